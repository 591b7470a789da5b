/-! class: the simple commands -/
theorem tsw_no {x : Int32} {lo hi : Int} (h : x.toInt < lo ∨ hi ≤ x.toInt) (y : Int32) (a : lo ≤ y.toInt) (b : y.toInt < hi) : ¬ x = y := fun e => by rw [e] at h; omega
def cntV (M : Mem) (x : Int32) : Int32 := if x = 0 then M 1 0 6 else if x = 1 then M 1 0 7 else if x = 2 then M 1 0 8 else if x = 3 then M 0 0 6 else if x = 4 then M 1 0 9 else if x = 5 then M 12 0 1 else -2
theorem ok_X6_count {w : Wd} {d : Nat} {M : Mem} (x : Int32) : lr_Ok tC sC w d jX6_count [vo 0 0, vi x] M (qI (cntV M x) M) := by
  refine lr_ok (by decide +kernel) rfl ?_
  refine ri_ild a_X6_count_0 rfl ?_
  refine ri_tsw a_X6_count_1 ⟨fun zc1 => ?_, fun zc1 => ?_, fun zc1 => ?_, fun zc1 => ?_, fun zc1 => ?_, fun zc1 => ?_, trivial⟩ (fun zc1 => ?_)
  · replace zc1 : x = 0 := zc1.trans (by decide)
    refine ri_ald a_X6_count_40 rfl ?_
    refine ri_getR (t' := 1) (i' := 0) a_X6_count_41 fl_X6_10 kC_0_0 rfl iC_0 (Or.inr ⟨rfl, rfl, rfl⟩) ?_
    refine ri_getI a_X6_count_44 fl_X6_87 kC_1_6 rfl (iC_1 (by decide)) ?_
    refine ri_ireturn a_X6_count_47 rfl rfl ?_
    exact rI (by
    first
    | (simp [cntV, zc1]; done)
    | (have h := tsw_no (hi := 6) zc1
       simp [cntV, h 0 (by decide) (by decide), h 1 (by decide) (by decide), h 2 (by decide) (by decide), h 3 (by decide) (by decide), h 4 (by decide) (by decide), h 5 (by decide) (by decide)])) rfl
  · replace zc1 : x = 1 := zc1.trans (by decide)
    refine ri_ald a_X6_count_48 rfl ?_
    refine ri_getR (t' := 1) (i' := 0) a_X6_count_49 fl_X6_10 kC_0_0 rfl iC_0 (Or.inr ⟨rfl, rfl, rfl⟩) ?_
    refine ri_getI a_X6_count_52 fl_X6_90 kC_1_7 rfl (iC_1 (by decide)) ?_
    refine ri_ireturn a_X6_count_55 rfl rfl ?_
    exact rI (by
    first
    | (simp [cntV, zc1]; done)
    | (have h := tsw_no (hi := 6) zc1
       simp [cntV, h 0 (by decide) (by decide), h 1 (by decide) (by decide), h 2 (by decide) (by decide), h 3 (by decide) (by decide), h 4 (by decide) (by decide), h 5 (by decide) (by decide)])) rfl
  · replace zc1 : x = 2 := zc1.trans (by decide)
    refine ri_ald a_X6_count_56 rfl ?_
    refine ri_getR (t' := 1) (i' := 0) a_X6_count_57 fl_X6_10 kC_0_0 rfl iC_0 (Or.inr ⟨rfl, rfl, rfl⟩) ?_
    refine ri_getI a_X6_count_60 fl_X6_93 kC_1_8 rfl (iC_1 (by decide)) ?_
    refine ri_ireturn a_X6_count_63 rfl rfl ?_
    exact rI (by
    first
    | (simp [cntV, zc1]; done)
    | (have h := tsw_no (hi := 6) zc1
       simp [cntV, h 0 (by decide) (by decide), h 1 (by decide) (by decide), h 2 (by decide) (by decide), h 3 (by decide) (by decide), h 4 (by decide) (by decide), h 5 (by decide) (by decide)])) rfl
  · replace zc1 : x = 3 := zc1.trans (by decide)
    refine ri_ald a_X6_count_64 rfl ?_
    refine ri_getI a_X6_count_65 fl_X6_32 kC_0_6 rfl iC_0 ?_
    refine ri_ireturn a_X6_count_68 rfl rfl ?_
    exact rI (by
    first
    | (simp [cntV, zc1]; done)
    | (have h := tsw_no (hi := 6) zc1
       simp [cntV, h 0 (by decide) (by decide), h 1 (by decide) (by decide), h 2 (by decide) (by decide), h 3 (by decide) (by decide), h 4 (by decide) (by decide), h 5 (by decide) (by decide)])) rfl
  · replace zc1 : x = 4 := zc1.trans (by decide)
    refine ri_ald a_X6_count_69 rfl ?_
    refine ri_getR (t' := 1) (i' := 0) a_X6_count_70 fl_X6_10 kC_0_0 rfl iC_0 (Or.inr ⟨rfl, rfl, rfl⟩) ?_
    refine ri_getI a_X6_count_73 fl_X6_96 kC_1_9 rfl (iC_1 (by decide)) ?_
    refine ri_ireturn a_X6_count_76 rfl rfl ?_
    exact rI (by
    first
    | (simp [cntV, zc1]; done)
    | (have h := tsw_no (hi := 6) zc1
       simp [cntV, h 0 (by decide) (by decide), h 1 (by decide) (by decide), h 2 (by decide) (by decide), h 3 (by decide) (by decide), h 4 (by decide) (by decide), h 5 (by decide) (by decide)])) rfl
  · replace zc1 : x = 5 := zc1.trans (by decide)
    refine ri_ald a_X6_count_77 rfl ?_
    refine ri_getR (t' := 12) (i' := 0) a_X6_count_78 fl_X6_63 kC_0_4 rfl iC_0 (Or.inr ⟨rfl, rfl, rfl⟩) ?_
    refine ri_getI a_X6_count_81 fl_X6_99 kC_12_1 rfl iC_12 ?_
    refine ri_ireturn a_X6_count_84 rfl rfl ?_
    exact rI (by
    first
    | (simp [cntV, zc1]; done)
    | (have h := tsw_no (hi := 6) zc1
       simp [cntV, h 0 (by decide) (by decide), h 1 (by decide) (by decide), h 2 (by decide) (by decide), h 3 (by decide) (by decide), h 4 (by decide) (by decide), h 5 (by decide) (by decide)])) rfl
  · refine ri_ic a_X6_count_85 ?_
    refine ri_ireturn a_X6_count_87 rfl rfl ?_
    exact rI (by
    first
    | (simp [cntV, zc1]; done)
    | (have h := tsw_no (hi := 6) zc1
       simp [cntV, h 0 (by decide) (by decide), h 1 (by decide) (by decide), h 2 (by decide) (by decide), h 3 (by decide) (by decide), h 4 (by decide) (by decide), h 5 (by decide) (by decide)])) rfl
theorem ok_X6_winters {w : Wd} {d : Nat} (hd : 1 ≤ d) {M : Mem} (n : Int32) : lr_Ok tC sC w d jX6_winters [vo 0 0, vi n] M (qX fun r M' => if 0 ≤ n ∧ n ≤ 999 then r = M 1 0 8 ∧ M' = up M 1 0 8 n else r = -2 ∧ M' = M) := by
  refine lr_ok (by decide +kernel) rfl ?_
  refine ri_ild a_X6_winters_0 rfl ?_
  refine ri_ic a_X6_winters_1 ?_
  refine ri_cSpb (as := [vi n, vi 999]) (rest := []) (d' := d - 1) a_X6_winters_4 ms_X6_within ml_X6_102 (by omega) (ok_X6_within n 999) (Nat.le_of_ble_eq_true rfl) rfl (fun zc1 => ?_) (fun zc1 => ?_)
  · refine ri_if_ne a_X6_winters_7 (fun _ => ?_) (fun q => absurd q (by decide))
    refine ri_ald a_X6_winters_13 rfl ?_
    refine ri_getR (t' := 1) (i' := 0) a_X6_winters_14 fl_X6_10 kC_0_0 rfl iC_0 (Or.inr ⟨rfl, rfl, rfl⟩) ?_
    refine ri_getI a_X6_winters_17 fl_X6_93 kC_1_8 rfl (iC_1 (by decide)) ?_
    refine ri_ist (f := fun zx2 => [some (vo 0 0), some (vi n), some (vi zx2)]) a_X6_winters_20 (fun _ => rfl) (fun zx2 ezx2 => ?_)
    refine ri_ald a_X6_winters_21 rfl ?_
    refine ri_getR (t' := 1) (i' := 0) a_X6_winters_22 fl_X6_10 kC_0_0 rfl iC_0 (Or.inr ⟨rfl, rfl, rfl⟩) ?_
    refine ri_ild a_X6_winters_25 rfl ?_
    refine ri_putI a_X6_winters_26 fp_X6_93 kC_1_8 rfl (iC_1 (by decide)) (fun zM3 ezM3 => ?_)
    refine ri_ild a_X6_winters_29 rfl ?_
    refine ri_ireturn a_X6_winters_30 rfl rfl ?_
    exact rX (by rw [if_pos zc1]; exact ⟨ezx2, ezM3⟩)
  · refine ri_if_ne a_X6_winters_7 (fun q => absurd q (by decide)) (fun _ => ?_)
    refine ri_ic a_X6_winters_10 ?_
    refine ri_ireturn a_X6_winters_12 rfl rfl ?_
    exact rX (by rw [if_neg zc1]; exact ⟨rfl, rfl⟩)
theorem ok_X6_force {w : Wd} {d : Nat} (hd : 1 ≤ d) {M : Mem} (t : Int32) : lr_Ok tC sC w d jX6_force [vo 0 0, vi t] M (qX fun r M' => if 0 ≤ t ∧ t ≤ M 0 0 6 - 1 then r = M 1 0 9 ∧ M' = up M 1 0 9 t else r = -2 ∧ M' = M) := by
  refine lr_ok (by decide +kernel) rfl ?_
  refine ri_ild a_X6_force_0 rfl ?_
  refine ri_ald a_X6_force_1 rfl ?_
  refine ri_getI a_X6_force_2 fl_X6_32 kC_0_6 rfl iC_0 ?_
  refine ri_ic a_X6_force_5 ?_
  refine ri_isub a_X6_force_6 ?_
  refine ri_cSpb (as := [vi t, vi ((M 0 0 6) - 1)]) (rest := []) (d' := d - 1) a_X6_force_7 ms_X6_within ml_X6_102 (by omega) (ok_X6_within t ((M 0 0 6) - 1)) (Nat.le_of_ble_eq_true rfl) rfl (fun zc1 => ?_) (fun zc1 => ?_)
  · refine ri_if_ne a_X6_force_10 (fun _ => ?_) (fun q => absurd q (by decide))
    refine ri_ald a_X6_force_16 rfl ?_
    refine ri_getR (t' := 1) (i' := 0) a_X6_force_17 fl_X6_10 kC_0_0 rfl iC_0 (Or.inr ⟨rfl, rfl, rfl⟩) ?_
    refine ri_getI a_X6_force_20 fl_X6_96 kC_1_9 rfl (iC_1 (by decide)) ?_
    refine ri_ist (f := fun zx2 => [some (vo 0 0), some (vi t), some (vi zx2)]) a_X6_force_23 (fun _ => rfl) (fun zx2 ezx2 => ?_)
    refine ri_ald a_X6_force_24 rfl ?_
    refine ri_getR (t' := 1) (i' := 0) a_X6_force_25 fl_X6_10 kC_0_0 rfl iC_0 (Or.inr ⟨rfl, rfl, rfl⟩) ?_
    refine ri_ild a_X6_force_28 rfl ?_
    refine ri_putI a_X6_force_29 fp_X6_96 kC_1_9 rfl (iC_1 (by decide)) (fun zM3 ezM3 => ?_)
    refine ri_ild a_X6_force_32 rfl ?_
    refine ri_ireturn a_X6_force_33 rfl rfl ?_
    exact rX (by rw [if_pos zc1]; exact ⟨ezx2, ezM3⟩)
  · refine ri_if_ne a_X6_force_10 (fun q => absurd q (by decide)) (fun _ => ?_)
    refine ri_ic a_X6_force_13 ?_
    refine ri_ireturn a_X6_force_15 rfl rfl ?_
    exact rX (by rw [if_neg zc1]; exact ⟨rfl, rfl⟩)
def tolV (M : Mem) (k : Nat) (p x : Int32) : Int32 := if 0 ≤ p ∧ p < M 1 0 6 then (if x = 0 then M 4 0 p.toNatClampNeg else if x = 1 then M 5 0 p.toNatClampNeg else if x = 2 then M 2 0 p.toNatClampNeg else if x = 3 then M 3 0 p.toNatClampNeg else if x = 4 then M 6 0 p.toNatClampNeg else if x = 5 then fnd (M 7 0) p k 0 else -7) else -5
/-- one among the people -/
theorem inP {p x : Int32} {n : Nat} (h : 0 ≤ p ∧ p < x) (hx : x = nI n) (hn : n ≤ 8) : ∃ q, p = nI q ∧ q < n := by
  obtain ⟨q, hq, rfl⟩ := nI_of (Int32.not_lt.mpr h.1)
  exact ⟨q, rfl, (nI_ltI hq (by omega)).1 (hx ▸ h.2)⟩
theorem inP8 {p x : Int32} {n : Nat} (h : 0 ≤ p ∧ p < x) (hx : x = nI n) (hn : n ≤ 8) : vp_in p 8 := by
  obtain ⟨q, rfl, hq⟩ := inP h hx hn
  exact vp_in_nI (by omega) (by decide)
theorem ok_X6_told {w : Wd} {d : Nat} (hd : 1 ≤ d) {M : Mem} {n k : Nat} (hn : M 1 0 6 = nI n) (hn8 : n ≤ 8) (hk : M 1 0 7 = nI k) (hk8 : k ≤ 8) (p x : Int32) : lr_Ok tC sC w d jX6_told [vo 0 0, vi p, vi x] M (qI (tolV M k p x) M) := by
  refine lr_ok (by decide +kernel) rfl ?_
  refine ri_ald a_X6_told_0 rfl ?_
  refine ri_getR (t' := 1) (i' := 0) a_X6_told_1 fl_X6_10 kC_0_0 rfl iC_0 (Or.inr ⟨rfl, rfl, rfl⟩) ?_
  refine ri_ild a_X6_told_4 rfl ?_
  refine ri_cVpb (as := [vi p]) (rest := []) (d' := d - 1) a_X6_told_5 mv_X0_has ml_X6_106 (rcC_1 (iC_1 (by decide))) (by omega) (ok_X0_has (by decide) p) (Nat.le_of_ble_eq_true rfl) rfl (fun zc1 => ?_) (fun zc1 => ?_)
  · refine ri_if_ne a_X6_told_8 (fun _ => ?_) (fun q => absurd q (by decide))
    refine ri_ild a_X6_told_14 rfl ?_
    refine ri_tsw a_X6_told_15 ⟨fun zc2 => ?_, fun zc2 => ?_, fun zc2 => ?_, fun zc2 => ?_, fun zc2 => ?_, fun zc2 => ?_, trivial⟩ (fun zc2 => ?_)
    · replace zc2 : x = 0 := zc2.trans (by decide)
      refine ri_ald a_X6_told_52 rfl ?_
      refine ri_getR (t' := 1) (i' := 0) a_X6_told_53 fl_X6_10 kC_0_0 rfl iC_0 (Or.inr ⟨rfl, rfl, rfl⟩) ?_
      refine ri_getR (t' := 4) (i' := 0) a_X6_told_56 fl_X6_118 kC_1_2 rfl (iC_1 (by decide)) (Or.inl ⟨rfl, rfl, rfl⟩) ?_
      refine ri_ild a_X6_told_59 rfl ?_
      refine ri_iaload a_X6_told_60 lC_4 rfl (iC_4 (by decide)) (inP8 zc1 hn hn8) ?_
      refine ri_ireturn a_X6_told_61 rfl rfl ?_
      exact rI (by
      first
      | (simp [tolV, zc1, zc2]; done)
      | (simp [tolV, zc1, zc2, *]; done)
      | (rw [tolV, if_neg zc1]; done)) rfl
    · replace zc2 : x = 1 := zc2.trans (by decide)
      refine ri_ald a_X6_told_62 rfl ?_
      refine ri_getR (t' := 1) (i' := 0) a_X6_told_63 fl_X6_10 kC_0_0 rfl iC_0 (Or.inr ⟨rfl, rfl, rfl⟩) ?_
      refine ri_getR (t' := 5) (i' := 0) a_X6_told_66 fl_X6_121 kC_1_3 rfl (iC_1 (by decide)) (Or.inl ⟨rfl, rfl, rfl⟩) ?_
      refine ri_ild a_X6_told_69 rfl ?_
      refine ri_iaload a_X6_told_70 lC_5 rfl (iC_5 (by decide)) (inP8 zc1 hn hn8) ?_
      refine ri_ireturn a_X6_told_71 rfl rfl ?_
      exact rI (by
      first
      | (rw [tolV, if_neg zc1]; done)
      | (simp only [tolV, zc2, if_pos zc1]; first | rfl | assumption)
      | (have h := tsw_no (hi := 6) zc2
         rw [tolV, if_pos zc1, if_neg (h 0 (by decide) (by decide)), if_neg (h 1 (by decide) (by decide)), if_neg (h 2 (by decide) (by decide)), if_neg (h 3 (by decide) (by decide)), if_neg (h 4 (by decide) (by decide)), if_neg (h 5 (by decide) (by decide))])) rfl
    · replace zc2 : x = 2 := zc2.trans (by decide)
      refine ri_ald a_X6_told_72 rfl ?_
      refine ri_getR (t' := 1) (i' := 0) a_X6_told_73 fl_X6_10 kC_0_0 rfl iC_0 (Or.inr ⟨rfl, rfl, rfl⟩) ?_
      refine ri_getR (t' := 2) (i' := 0) a_X6_told_76 fl_X6_131 kC_1_0 rfl (iC_1 (by decide)) (Or.inl ⟨rfl, rfl, rfl⟩) ?_
      refine ri_ild a_X6_told_79 rfl ?_
      refine ri_iaload a_X6_told_80 lC_2 rfl (iC_2 (by decide)) (inP8 zc1 hn hn8) ?_
      refine ri_ireturn a_X6_told_81 rfl rfl ?_
      exact rI (by
      first
      | (rw [tolV, if_neg zc1]; done)
      | (simp only [tolV, zc2, if_pos zc1]; first | rfl | assumption)
      | (have h := tsw_no (hi := 6) zc2
         rw [tolV, if_pos zc1, if_neg (h 0 (by decide) (by decide)), if_neg (h 1 (by decide) (by decide)), if_neg (h 2 (by decide) (by decide)), if_neg (h 3 (by decide) (by decide)), if_neg (h 4 (by decide) (by decide)), if_neg (h 5 (by decide) (by decide))])) rfl
    · replace zc2 : x = 3 := zc2.trans (by decide)
      refine ri_ald a_X6_told_82 rfl ?_
      refine ri_getR (t' := 1) (i' := 0) a_X6_told_83 fl_X6_10 kC_0_0 rfl iC_0 (Or.inr ⟨rfl, rfl, rfl⟩) ?_
      refine ri_getR (t' := 3) (i' := 0) a_X6_told_86 fl_X6_134 kC_1_1 rfl (iC_1 (by decide)) (Or.inl ⟨rfl, rfl, rfl⟩) ?_
      refine ri_ild a_X6_told_89 rfl ?_
      refine ri_iaload a_X6_told_90 lC_3 rfl (iC_3 (by decide)) (inP8 zc1 hn hn8) ?_
      refine ri_ireturn a_X6_told_91 rfl rfl ?_
      exact rI (by
      first
      | (rw [tolV, if_neg zc1]; done)
      | (simp only [tolV, zc2, if_pos zc1]; first | rfl | assumption)
      | (have h := tsw_no (hi := 6) zc2
         rw [tolV, if_pos zc1, if_neg (h 0 (by decide) (by decide)), if_neg (h 1 (by decide) (by decide)), if_neg (h 2 (by decide) (by decide)), if_neg (h 3 (by decide) (by decide)), if_neg (h 4 (by decide) (by decide)), if_neg (h 5 (by decide) (by decide))])) rfl
    · replace zc2 : x = 4 := zc2.trans (by decide)
      refine ri_ald a_X6_told_92 rfl ?_
      refine ri_getR (t' := 1) (i' := 0) a_X6_told_93 fl_X6_10 kC_0_0 rfl iC_0 (Or.inr ⟨rfl, rfl, rfl⟩) ?_
      refine ri_getR (t' := 6) (i' := 0) a_X6_told_96 fl_X6_137 kC_1_4 rfl (iC_1 (by decide)) (Or.inl ⟨rfl, rfl, rfl⟩) ?_
      refine ri_ild a_X6_told_99 rfl ?_
      refine ri_iaload a_X6_told_100 lC_6 rfl (iC_6 (by decide)) (inP8 zc1 hn hn8) ?_
      refine ri_ireturn a_X6_told_101 rfl rfl ?_
      exact rI (by
      first
      | (rw [tolV, if_neg zc1]; done)
      | (simp only [tolV, zc2, if_pos zc1]; first | rfl | assumption)
      | (have h := tsw_no (hi := 6) zc2
         rw [tolV, if_pos zc1, if_neg (h 0 (by decide) (by decide)), if_neg (h 1 (by decide) (by decide)), if_neg (h 2 (by decide) (by decide)), if_neg (h 3 (by decide) (by decide)), if_neg (h 4 (by decide) (by decide)), if_neg (h 5 (by decide) (by decide))])) rfl
    · replace zc2 : x = 5 := zc2.trans (by decide)
      refine ri_ald a_X6_told_102 rfl ?_
      refine ri_getR (t' := 1) (i' := 0) a_X6_told_103 fl_X6_10 kC_0_0 rfl iC_0 (Or.inr ⟨rfl, rfl, rfl⟩) ?_
      refine ri_ild a_X6_told_106 rfl ?_
      refine ri_cVpi (as := [vi p]) (rest := []) (d' := d - 1) a_X6_told_107 mv_X0_rungOf ml_X6_140 (rcC_1 (iC_1 (by decide))) (by omega) (ok_X0_rungOf (by decide) p hk hk8) (Nat.le_of_ble_eq_true rfl) rfl (fun zy3 ezy3 => ?_)
      refine ri_ireturn a_X6_told_110 rfl rfl ?_
      exact rI (by
      first
      | (rw [tolV, if_neg zc1]; done)
      | (simp only [tolV, zc2, if_pos zc1]; first | rfl | assumption)
      | (have h := tsw_no (hi := 6) zc2
         rw [tolV, if_pos zc1, if_neg (h 0 (by decide) (by decide)), if_neg (h 1 (by decide) (by decide)), if_neg (h 2 (by decide) (by decide)), if_neg (h 3 (by decide) (by decide)), if_neg (h 4 (by decide) (by decide)), if_neg (h 5 (by decide) (by decide))])) rfl
    · refine ri_ic a_X6_told_111 ?_
      refine ri_ireturn a_X6_told_113 rfl rfl ?_
      exact rI (by
      first
      | (rw [tolV, if_neg zc1]; done)
      | (simp only [tolV, zc2, if_pos zc1]; first | rfl | assumption)
      | (have h := tsw_no (hi := 6) zc2
         rw [tolV, if_pos zc1, if_neg (h 0 (by decide) (by decide)), if_neg (h 1 (by decide) (by decide)), if_neg (h 2 (by decide) (by decide)), if_neg (h 3 (by decide) (by decide)), if_neg (h 4 (by decide) (by decide)), if_neg (h 5 (by decide) (by decide))])) rfl
  · refine ri_if_ne a_X6_told_8 (fun q => absurd q (by decide)) (fun _ => ?_)
    refine ri_ic a_X6_told_11 ?_
    refine ri_ireturn a_X6_told_13 rfl rfl ?_
    exact rI (by
    first
    | (rw [tolV, if_neg zc1]; done)
    | (simp only [tolV, zc2, if_pos zc1]; first | rfl | assumption)
    | (have h := tsw_no (hi := 6) zc2
       rw [tolV, if_pos zc1, if_neg (h 0 (by decide) (by decide)), if_neg (h 1 (by decide) (by decide)), if_neg (h 2 (by decide) (by decide)), if_neg (h 3 (by decide) (by decide)), if_neg (h 4 (by decide) (by decide)), if_neg (h 5 (by decide) (by decide))])) rfl
theorem ok_X6_put {w : Wd} {d : Nat} (hd : 1 ≤ d) {M : Mem} {n : Nat} (hn : M 1 0 6 = nI n) (hn8 : n ≤ 8) (p x v : Int32) : lr_Ok tC sC w d jX6_put [vo 0 0, vi p, vi x, vi v] M (qX fun r M' => if 0 ≤ p ∧ p < M 1 0 6 then (if (0 ≤ x ∧ x ≤ 1) ∧ 0 ≤ v ∧ v ≤ (if x = 0 then 99 else 999) then (if x = 0 then r = M 4 0 p.toNatClampNeg ∧ M' = up M 4 0 p.toNatClampNeg v else r = M 5 0 p.toNatClampNeg ∧ M' = up M 5 0 p.toNatClampNeg v) else r = -7 ∧ M' = M) else r = -5 ∧ M' = M) := by
  refine lr_ok (by decide +kernel) rfl ?_
  refine ri_ald a_X6_put_0 rfl ?_
  refine ri_getR (t' := 1) (i' := 0) a_X6_put_1 fl_X6_10 kC_0_0 rfl iC_0 (Or.inr ⟨rfl, rfl, rfl⟩) ?_
  refine ri_ild a_X6_put_4 rfl ?_
  refine ri_cVpb (as := [vi p]) (rest := []) (d' := d - 1) a_X6_put_5 mv_X0_has ml_X6_106 (rcC_1 (iC_1 (by decide))) (by omega) (ok_X0_has (by decide) p) (Nat.le_of_ble_eq_true rfl) rfl (fun zc1 => ?_) (fun zc1 => ?_)
  · refine ri_if_ne a_X6_put_8 (fun _ => ?_) (fun q => absurd q (by decide))
    refine ri_ild a_X6_put_14 rfl ?_
    refine ri_ic a_X6_put_15 ?_
    refine ri_cSpb (as := [vi x, vi 1]) (rest := []) (d' := d - 1) a_X6_put_16 ms_X6_within ml_X6_102 (by omega) (ok_X6_within x 1) (Nat.le_of_ble_eq_true rfl) rfl (fun zc2 => ?_) (fun zc2 => ?_)
    · refine ri_if_eq a_X6_put_19 (fun q => absurd q (by decide)) (fun _ => ?_)
      refine ri_ild a_X6_put_22 rfl ?_
      refine ri_ild a_X6_put_23 rfl ?_
      refine ri_if_ne a_X6_put_24 (fun zc3 => ?_) (fun zc3 => ?_)
      · refine ri_ic a_X6_put_32 ?_
        refine ri_cSpb (as := [vi v, vi 999]) (rest := []) (d' := d - 1) a_X6_put_35 ms_X6_within ml_X6_102 (by omega) (ok_X6_within v 999) (Nat.le_of_ble_eq_true rfl) rfl (fun zc4 => ?_) (fun zc4 => ?_)
        · refine ri_if_ne a_X6_put_38 (fun _ => ?_) (fun q => absurd q (by decide))
          refine ri_ild a_X6_put_44 rfl ?_
          refine ri_if_ne a_X6_put_45 (fun zc5 => ?_) (fun zc5 => ?_)
          · refine ri_ald a_X6_put_58 rfl ?_
            refine ri_getR (t' := 1) (i' := 0) a_X6_put_59 fl_X6_10 kC_0_0 rfl iC_0 (Or.inr ⟨rfl, rfl, rfl⟩) ?_
            refine ri_getR (t' := 5) (i' := 0) a_X6_put_62 fl_X6_121 kC_1_3 rfl (iC_1 (by decide)) (Or.inl ⟨rfl, rfl, rfl⟩) ?_
            refine ri_ast (ls' := [some (vo 0 0), some (vi p), some (vi x), some (vi v), some (vo 5 0), none]) a_X6_put_65 rfl ?_
            refine ri_ald a_X6_put_67 rfl ?_
            refine ri_ild a_X6_put_69 rfl ?_
            refine ri_iaload a_X6_put_70 lC_5 rfl (iC_5 (by decide)) (inP8 zc1 hn hn8) ?_
            refine ri_ist (f := fun zx6 => [some (vo 0 0), some (vi p), some (vi x), some (vi v), some (vo 5 0), some (vi zx6)]) a_X6_put_71 (fun _ => rfl) (fun zx6 ezx6 => ?_)
            refine ri_ald a_X6_put_73 rfl ?_
            refine ri_ild a_X6_put_75 rfl ?_
            refine ri_ild a_X6_put_76 rfl ?_
            refine ri_iastore a_X6_put_77 lC_5 rfl (iC_5 (by decide)) (inP8 zc1 hn hn8) (fun zM7 ezM7 => ?_)
            refine ri_ild a_X6_put_78 rfl ?_
            refine ri_ireturn a_X6_put_80 rfl rfl ?_
            exact rX (by rw [if_pos zc1, if_neg zc3, if_pos ⟨zc2, zc4⟩, if_neg zc3]; exact ⟨ezx6, ezM7⟩)
          · refine ri_ald a_X6_put_48 rfl ?_
            refine ri_getR (t' := 1) (i' := 0) a_X6_put_49 fl_X6_10 kC_0_0 rfl iC_0 (Or.inr ⟨rfl, rfl, rfl⟩) ?_
            refine ri_getR (t' := 4) (i' := 0) a_X6_put_52 fl_X6_118 kC_1_2 rfl (iC_1 (by decide)) (Or.inl ⟨rfl, rfl, rfl⟩) ?_
            refine ri_goto a_X6_put_55 ?_
            refine ri_ast (ls' := [some (vo 0 0), some (vi p), some (vi x), some (vi v), some (vo 4 0), none]) a_X6_put_65 rfl ?_
            refine ri_ald a_X6_put_67 rfl ?_
            refine ri_ild a_X6_put_69 rfl ?_
            refine ri_iaload a_X6_put_70 lC_4 rfl (iC_4 (by decide)) (inP8 zc1 hn hn8) ?_
            refine ri_ist (f := fun zx8 => [some (vo 0 0), some (vi p), some (vi x), some (vi v), some (vo 4 0), some (vi zx8)]) a_X6_put_71 (fun _ => rfl) (fun zx8 ezx8 => ?_)
            refine ri_ald a_X6_put_73 rfl ?_
            refine ri_ild a_X6_put_75 rfl ?_
            refine ri_ild a_X6_put_76 rfl ?_
            refine ri_iastore a_X6_put_77 lC_4 rfl (iC_4 (by decide)) (inP8 zc1 hn hn8) (fun zM9 ezM9 => ?_)
            refine ri_ild a_X6_put_78 rfl ?_
            refine ri_ireturn a_X6_put_80 rfl rfl ?_
            exact absurd zc5 zc3
        · refine ri_if_ne a_X6_put_38 (fun q => absurd q (by decide)) (fun _ => ?_)
          refine ri_ic a_X6_put_41 ?_
          refine ri_ireturn a_X6_put_43 rfl rfl ?_
          exact rX (by rw [if_pos zc1, if_neg zc3, if_neg (fun q => zc4 q.2)]; exact ⟨rfl, rfl⟩)
      · refine ri_ic a_X6_put_27 ?_
        refine ri_goto a_X6_put_29 ?_
        refine ri_cSpb (as := [vi v, vi 99]) (rest := []) (d' := d - 1) a_X6_put_35 ms_X6_within ml_X6_102 (by omega) (ok_X6_within v 99) (Nat.le_of_ble_eq_true rfl) rfl (fun zc10 => ?_) (fun zc10 => ?_)
        · refine ri_if_ne a_X6_put_38 (fun _ => ?_) (fun q => absurd q (by decide))
          refine ri_ild a_X6_put_44 rfl ?_
          refine ri_if_ne a_X6_put_45 (fun zc11 => ?_) (fun zc11 => ?_)
          · refine ri_ald a_X6_put_58 rfl ?_
            refine ri_getR (t' := 1) (i' := 0) a_X6_put_59 fl_X6_10 kC_0_0 rfl iC_0 (Or.inr ⟨rfl, rfl, rfl⟩) ?_
            refine ri_getR (t' := 5) (i' := 0) a_X6_put_62 fl_X6_121 kC_1_3 rfl (iC_1 (by decide)) (Or.inl ⟨rfl, rfl, rfl⟩) ?_
            refine ri_ast (ls' := [some (vo 0 0), some (vi p), some (vi x), some (vi v), some (vo 5 0), none]) a_X6_put_65 rfl ?_
            refine ri_ald a_X6_put_67 rfl ?_
            refine ri_ild a_X6_put_69 rfl ?_
            refine ri_iaload a_X6_put_70 lC_5 rfl (iC_5 (by decide)) (inP8 zc1 hn hn8) ?_
            refine ri_ist (f := fun zx12 => [some (vo 0 0), some (vi p), some (vi x), some (vi v), some (vo 5 0), some (vi zx12)]) a_X6_put_71 (fun _ => rfl) (fun zx12 ezx12 => ?_)
            refine ri_ald a_X6_put_73 rfl ?_
            refine ri_ild a_X6_put_75 rfl ?_
            refine ri_ild a_X6_put_76 rfl ?_
            refine ri_iastore a_X6_put_77 lC_5 rfl (iC_5 (by decide)) (inP8 zc1 hn hn8) (fun zM13 ezM13 => ?_)
            refine ri_ild a_X6_put_78 rfl ?_
            refine ri_ireturn a_X6_put_80 rfl rfl ?_
            exact absurd zc3 zc11
          · refine ri_ald a_X6_put_48 rfl ?_
            refine ri_getR (t' := 1) (i' := 0) a_X6_put_49 fl_X6_10 kC_0_0 rfl iC_0 (Or.inr ⟨rfl, rfl, rfl⟩) ?_
            refine ri_getR (t' := 4) (i' := 0) a_X6_put_52 fl_X6_118 kC_1_2 rfl (iC_1 (by decide)) (Or.inl ⟨rfl, rfl, rfl⟩) ?_
            refine ri_goto a_X6_put_55 ?_
            refine ri_ast (ls' := [some (vo 0 0), some (vi p), some (vi x), some (vi v), some (vo 4 0), none]) a_X6_put_65 rfl ?_
            refine ri_ald a_X6_put_67 rfl ?_
            refine ri_ild a_X6_put_69 rfl ?_
            refine ri_iaload a_X6_put_70 lC_4 rfl (iC_4 (by decide)) (inP8 zc1 hn hn8) ?_
            refine ri_ist (f := fun zx14 => [some (vo 0 0), some (vi p), some (vi x), some (vi v), some (vo 4 0), some (vi zx14)]) a_X6_put_71 (fun _ => rfl) (fun zx14 ezx14 => ?_)
            refine ri_ald a_X6_put_73 rfl ?_
            refine ri_ild a_X6_put_75 rfl ?_
            refine ri_ild a_X6_put_76 rfl ?_
            refine ri_iastore a_X6_put_77 lC_4 rfl (iC_4 (by decide)) (inP8 zc1 hn hn8) (fun zM15 ezM15 => ?_)
            refine ri_ild a_X6_put_78 rfl ?_
            refine ri_ireturn a_X6_put_80 rfl rfl ?_
            exact rX (by rw [if_pos zc1, if_pos zc3, if_pos ⟨zc2, zc10⟩, if_pos zc3]; exact ⟨ezx14, ezM15⟩)
        · refine ri_if_ne a_X6_put_38 (fun q => absurd q (by decide)) (fun _ => ?_)
          refine ri_ic a_X6_put_41 ?_
          refine ri_ireturn a_X6_put_43 rfl rfl ?_
          exact rX (by rw [if_pos zc1, if_pos zc3, if_neg (fun q => zc10 q.2)]; exact ⟨rfl, rfl⟩)
    · refine ri_if_eq a_X6_put_19 (fun _ => ?_) (fun q => absurd q (by decide))
      refine ri_ic a_X6_put_41 ?_
      refine ri_ireturn a_X6_put_43 rfl rfl ?_
      exact rX (by rw [if_pos zc1, if_neg (fun q => zc2 q.1)]; exact ⟨rfl, rfl⟩)
  · refine ri_if_ne a_X6_put_8 (fun q => absurd q (by decide)) (fun _ => ?_)
    refine ri_ic a_X6_put_11 ?_
    refine ri_ireturn a_X6_put_13 rfl rfl ?_
    exact rX (by rw [if_neg zc1]; exact ⟨rfl, rfl⟩)
def fqM (M : Mem) (a b is : Int32) : Mem := up M 6 0 a.toNatClampNeg ((M 6 0 a.toNatClampNeg &&& ((1 <<< (b &&& 31)) ^^^ (-1))) ||| (is <<< (b &&& 31)))
theorem ok_X6_feud {w : Wd} {d : Nat} (hd : 1 ≤ d) {M : Mem} {n : Nat} (hn : M 1 0 6 = nI n) (hn8 : n ≤ 8) (a b is : Int32) : lr_Ok tC sC w d jX6_feud [vo 0 0, vi a, vi b, vi is] M (qX fun r M' => if (0 ≤ a ∧ a < M 1 0 6) ∧ (0 ≤ b ∧ b < M 1 0 6) ∧ ¬ a = b then (if 0 ≤ is ∧ is ≤ 1 then r = (if ¬ (M 6 0 a.toNatClampNeg >>> (b &&& 31)) &&& 1 = 0 then 1 else 0) ∧ M' = fqM (fqM M a b is) b a is else r = -7 ∧ M' = M) else r = -5 ∧ M' = M) := by
  refine lr_ok (by decide +kernel) rfl ?_
  refine ri_ald a_X6_feud_0 rfl ?_
  refine ri_getR (t' := 1) (i' := 0) a_X6_feud_1 fl_X6_10 kC_0_0 rfl iC_0 (Or.inr ⟨rfl, rfl, rfl⟩) ?_
  refine ri_ild a_X6_feud_4 rfl ?_
  refine ri_cVpb (as := [vi a]) (rest := []) (d' := d - 1) a_X6_feud_5 mv_X0_has ml_X6_106 (rcC_1 (iC_1 (by decide))) (by omega) (ok_X0_has (by decide) a) (Nat.le_of_ble_eq_true rfl) rfl (fun zc1 => ?_) (fun zc1 => ?_)
  · refine ri_if_eq a_X6_feud_8 (fun q => absurd q (by decide)) (fun _ => ?_)
    refine ri_ald a_X6_feud_11 rfl ?_
    refine ri_getR (t' := 1) (i' := 0) a_X6_feud_12 fl_X6_10 kC_0_0 rfl iC_0 (Or.inr ⟨rfl, rfl, rfl⟩) ?_
    refine ri_ild a_X6_feud_15 rfl ?_
    refine ri_cVpb (as := [vi b]) (rest := []) (d' := d - 1) a_X6_feud_16 mv_X0_has ml_X6_106 (rcC_1 (iC_1 (by decide))) (by omega) (ok_X0_has (by decide) b) (Nat.le_of_ble_eq_true rfl) rfl (fun zc2 => ?_) (fun zc2 => ?_)
    · refine ri_if_eq a_X6_feud_19 (fun q => absurd q (by decide)) (fun _ => ?_)
      refine ri_ild a_X6_feud_22 rfl ?_
      refine ri_ild a_X6_feud_23 rfl ?_
      refine ri_icmp_ne a_X6_feud_24 (fun zc3 => ?_) (fun zc3 => ?_)
      · refine ri_ild a_X6_feud_30 rfl ?_
        refine ri_ic a_X6_feud_31 ?_
        refine ri_cSpb (as := [vi is, vi 1]) (rest := []) (d' := d - 1) a_X6_feud_32 ms_X6_within ml_X6_102 (by omega) (ok_X6_within is 1) (Nat.le_of_ble_eq_true rfl) rfl (fun zc4 => ?_) (fun zc4 => ?_)
        · refine ri_if_ne a_X6_feud_35 (fun _ => ?_) (fun q => absurd q (by decide))
          refine ri_ald a_X6_feud_41 rfl ?_
          refine ri_getR (t' := 1) (i' := 0) a_X6_feud_42 fl_X6_10 kC_0_0 rfl iC_0 (Or.inr ⟨rfl, rfl, rfl⟩) ?_
          refine ri_ild a_X6_feud_45 rfl ?_
          refine ri_ild a_X6_feud_46 rfl ?_
          refine ri_cVpb (as := [vi a, vi b]) (rest := []) (d' := d - 1) a_X6_feud_47 mv_X0_quarrel ml_X6_124 (rcC_1 (iC_1 (by decide))) (by omega) (ok_X0_quarrel (by decide) a b (inP8 zc1 hn hn8)) (Nat.le_of_ble_eq_true rfl) rfl (fun zc5 => ?_) (fun zc5 => ?_)
          · refine ri_if_eq a_X6_feud_50 (fun q => absurd q (by decide)) (fun _ => ?_)
            refine ri_ic a_X6_feud_53 ?_
            refine ri_goto a_X6_feud_54 ?_
            refine ri_istk (ls' := [some (vo 0 0), some (vi a), some (vi b), some (vi is), some (vi 1)]) a_X6_feud_58 rfl ?_
            refine ri_ald a_X6_feud_60 rfl ?_
            refine ri_getR (t' := 1) (i' := 0) a_X6_feud_61 fl_X6_10 kC_0_0 rfl iC_0 (Or.inr ⟨rfl, rfl, rfl⟩) ?_
            refine ri_ild a_X6_feud_64 rfl ?_
            refine ri_ild a_X6_feud_65 rfl ?_
            refine ri_ild a_X6_feud_66 rfl ?_
            refine ri_cVxv (as := [vi a, vi b, vi is]) (rest := []) (d' := d - 1) a_X6_feud_67 mv_X0_setQuarrel ml_X6_127 (rcC_1 (iC_1 (by decide))) (by omega) (ok_X0_setQuarrel (by decide) a b is (inP8 zc1 hn hn8)) (Nat.le_of_ble_eq_true rfl) rfl (fun zM6 hzM6 => ?_)
            refine ri_ald a_X6_feud_70 rfl ?_
            refine ri_getR (t' := 1) (i' := 0) a_X6_feud_71 fl_X6_10 kC_0_0 rfl iC_0 (Or.inr ⟨rfl, rfl, rfl⟩) ?_
            refine ri_ild a_X6_feud_74 rfl ?_
            refine ri_ild a_X6_feud_75 rfl ?_
            refine ri_ild a_X6_feud_76 rfl ?_
            refine ri_cVxv (as := [vi b, vi a, vi is]) (rest := []) (d' := d - 1) a_X6_feud_77 mv_X0_setQuarrel ml_X6_127 (rcC_1 (iC_1 (by decide))) (by omega) (ok_X0_setQuarrel (by decide) b a is (inP8 zc2 hn hn8)) (Nat.le_of_ble_eq_true rfl) rfl (fun zM7 hzM7 => ?_)
            refine ri_ild a_X6_feud_80 rfl ?_
            refine ri_ireturn a_X6_feud_82 rfl rfl ?_
            exact rX (by rw [if_pos ⟨zc1, zc2, zc3⟩, if_pos zc4, if_pos zc5]; exact ⟨rfl, by rw [hzM7, hzM6]; rfl⟩)
          · refine ri_if_eq a_X6_feud_50 (fun _ => ?_) (fun q => absurd q (by decide))
            refine ri_ic a_X6_feud_57 ?_
            refine ri_istk (ls' := [some (vo 0 0), some (vi a), some (vi b), some (vi is), some (vi 0)]) a_X6_feud_58 rfl ?_
            refine ri_ald a_X6_feud_60 rfl ?_
            refine ri_getR (t' := 1) (i' := 0) a_X6_feud_61 fl_X6_10 kC_0_0 rfl iC_0 (Or.inr ⟨rfl, rfl, rfl⟩) ?_
            refine ri_ild a_X6_feud_64 rfl ?_
            refine ri_ild a_X6_feud_65 rfl ?_
            refine ri_ild a_X6_feud_66 rfl ?_
            refine ri_cVxv (as := [vi a, vi b, vi is]) (rest := []) (d' := d - 1) a_X6_feud_67 mv_X0_setQuarrel ml_X6_127 (rcC_1 (iC_1 (by decide))) (by omega) (ok_X0_setQuarrel (by decide) a b is (inP8 zc1 hn hn8)) (Nat.le_of_ble_eq_true rfl) rfl (fun zM8 hzM8 => ?_)
            refine ri_ald a_X6_feud_70 rfl ?_
            refine ri_getR (t' := 1) (i' := 0) a_X6_feud_71 fl_X6_10 kC_0_0 rfl iC_0 (Or.inr ⟨rfl, rfl, rfl⟩) ?_
            refine ri_ild a_X6_feud_74 rfl ?_
            refine ri_ild a_X6_feud_75 rfl ?_
            refine ri_ild a_X6_feud_76 rfl ?_
            refine ri_cVxv (as := [vi b, vi a, vi is]) (rest := []) (d' := d - 1) a_X6_feud_77 mv_X0_setQuarrel ml_X6_127 (rcC_1 (iC_1 (by decide))) (by omega) (ok_X0_setQuarrel (by decide) b a is (inP8 zc2 hn hn8)) (Nat.le_of_ble_eq_true rfl) rfl (fun zM9 hzM9 => ?_)
            refine ri_ild a_X6_feud_80 rfl ?_
            refine ri_ireturn a_X6_feud_82 rfl rfl ?_
            exact rX (by rw [if_pos ⟨zc1, zc2, zc3⟩, if_pos zc4, if_neg zc5]; exact ⟨rfl, by rw [hzM9, hzM8]; rfl⟩)
        · refine ri_if_ne a_X6_feud_35 (fun q => absurd q (by decide)) (fun _ => ?_)
          refine ri_ic a_X6_feud_38 ?_
          refine ri_ireturn a_X6_feud_40 rfl rfl ?_
          exact rX (by rw [if_pos ⟨zc1, zc2, zc3⟩, if_neg zc4]; exact ⟨rfl, rfl⟩)
      · refine ri_ic a_X6_feud_27 ?_
        refine ri_ireturn a_X6_feud_29 rfl rfl ?_
        exact rX (by rw [if_neg (fun q => q.2.2 zc3)]; exact ⟨rfl, rfl⟩)
    · refine ri_if_eq a_X6_feud_19 (fun _ => ?_) (fun q => absurd q (by decide))
      refine ri_ic a_X6_feud_27 ?_
      refine ri_ireturn a_X6_feud_29 rfl rfl ?_
      exact rX (by rw [if_neg (fun q => zc2 q.2.1)]; exact ⟨rfl, rfl⟩)
  · refine ri_if_eq a_X6_feud_8 (fun _ => ?_) (fun q => absurd q (by decide))
    refine ri_ic a_X6_feud_27 ?_
    refine ri_ireturn a_X6_feud_29 rfl rfl ?_
    exact rX (by rw [if_neg (fun q => zc1 q.1)]; exact ⟨rfl, rfl⟩)
theorem ok_X6_door {w : Wd} {d : Nat} (hd : 1 ≤ d) {M : Mem} {n k : Nat} (hn : M 1 0 6 = nI n) (hn8 : n ≤ 8) (hk : M 1 0 7 = nI k) (hk8 : k ≤ 8) (p : Int32) : lr_Ok tC sC w d jX6_door [vo 0 0, vi p] M (qX fun r M' => if 0 ≤ p ∧ p < M 1 0 6 then (if fnd (M 7 0) p k 0 = -1 then M' = (if k < 8 then up (up M 7 0 k p) 1 0 7 (nI (k + 1)) else M) ∧ r = M' 1 0 7 else r = -3 ∧ M' = M) else r = -5 ∧ M' = M) := by
  refine lr_ok (by decide +kernel) rfl ?_
  refine ri_ald a_X6_door_0 rfl ?_
  refine ri_getR (t' := 1) (i' := 0) a_X6_door_1 fl_X6_10 kC_0_0 rfl iC_0 (Or.inr ⟨rfl, rfl, rfl⟩) ?_
  refine ri_ild a_X6_door_4 rfl ?_
  refine ri_cVpb (as := [vi p]) (rest := []) (d' := d - 1) a_X6_door_5 mv_X0_has ml_X6_106 (rcC_1 (iC_1 (by decide))) (by omega) (ok_X0_has (by decide) p) (Nat.le_of_ble_eq_true rfl) rfl (fun zc1 => ?_) (fun zc1 => ?_)
  · refine ri_if_ne a_X6_door_8 (fun _ => ?_) (fun q => absurd q (by decide))
    refine ri_ald a_X6_door_14 rfl ?_
    refine ri_getR (t' := 1) (i' := 0) a_X6_door_15 fl_X6_10 kC_0_0 rfl iC_0 (Or.inr ⟨rfl, rfl, rfl⟩) ?_
    refine ri_ild a_X6_door_18 rfl ?_
    refine ri_cVpi (as := [vi p]) (rest := []) (d' := d - 1) a_X6_door_19 mv_X0_rungOf ml_X6_140 (rcC_1 (iC_1 (by decide))) (by omega) (ok_X0_rungOf (by decide) p hk hk8) (Nat.le_of_ble_eq_true rfl) rfl (fun zy2 ezy2 => ?_)
    refine ri_ic a_X6_door_22 ?_
    refine ri_icmp_eq a_X6_door_23 (fun zc3 => ?_) (fun zc3 => ?_)
    · refine ri_ald a_X6_door_29 rfl ?_
      refine ri_getR (t' := 1) (i' := 0) a_X6_door_30 fl_X6_10 kC_0_0 rfl iC_0 (Or.inr ⟨rfl, rfl, rfl⟩) ?_
      refine ri_ild a_X6_door_33 rfl ?_
      refine ri_cVxv (as := [vi p]) (rest := []) (d' := d - 1) a_X6_door_34 mv_X0_save ml_X6_165 (rcC_1 (iC_1 (by decide))) (by omega) (ok_X0_save (by decide) p hk hk8) (Nat.le_of_ble_eq_true rfl) rfl (fun zM4 hzM4 => ?_)
      refine ri_ald a_X6_door_37 rfl ?_
      refine ri_getR (t' := 1) (i' := 0) a_X6_door_38 fl_X6_10 kC_0_0 rfl iC_0 (Or.inr ⟨rfl, rfl, rfl⟩) ?_
      refine ri_getI a_X6_door_41 fl_X6_90 kC_1_7 rfl (iC_1 (by decide)) ?_
      refine ri_ireturn a_X6_door_44 rfl rfl ?_
      exact rX (by rw [if_pos zc1, if_pos (ezy2 ▸ zc3)]; exact ⟨hzM4, rfl⟩)
    · refine ri_ic a_X6_door_26 ?_
      refine ri_ireturn a_X6_door_28 rfl rfl ?_
      exact rX (by rw [if_pos zc1, if_neg (ezy2 ▸ zc3)]; exact ⟨rfl, rfl⟩)
  · refine ri_if_ne a_X6_door_8 (fun q => absurd q (by decide)) (fun _ => ?_)
    refine ri_ic a_X6_door_11 ?_
    refine ri_ireturn a_X6_door_13 rfl rfl ?_
    exact rX (by rw [if_neg zc1]; exact ⟨rfl, rfl⟩)
theorem ok_X6_fire {w : Wd} {d : Nat} (hd : 7 ≤ d) {M : Mem} {n k : Nat} {L : List (List Op)} {O : Nat → Nat} (hL : lawC M 0 L) (hn : M 1 0 6 = nI n) (hn8 : n ≤ 8) (hk : M 1 0 7 = nI k) (hk8 : k ≤ 8) (hO : rowA (M 7 0) O k) (p win : Int32) (hk7 : 0 ≤ p ∧ p < M 1 0 6 → fnd (M 7 0) p k 0 = -1 → k < 8) : lr_Ok tC sC w d jX6_fire [vo 0 0, vi p, vi win] M (qX fun r M' => if 0 ≤ p ∧ p < M 1 0 6 then (if 0 ≤ win ∧ win ≤ 999 then (if fnd (M 7 0) p k 0 = -1 then (if win ≤ hiS L (vwC M 0) O k ∧ wkV L (vwC M 0) (M 6 0) O k = -1 then r = 1 ∧ M' = up (up (up M 7 0 k p) 1 0 7 (nI (k + 1))) 1 0 8 0 else r = 0 ∧ M' = M) else r = -3 ∧ M' = M) else r = -7 ∧ M' = M) else r = -5 ∧ M' = M) := by
  refine lr_ok (by decide +kernel) rfl ?_
  have hsv := ok_X6_serves_o (w := w) (d := d - 1) (by omega) hL (by decide) hk8 hO win
  rw [← hk] at hsv
  refine ri_ald a_X6_fire_0 rfl ?_
  refine ri_getR (t' := 1) (i' := 0) a_X6_fire_1 fl_X6_10 kC_0_0 rfl iC_0 (Or.inr ⟨rfl, rfl, rfl⟩) ?_
  refine ri_ild a_X6_fire_4 rfl ?_
  refine ri_cVpb (as := [vi p]) (rest := []) (d' := d - 1) a_X6_fire_5 mv_X0_has ml_X6_106 (rcC_1 (iC_1 (by decide))) (by omega) (ok_X0_has (by decide) p) (Nat.le_of_ble_eq_true rfl) rfl (fun zc1 => ?_) (fun zc1 => ?_)
  · refine ri_if_ne a_X6_fire_8 (fun _ => ?_) (fun q => absurd q (by decide))
    refine ri_ild a_X6_fire_14 rfl ?_
    refine ri_ic a_X6_fire_15 ?_
    refine ri_cSpb (as := [vi win, vi 999]) (rest := []) (d' := d - 1) a_X6_fire_18 ms_X6_within ml_X6_102 (by omega) (ok_X6_within win 999) (Nat.le_of_ble_eq_true rfl) rfl (fun zc2 => ?_) (fun zc2 => ?_)
    · refine ri_if_ne a_X6_fire_21 (fun _ => ?_) (fun q => absurd q (by decide))
      refine ri_ald a_X6_fire_27 rfl ?_
      refine ri_getR (t' := 1) (i' := 0) a_X6_fire_28 fl_X6_10 kC_0_0 rfl iC_0 (Or.inr ⟨rfl, rfl, rfl⟩) ?_
      refine ri_ild a_X6_fire_31 rfl ?_
      refine ri_cVpi (as := [vi p]) (rest := []) (d' := d - 1) a_X6_fire_32 mv_X0_rungOf ml_X6_140 (rcC_1 (iC_1 (by decide))) (by omega) (ok_X0_rungOf (by decide) p hk hk8) (Nat.le_of_ble_eq_true rfl) rfl (fun zy3 ezy3 => ?_)
      refine ri_ic a_X6_fire_35 ?_
      refine ri_icmp_eq a_X6_fire_36 (fun zc4 => ?_) (fun zc4 => ?_)
      · refine ri_ald a_X6_fire_42 rfl ?_
        refine ri_ald a_X6_fire_43 rfl ?_
        refine ri_getR (t' := 1) (i' := 0) a_X6_fire_44 fl_X6_10 kC_0_0 rfl iC_0 (Or.inr ⟨rfl, rfl, rfl⟩) ?_
        refine ri_ald a_X6_fire_47 rfl ?_
        refine ri_getR (t' := 1) (i' := 0) a_X6_fire_48 fl_X6_10 kC_0_0 rfl iC_0 (Or.inr ⟨rfl, rfl, rfl⟩) ?_
        refine ri_getR (t' := 7) (i' := 0) a_X6_fire_51 fl_X6_144 kC_1_5 rfl (iC_1 (by decide)) (Or.inl ⟨rfl, rfl, rfl⟩) ?_
        refine ri_ald a_X6_fire_54 rfl ?_
        refine ri_getR (t' := 1) (i' := 0) a_X6_fire_55 fl_X6_10 kC_0_0 rfl iC_0 (Or.inr ⟨rfl, rfl, rfl⟩) ?_
        refine ri_getI a_X6_fire_58 fl_X6_90 kC_1_7 rfl (iC_1 (by decide)) ?_
        refine ri_ild a_X6_fire_61 rfl ?_
        refine ri_cVpb (as := [vo 1 0, vo 7 0, vi (M 1 0 7), vi win]) (rest := []) (d' := d - 1) a_X6_fire_62 mv_X6_serves ml_X6_158 (rcC_0 iC_0) (by omega) (hsv) (Nat.le_of_ble_eq_true rfl) rfl (fun zc5 => ?_) (fun zc5 => ?_)
        · refine ri_if_ne a_X6_fire_65 (fun _ => ?_) (fun q => absurd q (by decide))
          refine ri_ald a_X6_fire_70 rfl ?_
          refine ri_getR (t' := 1) (i' := 0) a_X6_fire_71 fl_X6_10 kC_0_0 rfl iC_0 (Or.inr ⟨rfl, rfl, rfl⟩) ?_
          refine ri_ild a_X6_fire_74 rfl ?_
          refine ri_cVxv (as := [vi p]) (rest := []) (d' := d - 1) a_X6_fire_75 mv_X0_saveByFire ml_X6_162 (rcC_1 (iC_1 (by decide))) (by omega) (ok_X0_saveByFire (by omega) (by decide) p hk (hk7 zc1 (ezy3 ▸ zc4))) (Nat.le_of_ble_eq_true rfl) rfl (fun zM6 hzM6 => ?_)
          refine ri_ic a_X6_fire_78 ?_
          refine ri_ireturn a_X6_fire_79 rfl rfl ?_
          exact rX (by rw [if_pos zc1, if_pos zc2, if_pos (ezy3 ▸ zc4), if_pos zc5]; exact ⟨rfl, hzM6⟩)
        · refine ri_if_ne a_X6_fire_65 (fun q => absurd q (by decide)) (fun _ => ?_)
          refine ri_ic a_X6_fire_68 ?_
          refine ri_ireturn a_X6_fire_69 rfl rfl ?_
          exact rX (by rw [if_pos zc1, if_pos zc2, if_pos (ezy3 ▸ zc4), if_neg zc5]; exact ⟨rfl, rfl⟩)
      · refine ri_ic a_X6_fire_39 ?_
        refine ri_ireturn a_X6_fire_41 rfl rfl ?_
        exact rX (by rw [if_pos zc1, if_pos zc2, if_neg (ezy3 ▸ zc4)]; exact ⟨rfl, rfl⟩)
    · refine ri_if_ne a_X6_fire_21 (fun q => absurd q (by decide)) (fun _ => ?_)
      refine ri_ic a_X6_fire_24 ?_
      refine ri_ireturn a_X6_fire_26 rfl rfl ?_
      exact rX (by rw [if_pos zc1, if_neg zc2]; exact ⟨rfl, rfl⟩)
  · refine ri_if_ne a_X6_fire_8 (fun q => absurd q (by decide)) (fun _ => ?_)
    refine ri_ic a_X6_fire_11 ?_
    refine ri_ireturn a_X6_fire_13 rfl rfl ?_
    exact rX (by rw [if_neg zc1]; exact ⟨rfl, rfl⟩)
theorem ok_X6_ladder {w : Wd} {d : Nat} (hd : 6 ≤ d) {M : Mem} {k : Nat} {L : List (List Op)} {O : Nat → Nat} (hL : lawC M 0 L) (hk : M 1 0 7 = nI k) (hk8 : k ≤ 8) (hO : rowA (M 7 0) O k) (x : Int32) : lr_Ok tC sC w d jX6_ladder [vo 0 0, vi x] M (qI (if 0 ≤ x ∧ x ≤ 2 then meaV L (vwC M 0) (M 6 0) O k x else -2) M) := by
  have hm := ok_X6_measure_o (w := w) (d := d - 1) (by omega) hL (by decide) hk8 hO x
  rw [← hk] at hm
  refine lr_ok (by decide +kernel) rfl ?_
  refine ri_ild a_X6_ladder_0 rfl ?_
  refine ri_ic a_X6_ladder_1 ?_
  refine ri_cSpb (as := [vi x, vi 2]) (rest := []) (d' := d - 1) a_X6_ladder_2 ms_X6_within ml_X6_102 (by omega) (ok_X6_within x 2) (Nat.le_of_ble_eq_true rfl) rfl (fun zc1 => ?_) (fun zc1 => ?_)
  · refine ri_if_ne a_X6_ladder_5 (fun _ => ?_) (fun q => absurd q (by decide))
    refine ri_ald a_X6_ladder_11 rfl ?_
    refine ri_ald a_X6_ladder_12 rfl ?_
    refine ri_getR (t' := 1) (i' := 0) a_X6_ladder_13 fl_X6_10 kC_0_0 rfl iC_0 (Or.inr ⟨rfl, rfl, rfl⟩) ?_
    refine ri_ald a_X6_ladder_16 rfl ?_
    refine ri_getR (t' := 1) (i' := 0) a_X6_ladder_17 fl_X6_10 kC_0_0 rfl iC_0 (Or.inr ⟨rfl, rfl, rfl⟩) ?_
    refine ri_getR (t' := 7) (i' := 0) a_X6_ladder_20 fl_X6_144 kC_1_5 rfl (iC_1 (by decide)) (Or.inl ⟨rfl, rfl, rfl⟩) ?_
    refine ri_ald a_X6_ladder_23 rfl ?_
    refine ri_getR (t' := 1) (i' := 0) a_X6_ladder_24 fl_X6_10 kC_0_0 rfl iC_0 (Or.inr ⟨rfl, rfl, rfl⟩) ?_
    refine ri_getI a_X6_ladder_27 fl_X6_90 kC_1_7 rfl (iC_1 (by decide)) ?_
    refine ri_ild a_X6_ladder_30 rfl ?_
    refine ri_cVpi (as := [vo 1 0, vo 7 0, vi (M 1 0 7), vi x]) (rest := []) (d' := d - 1) a_X6_ladder_31 mv_X6_measure ml_X6_147 (rcC_0 iC_0) (by omega) (hm) (Nat.le_of_ble_eq_true rfl) rfl (fun zy2 ezy2 => ?_)
    refine ri_ireturn a_X6_ladder_34 rfl rfl ?_
    exact rI (by rw [if_pos zc1]; exact ezy2) rfl
  · refine ri_if_ne a_X6_ladder_5 (fun q => absurd q (by decide)) (fun _ => ?_)
    refine ri_ic a_X6_ladder_8 ?_
    refine ri_ireturn a_X6_ladder_10 rfl rfl ?_
    exact rI (by rw [if_neg zc1]) rfl

