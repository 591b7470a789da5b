/-! reference: small functions -/
theorem ok_X7_in {T : Tb} {S : Nat → Bool} {w : Wd} {d : Nat} {M : Mem} (v a b : Int32) : lr_Ok T S w d jX7_in [vi v, vi a, vi b] M (qB (a ≤ v ∧ v ≤ b) M) := by
  refine lr_ok (by decide +kernel) rfl ?_
  refine ri_ild a_X7_in_0 rfl ?_
  refine ri_ild a_X7_in_1 rfl ?_
  refine ri_icmp_lt a_X7_in_2 (fun zc1 => ?_) (fun zc1 => ?_)
  · refine ri_ic a_X7_in_14 ?_
    refine ri_ireturn a_X7_in_15 rfl (by decide) ?_
    exact rB0 (fun q => Int32.not_le.mpr zc1 q.1)
  · refine ri_ild a_X7_in_5 rfl ?_
    refine ri_ild a_X7_in_6 rfl ?_
    refine ri_icmp_gt a_X7_in_7 (fun zc2 => ?_) (fun zc2 => ?_)
    · refine ri_ic a_X7_in_14 ?_
      refine ri_ireturn a_X7_in_15 rfl (by decide) ?_
      exact rB0 (fun q => Int32.not_le.mpr zc2 q.2)
    · refine ri_ic a_X7_in_10 ?_
      refine ri_goto a_X7_in_11 ?_
      refine ri_ireturn a_X7_in_15 rfl (by decide) ?_
      exact rB1 ⟨Int32.not_lt.mp zc1, Int32.not_lt.mp zc2⟩
theorem ok_X7_within {T : Tb} {S : Nat → Bool} {w : Wd} {d : Nat} {M : Mem} (v a b : Int32) : lr_Ok T S w d jX7_within [vi v, vi a, vi b] M (qI (if a ≤ v then (if v ≤ b then v else b) else a) M) := by
  refine lr_ok (by decide +kernel) rfl ?_
  refine ri_ild a_X7_within_0 rfl ?_
  refine ri_ild a_X7_within_1 rfl ?_
  refine ri_icmp_ge a_X7_within_2 (fun zc1 => ?_) (fun zc1 => ?_)
  · refine ri_ild a_X7_within_9 rfl ?_
    refine ri_ild a_X7_within_10 rfl ?_
    refine ri_icmp_le a_X7_within_11 (fun zc2 => ?_) (fun zc2 => ?_)
    · refine ri_ild a_X7_within_18 rfl ?_
      refine ri_ireturn a_X7_within_19 rfl rfl ?_
      exact rI (by simp only [*, if_true, if_false]) rfl
    · refine ri_ild a_X7_within_14 rfl ?_
      refine ri_goto a_X7_within_15 ?_
      refine ri_ireturn a_X7_within_19 rfl rfl ?_
      exact rI (by simp only [*, if_true, if_false]) rfl
  · refine ri_ild a_X7_within_5 rfl ?_
    refine ri_goto a_X7_within_6 ?_
    refine ri_ireturn a_X7_within_19 rfl rfl ?_
    exact rI (by simp only [*, if_true, if_false]) rfl
theorem ok_X7_isByte {T : Tb} {S : Nat → Bool} {w : Wd} {d : Nat} (hd : 1 ≤ d) {M : Mem} (v : Int32) : lr_Ok T S w d jX7_isByte [vi v] M (qB (0 ≤ v ∧ v ≤ 255) M) := by
  refine lr_ok (by decide +kernel) rfl ?_
  refine ri_ild a_X7_isByte_0 rfl ?_
  refine ri_ic a_X7_isByte_1 ?_
  refine ri_ic a_X7_isByte_2 ?_
  refine ri_cSpb (as := [vi v, vi 0, vi 255]) (rest := []) (d' := d - 1) a_X7_isByte_5 ms_X7_in ml_X7_96 (by omega) (ok_X7_in v 0 255) (Nat.le_of_ble_eq_true rfl) rfl (fun zc1 => ?_) (fun zc1 => ?_)
  · refine ri_ireturn a_X7_isByte_8 rfl (by decide) ?_
    exact rB1 zc1
  · refine ri_ireturn a_X7_isByte_8 rfl (by decide) ?_
    exact rB0 zc1
theorem ok_X7_isUnder {T : Tb} {S : Nat → Bool} {w : Wd} {d : Nat} {M : Mem} (k o : Int32) : lr_Ok T S w d jX7_isUnder [vi k, vi o] M (qB (o = 0 ∨ o = k ∨ o = kiA k) M) := by
  refine lr_ok (by decide +kernel) rfl ?_
  have g1 : kiA 3 = 1 := by decide
  have g2 : kiA 4 = 2 := by decide
  refine ri_ild a_X7_isUnder_0 rfl ?_
  refine ri_if_eq a_X7_isUnder_1 (fun zc1 => ?_) (fun zc1 => ?_)
  · refine ri_ic a_X7_isUnder_29 ?_
    refine ri_goto a_X7_isUnder_30 ?_
    refine ri_ireturn a_X7_isUnder_34 rfl (by decide) ?_
    first | exact rB1 (by simp_all [kiA]; done) | exact rB0 (by unfold kiA; intro q; rcases q with q | q | q <;> (repeat' split at q) <;> simp_all; done)
  · refine ri_ild a_X7_isUnder_4 rfl ?_
    refine ri_ild a_X7_isUnder_5 rfl ?_
    refine ri_icmp_eq a_X7_isUnder_6 (fun zc2 => ?_) (fun zc2 => ?_)
    · refine ri_ic a_X7_isUnder_29 ?_
      refine ri_goto a_X7_isUnder_30 ?_
      refine ri_ireturn a_X7_isUnder_34 rfl (by decide) ?_
      first | exact rB1 (by simp_all [kiA]; done) | exact rB0 (by unfold kiA; intro q; rcases q with q | q | q <;> (repeat' split at q) <;> simp_all; done)
    · refine ri_ild a_X7_isUnder_9 rfl ?_
      refine ri_ic a_X7_isUnder_10 ?_
      refine ri_icmp_ne a_X7_isUnder_11 (fun zc3 => ?_) (fun zc3 => ?_)
      · refine ri_ild a_X7_isUnder_19 rfl ?_
        refine ri_ic a_X7_isUnder_20 ?_
        refine ri_icmp_ne a_X7_isUnder_21 (fun zc4 => ?_) (fun zc4 => ?_)
        · refine ri_ic a_X7_isUnder_33 ?_
          refine ri_ireturn a_X7_isUnder_34 rfl (by decide) ?_
          first | exact rB1 (by simp_all [kiA]; done) | exact rB0 (by unfold kiA; intro q; rcases q with q | q | q <;> (repeat' split at q) <;> simp_all; done)
        · refine ri_ild a_X7_isUnder_24 rfl ?_
          refine ri_ic a_X7_isUnder_25 ?_
          refine ri_icmp_ne a_X7_isUnder_26 (fun zc5 => ?_) (fun zc5 => ?_)
          · refine ri_ic a_X7_isUnder_33 ?_
            refine ri_ireturn a_X7_isUnder_34 rfl (by decide) ?_
            first | exact rB1 (by simp_all [kiA]; done) | exact rB0 (by unfold kiA; intro q; rcases q with q | q | q <;> (repeat' split at q) <;> simp_all; done)
          · refine ri_ic a_X7_isUnder_29 ?_
            refine ri_goto a_X7_isUnder_30 ?_
            refine ri_ireturn a_X7_isUnder_34 rfl (by decide) ?_
            first | exact rB1 (by simp_all [kiA]; done) | exact rB0 (by unfold kiA; intro q; rcases q with q | q | q <;> (repeat' split at q) <;> simp_all; done)
      · refine ri_ild a_X7_isUnder_14 rfl ?_
        refine ri_ic a_X7_isUnder_15 ?_
        refine ri_icmp_eq a_X7_isUnder_16 (fun zc6 => ?_) (fun zc6 => ?_)
        · refine ri_ic a_X7_isUnder_29 ?_
          refine ri_goto a_X7_isUnder_30 ?_
          refine ri_ireturn a_X7_isUnder_34 rfl (by decide) ?_
          first | exact rB1 (by simp_all [kiA]; done) | exact rB0 (by unfold kiA; intro q; rcases q with q | q | q <;> (repeat' split at q) <;> simp_all; done)
        · refine ri_ild a_X7_isUnder_19 rfl ?_
          refine ri_ic a_X7_isUnder_20 ?_
          refine ri_icmp_ne a_X7_isUnder_21 (fun zc7 => ?_) (fun zc7 => ?_)
          · refine ri_ic a_X7_isUnder_33 ?_
            refine ri_ireturn a_X7_isUnder_34 rfl (by decide) ?_
            first | exact rB1 (by simp_all [kiA]; done) | exact rB0 (by unfold kiA; intro q; rcases q with q | q | q <;> (repeat' split at q) <;> simp_all; done)
          · refine ri_ild a_X7_isUnder_24 rfl ?_
            refine ri_ic a_X7_isUnder_25 ?_
            refine ri_icmp_ne a_X7_isUnder_26 (fun zc8 => ?_) (fun zc8 => ?_)
            · refine ri_ic a_X7_isUnder_33 ?_
              refine ri_ireturn a_X7_isUnder_34 rfl (by decide) ?_
              first | exact rB1 (by simp_all [kiA]; done) | exact rB0 (by unfold kiA; intro q; rcases q with q | q | q <;> (repeat' split at q) <;> simp_all; done)
            · refine ri_ic a_X7_isUnder_29 ?_
              refine ri_goto a_X7_isUnder_30 ?_
              refine ri_ireturn a_X7_isUnder_34 rfl (by decide) ?_
              first | exact rB1 (by simp_all [kiA]; done) | exact rB0 (by unfold kiA; intro q; rcases q with q | q | q <;> (repeat' split at q) <;> simp_all; done)
theorem nI_sub1 {n : Nat} (h : n < 2 ^ 31) : (nI n - 1).toInt = (n : Int) - 1 := by
  rw [Int32.toInt_sub, nI_toInt h, show (1 : Int32).toInt = 1 from rfl, Int.bmod_eq_of_le (by omega) (by omega)]
theorem leP {n : Nat} (h : n < 2 ^ 31) {p : Int32} : p ≤ nI n - 1 ↔ p < nI n := by
  rw [Int32.le_iff_toInt_le, Int32.lt_iff_toInt_lt, nI_sub1 h, nI_toInt h]
  omega
theorem ok_X7_isOne {w : Wd} {d : Nat} (hd : 1 ≤ d) {N : Mem} {n : Nat} (hn : N 0 0 0 = nI n) (hn8 : n ≤ 8) (p : Int32) : lr_Ok tM sM w d jX7_isOne [vo 0 0, vi p] N (qB (0 ≤ p ∧ p < nI n) N) := by
  refine lr_ok (by decide +kernel) rfl ?_
  refine ri_ild a_X7_isOne_0 rfl ?_
  refine ri_ic a_X7_isOne_1 ?_
  refine ri_ald a_X7_isOne_2 rfl ?_
  refine ri_getI a_X7_isOne_3 fl_X7_93 kM_0_0 rfl iM_0 ?_
  refine ri_ic a_X7_isOne_6 ?_
  refine ri_isub a_X7_isOne_7 ?_
  refine ri_cSpb (as := [vi p, vi 0, vi ((N 0 0 0) - 1)]) (rest := []) (d' := d - 1) a_X7_isOne_8 ms_X7_in ml_X7_96 (by omega) (ok_X7_in p 0 ((N 0 0 0) - 1)) (Nat.le_of_ble_eq_true rfl) rfl (fun zc1 => ?_) (fun zc1 => ?_)
  · refine ri_ireturn a_X7_isOne_11 rfl (by decide) ?_
    rw [hn, leP (by omega)] at zc1
    exact rB1 zc1
  · refine ri_ireturn a_X7_isOne_11 rfl (by decide) ?_
    rw [hn, leP (by omega)] at zc1
    exact rB0 zc1
theorem ok_X7_aheadOf {w : Wd} {d : Nat} {N : Mem} {k : Nat} (p : Int32) (hk : N 0 0 6 = nI k) (hk8 : k ≤ 8) : lr_Ok tM sM w d jX7_aheadOf [vo 0 0, vi p] N (qI (fnd (N 5 0) p k 0) N) := by
  have loop : ∀ r i, k = i + r → lr_W tM sM w d jX7_aheadOf 2 [some (vo 0 0), some (vi p), some (vi (nI i))] [] N (qI (fnd (N 5 0) p r i) N) := by
    intro r
    induction r with
    | zero =>
      intro i hi
      have : k = i := hi
      subst this
      refine ri_ild a_X7_aheadOf_2 rfl ?_
      refine ri_ald a_X7_aheadOf_3 rfl ?_
      refine ri_getI a_X7_aheadOf_4 fl_X7_100 kM_0_6 rfl iM_0 ?_
      refine ri_icmp_ge a_X7_aheadOf_7 (fun zc1 => ?_) (fun zc1 => ?_)
      · refine ri_ic a_X7_aheadOf_28 ?_
        refine ri_ireturn a_X7_aheadOf_29 rfl rfl ?_
        exact rI rfl rfl
      · exact absurd (by rw [hk]; exact Int32.le_refl _) zc1
    | succ r ih =>
      intro i hi
      rw [fnd]
      have ei : (nI i).toNatClampNeg = i := nI_clamp (by omega)
      refine ri_ild a_X7_aheadOf_2 rfl ?_
      refine ri_ald a_X7_aheadOf_3 rfl ?_
      refine ri_getI a_X7_aheadOf_4 fl_X7_100 kM_0_6 rfl iM_0 ?_
      refine ri_icmp_ge a_X7_aheadOf_7 (fun zc11 => ?_) (fun zc11 => ?_)
      · exact absurd zc11 (by rw [hk]; exact nI_ge (by omega) (by omega))
      · refine ri_ald a_X7_aheadOf_10 rfl ?_
        refine ri_getR (t' := 5) (i' := 0) a_X7_aheadOf_11 fl_X7_22 kM_0_5 rfl iM_0 (Or.inr ⟨rfl, rfl, rfl⟩) ?_
        refine ri_ild a_X7_aheadOf_14 rfl ?_
        refine ri_iaload a_X7_aheadOf_15 lM_5 rfl iM_5 (vp_in_nI (by omega) (by decide)) ?_
        refine ri_ild a_X7_aheadOf_16 rfl ?_
        refine ri_icmp_ne a_X7_aheadOf_17 (fun zc12 => ?_) (fun zc12 => ?_)
        · refine ri_iinc (c0 := 1) (f := fun zx13 => [some (vo 0 0), some (vi p), some (vi zx13)]) a_X7_aheadOf_22 rfl (by decide) (fun _ => rfl) (fun zx13 ezx13 => ?_)
          refine ri_goto a_X7_aheadOf_25 ?_
          rw [ei] at zc12
          rw [if_neg zc12, ezx13, nI_1]
          exact ih (i + 1) (by omega)
        · refine ri_ild a_X7_aheadOf_20 rfl ?_
          refine ri_ireturn a_X7_aheadOf_21 rfl rfl ?_
          rw [ei] at zc12
          exact rI (by rw [if_pos zc12]) rfl
  refine lr_ok (by decide +kernel) rfl ?_
  refine ri_ic a_X7_aheadOf_0 ?_
  refine ri_istk (ls' := [some (vo 0 0), some (vi p), some (vi 0)]) a_X7_aheadOf_1 rfl ?_
  exact loop k 0 (by omega)
def cntM (N : Mem) (x : Int32) : Int32 := if x = 0 then N 0 0 0 else if x = 1 then N 0 0 6 else if x = 2 then N 0 0 7 else if x = 3 then N 0 0 12 else if x = 4 then N 0 0 13 else if x = 5 then N 0 0 9 else -2
theorem ok_X7_count {w : Wd} {d : Nat} {N : Mem} (x : Int32) : lr_Ok tM sM w d jX7_count [vo 0 0, vi x] N (qI (cntM N x) N) := by
  refine lr_ok (by decide +kernel) rfl ?_
  refine ri_ild a_X7_count_0 rfl ?_
  refine ri_tsw a_X7_count_1 ⟨fun zc1 => ?_, fun zc1 => ?_, fun zc1 => ?_, fun zc1 => ?_, fun zc1 => ?_, fun zc1 => ?_, trivial⟩ (fun zc1 => ?_)
  · replace zc1 : x = 0 := zc1.trans (by decide)
    refine ri_ald a_X7_count_40 rfl ?_
    refine ri_getI a_X7_count_41 fl_X7_93 kM_0_0 rfl iM_0 ?_
    refine ri_ireturn a_X7_count_44 rfl rfl ?_
    exact rI (by rw [zc1]; rfl) rfl
  · replace zc1 : x = 1 := zc1.trans (by decide)
    refine ri_ald a_X7_count_45 rfl ?_
    refine ri_getI a_X7_count_46 fl_X7_100 kM_0_6 rfl iM_0 ?_
    refine ri_ireturn a_X7_count_49 rfl rfl ?_
    exact rI (by rw [zc1]; rfl) rfl
  · replace zc1 : x = 2 := zc1.trans (by decide)
    refine ri_ald a_X7_count_50 rfl ?_
    refine ri_getI a_X7_count_51 fl_X7_103 kM_0_7 rfl iM_0 ?_
    refine ri_ireturn a_X7_count_54 rfl rfl ?_
    exact rI (by rw [zc1]; rfl) rfl
  · replace zc1 : x = 3 := zc1.trans (by decide)
    refine ri_ald a_X7_count_55 rfl ?_
    refine ri_getI a_X7_count_56 fl_X7_106 kM_0_12 rfl iM_0 ?_
    refine ri_ireturn a_X7_count_59 rfl rfl ?_
    exact rI (by rw [zc1]; rfl) rfl
  · replace zc1 : x = 4 := zc1.trans (by decide)
    refine ri_ald a_X7_count_60 rfl ?_
    refine ri_getI a_X7_count_61 fl_X7_109 kM_0_13 rfl iM_0 ?_
    refine ri_ireturn a_X7_count_64 rfl rfl ?_
    exact rI (by rw [zc1]; rfl) rfl
  · replace zc1 : x = 5 := zc1.trans (by decide)
    refine ri_ald a_X7_count_65 rfl ?_
    refine ri_getI a_X7_count_66 fl_X7_85 kM_0_9 rfl iM_0 ?_
    refine ri_ireturn a_X7_count_69 rfl rfl ?_
    exact rI (by rw [zc1]; rfl) rfl
  · refine ri_ic a_X7_count_70 ?_
    refine ri_ireturn a_X7_count_72 rfl rfl ?_
    exact rI (by
    have n := tsw_no zc1
    unfold cntM
    rw [if_neg (n 0 (by decide) (by decide)), if_neg (n 1 (by decide) (by decide)), if_neg (n 2 (by decide) (by decide)), if_neg (n 3 (by decide) (by decide)), if_neg (n 4 (by decide) (by decide)), if_neg (n 5 (by decide) (by decide))]) rfl
theorem ok_X7_winters {w : Wd} {d : Nat} (hd : 1 ≤ d) {N : Mem} (n : Int32) : lr_Ok tM sM w d jX7_winters [vo 0 0, vi n] N (qX fun r N' => if 0 ≤ n ∧ n ≤ 999 then r = N 0 0 7 ∧ N' = up N 0 0 7 n else r = -2 ∧ N' = N) := by
  refine lr_ok (by decide +kernel) rfl ?_
  refine ri_ild a_X7_winters_0 rfl ?_
  refine ri_ic a_X7_winters_1 ?_
  refine ri_ic a_X7_winters_2 ?_
  refine ri_cSpb (as := [vi n, vi 0, vi 999]) (rest := []) (d' := d - 1) a_X7_winters_5 ms_X7_in ml_X7_96 (by omega) (ok_X7_in n 0 999) (Nat.le_of_ble_eq_true rfl) rfl (fun zc1 => ?_) (fun zc1 => ?_)
  · refine ri_if_ne a_X7_winters_8 (fun _ => ?_) (fun q => absurd q (by decide))
    refine ri_ald a_X7_winters_14 rfl ?_
    refine ri_getI a_X7_winters_15 fl_X7_103 kM_0_7 rfl iM_0 ?_
    refine ri_ist (f := fun zx2 => [some (vo 0 0), some (vi n), some (vi zx2)]) a_X7_winters_18 (fun _ => rfl) (fun zx2 ezx2 => ?_)
    refine ri_ald a_X7_winters_19 rfl ?_
    refine ri_ild a_X7_winters_20 rfl ?_
    refine ri_putI a_X7_winters_21 fp_X7_103 kM_0_7 rfl iM_0 (fun zM3 ezM3 => ?_)
    refine ri_ild a_X7_winters_24 rfl ?_
    refine ri_ireturn a_X7_winters_25 rfl rfl ?_
    exact rX (by rw [if_pos zc1]; exact ⟨ezx2, ezM3⟩)
  · refine ri_if_ne a_X7_winters_8 (fun q => absurd q (by decide)) (fun _ => ?_)
    refine ri_ic a_X7_winters_11 ?_
    refine ri_ireturn a_X7_winters_13 rfl rfl ?_
    exact rX (by rw [if_neg zc1]; exact ⟨rfl, rfl⟩)
theorem ok_X7_force {w : Wd} {d : Nat} (hd : 1 ≤ d) {N : Mem} (t : Int32) : lr_Ok tM sM w d jX7_force [vo 0 0, vi t] N (qX fun r N' => if 0 ≤ t ∧ t ≤ N 0 0 12 - 1 then r = N 0 0 13 ∧ N' = up N 0 0 13 t else r = -2 ∧ N' = N) := by
  refine lr_ok (by decide +kernel) rfl ?_
  refine ri_ild a_X7_force_0 rfl ?_
  refine ri_ic a_X7_force_1 ?_
  refine ri_ald a_X7_force_2 rfl ?_
  refine ri_getI a_X7_force_3 fl_X7_106 kM_0_12 rfl iM_0 ?_
  refine ri_ic a_X7_force_6 ?_
  refine ri_isub a_X7_force_7 ?_
  refine ri_cSpb (as := [vi t, vi 0, vi ((N 0 0 12) - 1)]) (rest := []) (d' := d - 1) a_X7_force_8 ms_X7_in ml_X7_96 (by omega) (ok_X7_in t 0 ((N 0 0 12) - 1)) (Nat.le_of_ble_eq_true rfl) rfl (fun zc1 => ?_) (fun zc1 => ?_)
  · refine ri_if_ne a_X7_force_11 (fun _ => ?_) (fun q => absurd q (by decide))
    refine ri_ald a_X7_force_17 rfl ?_
    refine ri_getI a_X7_force_18 fl_X7_109 kM_0_13 rfl iM_0 ?_
    refine ri_ist (f := fun zx2 => [some (vo 0 0), some (vi t), some (vi zx2)]) a_X7_force_21 (fun _ => rfl) (fun zx2 ezx2 => ?_)
    refine ri_ald a_X7_force_22 rfl ?_
    refine ri_ild a_X7_force_23 rfl ?_
    refine ri_putI a_X7_force_24 fp_X7_109 kM_0_13 rfl iM_0 (fun zM3 ezM3 => ?_)
    refine ri_ild a_X7_force_27 rfl ?_
    refine ri_ireturn a_X7_force_28 rfl rfl ?_
    exact rX (by rw [if_pos zc1]; exact ⟨ezx2, ezM3⟩)
  · refine ri_if_ne a_X7_force_11 (fun q => absurd q (by decide)) (fun _ => ?_)
    refine ri_ic a_X7_force_14 ?_
    refine ri_ireturn a_X7_force_16 rfl rfl ?_
    exact rX (by rw [if_neg zc1]; exact ⟨rfl, rfl⟩)
def feM (N : Mem) (z : Nat) (g : Nat → Int32) : Nat → Mem
  | 0 => N
  | i + 1 => up (up (feM N z g i) 6 0 (z + i) (g i)) 0 0 9 (nI (z + i + 1))
theorem ok_X7_feed {w : Wd} {d : Nat} (hd : 2 ≤ d) {N : Mem} {z : Nat} (hz : N 0 0 9 = nI z) (hz2 : z ≤ 160) (n a b c e f : Int32) : lr_Ok tM sM w d jX7_feed [vo 0 0, vi n, vi a, vi b, vi c, vi e, vi f] N (qX fun r N' => if (1 ≤ n ∧ n ≤ 5) ∧ byt a ∧ byt b ∧ byt c ∧ byt e ∧ byt f then (if nI z + n ≤ 160 then r = nI (z + n.toNatClampNeg) ∧ N' = feM N z (arg5 a b c e f) n.toNatClampNeg else r = -4 ∧ N' = N) else r = -2 ∧ N' = N) := by
  have hsz : ∀ nn i, z + nn ≤ 160 → i ≤ nn → feM N z (arg5 a b c e f) i 0 0 9 = nI (z + i) := by
    intro nn i h1 h2
    cases i with
    | zero => exact hz
    | succ i => rw [feM, up_same]; rfl
  have loop : ∀ nn, nn ≤ 5 → z + nn ≤ 160 → ∀ r i, nn = i + r → lr_W tM sM w d jX7_feed 68 [some (vo 0 0), some (vi (nI nn)), some (vi a), some (vi b), some (vi c), some (vi e), some (vi f), some (vi (nI i))] [] (feM N z (arg5 a b c e f) i) (qX fun r N' => r = nI (z + nn) ∧ N' = feM N z (arg5 a b c e f) nn) := by
    intro nn h5 h160 r
    induction r with
    | zero =>
      intro i hi
      have : nn = i := hi
      subst this
      have es := hsz nn nn h160 (Nat.le_refl _)
      generalize hM : feM N z (arg5 a b c e f) nn = M1 at es ⊢
      refine ri_ild a_X7_feed_68 rfl ?_
      refine ri_ild a_X7_feed_70 rfl ?_
      refine ri_icmp_ge a_X7_feed_71 (fun zc11 => ?_) (fun zc11 => ?_)
      · refine ri_ald a_X7_feed_142 rfl ?_
        refine ri_getI a_X7_feed_143 fl_X7_85 kM_0_9 rfl iM_0 ?_
        refine ri_ireturn a_X7_feed_146 rfl rfl ?_
        exact rX ⟨es, rfl⟩
      · exact absurd (Int32.le_refl _) zc11
    | succ r ih =>
      intro i hi
      have es := hsz nn i h160 (by omega)
      have tail : ∀ x, x = arg5 a b c e f i → lr_W tM sM w d jX7_feed 125 [some (vo 0 0), some (vi (nI nn)), some (vi a), some (vi b), some (vi c), some (vi e), some (vi f), some (vi (nI i))] [vi x, vi (feM N z (arg5 a b c e f) i 0 0 9), vo 6 0] (feM N z (arg5 a b c e f) i) (qX fun r N' => r = nI (z + nn) ∧ N' = feM N z (arg5 a b c e f) nn) := by
        intro x hx
        have hih := ih (i + 1) (by omega)
        rw [feM, ← hx] at hih
        rw [es]
        generalize hM : feM N z (arg5 a b c e f) i = M1 at es hih ⊢
        refine ri_iastore a_X7_feed_125 lM_6 rfl iM_6 (vp_in_nI (by omega) (by decide)) (fun zM11 ezM11 => ?_)
        refine ri_ald a_X7_feed_126 rfl ?_
        refine ri_dup a_X7_feed_127 (fun _ h => by cases h) ?_
        refine ri_getI a_X7_feed_128 fl_X7_85 kM_0_9 rfl iM_0 ?_
        refine ri_ic a_X7_feed_131 ?_
        refine ri_iadd a_X7_feed_132 ?_
        refine ri_putI a_X7_feed_133 fp_X7_85 kM_0_9 rfl iM_0 (fun zM12 ezM12 => ?_)
        refine ri_iinc (c0 := 1) (f := fun zx13 => [some (vo 0 0), some (vi (nI nn)), some (vi a), some (vi b), some (vi c), some (vi e), some (vi f), some (vi zx13)]) a_X7_feed_136 rfl (by decide) (fun _ => rfl) (fun zx13 ezx13 => ?_)
        refine ri_goto a_X7_feed_139 ?_
        rw [nI_clamp (by omega)] at ezM11
        have e9 : zM11 0 0 9 = nI (z + i) := by rw [ezM11, up_apply, if_neg (by omega)]; exact es
        rw [e9, nI_1, ezM11] at ezM12
        rw [ezx13, nI_1, ezM12]
        exact hih
      refine ri_ild a_X7_feed_68 rfl ?_
      refine ri_ild a_X7_feed_70 rfl ?_
      refine ri_icmp_ge a_X7_feed_71 (fun zc11 => ?_) (fun zc11 => ?_)
      · exact absurd zc11 (nI_ge (by omega) (by omega))
      · have hc : i = 0 ∨ i = 1 ∨ i = 2 ∨ i = 3 ∨ i = 4 := by omega
        rcases hc with rfl | rfl | rfl | rfl | rfl
        · skip
          refine ri_ald a_X7_feed_74 rfl ?_
          refine ri_getR (t' := 6) (i' := 0) a_X7_feed_75 fl_X7_25 kM_0_8 rfl iM_0 (Or.inr ⟨rfl, rfl, rfl⟩) ?_
          refine ri_ald a_X7_feed_78 rfl ?_
          refine ri_getI a_X7_feed_79 fl_X7_85 kM_0_9 rfl iM_0 ?_
          refine ri_ild a_X7_feed_82 rfl ?_
          refine ri_if_ne a_X7_feed_84 (fun q => absurd q (by decide)) (fun _ => ?_)
          refine ri_ild a_X7_feed_87 rfl ?_
          refine ri_goto a_X7_feed_88 ?_
          exact tail a rfl
        · skip
          refine ri_ald a_X7_feed_74 rfl ?_
          refine ri_getR (t' := 6) (i' := 0) a_X7_feed_75 fl_X7_25 kM_0_8 rfl iM_0 (Or.inr ⟨rfl, rfl, rfl⟩) ?_
          refine ri_ald a_X7_feed_78 rfl ?_
          refine ri_getI a_X7_feed_79 fl_X7_85 kM_0_9 rfl iM_0 ?_
          refine ri_ild a_X7_feed_82 rfl ?_
          refine ri_if_ne a_X7_feed_84 (fun _ => ?_) (fun q => absurd q (by decide))
          refine ri_ild a_X7_feed_91 rfl ?_
          refine ri_ic a_X7_feed_93 ?_
          refine ri_icmp_ne a_X7_feed_94 (fun q => absurd q (by decide)) (fun _ => ?_)
          refine ri_ild a_X7_feed_97 rfl ?_
          refine ri_goto a_X7_feed_98 ?_
          exact tail b rfl
        · skip
          refine ri_ald a_X7_feed_74 rfl ?_
          refine ri_getR (t' := 6) (i' := 0) a_X7_feed_75 fl_X7_25 kM_0_8 rfl iM_0 (Or.inr ⟨rfl, rfl, rfl⟩) ?_
          refine ri_ald a_X7_feed_78 rfl ?_
          refine ri_getI a_X7_feed_79 fl_X7_85 kM_0_9 rfl iM_0 ?_
          refine ri_ild a_X7_feed_82 rfl ?_
          refine ri_if_ne a_X7_feed_84 (fun _ => ?_) (fun q => absurd q (by decide))
          refine ri_ild a_X7_feed_91 rfl ?_
          refine ri_ic a_X7_feed_93 ?_
          refine ri_icmp_ne a_X7_feed_94 (fun _ => ?_) (fun q => absurd q (by decide))
          refine ri_ild a_X7_feed_101 rfl ?_
          refine ri_ic a_X7_feed_103 ?_
          refine ri_icmp_ne a_X7_feed_104 (fun q => absurd q (by decide)) (fun _ => ?_)
          refine ri_ild a_X7_feed_107 rfl ?_
          refine ri_goto a_X7_feed_109 ?_
          exact tail c rfl
        · skip
          refine ri_ald a_X7_feed_74 rfl ?_
          refine ri_getR (t' := 6) (i' := 0) a_X7_feed_75 fl_X7_25 kM_0_8 rfl iM_0 (Or.inr ⟨rfl, rfl, rfl⟩) ?_
          refine ri_ald a_X7_feed_78 rfl ?_
          refine ri_getI a_X7_feed_79 fl_X7_85 kM_0_9 rfl iM_0 ?_
          refine ri_ild a_X7_feed_82 rfl ?_
          refine ri_if_ne a_X7_feed_84 (fun _ => ?_) (fun q => absurd q (by decide))
          refine ri_ild a_X7_feed_91 rfl ?_
          refine ri_ic a_X7_feed_93 ?_
          refine ri_icmp_ne a_X7_feed_94 (fun _ => ?_) (fun q => absurd q (by decide))
          refine ri_ild a_X7_feed_101 rfl ?_
          refine ri_ic a_X7_feed_103 ?_
          refine ri_icmp_ne a_X7_feed_104 (fun _ => ?_) (fun q => absurd q (by decide))
          refine ri_ild a_X7_feed_112 rfl ?_
          refine ri_ic a_X7_feed_114 ?_
          refine ri_icmp_ne a_X7_feed_115 (fun q => absurd q (by decide)) (fun _ => ?_)
          refine ri_ild a_X7_feed_118 rfl ?_
          refine ri_goto a_X7_feed_120 ?_
          exact tail e rfl
        · skip
          refine ri_ald a_X7_feed_74 rfl ?_
          refine ri_getR (t' := 6) (i' := 0) a_X7_feed_75 fl_X7_25 kM_0_8 rfl iM_0 (Or.inr ⟨rfl, rfl, rfl⟩) ?_
          refine ri_ald a_X7_feed_78 rfl ?_
          refine ri_getI a_X7_feed_79 fl_X7_85 kM_0_9 rfl iM_0 ?_
          refine ri_ild a_X7_feed_82 rfl ?_
          refine ri_if_ne a_X7_feed_84 (fun _ => ?_) (fun q => absurd q (by decide))
          refine ri_ild a_X7_feed_91 rfl ?_
          refine ri_ic a_X7_feed_93 ?_
          refine ri_icmp_ne a_X7_feed_94 (fun _ => ?_) (fun q => absurd q (by decide))
          refine ri_ild a_X7_feed_101 rfl ?_
          refine ri_ic a_X7_feed_103 ?_
          refine ri_icmp_ne a_X7_feed_104 (fun _ => ?_) (fun q => absurd q (by decide))
          refine ri_ild a_X7_feed_112 rfl ?_
          refine ri_ic a_X7_feed_114 ?_
          refine ri_icmp_ne a_X7_feed_115 (fun _ => ?_) (fun q => absurd q (by decide))
          refine ri_ild a_X7_feed_123 rfl ?_
          exact tail f rfl
  refine lr_ok (by decide +kernel) rfl ?_
  refine ri_ild a_X7_feed_0 rfl ?_
  refine ri_ic a_X7_feed_1 ?_
  refine ri_ic a_X7_feed_2 ?_
  refine ri_cSpb (as := [vi n, vi 1, vi 5]) (rest := []) (d' := d - 1) a_X7_feed_3 ms_X7_in ml_X7_96 (by omega) (ok_X7_in n 1 5) (Nat.le_of_ble_eq_true rfl) rfl (fun zc1 => ?_) (fun zc1 => ?_)
  · refine ri_if_eq a_X7_feed_6 (fun q => absurd q (by decide)) (fun _ => ?_)
    refine ri_ild a_X7_feed_9 rfl ?_
    refine ri_cSpb (as := [vi a]) (rest := []) (d' := d - 1) a_X7_feed_10 ms_X7_isByte ml_X7_112 (by omega) (ok_X7_isByte (by omega) a) (Nat.le_of_ble_eq_true rfl) rfl (fun zc2 => ?_) (fun zc2 => ?_)
    · refine ri_if_eq a_X7_feed_13 (fun q => absurd q (by decide)) (fun _ => ?_)
      refine ri_ild a_X7_feed_16 rfl ?_
      refine ri_cSpb (as := [vi b]) (rest := []) (d' := d - 1) a_X7_feed_17 ms_X7_isByte ml_X7_112 (by omega) (ok_X7_isByte (by omega) b) (Nat.le_of_ble_eq_true rfl) rfl (fun zc3 => ?_) (fun zc3 => ?_)
      · refine ri_if_eq a_X7_feed_20 (fun q => absurd q (by decide)) (fun _ => ?_)
        refine ri_ild a_X7_feed_23 rfl ?_
        refine ri_cSpb (as := [vi c]) (rest := []) (d' := d - 1) a_X7_feed_25 ms_X7_isByte ml_X7_112 (by omega) (ok_X7_isByte (by omega) c) (Nat.le_of_ble_eq_true rfl) rfl (fun zc4 => ?_) (fun zc4 => ?_)
        · refine ri_if_eq a_X7_feed_28 (fun q => absurd q (by decide)) (fun _ => ?_)
          refine ri_ild a_X7_feed_31 rfl ?_
          refine ri_cSpb (as := [vi e]) (rest := []) (d' := d - 1) a_X7_feed_33 ms_X7_isByte ml_X7_112 (by omega) (ok_X7_isByte (by omega) e) (Nat.le_of_ble_eq_true rfl) rfl (fun zc5 => ?_) (fun zc5 => ?_)
          · refine ri_if_eq a_X7_feed_36 (fun q => absurd q (by decide)) (fun _ => ?_)
            refine ri_ild a_X7_feed_39 rfl ?_
            refine ri_cSpb (as := [vi f]) (rest := []) (d' := d - 1) a_X7_feed_41 ms_X7_isByte ml_X7_112 (by omega) (ok_X7_isByte (by omega) f) (Nat.le_of_ble_eq_true rfl) rfl (fun zc6 => ?_) (fun zc6 => ?_)
            · refine ri_if_ne a_X7_feed_44 (fun _ => ?_) (fun q => absurd q (by decide))
              refine ri_ald a_X7_feed_50 rfl ?_
              refine ri_getI a_X7_feed_51 fl_X7_85 kM_0_9 rfl iM_0 ?_
              refine ri_ild a_X7_feed_54 rfl ?_
              refine ri_iadd a_X7_feed_55 ?_
              refine ri_ic a_X7_feed_56 ?_
              refine ri_icmp_le a_X7_feed_59 (fun zc7 => ?_) (fun zc7 => ?_)
              · refine ri_ic a_X7_feed_65 ?_
                refine ri_istk (ls' := [some (vo 0 0), some (vi n), some (vi a), some (vi b), some (vi c), some (vi e), some (vi f), some (vi 0)]) a_X7_feed_66 rfl ?_
                obtain ⟨nn, h5, rfl⟩ := nI_of2 (n := 5) (M := 5) (by decide) (fun q => Int32.not_le.mpr q (Int32.le_trans (by decide) zc1.1)) zc1.2
                rw [hz] at zc7
                have zc8 := zc7
                rw [nI_add] at zc8
                have h160 : z + nn ≤ 160 := (nI_leI (b := 160) (by omega) (by decide)).1 zc8
                refine lr_Wimp (loop nn h5 h160 nn 0 (by omega)) ?_
                rintro r M' ⟨y, h1, h2⟩
                exact ⟨y, h1, by dsimp only; rw [if_pos ⟨zc1, zc2, zc3, zc4, zc5, zc6⟩, if_pos zc7, nI_clamp (by omega)]; exact h2⟩
              · refine ri_ic a_X7_feed_62 ?_
                refine ri_ireturn a_X7_feed_64 rfl rfl ?_
                exact rX (by rw [hz] at zc7; rw [if_pos ⟨zc1, zc2, zc3, zc4, zc5, zc6⟩, if_neg zc7]; exact ⟨rfl, rfl⟩)
            · refine ri_if_ne a_X7_feed_44 (fun q => absurd q (by decide)) (fun _ => ?_)
              refine ri_ic a_X7_feed_47 ?_
              refine ri_ireturn a_X7_feed_49 rfl rfl ?_
              exact rX (by rw [if_neg (fun q => zc6 q.2.2.2.2.2)]; exact ⟨rfl, rfl⟩)
          · refine ri_if_eq a_X7_feed_36 (fun _ => ?_) (fun q => absurd q (by decide))
            refine ri_ic a_X7_feed_47 ?_
            refine ri_ireturn a_X7_feed_49 rfl rfl ?_
            exact rX (by rw [if_neg (fun q => zc5 q.2.2.2.2.1)]; exact ⟨rfl, rfl⟩)
        · refine ri_if_eq a_X7_feed_28 (fun _ => ?_) (fun q => absurd q (by decide))
          refine ri_ic a_X7_feed_47 ?_
          refine ri_ireturn a_X7_feed_49 rfl rfl ?_
          exact rX (by rw [if_neg (fun q => zc4 q.2.2.2.1)]; exact ⟨rfl, rfl⟩)
      · refine ri_if_eq a_X7_feed_20 (fun _ => ?_) (fun q => absurd q (by decide))
        refine ri_ic a_X7_feed_47 ?_
        refine ri_ireturn a_X7_feed_49 rfl rfl ?_
        exact rX (by rw [if_neg (fun q => zc3 q.2.2.1)]; exact ⟨rfl, rfl⟩)
    · refine ri_if_eq a_X7_feed_13 (fun _ => ?_) (fun q => absurd q (by decide))
      refine ri_ic a_X7_feed_47 ?_
      refine ri_ireturn a_X7_feed_49 rfl rfl ?_
      exact rX (by rw [if_neg (fun q => zc2 q.2.1)]; exact ⟨rfl, rfl⟩)
  · refine ri_if_eq a_X7_feed_6 (fun _ => ?_) (fun q => absurd q (by decide))
    refine ri_ic a_X7_feed_47 ?_
    refine ri_ireturn a_X7_feed_49 rfl rfl ?_
    exact rX (by rw [if_neg (fun q => zc1 q.1)]; exact ⟨rfl, rfl⟩)
theorem nI_2a (q y : Nat) : 2 * nI q + nI y = nI (2 * q + y) := by rw [show (2 : Int32) = nI 2 from rfl, nI_mul, nI_add]
theorem nI_2m (q : Nat) : 2 * nI q = nI (2 * q) := by rw [show (2 : Int32) = nI 2 from rfl, nI_mul]
theorem ok_X7_put {w : Wd} {d : Nat} (hd : 2 ≤ d) {N : Mem} {n : Nat} (hn : N 0 0 0 = nI n) (hn8 : n ≤ 8) (p x v : Int32) : lr_Ok tM sM w d jX7_put [vo 0 0, vi p, vi x, vi v] N (qX fun r N' => if 0 ≤ p ∧ p < nI n then (if (0 ≤ x ∧ x ≤ 1) ∧ 0 ≤ v ∧ v ≤ (if x = 0 then 99 else 999) then r = N 3 0 (2 * p.toNatClampNeg + x.toNatClampNeg) ∧ N' = up N 3 0 (2 * p.toNatClampNeg + x.toNatClampNeg) v else r = -7 ∧ N' = N) else r = -5 ∧ N' = N) := by
  have fin : (0 ≤ p ∧ p < nI n) → (0 ≤ x ∧ x ≤ 1) → lr_W tM sM w d jX7_put 43 [some (vo 0 0), some (vi p), some (vi x), some (vi v), none] [] N (qX fun r N' => r = N 3 0 (2 * p.toNatClampNeg + x.toNatClampNeg) ∧ N' = up N 3 0 (2 * p.toNatClampNeg + x.toNatClampNeg) v) := by
    intro h1 h2
    obtain ⟨q, rfl, hq⟩ := inP h1 rfl hn8
    obtain ⟨y, hy, rfl⟩ := nI_of2 (n := 1) (M := 1) (by decide) (Int32.not_lt.mpr h2.1) h2.2
    have ip : vp_in (2 * nI q + nI y) 16 := by rw [nI_2a]; exact vp_in_nI (by omega) (by decide)
    have ec : (2 * nI q + nI y).toNatClampNeg = 2 * q + y := by rw [nI_2a, nI_clamp (by omega)]
    rw [nI_clamp (by omega), nI_clamp (by omega)]
    refine ri_ald a_X7_put_43 rfl ?_
    refine ri_getR (t' := 3) (i' := 0) a_X7_put_44 fl_X7_16 kM_0_3 rfl iM_0 (Or.inr ⟨rfl, rfl, rfl⟩) ?_
    refine ri_ic a_X7_put_47 ?_
    refine ri_ild a_X7_put_48 rfl ?_
    refine ri_imul a_X7_put_49 ?_
    refine ri_ild a_X7_put_50 rfl ?_
    refine ri_iadd a_X7_put_51 ?_
    refine ri_iaload a_X7_put_52 lM_3 rfl iM_3 ip ?_
    refine ri_ist (f := fun zx1 => [some (vo 0 0), some (vi (nI q)), some (vi (nI y)), some (vi v), some (vi zx1)]) a_X7_put_53 (fun _ => rfl) (fun zx1 ezx1 => ?_)
    refine ri_ald a_X7_put_55 rfl ?_
    refine ri_getR (t' := 3) (i' := 0) a_X7_put_56 fl_X7_16 kM_0_3 rfl iM_0 (Or.inr ⟨rfl, rfl, rfl⟩) ?_
    refine ri_ic a_X7_put_59 ?_
    refine ri_ild a_X7_put_60 rfl ?_
    refine ri_imul a_X7_put_61 ?_
    refine ri_ild a_X7_put_62 rfl ?_
    refine ri_iadd a_X7_put_63 ?_
    refine ri_ild a_X7_put_64 rfl ?_
    refine ri_iastore a_X7_put_65 lM_3 rfl iM_3 ip (fun zM2 ezM2 => ?_)
    refine ri_ild a_X7_put_66 rfl ?_
    refine ri_ireturn a_X7_put_68 rfl rfl ?_
    rw [ec] at *
    exact rX ⟨ezx1, ezM2⟩
  refine lr_ok (by decide +kernel) rfl ?_
  refine ri_ald a_X7_put_0 rfl ?_
  refine ri_ild a_X7_put_1 rfl ?_
  refine ri_cVpb (as := [vi p]) (rest := []) (d' := d - 1) a_X7_put_2 mv_X7_isOne ml_X7_182 (rcM_0 iM_0) (by omega) (ok_X7_isOne (by omega) hn hn8 p) (Nat.le_of_ble_eq_true rfl) rfl (fun zc1 => ?_) (fun zc1 => ?_)
  · refine ri_if_ne a_X7_put_5 (fun _ => ?_) (fun q => absurd q (by decide))
    refine ri_ild a_X7_put_11 rfl ?_
    refine ri_ic a_X7_put_12 ?_
    refine ri_ic a_X7_put_13 ?_
    refine ri_cSpb (as := [vi x, vi 0, vi 1]) (rest := []) (d' := d - 1) a_X7_put_14 ms_X7_in ml_X7_96 (by omega) (ok_X7_in x 0 1) (Nat.le_of_ble_eq_true rfl) rfl (fun zc2 => ?_) (fun zc2 => ?_)
    · refine ri_if_eq a_X7_put_17 (fun q => absurd q (by decide)) (fun _ => ?_)
      refine ri_ild a_X7_put_20 rfl ?_
      refine ri_ic a_X7_put_21 ?_
      refine ri_ild a_X7_put_22 rfl ?_
      refine ri_if_ne a_X7_put_23 (fun zc3 => ?_) (fun zc3 => ?_)
      · refine ri_ic a_X7_put_31 ?_
        refine ri_cSpb (as := [vi v, vi 0, vi 999]) (rest := []) (d' := d - 1) a_X7_put_34 ms_X7_in ml_X7_96 (by omega) (ok_X7_in v 0 999) (Nat.le_of_ble_eq_true rfl) rfl (fun zc4 => ?_) (fun zc4 => ?_)
        · refine ri_if_ne a_X7_put_37 (fun _ => ?_) (fun q => absurd q (by decide))
          refine lr_Wimp (fin zc1 zc2) ?_
          rintro r M' ⟨y, h1, h2⟩
          exact ⟨y, h1, by dsimp only; rw [if_pos zc1, if_neg zc3, if_pos ⟨zc2, zc4⟩]; exact h2⟩
        · refine ri_if_ne a_X7_put_37 (fun q => absurd q (by decide)) (fun _ => ?_)
          refine ri_ic a_X7_put_40 ?_
          refine ri_ireturn a_X7_put_42 rfl rfl ?_
          exact rX (by rw [if_pos zc1, if_neg zc3, if_neg (fun q => zc4 q.2)]; exact ⟨rfl, rfl⟩)
      · refine ri_ic a_X7_put_26 ?_
        refine ri_goto a_X7_put_28 ?_
        refine ri_cSpb (as := [vi v, vi 0, vi 99]) (rest := []) (d' := d - 1) a_X7_put_34 ms_X7_in ml_X7_96 (by omega) (ok_X7_in v 0 99) (Nat.le_of_ble_eq_true rfl) rfl (fun zc5 => ?_) (fun zc5 => ?_)
        · refine ri_if_ne a_X7_put_37 (fun _ => ?_) (fun q => absurd q (by decide))
          refine lr_Wimp (fin zc1 zc2) ?_
          rintro r M' ⟨y, h1, h2⟩
          exact ⟨y, h1, by dsimp only; rw [if_pos zc1, if_pos zc3, if_pos ⟨zc2, zc5⟩]; exact h2⟩
        · refine ri_if_ne a_X7_put_37 (fun q => absurd q (by decide)) (fun _ => ?_)
          refine ri_ic a_X7_put_40 ?_
          refine ri_ireturn a_X7_put_42 rfl rfl ?_
          exact rX (by rw [if_pos zc1, if_pos zc3, if_neg (fun q => zc5 q.2)]; exact ⟨rfl, rfl⟩)
    · refine ri_if_eq a_X7_put_17 (fun _ => ?_) (fun q => absurd q (by decide))
      refine ri_ic a_X7_put_40 ?_
      refine ri_ireturn a_X7_put_42 rfl rfl ?_
      exact rX (by rw [if_pos zc1, if_neg (fun q => zc2 q.1)]; exact ⟨rfl, rfl⟩)
  · refine ri_if_ne a_X7_put_5 (fun q => absurd q (by decide)) (fun _ => ?_)
    refine ri_ic a_X7_put_8 ?_
    refine ri_ireturn a_X7_put_10 rfl rfl ?_
    exact rX (by rw [if_neg zc1]; exact ⟨rfl, rfl⟩)
def fqN (N : Mem) (a b is : Int32) : Mem := up N 4 0 a.toNatClampNeg ((N 4 0 a.toNatClampNeg &&& ((1 <<< (b &&& 31)) ^^^ (-1))) ||| (is <<< (b &&& 31)))
theorem ok_X7_feud {w : Wd} {d : Nat} (hd : 2 ≤ d) {N : Mem} {n : Nat} (hn : N 0 0 0 = nI n) (hn8 : n ≤ 8) (a b is : Int32) : lr_Ok tM sM w d jX7_feud [vo 0 0, vi a, vi b, vi is] N (qX fun r N' => if (0 ≤ a ∧ a < nI n) ∧ (0 ≤ b ∧ b < nI n) ∧ ¬ a = b then (if 0 ≤ is ∧ is ≤ 1 then r = (N 4 0 a.toNatClampNeg >>> (b &&& 31)) &&& 1 ∧ N' = fqN (fqN N a b is) b a is else r = -7 ∧ N' = N) else r = -5 ∧ N' = N) := by
  refine lr_ok (by decide +kernel) rfl ?_
  refine ri_ald a_X7_feud_0 rfl ?_
  refine ri_ild a_X7_feud_1 rfl ?_
  refine ri_cVpb (as := [vi a]) (rest := []) (d' := d - 1) a_X7_feud_2 mv_X7_isOne ml_X7_182 (rcM_0 iM_0) (by omega) (ok_X7_isOne (by omega) hn hn8 a) (Nat.le_of_ble_eq_true rfl) rfl (fun zc1 => ?_) (fun zc1 => ?_)
  · refine ri_if_eq a_X7_feud_5 (fun q => absurd q (by decide)) (fun _ => ?_)
    refine ri_ald a_X7_feud_8 rfl ?_
    refine ri_ild a_X7_feud_9 rfl ?_
    refine ri_cVpb (as := [vi b]) (rest := []) (d' := d - 1) a_X7_feud_10 mv_X7_isOne ml_X7_182 (rcM_0 iM_0) (by omega) (ok_X7_isOne (by omega) hn hn8 b) (Nat.le_of_ble_eq_true rfl) rfl (fun zc2 => ?_) (fun zc2 => ?_)
    · refine ri_if_eq a_X7_feud_13 (fun q => absurd q (by decide)) (fun _ => ?_)
      refine ri_ild a_X7_feud_16 rfl ?_
      refine ri_ild a_X7_feud_17 rfl ?_
      refine ri_icmp_ne a_X7_feud_18 (fun zc3 => ?_) (fun zc3 => ?_)
      · refine ri_ild a_X7_feud_24 rfl ?_
        refine ri_ic a_X7_feud_25 ?_
        refine ri_ic a_X7_feud_26 ?_
        refine ri_cSpb (as := [vi is, vi 0, vi 1]) (rest := []) (d' := d - 1) a_X7_feud_27 ms_X7_in ml_X7_96 (by omega) (ok_X7_in is 0 1) (Nat.le_of_ble_eq_true rfl) rfl (fun zc4 => ?_) (fun zc4 => ?_)
        · refine ri_if_ne a_X7_feud_30 (fun _ => ?_) (fun q => absurd q (by decide))
          refine ri_ald a_X7_feud_36 rfl ?_
          refine ri_getR (t' := 4) (i' := 0) a_X7_feud_37 fl_X7_19 kM_0_4 rfl iM_0 (Or.inr ⟨rfl, rfl, rfl⟩) ?_
          refine ri_ild a_X7_feud_40 rfl ?_
          refine ri_iaload a_X7_feud_41 lM_4 rfl iM_4 (inP8 zc1 rfl hn8) ?_
          refine ri_ild a_X7_feud_42 rfl ?_
          refine ri_ishr a_X7_feud_43 ?_
          refine ri_ic a_X7_feud_44 ?_
          refine ri_iand a_X7_feud_45 ?_
          refine ri_ist (f := fun zx5 => [some (vo 0 0), some (vi a), some (vi b), some (vi is), some (vi zx5)]) a_X7_feud_46 (fun _ => rfl) (fun zx5 ezx5 => ?_)
          refine ri_ald a_X7_feud_48 rfl ?_
          refine ri_getR (t' := 4) (i' := 0) a_X7_feud_49 fl_X7_19 kM_0_4 rfl iM_0 (Or.inr ⟨rfl, rfl, rfl⟩) ?_
          refine ri_ild a_X7_feud_52 rfl ?_
          refine ri_ald a_X7_feud_53 rfl ?_
          refine ri_getR (t' := 4) (i' := 0) a_X7_feud_54 fl_X7_19 kM_0_4 rfl iM_0 (Or.inr ⟨rfl, rfl, rfl⟩) ?_
          refine ri_ild a_X7_feud_57 rfl ?_
          refine ri_iaload a_X7_feud_58 lM_4 rfl iM_4 (inP8 zc1 rfl hn8) ?_
          refine ri_ic a_X7_feud_59 ?_
          refine ri_ild a_X7_feud_60 rfl ?_
          refine ri_ishl a_X7_feud_61 ?_
          refine ri_ic a_X7_feud_62 ?_
          refine ri_ixor a_X7_feud_63 ?_
          refine ri_iand a_X7_feud_64 ?_
          refine ri_ild a_X7_feud_65 rfl ?_
          refine ri_ild a_X7_feud_66 rfl ?_
          refine ri_ishl a_X7_feud_67 ?_
          refine ri_ior a_X7_feud_68 ?_
          refine ri_iastore a_X7_feud_69 lM_4 rfl iM_4 (inP8 zc1 rfl hn8) (fun zM6 ezM6 => ?_)
          refine ri_ald a_X7_feud_70 rfl ?_
          refine ri_getR (t' := 4) (i' := 0) a_X7_feud_71 fl_X7_19 kM_0_4 rfl iM_0 (Or.inr ⟨rfl, rfl, rfl⟩) ?_
          refine ri_ild a_X7_feud_74 rfl ?_
          refine ri_ald a_X7_feud_75 rfl ?_
          refine ri_getR (t' := 4) (i' := 0) a_X7_feud_76 fl_X7_19 kM_0_4 rfl iM_0 (Or.inr ⟨rfl, rfl, rfl⟩) ?_
          refine ri_ild a_X7_feud_79 rfl ?_
          refine ri_iaload a_X7_feud_80 lM_4 rfl iM_4 (inP8 zc2 rfl hn8) ?_
          refine ri_ic a_X7_feud_81 ?_
          refine ri_ild a_X7_feud_82 rfl ?_
          refine ri_ishl a_X7_feud_83 ?_
          refine ri_ic a_X7_feud_84 ?_
          refine ri_ixor a_X7_feud_85 ?_
          refine ri_iand a_X7_feud_86 ?_
          refine ri_ild a_X7_feud_87 rfl ?_
          refine ri_ild a_X7_feud_88 rfl ?_
          refine ri_ishl a_X7_feud_89 ?_
          refine ri_ior a_X7_feud_90 ?_
          refine ri_iastore a_X7_feud_91 lM_4 rfl iM_4 (inP8 zc2 rfl hn8) (fun zM7 ezM7 => ?_)
          refine ri_ild a_X7_feud_92 rfl ?_
          refine ri_ireturn a_X7_feud_94 rfl rfl ?_
          exact rX (by rw [if_pos ⟨zc1, zc2, zc3⟩, if_pos zc4]; exact ⟨ezx5, by rw [ezM7, ezM6]; rfl⟩)
        · refine ri_if_ne a_X7_feud_30 (fun q => absurd q (by decide)) (fun _ => ?_)
          refine ri_ic a_X7_feud_33 ?_
          refine ri_ireturn a_X7_feud_35 rfl rfl ?_
          exact rX (by rw [if_pos ⟨zc1, zc2, zc3⟩, if_neg zc4]; exact ⟨rfl, rfl⟩)
      · refine ri_ic a_X7_feud_21 ?_
        refine ri_ireturn a_X7_feud_23 rfl rfl ?_
        exact rX (by rw [if_neg (fun q => q.2.2 zc3)]; exact ⟨rfl, rfl⟩)
    · refine ri_if_eq a_X7_feud_13 (fun _ => ?_) (fun q => absurd q (by decide))
      refine ri_ic a_X7_feud_21 ?_
      refine ri_ireturn a_X7_feud_23 rfl rfl ?_
      exact rX (by rw [if_neg (fun q => zc2 q.2.1)]; exact ⟨rfl, rfl⟩)
  · refine ri_if_eq a_X7_feud_5 (fun _ => ?_) (fun q => absurd q (by decide))
    refine ri_ic a_X7_feud_21 ?_
    refine ri_ireturn a_X7_feud_23 rfl rfl ?_
    exact rX (by rw [if_neg (fun q => zc1 q.1)]; exact ⟨rfl, rfl⟩)
theorem ok_X7_told {w : Wd} {d : Nat} (hd : 2 ≤ d) {N : Mem} {n k : Nat} (hn : N 0 0 0 = nI n) (hn8 : n ≤ 8) (hk : N 0 0 6 = nI k) (hk8 : k ≤ 8) (p x : Int32) : lr_Ok tM sM w d jX7_told [vo 0 0, vi p, vi x] N (qI (if 0 ≤ p ∧ p < nI n then (if x = 0 then N 3 0 (2 * p.toNatClampNeg) else if x = 1 then N 3 0 (2 * p.toNatClampNeg + 1) else if x = 2 then N 1 0 p.toNatClampNeg else if x = 3 then N 2 0 p.toNatClampNeg else if x = 4 then N 4 0 p.toNatClampNeg else if x = 5 then fnd (N 5 0) p k 0 else -7) else -5) N) := by
  refine lr_ok (by decide +kernel) rfl ?_
  refine ri_ald a_X7_told_0 rfl ?_
  refine ri_ild a_X7_told_1 rfl ?_
  refine ri_cVpb (as := [vi p]) (rest := []) (d' := d - 1) a_X7_told_2 mv_X7_isOne ml_X7_182 (rcM_0 iM_0) (by omega) (ok_X7_isOne (by omega) hn hn8 p) (Nat.le_of_ble_eq_true rfl) rfl (fun zc1 => ?_) (fun zc1 => ?_)
  · refine ri_if_ne a_X7_told_5 (fun _ => ?_) (fun q => absurd q (by decide))
    refine ri_ild a_X7_told_11 rfl ?_
    refine ri_tsw a_X7_told_12 ⟨fun zc2 => ?_, fun zc2 => ?_, fun zc2 => ?_, fun zc2 => ?_, fun zc2 => ?_, fun zc2 => ?_, trivial⟩ (fun zc2 => ?_)
    · replace zc2 : x = 0 := zc2.trans (by decide)
      obtain ⟨q, rfl, hq⟩ := inP zc1 rfl hn8
      subst zc2
      have ip : vp_in (2 * nI q + 0) 16 := by rw [show (0 : Int32) = nI 0 from rfl, nI_2a]; exact vp_in_nI (by omega) (by decide)
      have ec : (2 * nI q + 0).toNatClampNeg = 2 * q := by rw [show (0 : Int32) = nI 0 from rfl, nI_2a, nI_clamp (by omega)]; rfl
      refine ri_ald a_X7_told_52 rfl ?_
      refine ri_getR (t' := 3) (i' := 0) a_X7_told_53 fl_X7_16 kM_0_3 rfl iM_0 (Or.inr ⟨rfl, rfl, rfl⟩) ?_
      refine ri_ic a_X7_told_56 ?_
      refine ri_ild a_X7_told_57 rfl ?_
      refine ri_imul a_X7_told_58 ?_
      refine ri_ild a_X7_told_59 rfl ?_
      refine ri_iadd a_X7_told_60 ?_
      refine ri_iaload a_X7_told_61 lM_3 rfl iM_3 ip ?_
      refine ri_ireturn a_X7_told_62 rfl rfl ?_
      exact rI (by rw [ec, if_pos zc1, if_pos rfl, nI_clamp (by omega)]) rfl
    · replace zc2 : x = 1 := zc2.trans (by decide)
      obtain ⟨q, rfl, hq⟩ := inP zc1 rfl hn8
      subst zc2
      have ip : vp_in (2 * nI q + 1) 16 := by rw [show (1 : Int32) = nI 1 from rfl, nI_2a]; exact vp_in_nI (by omega) (by decide)
      have ec : (2 * nI q + 1).toNatClampNeg = 2 * q + 1 := by rw [show (1 : Int32) = nI 1 from rfl, nI_2a, nI_clamp (by omega)]
      refine ri_ald a_X7_told_52 rfl ?_
      refine ri_getR (t' := 3) (i' := 0) a_X7_told_53 fl_X7_16 kM_0_3 rfl iM_0 (Or.inr ⟨rfl, rfl, rfl⟩) ?_
      refine ri_ic a_X7_told_56 ?_
      refine ri_ild a_X7_told_57 rfl ?_
      refine ri_imul a_X7_told_58 ?_
      refine ri_ild a_X7_told_59 rfl ?_
      refine ri_iadd a_X7_told_60 ?_
      refine ri_iaload a_X7_told_61 lM_3 rfl iM_3 ip ?_
      refine ri_ireturn a_X7_told_62 rfl rfl ?_
      exact rI (by rw [ec, if_pos zc1, if_neg (by decide), if_pos rfl, nI_clamp (by omega)]) rfl
    · replace zc2 : x = 2 := zc2.trans (by decide)
      refine ri_ald a_X7_told_63 rfl ?_
      refine ri_getR (t' := 1) (i' := 0) a_X7_told_64 fl_X7_7 kM_0_1 rfl iM_0 (Or.inr ⟨rfl, rfl, rfl⟩) ?_
      refine ri_ild a_X7_told_67 rfl ?_
      refine ri_iaload a_X7_told_68 lM_1 rfl iM_1 (inP8 zc1 rfl hn8) ?_
      refine ri_ireturn a_X7_told_69 rfl rfl ?_
      exact rI (by rw [if_pos zc1, zc2]; rfl) rfl
    · replace zc2 : x = 3 := zc2.trans (by decide)
      refine ri_ald a_X7_told_70 rfl ?_
      refine ri_getR (t' := 2) (i' := 0) a_X7_told_71 fl_X7_13 kM_0_2 rfl iM_0 (Or.inr ⟨rfl, rfl, rfl⟩) ?_
      refine ri_ild a_X7_told_74 rfl ?_
      refine ri_iaload a_X7_told_75 lM_2 rfl iM_2 (inP8 zc1 rfl hn8) ?_
      refine ri_ireturn a_X7_told_76 rfl rfl ?_
      exact rI (by rw [if_pos zc1, zc2]; rfl) rfl
    · replace zc2 : x = 4 := zc2.trans (by decide)
      refine ri_ald a_X7_told_77 rfl ?_
      refine ri_getR (t' := 4) (i' := 0) a_X7_told_78 fl_X7_19 kM_0_4 rfl iM_0 (Or.inr ⟨rfl, rfl, rfl⟩) ?_
      refine ri_ild a_X7_told_81 rfl ?_
      refine ri_iaload a_X7_told_82 lM_4 rfl iM_4 (inP8 zc1 rfl hn8) ?_
      refine ri_ireturn a_X7_told_83 rfl rfl ?_
      exact rI (by rw [if_pos zc1, zc2]; rfl) rfl
    · replace zc2 : x = 5 := zc2.trans (by decide)
      refine ri_ald a_X7_told_84 rfl ?_
      refine ri_ild a_X7_told_85 rfl ?_
      refine ri_cVpi (as := [vi p]) (rest := []) (d' := d - 1) a_X7_told_86 mv_X7_aheadOf ml_X7_189 (rcM_0 iM_0) (by omega) (ok_X7_aheadOf p hk hk8) (Nat.le_of_ble_eq_true rfl) rfl (fun zy3 ezy3 => ?_)
      refine ri_ireturn a_X7_told_89 rfl rfl ?_
      exact rI (by rw [if_pos zc1, zc2, ezy3]; rfl) rfl
    · refine ri_ic a_X7_told_90 ?_
      refine ri_ireturn a_X7_told_92 rfl rfl ?_
      exact rI (by
      have n := tsw_no zc2
      rw [if_pos zc1, if_neg (n 0 (by decide) (by decide)), if_neg (n 1 (by decide) (by decide)), if_neg (n 2 (by decide) (by decide)), if_neg (n 3 (by decide) (by decide)), if_neg (n 4 (by decide) (by decide)), if_neg (n 5 (by decide) (by decide))]) rfl
  · refine ri_if_ne a_X7_told_5 (fun q => absurd q (by decide)) (fun _ => ?_)
    refine ri_ic a_X7_told_8 ?_
    refine ri_ireturn a_X7_told_10 rfl rfl ?_
    exact rI (by rw [if_neg zc1]) rfl

