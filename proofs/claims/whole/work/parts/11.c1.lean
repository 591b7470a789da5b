/-! class: small functions, Crew -/
theorem ok_X6_within {T : Tb} {S : Nat → Bool} {w : Wd} {d : Nat} {M : Mem} (v m : Int32) : lr_Ok T S w d jX6_within [vi v, vi m] M (qB (0 ≤ v ∧ v ≤ m) M) := by
  refine lr_ok (ls := [some (vi v), some (vi m)]) (by decide +kernel) rfl ?_
  refine ri_ild a_X6_within_0 rfl ?_
  refine ri_if_lt a_X6_within_1 (fun zc1 => ?_) (fun zc1 => ?_)
  · refine ri_ic a_X6_within_13 ?_
    refine ri_ireturn a_X6_within_14 rfl (by decide) ?_
    exact rB0 (fun q => Int32.not_le.mpr zc1 q.1)
  · refine ri_ild a_X6_within_4 rfl ?_
    refine ri_ild a_X6_within_5 rfl ?_
    refine ri_icmp_gt a_X6_within_6 (fun zc2 => ?_) (fun zc2 => ?_)
    · refine ri_ic a_X6_within_13 ?_
      refine ri_ireturn a_X6_within_14 rfl (by decide) ?_
      exact rB0 (fun q => Int32.not_le.mpr zc2 q.2)
    · refine ri_ic a_X6_within_9 ?_
      refine ri_goto a_X6_within_10 ?_
      refine ri_ireturn a_X6_within_14 rfl (by decide) ?_
      exact rB1 ⟨Int32.not_lt.mp zc1, Int32.not_lt.mp zc2⟩
theorem ok_X5_isName {T : Tb} {S : Nat → Bool} {w : Wd} {d : Nat} {M : Mem} (v : Int32) : lr_Ok T S w d jX5_isName [vi v] M (qB (10 ≤ v ∧ v ≤ 15) M) := by
  refine lr_ok (ls := [some (vi v)]) (by decide +kernel) rfl ?_
  refine ri_ild a_X5_isName_0 rfl ?_
  refine ri_ic a_X5_isName_1 ?_
  refine ri_icmp_lt a_X5_isName_3 (fun zc1 => ?_) (fun zc1 => ?_)
  · refine ri_ic a_X5_isName_16 ?_
    refine ri_ireturn a_X5_isName_17 rfl (by decide) ?_
    exact rB0 (fun q => Int32.not_le.mpr zc1 q.1)
  · refine ri_ild a_X5_isName_6 rfl ?_
    refine ri_ic a_X5_isName_7 ?_
    refine ri_icmp_gt a_X5_isName_9 (fun zc2 => ?_) (fun zc2 => ?_)
    · refine ri_ic a_X5_isName_16 ?_
      refine ri_ireturn a_X5_isName_17 rfl (by decide) ?_
      exact rB0 (fun q => Int32.not_le.mpr zc2 q.2)
    · refine ri_ic a_X5_isName_12 ?_
      refine ri_goto a_X5_isName_13 ?_
      refine ri_ireturn a_X5_isName_17 rfl (by decide) ?_
      exact rB1 ⟨Int32.not_lt.mp zc1, Int32.not_lt.mp zc2⟩
theorem ok_X2_isDigit {T : Tb} {S : Nat → Bool} {w : Wd} {d : Nat} {M : Mem} (v : Int32) : lr_Ok T S w d jX2_isDigit [vi v] M (qB (48 ≤ v ∧ v ≤ 57) M) := by
  refine lr_ok (ls := [some (vi v)]) (by decide +kernel) rfl ?_
  refine ri_ild a_X2_isDigit_0 rfl ?_
  refine ri_ic a_X2_isDigit_1 ?_
  refine ri_icmp_lt a_X2_isDigit_3 (fun zc1 => ?_) (fun zc1 => ?_)
  · refine ri_ic a_X2_isDigit_16 ?_
    refine ri_ireturn a_X2_isDigit_17 rfl (by decide) ?_
    exact rB0 (fun q => Int32.not_le.mpr zc1 q.1)
  · refine ri_ild a_X2_isDigit_6 rfl ?_
    refine ri_ic a_X2_isDigit_7 ?_
    refine ri_icmp_gt a_X2_isDigit_9 (fun zc2 => ?_) (fun zc2 => ?_)
    · refine ri_ic a_X2_isDigit_16 ?_
      refine ri_ireturn a_X2_isDigit_17 rfl (by decide) ?_
      exact rB0 (fun q => Int32.not_le.mpr zc2 q.2)
    · refine ri_ic a_X2_isDigit_12 ?_
      refine ri_goto a_X2_isDigit_13 ?_
      refine ri_ireturn a_X2_isDigit_17 rfl (by decide) ?_
      exact rB1 ⟨Int32.not_lt.mp zc1, Int32.not_lt.mp zc2⟩
theorem ok_X2_isLetter {T : Tb} {S : Nat → Bool} {w : Wd} {d : Nat} {M : Mem} (v : Int32) : lr_Ok T S w d jX2_isLetter [vi v] M (qB (97 ≤ v ∧ v ≤ 122) M) := by
  refine lr_ok (ls := [some (vi v)]) (by decide +kernel) rfl ?_
  refine ri_ild a_X2_isLetter_0 rfl ?_
  refine ri_ic a_X2_isLetter_1 ?_
  refine ri_icmp_lt a_X2_isLetter_3 (fun zc1 => ?_) (fun zc1 => ?_)
  · refine ri_ic a_X2_isLetter_16 ?_
    refine ri_ireturn a_X2_isLetter_17 rfl (by decide) ?_
    exact rB0 (fun q => Int32.not_le.mpr zc1 q.1)
  · refine ri_ild a_X2_isLetter_6 rfl ?_
    refine ri_ic a_X2_isLetter_7 ?_
    refine ri_icmp_gt a_X2_isLetter_9 (fun zc2 => ?_) (fun zc2 => ?_)
    · refine ri_ic a_X2_isLetter_16 ?_
      refine ri_ireturn a_X2_isLetter_17 rfl (by decide) ?_
      exact rB0 (fun q => Int32.not_le.mpr zc2 q.2)
    · refine ri_ic a_X2_isLetter_12 ?_
      refine ri_goto a_X2_isLetter_13 ?_
      refine ri_ireturn a_X2_isLetter_17 rfl (by decide) ?_
      exact rB1 ⟨Int32.not_lt.mp zc1, Int32.not_lt.mp zc2⟩
def isSg (v : Int32) : Prop := v = 40 ∨ v = 41 ∨ v = 59 ∨ v = 43 ∨ v = 45 ∨ v = 42 ∨ v = 60 ∨ v = 61
theorem ok_X5_isSign {T : Tb} {S : Nat → Bool} {w : Wd} {d : Nat} {M : Mem} (v : Int32) : lr_Ok T S w d jX5_isSign [vi v] M (qB (isSg v) M) := by
  refine lr_ok (ls := [some (vi v)]) (by decide +kernel) rfl ?_
  refine ri_ild a_X5_isSign_0 rfl ?_
  refine ri_ic a_X5_isSign_1 ?_
  refine ri_icmp_eq a_X5_isSign_3 (fun zc1 => ?_) (fun zc1 => ?_)
  · refine ri_ic a_X5_isSign_48 ?_
    refine ri_goto a_X5_isSign_49 ?_
    refine ri_ireturn a_X5_isSign_53 rfl (by decide) ?_
    first | exact rB1 (by simp [isSg, *]; done) | exact rB0 (by simp [isSg, *]; done)
  · refine ri_ild a_X5_isSign_6 rfl ?_
    refine ri_ic a_X5_isSign_7 ?_
    refine ri_icmp_eq a_X5_isSign_9 (fun zc2 => ?_) (fun zc2 => ?_)
    · refine ri_ic a_X5_isSign_48 ?_
      refine ri_goto a_X5_isSign_49 ?_
      refine ri_ireturn a_X5_isSign_53 rfl (by decide) ?_
      first | exact rB1 (by simp [isSg, *]; done) | exact rB0 (by simp [isSg, *]; done)
    · refine ri_ild a_X5_isSign_12 rfl ?_
      refine ri_ic a_X5_isSign_13 ?_
      refine ri_icmp_eq a_X5_isSign_15 (fun zc3 => ?_) (fun zc3 => ?_)
      · refine ri_ic a_X5_isSign_48 ?_
        refine ri_goto a_X5_isSign_49 ?_
        refine ri_ireturn a_X5_isSign_53 rfl (by decide) ?_
        first | exact rB1 (by simp [isSg, *]; done) | exact rB0 (by simp [isSg, *]; done)
      · refine ri_ild a_X5_isSign_18 rfl ?_
        refine ri_ic a_X5_isSign_19 ?_
        refine ri_icmp_eq a_X5_isSign_21 (fun zc4 => ?_) (fun zc4 => ?_)
        · refine ri_ic a_X5_isSign_48 ?_
          refine ri_goto a_X5_isSign_49 ?_
          refine ri_ireturn a_X5_isSign_53 rfl (by decide) ?_
          first | exact rB1 (by simp [isSg, *]; done) | exact rB0 (by simp [isSg, *]; done)
        · refine ri_ild a_X5_isSign_24 rfl ?_
          refine ri_ic a_X5_isSign_25 ?_
          refine ri_icmp_eq a_X5_isSign_27 (fun zc5 => ?_) (fun zc5 => ?_)
          · refine ri_ic a_X5_isSign_48 ?_
            refine ri_goto a_X5_isSign_49 ?_
            refine ri_ireturn a_X5_isSign_53 rfl (by decide) ?_
            first | exact rB1 (by simp [isSg, *]; done) | exact rB0 (by simp [isSg, *]; done)
          · refine ri_ild a_X5_isSign_30 rfl ?_
            refine ri_ic a_X5_isSign_31 ?_
            refine ri_icmp_eq a_X5_isSign_33 (fun zc6 => ?_) (fun zc6 => ?_)
            · refine ri_ic a_X5_isSign_48 ?_
              refine ri_goto a_X5_isSign_49 ?_
              refine ri_ireturn a_X5_isSign_53 rfl (by decide) ?_
              first | exact rB1 (by simp [isSg, *]; done) | exact rB0 (by simp [isSg, *]; done)
            · refine ri_ild a_X5_isSign_36 rfl ?_
              refine ri_ic a_X5_isSign_37 ?_
              refine ri_icmp_eq a_X5_isSign_39 (fun zc7 => ?_) (fun zc7 => ?_)
              · refine ri_ic a_X5_isSign_48 ?_
                refine ri_goto a_X5_isSign_49 ?_
                refine ri_ireturn a_X5_isSign_53 rfl (by decide) ?_
                first | exact rB1 (by simp [isSg, *]; done) | exact rB0 (by simp [isSg, *]; done)
              · refine ri_ild a_X5_isSign_42 rfl ?_
                refine ri_ic a_X5_isSign_43 ?_
                refine ri_icmp_ne a_X5_isSign_45 (fun zc8 => ?_) (fun zc8 => ?_)
                · refine ri_ic a_X5_isSign_52 ?_
                  refine ri_ireturn a_X5_isSign_53 rfl (by decide) ?_
                  first | exact rB1 (by simp [isSg, *]; done) | exact rB0 (by simp [isSg, *]; done)
                · refine ri_ic a_X5_isSign_48 ?_
                  refine ri_goto a_X5_isSign_49 ?_
                  refine ri_ireturn a_X5_isSign_53 rfl (by decide) ?_
                  first | exact rB1 (by simp [isSg, *]; done) | exact rB0 (by simp [isSg, *]; done)
theorem ok_X0_has {w : Wd} {d : Nat} {M : Mem} {c : Nat} (hc : c < 3) (p : Int32) : lr_Ok tC sC w d jX0_has [vo 1 c, vi p] M (qB (0 ≤ p ∧ p < M 1 c 6) M) := by
  refine lr_ok (ls := [some (vo 1 c), some (vi p)]) (by decide +kernel) rfl ?_
  refine ri_ild a_X0_has_0 rfl ?_
  refine ri_if_lt a_X0_has_1 (fun zc1 => ?_) (fun zc1 => ?_)
  · refine ri_ic a_X0_has_16 ?_
    refine ri_ireturn a_X0_has_17 rfl (by decide) ?_
    exact rB0 (fun q => Int32.not_le.mpr zc1 q.1)
  · refine ri_ild a_X0_has_4 rfl ?_
    refine ri_ald a_X0_has_5 rfl ?_
    refine ri_getI a_X0_has_6 fl_X0_30 kC_1_6 rfl (iC_1 (by assumption)) ?_
    refine ri_icmp_ge a_X0_has_9 (fun zc2 => ?_) (fun zc2 => ?_)
    · refine ri_ic a_X0_has_16 ?_
      refine ri_ireturn a_X0_has_17 rfl (by decide) ?_
      exact rB0 (fun q => Int32.not_lt.mpr zc2 q.2)
    · refine ri_ic a_X0_has_12 ?_
      refine ri_goto a_X0_has_13 ?_
      refine ri_ireturn a_X0_has_17 rfl (by decide) ?_
      exact rB1 ⟨Int32.not_lt.mp zc1, Int32.not_le.mp zc2⟩
theorem ok_X0_quarrel {w : Wd} {d : Nat} {M : Mem} {c : Nat} (hc : c < 3) (a b : Int32) (ha : vp_in a 8) : lr_Ok tC sC w d jX0_quarrel [vo 1 c, vi a, vi b] M (qB (¬ (M 6 c a.toNatClampNeg >>> (b &&& 31)) &&& 1 = 0) M) := by
  refine lr_ok (ls := [some (vo 1 c), some (vi a), some (vi b)]) (by decide +kernel) rfl ?_
  refine ri_ald a_X0_quarrel_0 rfl ?_
  refine ri_getR (t' := 6) (i' := c) a_X0_quarrel_1 fl_X0_24 kC_1_4 rfl (iC_1 (by assumption)) (Or.inl ⟨rfl, rfl, rfl⟩) ?_
  refine ri_ild a_X0_quarrel_4 rfl ?_
  refine ri_iaload a_X0_quarrel_5 lC_6 rfl (iC_6 (by assumption)) ha ?_
  refine ri_ild a_X0_quarrel_6 rfl ?_
  refine ri_ishr a_X0_quarrel_7 ?_
  refine ri_ic a_X0_quarrel_8 ?_
  refine ri_iand a_X0_quarrel_9 ?_
  refine ri_if_eq a_X0_quarrel_10 (fun zc1 => ?_) (fun zc1 => ?_)
  · refine ri_ic a_X0_quarrel_17 ?_
    refine ri_ireturn a_X0_quarrel_18 rfl (by decide) ?_
    exact rB0 (fun q => q zc1)
  · refine ri_ic a_X0_quarrel_13 ?_
    refine ri_goto a_X0_quarrel_14 ?_
    refine ri_ireturn a_X0_quarrel_18 rfl (by decide) ?_
    exact rB1 zc1
theorem ok_X0_setQuarrel {w : Wd} {d : Nat} {M : Mem} {c : Nat} (hc : c < 3) (a b s : Int32) (ha : vp_in a 8) : lr_Ok tC sC w d jX0_setQuarrel [vo 1 c, vi a, vi b, vi s] M (qV fun M' => M' = up M 6 c a.toNatClampNeg ((M 6 c a.toNatClampNeg &&& ((1 <<< (b &&& 31)) ^^^ (-1))) ||| (s <<< (b &&& 31)))) := by
  refine lr_ok (ls := [some (vo 1 c), some (vi a), some (vi b), some (vi s)]) (by decide +kernel) rfl ?_
  refine ri_ald a_X0_setQuarrel_0 rfl ?_
  refine ri_getR (t' := 6) (i' := c) a_X0_setQuarrel_1 fl_X0_24 kC_1_4 rfl (iC_1 (by assumption)) (Or.inl ⟨rfl, rfl, rfl⟩) ?_
  refine ri_ild a_X0_setQuarrel_4 rfl ?_
  refine ri_ald a_X0_setQuarrel_5 rfl ?_
  refine ri_getR (t' := 6) (i' := c) a_X0_setQuarrel_6 fl_X0_24 kC_1_4 rfl (iC_1 (by assumption)) (Or.inl ⟨rfl, rfl, rfl⟩) ?_
  refine ri_ild a_X0_setQuarrel_9 rfl ?_
  refine ri_iaload a_X0_setQuarrel_10 lC_6 rfl (iC_6 (by assumption)) ha ?_
  refine ri_ic a_X0_setQuarrel_11 ?_
  refine ri_ild a_X0_setQuarrel_12 rfl ?_
  refine ri_ishl a_X0_setQuarrel_13 ?_
  refine ri_ic a_X0_setQuarrel_14 ?_
  refine ri_ixor a_X0_setQuarrel_15 ?_
  refine ri_iand a_X0_setQuarrel_16 ?_
  refine ri_ild a_X0_setQuarrel_17 rfl ?_
  refine ri_ild a_X0_setQuarrel_18 rfl ?_
  refine ri_ishl a_X0_setQuarrel_19 ?_
  refine ri_ior a_X0_setQuarrel_20 ?_
  refine ri_iastore a_X0_setQuarrel_21 lC_6 rfl (iC_6 (by assumption)) ha (fun zM1 ezM1 => ?_)
  refine ri_return a_X0_setQuarrel_22 rfl ?_
  exact rV ezM1
/-- the first place at or behind i, of r places, that holds p; -1: none -/
def fnd (f : Nat → Int32) (p : Int32) : Nat → Nat → Int32
  | 0, _ => -1
  | r + 1, i => if f i = p then nI i else fnd f p r (i + 1)
theorem ok_X0_rungOf {w : Wd} {d : Nat} {M : Mem} {c k : Nat} (hc : c < 3) (p : Int32) (hk : M 1 c 7 = nI k) (hk8 : k ≤ 8) : lr_Ok tC sC w d jX0_rungOf [vo 1 c, vi p] M (qI (fnd (M 7 c) p k 0) M) := by
  have loop : ∀ n i, k < i + n → i ≤ k → lr_W tC sC w d jX0_rungOf 2 [some (vo 1 c), some (vi p), some (vi (nI i))] [] M (qI (fnd (M 7 c) p (k - i) i) M) := by
    intro n
    induction n with
    | zero => intro i h1 h2; omega
    | succ n ih =>
      intro i h1 h2
      refine ri_ild a_X0_rungOf_2 rfl ?_
      refine ri_ald a_X0_rungOf_3 rfl ?_
      refine ri_getI a_X0_rungOf_4 fl_X0_34 kC_1_7 rfl (iC_1 (by assumption)) ?_
      refine ri_icmp_ge a_X0_rungOf_7 (fun zc1 => ?_) (fun zc1 => ?_)
      · refine ri_ic a_X0_rungOf_28 ?_
        refine ri_ireturn a_X0_rungOf_29 rfl rfl ?_
        rw [hk, nI_leI (by omega) (by omega)] at zc1
        rw [show k - i = 0 by omega]
        exact rI rfl rfl
      · refine ri_ald a_X0_rungOf_10 rfl ?_
        refine ri_getR (t' := 7) (i' := c) a_X0_rungOf_11 fl_X0_27 kC_1_5 rfl (iC_1 (by assumption)) (Or.inl ⟨rfl, rfl, rfl⟩) ?_
        refine ri_ild a_X0_rungOf_14 rfl ?_
        refine ri_iaload a_X0_rungOf_15 lC_7 rfl (iC_7 (by assumption)) ?_ ?_
        · exact vp_in_nI (by rw [hk, nI_leI (by omega) (by omega)] at zc1; omega) (by decide)
        refine ri_ild a_X0_rungOf_16 rfl ?_
        refine ri_icmp_ne a_X0_rungOf_17 (fun zc2 => ?_) (fun zc2 => ?_)
        · refine ri_iinc (c0 := 1) (f := fun zx3 => [some (vo 1 c), some (vi p), some (vi zx3)]) a_X0_rungOf_22 rfl (by decide) (fun _ => rfl) (fun zx3 ezx3 => ?_)
          refine ri_goto a_X0_rungOf_25 ?_
          rw [hk, nI_leI (by omega) (by omega)] at zc1
          rw [nI_clamp (by omega)] at zc2
          rw [ezx3, nI_1]
          have := ih (i + 1) (by omega) (by omega)
          rwa [show k - i = (k - (i + 1)) + 1 by omega, fnd, if_neg zc2]
        · refine ri_ild a_X0_rungOf_20 rfl ?_
          refine ri_ireturn a_X0_rungOf_21 rfl rfl ?_
          rw [hk, nI_leI (by omega) (by omega)] at zc1
          rw [nI_clamp (by omega)] at zc2
          rw [show k - i = (k - (i + 1)) + 1 by omega]
          exact rI (by rw [fnd, if_pos zc2]) rfl
  refine lr_ok (ls := [some (vo 1 c), some (vi p), none]) (by decide +kernel) rfl ?_
  refine ri_ic a_X0_rungOf_0 ?_
  refine ri_istk (ls' := [some (vo 1 c), some (vi p), some (vi 0)]) a_X0_rungOf_1 rfl ?_
  exact loop (k + 1) 0 (by omega) (by omega)

