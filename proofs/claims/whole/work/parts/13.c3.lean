/-! class: Sheet, Law's small ones -/
theorem ok_J7_fill {w : Wd} {d : Nat} {M : Mem} {s : Nat} (hs : s < 4) (v : Int32) : lr_Ok tC sC w d jJ7_fill_53178 [vo 20 s, vi v] M (qV fun M' => M' = upr M 20 s (fun k => if k < 40 then v else M 20 s k)) := by
  have loop : ∀ n i M1, 40 < i + n → i ≤ 40 → M1 = upr M 20 s (fun k => if k < i then v else M 20 s k) → lr_W tC sC w d jJ7_fill_53178 5 [some (vo 20 s), some (vi v), some (vi (nI i)), some (vi (nI 40))] [] M1 (qV fun M' => M' = upr M 20 s (fun k => if k < 40 then v else M 20 s k)) := by
    intro n
    induction n with
    | zero => intro i M1 h1 h2; omega
    | succ n ih =>
      intro i M1 h1 h2 hM
      refine ri_ild a_J7_fill_53178_5 rfl ?_
      refine ri_ild a_J7_fill_53178_6 rfl ?_
      refine ri_icmp_ge a_J7_fill_53178_7 (fun zc11 => ?_) (fun zc11 => ?_)
      · refine ri_return a_J7_fill_53178_20 rfl ?_
        rw [nI_leI (by omega) (by omega)] at zc11
        have : i = 40 := by omega
        subst this
        exact rV hM
      · refine ri_ald a_J7_fill_53178_10 rfl ?_
        refine ri_ild a_J7_fill_53178_11 rfl ?_
        refine ri_ild a_J7_fill_53178_12 rfl ?_
        refine ri_iastore a_J7_fill_53178_13 lC_20 rfl (iC_20 (by assumption)) ?_ (fun zM12 ezM12 => ?_)
        · rw [nI_leI (by omega) (by omega)] at zc11
          exact vp_in_nI (by omega) (by decide)
        refine ri_iinc (c0 := 1) (f := fun zx13 => [some (vo 20 s), some (vi v), some (vi zx13), some (vi (nI 40))]) a_J7_fill_53178_14 rfl (by decide) (fun _ => rfl) (fun zx13 ezx13 => ?_)
        refine ri_goto a_J7_fill_53178_17 ?_
        rw [nI_leI (by omega) (by omega)] at zc11
        rw [ezx13, nI_1]
        refine ih (i + 1) zM12 (by omega) (by omega) ?_
        subst ezM12 hM
        rw [nI_clamp (by omega)]
        funext t j k
        simp only [up_apply, upr_apply]
        grind
  refine lr_ok (ls := [some (vo 20 s), some (vi v), none, none]) (by decide +kernel) rfl ?_
  refine ri_ic a_J7_fill_53178_0 ?_
  refine ri_istk (ls' := [some (vo 20 s), some (vi v), some (vi 0), none]) a_J7_fill_53178_1 rfl ?_
  refine ri_ald a_J7_fill_53178_2 rfl ?_
  refine ri_alen a_J7_fill_53178_3 lC_20 (iC_20 (by assumption)) ?_
  refine ri_ist (f := fun zx1 => [some (vo 20 s), some (vi v), some (vi 0), some (vi zx1)]) a_J7_fill_53178_4 (fun _ => rfl) (fun zx1 ezx1 => ?_)
  rw [show zx1 = nI 40 from ezx1]
  refine loop 41 0 M (by omega) (by omega) ?_
  funext t j k
  simp only [upr_apply]
  grind
def zer (M : Mem) (s : Nat) (so n : Int32) : Mem := upr (up (up M 19 s 1 so) 19 s 2 n) 20 s (fun k => if k < 40 then 0 else M 20 s k)
theorem ok_X4_becomeZeros {w : Wd} {d : Nat} (hd : 1 ≤ d) {M : Mem} {s : Nat} (hs : s < 4) (so n : Int32) : lr_Ok tC sC w d jX4_becomeZeros [vo 19 s, vi so, vi n] M (qV fun M' => M' = zer M s so n) := by
  refine lr_ok (ls := [some (vo 19 s), some (vi so), some (vi n)]) (by decide +kernel) rfl ?_
  refine ri_ald a_X4_becomeZeros_0 rfl ?_
  refine ri_ild a_X4_becomeZeros_1 rfl ?_
  refine ri_putI a_X4_becomeZeros_2 fp_X4_15 kC_19_1 rfl (iC_19 (by assumption)) (fun zM1 ezM1 => ?_)
  refine ri_ald a_X4_becomeZeros_5 rfl ?_
  refine ri_ild a_X4_becomeZeros_6 rfl ?_
  refine ri_putI a_X4_becomeZeros_7 fp_X4_19 kC_19_2 rfl (iC_19 (by assumption)) (fun zM2 ezM2 => ?_)
  refine ri_ald a_X4_becomeZeros_10 rfl ?_
  refine ri_getR (t' := 20) (i' := s) a_X4_becomeZeros_11 fl_X4_9 kC_19_0 rfl (iC_19 (by assumption)) (Or.inl ⟨rfl, rfl, rfl⟩) ?_
  refine ri_ic a_X4_becomeZeros_14 ?_
  refine ri_cSxv (as := [vo 20 s, vi 0]) (rest := []) (d' := d - 1) a_X4_becomeZeros_15 ms_J7_fill_53178 ml_X4_22 (by omega) (ok_J7_fill (by assumption) 0) (Nat.le_of_ble_eq_true rfl) rfl (fun zM3 hzM3 => ?_)
  refine ri_return a_X4_becomeZeros_18 rfl ?_
  refine rV ?_
  rw [hzM3, ezM2, ezM1]
  funext t j k
  simp only [zer, upr_apply, up_apply]
  grind
theorem ok_X4_has {w : Wd} {d : Nat} {M : Mem} {s : Nat} (hs : s < 4) (i : Int32) : lr_Ok tC sC w d jX4_has [vo 19 s, vi i] M (qB (0 ≤ i ∧ i < M 19 s 2) M) := by
  refine lr_ok (ls := [some (vo 19 s), some (vi i)]) (by decide +kernel) rfl ?_
  refine ri_ild a_X4_has_0 rfl ?_
  refine ri_if_lt a_X4_has_1 (fun zc1 => ?_) (fun zc1 => ?_)
  · refine ri_ic a_X4_has_16 ?_
    refine ri_ireturn a_X4_has_17 rfl (by decide) ?_
    exact rB0 (fun q => Int32.not_le.mpr zc1 q.1)
  · refine ri_ild a_X4_has_4 rfl ?_
    refine ri_ald a_X4_has_5 rfl ?_
    refine ri_getI a_X4_has_6 fl_X4_19 kC_19_2 rfl (iC_19 (by assumption)) ?_
    refine ri_icmp_ge a_X4_has_9 (fun zc2 => ?_) (fun zc2 => ?_)
    · refine ri_ic a_X4_has_16 ?_
      refine ri_ireturn a_X4_has_17 rfl (by decide) ?_
      exact rB0 (fun q => Int32.not_lt.mpr zc2 q.2)
    · refine ri_ic a_X4_has_12 ?_
      refine ri_goto a_X4_has_13 ?_
      refine ri_ireturn a_X4_has_17 rfl (by decide) ?_
      exact rB1 ⟨Int32.not_lt.mp zc1, Int32.not_le.mp zc2⟩
theorem ok_X4_hasAll {w : Wd} {d : Nat} {M : Mem} {s : Nat} (hs : s < 4) (f n : Int32) : lr_Ok tC sC w d jX4_hasAll [vo 19 s, vi f, vi n] M (qB (0 ≤ f ∧ 0 ≤ n ∧ n ≤ M 19 s 2 ∧ f ≤ M 19 s 2 - n) M) := by
  refine lr_ok (ls := [some (vo 19 s), some (vi f), some (vi n)]) (by decide +kernel) rfl ?_
  refine ri_ild a_X4_hasAll_0 rfl ?_
  refine ri_if_lt a_X4_hasAll_1 (fun zc1 => ?_) (fun zc1 => ?_)
  · refine ri_ic a_X4_hasAll_30 ?_
    refine ri_ireturn a_X4_hasAll_31 rfl (by decide) ?_
    first | exact rB1 (by simp only [Int32.not_lt] at *; simp [*]; done) | exact rB0 (by simp only [← Int32.not_lt] at *; simp [*]; done)
  · refine ri_ild a_X4_hasAll_4 rfl ?_
    refine ri_if_lt a_X4_hasAll_5 (fun zc2 => ?_) (fun zc2 => ?_)
    · refine ri_ic a_X4_hasAll_30 ?_
      refine ri_ireturn a_X4_hasAll_31 rfl (by decide) ?_
      first | exact rB1 (by simp only [Int32.not_lt] at *; simp [*]; done) | exact rB0 (by simp only [← Int32.not_lt] at *; simp [*]; done)
    · refine ri_ild a_X4_hasAll_8 rfl ?_
      refine ri_ald a_X4_hasAll_9 rfl ?_
      refine ri_getI a_X4_hasAll_10 fl_X4_19 kC_19_2 rfl (iC_19 (by assumption)) ?_
      refine ri_icmp_gt a_X4_hasAll_13 (fun zc3 => ?_) (fun zc3 => ?_)
      · refine ri_ic a_X4_hasAll_30 ?_
        refine ri_ireturn a_X4_hasAll_31 rfl (by decide) ?_
        first | exact rB1 (by simp only [Int32.not_lt] at *; simp [*]; done) | exact rB0 (by simp only [← Int32.not_lt] at *; simp [*]; done)
      · refine ri_ild a_X4_hasAll_16 rfl ?_
        refine ri_ald a_X4_hasAll_17 rfl ?_
        refine ri_getI a_X4_hasAll_18 fl_X4_19 kC_19_2 rfl (iC_19 (by assumption)) ?_
        refine ri_ild a_X4_hasAll_21 rfl ?_
        refine ri_isub a_X4_hasAll_22 ?_
        refine ri_icmp_gt a_X4_hasAll_23 (fun zc4 => ?_) (fun zc4 => ?_)
        · refine ri_ic a_X4_hasAll_30 ?_
          refine ri_ireturn a_X4_hasAll_31 rfl (by decide) ?_
          first | exact rB1 (by simp only [Int32.not_lt] at *; simp [*]; done) | exact rB0 (by simp only [← Int32.not_lt] at *; simp [*]; done)
        · refine ri_ic a_X4_hasAll_26 ?_
          refine ri_goto a_X4_hasAll_27 ?_
          refine ri_ireturn a_X4_hasAll_31 rfl (by decide) ?_
          first | exact rB1 (by simp only [Int32.not_lt] at *; simp [*]; done) | exact rB0 (by simp only [← Int32.not_lt] at *; simp [*]; done)
def narV (so v : Int32) : Int32 := if so = 0 then v.toInt8.toInt32 else if so = 1 then v.toInt16.toInt32 else v
theorem ok_X4_write {w : Wd} {d : Nat} (hd : 1 ≤ d) {M : Mem} {s n : Nat} (hs : s < 4) (i v : Int32) (hn : M 19 s 2 = nI n) (hn2 : n ≤ 40) : lr_Ok tC sC w d jX4_write [vo 19 s, vi i, vi v] M (qV fun M' => M' = if 0 ≤ i ∧ i < nI n then up M 20 s i.toNatClampNeg (narV (M 19 s 1) v) else M) := by
  refine lr_ok (ls := [some (vo 19 s), some (vi i), some (vi v)]) (by decide +kernel) rfl ?_
  have hin : 0 ≤ i ∧ i < nI n → vp_in i 40 := by
    rintro ⟨h1, h2⟩
    obtain ⟨q, h3, rfl⟩ := nI_of (Int32.not_lt.mpr h1)
    rw [nI_ltI h3 (by omega)] at h2
    exact vp_in_nI (by omega) (by decide)
  refine ri_ald a_X4_write_0 rfl ?_
  refine ri_ild a_X4_write_1 rfl ?_
  refine ri_cVpb (as := [vi i]) (rest := []) (d' := d - 1) a_X4_write_2 mv_X4_has ml_X4_28 (rcC_19 (iC_19 (by assumption))) (by omega) (ok_X4_has (by assumption) i) (Nat.le_of_ble_eq_true rfl) rfl (fun zc1 => ?_) (fun zc1 => ?_)
  · refine ri_if_eq a_X4_write_5 (fun q => absurd q (by decide)) (fun _ => ?_)
    refine ri_ald a_X4_write_8 rfl ?_
    refine ri_getR (t' := 20) (i' := s) a_X4_write_9 fl_X4_9 kC_19_0 rfl (iC_19 (by assumption)) (Or.inl ⟨rfl, rfl, rfl⟩) ?_
    refine ri_ild a_X4_write_12 rfl ?_
    refine ri_ald a_X4_write_13 rfl ?_
    refine ri_getI a_X4_write_14 fl_X4_15 kC_19_1 rfl (iC_19 (by assumption)) ?_
    refine ri_if_ne a_X4_write_17 (fun zc2 => ?_) (fun zc2 => ?_)
    · refine ri_ald a_X4_write_25 rfl ?_
      refine ri_getI a_X4_write_26 fl_X4_15 kC_19_1 rfl (iC_19 (by assumption)) ?_
      refine ri_ic a_X4_write_29 ?_
      refine ri_icmp_ne a_X4_write_30 (fun zc3 => ?_) (fun zc3 => ?_)
      · refine ri_ild a_X4_write_38 rfl ?_
        refine ri_iastore a_X4_write_39 lC_20 rfl (iC_20 (by assumption)) ?_ (fun zM4 ezM4 => ?_)
        · exact hin (by rw [← hn]; assumption)
        refine ri_return a_X4_write_40 rfl ?_
        rw [hn] at zc1; exact rV (by first | (rw [if_neg zc1]; done) | (rw [if_pos zc1, narV]; simp [*]; done))
      · refine ri_ild a_X4_write_33 rfl ?_
        refine ri_i2s a_X4_write_34 ?_
        refine ri_goto a_X4_write_35 ?_
        refine ri_iastore a_X4_write_39 lC_20 rfl (iC_20 (by assumption)) ?_ (fun zM5 ezM5 => ?_)
        · exact hin (by rw [← hn]; assumption)
        refine ri_return a_X4_write_40 rfl ?_
        rw [hn] at zc1; exact rV (by first | (rw [if_neg zc1]; done) | (rw [if_pos zc1, narV]; simp [*]; done))
    · refine ri_ild a_X4_write_20 rfl ?_
      refine ri_i2b a_X4_write_21 ?_
      refine ri_goto a_X4_write_22 ?_
      refine ri_iastore a_X4_write_39 lC_20 rfl (iC_20 (by assumption)) ?_ (fun zM6 ezM6 => ?_)
      · exact hin (by rw [← hn]; assumption)
      refine ri_return a_X4_write_40 rfl ?_
      rw [hn] at zc1; exact rV (by first | (rw [if_neg zc1]; done) | (rw [if_pos zc1, narV]; simp [*]; done))
  · refine ri_if_eq a_X4_write_5 (fun _ => ?_) (fun q => absurd q (by decide))
    refine ri_return a_X4_write_40 rfl ?_
    rw [hn] at zc1; exact rV (by first | (rw [if_neg zc1]; done) | (rw [if_pos zc1, narV]; simp [*]; done))
theorem ok_X1_clear {w : Wd} {d : Nat} {M : Mem} {t : Nat} (ht : t < 6) : lr_Ok tC sC w d jX1_clear [vo 8 t] M (qV fun M' => M' = up M 8 t 3 0) := by
  refine lr_ok (ls := [some (vo 8 t)]) (by decide +kernel) rfl ?_
  refine ri_ald a_X1_clear_0 rfl ?_
  refine ri_ic a_X1_clear_1 ?_
  refine ri_putI a_X1_clear_2 fp_X1_21 kC_8_3 rfl (iC_8 (by assumption)) (fun zM1 ezM1 => ?_)
  refine ri_return a_X1_clear_5 rfl ?_
  exact rV ezM1
theorem ok_X1_append {w : Wd} {d : Nat} {M : Mem} {t n : Nat} (ht : t < 6) (x : Int32) (hn : M 8 t 3 = nI n) (hn2 : n ≤ 160) : lr_Ok tC sC w d jX1_append [vo 8 t, vi x] M (qV fun M' => M' = if n < 160 then up (up M 9 t n x) 8 t 3 (nI (n + 1)) else M) := by
  refine lr_ok (ls := [some (vo 8 t), some (vi x)]) (by decide +kernel) rfl ?_
  refine ri_ald a_X1_append_0 rfl ?_
  refine ri_getI a_X1_append_1 fl_X1_21 kC_8_3 rfl (iC_8 (by assumption)) ?_
  refine ri_ic a_X1_append_4 ?_
  refine ri_icmp_ge a_X1_append_7 (fun zc1 => ?_) (fun zc1 => ?_)
  · refine ri_return a_X1_append_30 rfl ?_
    rw [hn, show (160 : Int32) = nI 160 from rfl, nI_leI (by omega) (by omega)] at zc1
    exact rV (by rw [if_neg (by omega)])
  · refine ri_ald a_X1_append_10 rfl ?_
    refine ri_getR (t' := 9) (i' := t) a_X1_append_11 fl_X1_9 kC_8_0 rfl (iC_8 (by assumption)) (Or.inl ⟨rfl, rfl, rfl⟩) ?_
    refine ri_ald a_X1_append_14 rfl ?_
    refine ri_getI a_X1_append_15 fl_X1_21 kC_8_3 rfl (iC_8 (by assumption)) ?_
    refine ri_ild a_X1_append_18 rfl ?_
    refine ri_iastore a_X1_append_19 lC_9 rfl (iC_9 (by assumption)) ?_ (fun zM2 ezM2 => ?_)
    · rw [hn, show (160 : Int32) = nI 160 from rfl, nI_leI (by omega) (by omega)] at zc1
      rw [hn]
      exact vp_in_nI (by omega) (by decide)
    refine ri_ald a_X1_append_20 rfl ?_
    refine ri_dup a_X1_append_21 (fun _ h => by cases h) ?_
    refine ri_getI a_X1_append_22 fl_X1_21 kC_8_3 rfl (iC_8 (by assumption)) ?_
    refine ri_ic a_X1_append_25 ?_
    refine ri_iadd a_X1_append_26 ?_
    refine ri_putI a_X1_append_27 fp_X1_21 kC_8_3 rfl (iC_8 (by assumption)) (fun zM3 ezM3 => ?_)
    refine ri_return a_X1_append_30 rfl ?_
    rw [hn, show (160 : Int32) = nI 160 from rfl, nI_leI (by omega) (by omega)] at zc1
    refine rV ?_
    rw [if_pos (by omega), ezM3, ezM2, hn, nI_clamp (by omega), up_apply, if_neg (by omega), hn, nI_1]
theorem ok_X1_endPart {w : Wd} {d : Nat} {M : Mem} {t : Nat} (ht : t < 6) (p : Int32) (hp : vp_in p 3) : lr_Ok tC sC w d jX1_endPart [vo 8 t, vi p] M (qV fun M' => M' = up M 10 t p.toNatClampNeg (M 8 t 3)) := by
  refine lr_ok (ls := [some (vo 8 t), some (vi p)]) (by decide +kernel) rfl ?_
  refine ri_ald a_X1_endPart_0 rfl ?_
  refine ri_getR (t' := 10) (i' := t) a_X1_endPart_1 fl_X1_15 kC_8_1 rfl (iC_8 (by assumption)) (Or.inl ⟨rfl, rfl, rfl⟩) ?_
  refine ri_ild a_X1_endPart_4 rfl ?_
  refine ri_ald a_X1_endPart_5 rfl ?_
  refine ri_getI a_X1_endPart_6 fl_X1_21 kC_8_3 rfl (iC_8 (by assumption)) ?_
  refine ri_iastore a_X1_endPart_9 lC_10 rfl (iC_10 (by assumption)) hp (fun zM1 ezM1 => ?_)
  refine ri_return a_X1_endPart_10 rfl ?_
  exact rV ezM1

