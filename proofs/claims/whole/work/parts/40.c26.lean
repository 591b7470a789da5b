/-! class: fewest -/
def feF (g : Nat → Int32) (win : Int32) : Nat → Nat → Int32
  | 0, _ => -1
  | r + 1, n => if win ≤ g n then nI n else feF g win r (n + 1)
theorem ok_X6_fewest {w : Wd} {d : Nat} (hd : 7 ≤ d) {M : Mem} {n k : Nat} {L : List (List Op)} (hL : lawC M 0 L) (hn : M 1 0 6 = nI n) (hn8 : n ≤ 8) (hk : M 1 0 7 = nI k) (hk8 : k ≤ 8) (win : Int32) : lr_Ok tC sC w d jX6_fewest [vo 0 0, vi win] M (qX fun r M' => frQ M M' ∧ if 0 ≤ win ∧ win ≤ 999 then ∃ M1, msP L (vwC M 0) (M 6 0) n M1 ∧ r = feF (fun m => (seF M1 (bitsF (M 7 0) k) m).1) win 6 0 else r = -2) := by
  generalize hal : bitsF (M 7 0) k = al
  have loop : ∀ Ms, frS M Ms → ∀ r m M1, 6 = m + r → frT 14 Ms M1 → lr_W tC sC w d jX6_fewest 19 [some (vo 0 0), some (vi win), some (vi (nI m))] [] M1 (qX fun r' M' => frQ M M' ∧ r' = feF (fun m => (seF Ms al m).1) win r m) := by
    intro Ms hs r
    induction r with
    | zero =>
      intro m M1 hr hf
      have : m = 6 := by omega
      subst this
      refine ri_ild a_X6_fewest_19 rfl ?_
      refine ri_ic a_X6_fewest_20 ?_
      refine ri_icmp_gt a_X6_fewest_21 (fun zc11 => ?_) (fun zc11 => ?_)
      · refine ri_ic a_X6_fewest_58 ?_
        refine ri_ireturn a_X6_fewest_59 rfl rfl ?_
        exact rX ⟨fun t h1 h2 h3 h4 h5 => by rw [hf t h1, hs t h2 h3 h4 h5], rfl⟩
      · exact absurd (by decide) zc11
    | succ r ih =>
      intro m M1 hr hf
      have e7 : M1 7 0 = M 7 0 := by rw [hf 7 (by decide), hs 7 (by decide) (by decide) (by decide) (by decide)]
      have ek : M1 1 0 7 = nI k := by rw [hf 1 (by decide), hs 1 (by decide) (by decide) (by decide) (by decide)]; exact hk
      have eb : bitsF (M1 7 0) k = al := by rw [e7]; exact hal
      have es : ∀ m, seF M1 al m = seF Ms al m := fun m => by
        unfold seF
        rw [hf 15 (by decide), hf 16 (by decide), hf 17 (by decide), hf 18 (by decide)]
      refine ri_ild a_X6_fewest_19 rfl ?_
      refine ri_ic a_X6_fewest_20 ?_
      refine ri_icmp_gt a_X6_fewest_21 (fun zc11 => ?_) (fun zc11 => ?_)
      · refine ri_ic a_X6_fewest_58 ?_
        refine ri_ireturn a_X6_fewest_59 rfl rfl ?_
        exact absurd (nI_le (b := 5) (by omega) (by decide)) (Int32.not_le.mpr zc11)
      · refine ri_ald a_X6_fewest_24 rfl ?_
        refine ri_getR (t' := 14) (i' := 0) a_X6_fewest_25 fl_X6_45 kC_0_8 rfl iC_0 (Or.inr ⟨rfl, rfl, rfl⟩) ?_
        refine ri_ild a_X6_fewest_28 rfl ?_
        refine ri_ald a_X6_fewest_29 rfl ?_
        refine ri_getR (t' := 1) (i' := 0) a_X6_fewest_30 fl_X6_10 kC_0_0 rfl iC_0 (Or.inr ⟨rfl, rfl, rfl⟩) ?_
        refine ri_cVpi (as := []) (rest := [vi (nI m), vo 14 0]) (d' := d - 1) a_X6_fewest_33 mv_X0_savedBits ml_X6_171 (rcC_1 (iC_1 (by decide))) (by omega) (ok_X0_savedBits (by decide) ek hk8) (Nat.le_of_ble_eq_true rfl) rfl (fun zy12 ezy12 => ?_)
        refine ri_cVxv (as := [vi (nI m), vi zy12]) (rest := []) (d' := d - 1) a_X6_fewest_36 mv_X3_run ml_X6_174 (rcC_14 iC_14) (by omega) (ok_X3_run (by omega) (show m ≤ 5 by omega) zy12) (Nat.le_of_ble_eq_true rfl) rfl (fun zM13 hzM13 => ?_)
        refine ri_ald a_X6_fewest_39 rfl ?_
        refine ri_getR (t' := 14) (i' := 0) a_X6_fewest_40 fl_X6_45 kC_0_8 rfl iC_0 (Or.inr ⟨rfl, rfl, rfl⟩) ?_
        refine ri_getI a_X6_fewest_43 fl_X6_181 kC_14_6 rfl iC_14 ?_
        refine ri_ild a_X6_fewest_46 rfl ?_
        refine ri_icmp_lt a_X6_fewest_47 (fun zc14 => ?_) (fun zc14 => ?_)
        · refine ri_iinc (c0 := 1) (f := fun zx15 => [some (vo 0 0), some (vi win), some (vi zx15)]) a_X6_fewest_52 rfl (by decide) (fun _ => rfl) (fun zx15 ezx15 => ?_)
          refine ri_goto a_X6_fewest_55 ?_
          obtain ⟨h1, h2⟩ := hzM13
          rw [ezy12, eb, es] at h2
          have h3 : ¬ win ≤ (seF Ms al m).1 := by rw [← h2]; exact Int32.not_le.mpr zc14
          rw [ezx15, nI_1, feF, if_neg h3]
          exact ih (m + 1) zM13 (by omega) (fun t ht => (h1 t ht).trans (hf t ht))
        · refine ri_ild a_X6_fewest_50 rfl ?_
          refine ri_ireturn a_X6_fewest_51 rfl rfl ?_
          obtain ⟨h1, h2⟩ := hzM13
          rw [ezy12, eb, es] at h2
          have h3 : win ≤ (seF Ms al m).1 := by rw [← h2]; exact Int32.not_lt.mp zc14
          exact rX ⟨fun t q1 q2 q3 q4 q5 => by rw [h1 t q1, hf t q1, hs t q2 q3 q4 q5], by rw [feF, if_pos h3]⟩
  refine lr_ok (by decide +kernel) rfl ?_
  refine ri_ild a_X6_fewest_0 rfl ?_
  refine ri_ic a_X6_fewest_1 ?_
  refine ri_cSpb (as := [vi win, vi 999]) (rest := []) (d' := d - 1) a_X6_fewest_4 ms_X6_within ml_X6_102 (by omega) (ok_X6_within win 999) (Nat.le_of_ble_eq_true rfl) rfl (fun zc1 => ?_) (fun zc1 => ?_)
  · refine ri_if_ne a_X6_fewest_7 (fun _ => ?_) (fun q => absurd q (by decide))
    refine ri_ald a_X6_fewest_13 rfl ?_
    refine ri_cVxv (as := []) (rest := []) (d' := d - 1) a_X6_fewest_14 mv_X6_measureAll ml_X6_168 (rcC_0 iC_0) (by omega) (ok_X6_measureAll (by omega) hL hn hn8) (Nat.le_of_ble_eq_true rfl) rfl (fun zM2 hzM2 => ?_)
    refine ri_ic a_X6_fewest_17 ?_
    refine ri_istk (ls' := [some (vo 0 0), some (vi win), some (vi 0)]) a_X6_fewest_18 rfl ?_
    refine lr_Wimp (loop zM2 hzM2.1 6 0 zM2 rfl frT_refl) ?_
    rintro r M' ⟨y, h1, h2, h3⟩
    exact ⟨y, h1, h2, by rw [if_pos zc1]; exact ⟨zM2, hzM2.2, h3⟩⟩
  · refine ri_if_ne a_X6_fewest_7 (fun q => absurd q (by decide)) (fun _ => ?_)
    refine ri_ic a_X6_fewest_10 ?_
    refine ri_ireturn a_X6_fewest_12 rfl rfl ?_
    exact rX ⟨fun _ _ _ _ _ _ => rfl, by rw [if_neg zc1]⟩

