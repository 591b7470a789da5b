/-! class: lots, what is best -/
/-- the list a fire by lots makes -/
def drQ (M : Mem) (k : Nat) (L : List (List Op)) (O : Nat → Nat) (seed : Int32) : List Nat := drL L (vwC M 0) O k 0 (seed.toInt64 + 1) []
theorem ok_X6_drawn {w : Wd} {d : Nat} (hd : 6 ≤ d) {M : Mem} {k : Nat} {L : List (List Op)} {O : Nat → Nat} (hL : lawC M 0 L) (hk : M 1 0 7 = nI k) (hk8 : k ≤ 8) (hO : rowA (M 7 0) O k) (seed x : Int32) : lr_Ok tC sC w d jX6_drawn [vo 0 0, vi seed, vi x] M (qX fun r M' => frT 23 M M' ∧ r = if (0 ≤ seed ∧ seed ≤ 99999) ∧ 0 ≤ x ∧ x ≤ 2 then (if x = 2 then nI (drQ M k L O seed).length else meaV L (vwC M 0) (M 6 0) (fun j => (drQ M k L O seed).getD j 0) (drQ M k L O seed).length x) else -2) := by
  refine lr_ok (by decide +kernel) rfl ?_
  refine ri_ild a_X6_drawn_0 rfl ?_
  refine ri_ic a_X6_drawn_1 ?_
  refine ri_cSpb (as := [vi seed, vi 99999]) (rest := []) (d' := d - 1) a_X6_drawn_3 ms_X6_within ml_X6_102 (by omega) (ok_X6_within seed 99999) (Nat.le_of_ble_eq_true rfl) rfl (fun zc1 => ?_) (fun zc1 => ?_)
  · refine ri_if_eq a_X6_drawn_6 (fun q => absurd q (by decide)) (fun _ => ?_)
    refine ri_ild a_X6_drawn_9 rfl ?_
    refine ri_ic a_X6_drawn_10 ?_
    refine ri_cSpb (as := [vi x, vi 2]) (rest := []) (d' := d - 1) a_X6_drawn_11 ms_X6_within ml_X6_102 (by omega) (ok_X6_within x 2) (Nat.le_of_ble_eq_true rfl) rfl (fun zc2 => ?_) (fun zc2 => ?_)
    · refine ri_if_ne a_X6_drawn_14 (fun _ => ?_) (fun q => absurd q (by decide))
      refine ri_ald a_X6_drawn_20 rfl ?_
      refine ri_ild a_X6_drawn_21 rfl ?_
      refine ri_cVxi (as := [vi seed]) (rest := []) (d' := d - 1) a_X6_drawn_22 mv_X6_draw ml_X6_240 (rcC_0 iC_0) (by omega) (ok_X6_draw (by omega) hL hk hk8 hO seed) (Nat.le_of_ble_eq_true rfl) rfl (fun zy3 zM4 hzy3 => ?_)
      refine ri_istk (ls' := [some (vo 0 0), some (vi seed), some (vi x), some (vi zy3)]) a_X6_drawn_25 rfl ?_
      refine ri_ild a_X6_drawn_26 rfl ?_
      refine ri_ic a_X6_drawn_27 ?_
      refine ri_icmp_ne a_X6_drawn_28 (fun zc5 => ?_) (fun zc5 => ?_)
      · obtain ⟨hf, n, hn8, hlen, hr, hrow⟩ := hzy3
        subst hr
        have hme := ok_X6_measure_r (w := w) (d := d - 1) (c := 0) (by omega) (lawC_fr (hf 1 (by decide)) (hf 9 (by decide)) (hf 10 (by decide)) hL) (by decide) hn8 hrow x
        rw [vwC_fr (hf 1 (by decide)) (hf 2 (by decide)) (hf 3 (by decide)) (hf 4 (by decide)) (hf 5 (by decide)), hf 6 (by decide)] at hme
        refine ri_ald a_X6_drawn_35 rfl ?_
        refine ri_ald a_X6_drawn_36 rfl ?_
        refine ri_getR (t' := 1) (i' := 0) a_X6_drawn_37 fl_X6_10 kC_0_0 rfl iC_0 (Or.inr ⟨rfl, rfl, rfl⟩) ?_
        refine ri_ald a_X6_drawn_40 rfl ?_
        refine ri_getR (t' := 23) (i' := 0) a_X6_drawn_41 fl_X6_49 kC_0_9 rfl iC_0 (Or.inr ⟨rfl, rfl, rfl⟩) ?_
        refine ri_ild a_X6_drawn_44 rfl ?_
        refine ri_ild a_X6_drawn_45 rfl ?_
        refine ri_cVpi (as := [vo 1 0, vo 23 0, vi (nI n), vi x]) (rest := []) (d' := d - 1) a_X6_drawn_46 mv_X6_measure ml_X6_147 (rcC_0 iC_0) (by omega) (hme) (Nat.le_of_ble_eq_true rfl) rfl (fun zy11 ezy11 => ?_)
        refine ri_ireturn a_X6_drawn_49 rfl rfl ?_
        exact rX ⟨hf, by rw [if_pos ⟨zc1, zc2⟩, if_neg zc5, ezy11]; unfold drQ; rw [hlen]⟩
      · refine ri_ild a_X6_drawn_31 rfl ?_
        refine ri_goto a_X6_drawn_32 ?_
        refine ri_ireturn a_X6_drawn_49 rfl rfl ?_
        obtain ⟨hf, n, hn8, hlen, hr, hrow⟩ := hzy3
        exact rX ⟨hf, by rw [if_pos ⟨zc1, zc2⟩, if_pos zc5, hr]; unfold drQ; rw [hlen]⟩
    · refine ri_if_ne a_X6_drawn_14 (fun q => absurd q (by decide)) (fun _ => ?_)
      refine ri_ic a_X6_drawn_17 ?_
      refine ri_ireturn a_X6_drawn_19 rfl rfl ?_
      exact rX ⟨frT_refl, by rw [if_neg (fun q => zc2 q.2)]⟩
  · refine ri_if_eq a_X6_drawn_6 (fun _ => ?_) (fun q => absurd q (by decide))
    refine ri_ic a_X6_drawn_17 ?_
    refine ri_ireturn a_X6_drawn_19 rfl rfl ?_
    exact rX ⟨frT_refl, by rw [if_neg (fun q => zc1 q.1)]⟩
/-- what the search finds over a set of people -/
def frQ (M M' : Mem) : Prop := ∀ t, t ≠ 14 → t ≠ 15 → t ≠ 16 → t ≠ 17 → t ≠ 18 → M' t = M t
def seP (L : List (List Op)) (V : Vw) (F : Nat → Int32) (n : Nat) (al : Int32) (m : Nat) (r : Int32 × Int32) : Prop := ∃ M : Mem, msP L V F n M ∧ r = seF M al m
theorem ok_X6_highest {w : Wd} {d : Nat} (hd : 7 ≤ d) {M : Mem} {n k : Nat} {L : List (List Op)} (hL : lawC M 0 L) (hn : M 1 0 6 = nI n) (hn8 : n ≤ 8) (hk : M 1 0 7 = nI k) (hk8 : k ≤ 8) (a x : Int32) : lr_Ok tC sC w d jX6_highest [vo 0 0, vi a, vi x] M (qX fun r M' => frQ M M' ∧ if (0 ≤ a ∧ a ≤ 5) ∧ 0 ≤ x ∧ x ≤ 1 then ∃ y, seP L (vwC M 0) (M 6 0) n (bitsF (M 7 0) k) a.toNatClampNeg y ∧ r = (if x = 0 then y.2 else y.1) else r = -2) := by
  refine lr_ok (by decide +kernel) rfl ?_
  refine ri_ild a_X6_highest_0 rfl ?_
  refine ri_ic a_X6_highest_1 ?_
  refine ri_cSpb (as := [vi a, vi 5]) (rest := []) (d' := d - 1) a_X6_highest_2 ms_X6_within ml_X6_102 (by omega) (ok_X6_within a 5) (Nat.le_of_ble_eq_true rfl) rfl (fun zc1 => ?_) (fun zc1 => ?_)
  · refine ri_if_eq a_X6_highest_5 (fun q => absurd q (by decide)) (fun _ => ?_)
    refine ri_ild a_X6_highest_8 rfl ?_
    refine ri_ic a_X6_highest_9 ?_
    refine ri_cSpb (as := [vi x, vi 1]) (rest := []) (d' := d - 1) a_X6_highest_10 ms_X6_within ml_X6_102 (by omega) (ok_X6_within x 1) (Nat.le_of_ble_eq_true rfl) rfl (fun zc2 => ?_) (fun zc2 => ?_)
    · refine ri_if_ne a_X6_highest_13 (fun _ => ?_) (fun q => absurd q (by decide))
      refine ri_ald a_X6_highest_19 rfl ?_
      refine ri_cVxv (as := []) (rest := []) (d' := d - 1) a_X6_highest_20 mv_X6_measureAll ml_X6_168 (rcC_0 iC_0) (by omega) (ok_X6_measureAll (by omega) hL hn hn8) (Nat.le_of_ble_eq_true rfl) rfl (fun zM3 hzM3 => ?_)
      refine ri_ald a_X6_highest_23 rfl ?_
      refine ri_getR (t' := 14) (i' := 0) a_X6_highest_24 fl_X6_45 kC_0_8 rfl iC_0 (Or.inr ⟨rfl, rfl, rfl⟩) ?_
      refine ri_ild a_X6_highest_27 rfl ?_
      refine ri_ald a_X6_highest_28 rfl ?_
      refine ri_getR (t' := 1) (i' := 0) a_X6_highest_29 fl_X6_10 kC_0_0 rfl iC_0 (Or.inr ⟨rfl, rfl, rfl⟩) ?_
      refine ri_cVpi (as := []) (rest := [vi a, vo 14 0]) (d' := d - 1) a_X6_highest_32 mv_X0_savedBits ml_X6_171 (rcC_1 (iC_1 (by decide))) (by omega) (ok_X0_savedBits (by decide) (by rw [hzM3.1 1 (by decide) (by decide) (by decide) (by decide)]; exact hk) hk8) (Nat.le_of_ble_eq_true rfl) rfl (fun zy4 ezy4 => ?_)
      obtain ⟨hf, hms⟩ := hzM3
      obtain ⟨m, hm, rfl⟩ := nI_of2 (n := 5) (M := 5) (by decide) (Int32.not_lt.mpr zc1.1) zc1.2
      rw [hf 7 (by decide) (by decide) (by decide) (by decide)] at ezy4
      refine ri_cVxv (as := [vi (nI m), vi zy4]) (rest := []) (d' := d - 1) a_X6_highest_35 mv_X3_run ml_X6_174 (rcC_14 iC_14) (by omega) (ok_X3_run (by omega) hm zy4) (Nat.le_of_ble_eq_true rfl) rfl (fun zM11 hzM11 => ?_)
      refine ri_ild a_X6_highest_38 rfl ?_
      refine ri_if_ne a_X6_highest_39 (fun zc12 => ?_) (fun zc12 => ?_)
      · refine ri_ald a_X6_highest_52 rfl ?_
        refine ri_getR (t' := 14) (i' := 0) a_X6_highest_53 fl_X6_45 kC_0_8 rfl iC_0 (Or.inr ⟨rfl, rfl, rfl⟩) ?_
        refine ri_getI a_X6_highest_56 fl_X6_181 kC_14_6 rfl iC_14 ?_
        refine ri_ireturn a_X6_highest_59 rfl rfl ?_
        have hg : frQ M zM11 := fun t h1 h2 h3 h4 h5 => by rw [hzM11.1 t h1, hf t h2 h3 h4 h5]
        exact rX ⟨hg, by rw [if_pos ⟨zc1, zc2⟩, nI_clamp (by omega), ← ezy4]; exact ⟨_, ⟨zM3, hms, rfl⟩, by rw [if_neg zc12, ← hzM11.2]; rfl⟩⟩
      · refine ri_ald a_X6_highest_42 rfl ?_
        refine ri_getR (t' := 14) (i' := 0) a_X6_highest_43 fl_X6_45 kC_0_8 rfl iC_0 (Or.inr ⟨rfl, rfl, rfl⟩) ?_
        refine ri_getI a_X6_highest_46 fl_X6_178 kC_14_7 rfl iC_14 ?_
        refine ri_goto a_X6_highest_49 ?_
        refine ri_ireturn a_X6_highest_59 rfl rfl ?_
        have hg : frQ M zM11 := fun t h1 h2 h3 h4 h5 => by rw [hzM11.1 t h1, hf t h2 h3 h4 h5]
        exact rX ⟨hg, by rw [if_pos ⟨zc1, zc2⟩, nI_clamp (by omega), ← ezy4]; exact ⟨_, ⟨zM3, hms, rfl⟩, by rw [if_pos zc12, ← hzM11.2]; rfl⟩⟩
    · refine ri_if_ne a_X6_highest_13 (fun q => absurd q (by decide)) (fun _ => ?_)
      refine ri_ic a_X6_highest_16 ?_
      refine ri_ireturn a_X6_highest_18 rfl rfl ?_
      exact rX ⟨fun _ _ _ _ _ _ => rfl, by rw [if_neg (fun q => zc2 q.2)]⟩
  · refine ri_if_eq a_X6_highest_5 (fun _ => ?_) (fun q => absurd q (by decide))
    refine ri_ic a_X6_highest_16 ?_
    refine ri_ireturn a_X6_highest_18 rfl rfl ?_
    exact rX ⟨fun _ _ _ _ _ _ => rfl, by rw [if_neg (fun q => zc1 q.1)]⟩

