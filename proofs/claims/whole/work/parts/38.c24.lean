/-! class: commands on sheets and ladders -/
theorem ok_X6_person {w : Wd} {d : Nat} (hd : 2 ≤ d) {M : Mem} {n : Nat} (hn : M 1 0 6 = nI n) (hn8 : n ≤ 8) (a b : Int32) : lr_Ok tC sC w d jX6_person [vo 0 0, vi a, vi b] M (qX fun r M' => if (0 ≤ a ∧ a ≤ 59) ∧ 0 ≤ b ∧ b ≤ 99999 then (if n < 8 then r = nI n ∧ M' = up (up (up (up (up (up M 2 0 n (a / 10)) 3 0 n (a - a / 10 * 10)) 4 0 n (b / 1000)) 5 0 n (b - b / 1000 * 1000)) 6 0 n 0) 1 0 6 (nI (n + 1)) else r = -4 ∧ M' = M) else r = -2 ∧ M' = M) := by
  refine lr_ok (by decide +kernel) rfl ?_
  refine ri_ald a_X6_person_0 rfl ?_
  refine ri_ild a_X6_person_1 rfl ?_
  refine ri_ild a_X6_person_2 rfl ?_
  refine ri_cVxi (as := [vi a, vi b]) (rest := []) (d' := d - 1) a_X6_person_3 mv_X6_join ml_X6_114 (rcC_0 iC_0) (by omega) (ok_X6_join (by omega) hn hn8 a b) (Nat.le_of_ble_eq_true rfl) rfl (fun zy1 zM2 hzy1 => ?_)
  refine ri_ireturn a_X6_person_6 rfl rfl ?_
  exact rX hzy1
theorem ok_X6_asks {w : Wd} {d : Nat} (hd : 3 ≤ d) {M : Mem} {n : Nat} {L : List (List Op)} (hL : lawC M 0 L) (hn : M 1 0 6 = nI n) (hn8 : n ≤ 8) (a p b : Int32) : lr_Ok tC sC w d jX6_asks [vo 0 0, vi a, vi p, vi b] M (qI (if (0 ≤ a ∧ a ≤ 2) ∧ (0 ≤ p ∧ p < M 1 0 6) ∧ 0 ≤ b ∧ b ≤ 7 then sayV L (vwC M 0) a.toNatClampNeg p.toNatClampNeg b else -2) M) := by
  refine lr_ok (by decide +kernel) rfl ?_
  refine ri_ild a_X6_asks_0 rfl ?_
  refine ri_ic a_X6_asks_1 ?_
  refine ri_cSpb (as := [vi a, vi 2]) (rest := []) (d' := d - 1) a_X6_asks_2 ms_X6_within ml_X6_102 (by omega) (ok_X6_within a 2) (Nat.le_of_ble_eq_true rfl) rfl (fun zc1 => ?_) (fun zc1 => ?_)
  · refine ri_if_eq a_X6_asks_5 (fun q => absurd q (by decide)) (fun _ => ?_)
    refine ri_ald a_X6_asks_8 rfl ?_
    refine ri_getR (t' := 1) (i' := 0) a_X6_asks_9 fl_X6_10 kC_0_0 rfl iC_0 (Or.inr ⟨rfl, rfl, rfl⟩) ?_
    refine ri_ild a_X6_asks_12 rfl ?_
    refine ri_cVpb (as := [vi p]) (rest := []) (d' := d - 1) a_X6_asks_13 mv_X0_has ml_X6_106 (rcC_1 (iC_1 (by decide))) (by omega) (ok_X0_has (by decide) p) (Nat.le_of_ble_eq_true rfl) rfl (fun zc2 => ?_) (fun zc2 => ?_)
    · refine ri_if_eq a_X6_asks_16 (fun q => absurd q (by decide)) (fun _ => ?_)
      refine ri_ild a_X6_asks_19 rfl ?_
      refine ri_ic a_X6_asks_20 ?_
      refine ri_cSpb (as := [vi b, vi 7]) (rest := []) (d' := d - 1) a_X6_asks_22 ms_X6_within ml_X6_102 (by omega) (ok_X6_within b 7) (Nat.le_of_ble_eq_true rfl) rfl (fun zc3 => ?_) (fun zc3 => ?_)
      · refine ri_if_ne a_X6_asks_25 (fun _ => ?_) (fun q => absurd q (by decide))
        obtain ⟨q, rfl, hq⟩ := inP zc2 hn hn8
        obtain ⟨t, ht, rfl⟩ := nI_of2 (n := 2) (M := 2) (by decide) (Int32.not_lt.mpr zc1.1) zc1.2
        rw [if_pos ⟨zc1, zc2, zc3⟩, nI_clamp (by omega), nI_clamp (by omega)]
        refine ri_ald a_X6_asks_31 rfl ?_
        refine ri_ald a_X6_asks_32 rfl ?_
        refine ri_getR (t' := 1) (i' := 0) a_X6_asks_33 fl_X6_10 kC_0_0 rfl iC_0 (Or.inr ⟨rfl, rfl, rfl⟩) ?_
        refine ri_ild a_X6_asks_36 rfl ?_
        refine ri_ild a_X6_asks_37 rfl ?_
        refine ri_ild a_X6_asks_38 rfl ?_
        refine ri_cVpi (as := [vo 1 0, vi (nI t), vi (nI q), vi b]) (rest := []) (d' := d - 1) a_X6_asks_39 mv_X6_says ml_X6_110 (rcC_0 iC_0) (by omega) (ok_X6_says (by omega) hL (by decide) (by omega) (by omega) b) (Nat.le_of_ble_eq_true rfl) rfl (fun zy11 ezy11 => ?_)
        refine ri_ireturn a_X6_asks_42 rfl rfl ?_
        exact rI ezy11 rfl
      · refine ri_if_ne a_X6_asks_25 (fun q => absurd q (by decide)) (fun _ => ?_)
        refine ri_ic a_X6_asks_28 ?_
        refine ri_ireturn a_X6_asks_30 rfl rfl ?_
        exact rI (by rw [if_neg (fun q => zc3 q.2.2)]) rfl
    · refine ri_if_eq a_X6_asks_16 (fun _ => ?_) (fun q => absurd q (by decide))
      refine ri_ic a_X6_asks_28 ?_
      refine ri_ireturn a_X6_asks_30 rfl rfl ?_
      exact rI (by rw [if_neg (fun q => zc2 q.2.1)]) rfl
  · refine ri_if_eq a_X6_asks_5 (fun _ => ?_) (fun q => absurd q (by decide))
    refine ri_ic a_X6_asks_28 ?_
    refine ri_ireturn a_X6_asks_30 rfl rfl ?_
    exact rI (by rw [if_neg (fun q => zc1 q.1)]) rfl
theorem nr0 {a b : Prop} [Decidable a] [Decidable b] (h : (if a then (-11 : Int32) else if b then 0 else -2) = 0) : ¬ a ∧ b := by
  by_cases ha : a
  · rw [if_pos ha] at h; exact absurd h (by decide)
  · rw [if_neg ha] at h
    by_cases hb : b
    · exact ⟨ha, hb⟩
    · rw [if_neg hb] at h; exact absurd h (by decide)
theorem nr1 {a b : Prop} [Decidable a] [Decidable b] {x : Int32} (h : ¬ (if a then (-11 : Int32) else if b then 0 else -2) = 0) : (if a then (-11 : Int32) else if b then 0 else -2) = if a then -11 else if b then x else -2 := by
  by_cases ha : a
  · rw [if_pos ha, if_pos ha]
  · rw [if_neg ha] at h ⊢
    rw [if_neg ha]
    by_cases hb : b
    · rw [if_pos hb] at h; exact absurd rfl h
    · rw [if_neg hb, if_neg hb]
theorem sr0 {a : Prop} [Decidable a] (h : (if a then (-11 : Int32) else 0) = 0) : ¬ a := fun q => by rw [if_pos q] at h; exact absurd h (by decide)
theorem sr1 {a : Prop} [Decidable a] (h : ¬ (if a then (-11 : Int32) else 0) = 0) : a ∧ (if a then (-11 : Int32) else 0) = -11 := by
  by_cases ha : a
  · exact ⟨ha, if_pos ha⟩
  · rw [if_neg ha] at h; exact absurd rfl h
theorem ok_X6_judge {w : Wd} {d : Nat} (hd : 5 ≤ d) {M : Mem} {q m k : Nat} {L : List (List Op)} {O : Nat → Nat} (hL : lawC M 0 L) (hq : q < 4) (hm : M 19 q 2 = nI m) (hm40 : m ≤ 40) (hk : M 1 0 7 = nI k) (hk8 : k ≤ 8) (hO : rowA (M 7 0) O k) : lr_Ok tC sC w d jX6_judge [vo 0 0, vi (nI q)] M (qI (if M 19 q 1 = -1 then -11 else if M 19 q 2 ≤ M 1 0 7 then foF L (vwC M 0) O (M 20 q) (min m k) 0 0 else -2) M) := by
  refine lr_ok (by decide +kernel) rfl ?_
  refine ri_ald a_X6_judge_0 rfl ?_
  refine ri_ild a_X6_judge_1 rfl ?_
  refine ri_cVpi (as := [vi (nI q)]) (rest := []) (d' := d - 1) a_X6_judge_2 mv_X6_nightRefusal ml_X6_215 (rcC_0 iC_0) (by omega) (ok_X6_nightRefusal (by omega) hq) (Nat.le_of_ble_eq_true rfl) rfl (fun zy1 ezy1 => ?_)
  refine ri_istk (ls' := [some (vo 0 0), some (vi (nI q)), some (vi zy1)]) a_X6_judge_5 rfl ?_
  refine ri_ild a_X6_judge_6 rfl ?_
  refine ri_if_eq a_X6_judge_7 (fun zc2 => ?_) (fun zc2 => ?_)
  · refine ri_ald a_X6_judge_12 rfl ?_
    refine ri_ald a_X6_judge_13 rfl ?_
    refine ri_getR (t' := 1) (i' := 0) a_X6_judge_14 fl_X6_10 kC_0_0 rfl iC_0 (Or.inr ⟨rfl, rfl, rfl⟩) ?_
    refine ri_ald a_X6_judge_17 rfl ?_
    refine ri_getR (t' := 22) (i' := 0) a_X6_judge_18 fl_X6_38 kC_0_7 rfl iC_0 (Or.inr ⟨rfl, rfl, rfl⟩) ?_
    refine ri_ild a_X6_judge_21 rfl ?_
    refine ri_aaloadE (k0 := q) a_X6_judge_22 lC_22 (by decide) iC_22 (nI_clamp (by omega)) (vp_in_nI hq (by decide)) ?_
    refine ri_cVpi (as := [vo 1 0, vo 19 q]) (rest := []) (d' := d - 1) a_X6_judge_23 mv_X6_firstOtherwise ml_X6_218 (rcC_0 iC_0) (by omega) (ok_X6_firstOtherwise (by omega) hL (by decide) hq hm hm40 hk hk8 hO) (Nat.le_of_ble_eq_true rfl) rfl (fun zy3 ezy3 => ?_)
    refine ri_ireturn a_X6_judge_26 rfl rfl ?_
    have h := nr0 (ezy1.symm.trans zc2)
    exact rI (by rw [if_neg h.1, if_pos h.2]; exact ezy3) rfl
  · refine ri_ild a_X6_judge_10 rfl ?_
    refine ri_ireturn a_X6_judge_11 rfl rfl ?_
    exact rI (by rw [ezy1] at zc2 ⊢; exact nr1 zc2) rfl
theorem no_X6_judge {w : Wd} {d : Nat} (hd : 5 ≤ d) {M : Mem} {s : Int32} (hs : ¬ (0 ≤ s ∧ s ≤ 3)) : lr_Ok tC sC w d jX6_judge [vo 0 0, vi s] M (qI (-2) M) := by
  refine lr_ok (by decide +kernel) rfl ?_
  refine ri_ald a_X6_judge_0 rfl ?_
  refine ri_ild a_X6_judge_1 rfl ?_
  refine ri_cVpi (as := [vi s]) (rest := []) (d' := d - 1) a_X6_judge_2 mv_X6_nightRefusal ml_X6_215 (rcC_0 iC_0) (by omega) (no_X6_nightRefusal (by omega) hs) (Nat.le_of_ble_eq_true rfl) rfl (fun zy1 ezy1 => ?_)
  refine ri_istk (ls' := [some (vo 0 0), some (vi s), some (vi zy1)]) a_X6_judge_5 rfl ?_
  refine ri_ild a_X6_judge_6 rfl ?_
  refine ri_if_eq a_X6_judge_7 (fun zc2 => ?_) (fun zc2 => ?_)
  · exact absurd zc2 (by rw [ezy1]; decide)
  · refine ri_ild a_X6_judge_10 rfl ?_
    refine ri_ireturn a_X6_judge_11 rfl rfl ?_
    exact rI ezy1 rfl
theorem ok_X6_cell {w : Wd} {d : Nat} (hd : 3 ≤ d) {M : Mem} {q m : Nat} (hq : q < 4) (hm : M 19 q 2 = nI m) (hm40 : m ≤ 40) (i v : Int32) : lr_Ok tC sC w d jX6_cell [vo 0 0, vi (nI q), vi i, vi v] M (qX fun r M' => if M 19 q 1 = -1 then r = -11 ∧ M' = M else if 0 ≤ i ∧ i < M 19 q 2 then r = 1 ∧ M' = up M 20 q i.toNatClampNeg (narV (M 19 q 1) v) else r = -12 ∧ M' = M) := by
  refine lr_ok (by decide +kernel) rfl ?_
  refine ri_ald a_X6_cell_0 rfl ?_
  refine ri_ild a_X6_cell_1 rfl ?_
  refine ri_cVpi (as := [vi (nI q)]) (rest := []) (d' := d - 1) a_X6_cell_2 mv_X6_sheetRefusal ml_X6_151 (rcC_0 iC_0) (by omega) (ok_X6_sheetRefusal (by omega) hq) (Nat.le_of_ble_eq_true rfl) rfl (fun zy1 ezy1 => ?_)
  refine ri_istk (ls' := [some (vo 0 0), some (vi (nI q)), some (vi i), some (vi v), some (vi zy1), none]) a_X6_cell_5 rfl ?_
  refine ri_ild a_X6_cell_7 rfl ?_
  refine ri_if_eq a_X6_cell_9 (fun zc2 => ?_) (fun zc2 => ?_)
  · refine ri_ald a_X6_cell_15 rfl ?_
    refine ri_getR (t' := 22) (i' := 0) a_X6_cell_16 fl_X6_38 kC_0_7 rfl iC_0 (Or.inr ⟨rfl, rfl, rfl⟩) ?_
    refine ri_ild a_X6_cell_19 rfl ?_
    refine ri_aaloadE (k0 := q) a_X6_cell_20 lC_22 (by decide) iC_22 (nI_clamp (by omega)) (vp_in_nI hq (by decide)) ?_
    refine ri_ast (ls' := [some (vo 0 0), some (vi (nI q)), some (vi i), some (vi v), some (vi zy1), some (vo 19 q)]) a_X6_cell_21 rfl ?_
    refine ri_ald a_X6_cell_23 rfl ?_
    refine ri_ild a_X6_cell_25 rfl ?_
    refine ri_cVpb (as := [vi i]) (rest := []) (d' := d - 1) a_X6_cell_26 mv_X4_has ml_X6_243 (rcC_19 (iC_19 (by assumption))) (by omega) (ok_X4_has (by assumption) i) (Nat.le_of_ble_eq_true rfl) rfl (fun zc3 => ?_) (fun zc3 => ?_)
    · refine ri_if_ne a_X6_cell_29 (fun _ => ?_) (fun q => absurd q (by decide))
      refine ri_ald a_X6_cell_35 rfl ?_
      refine ri_ild a_X6_cell_37 rfl ?_
      refine ri_ild a_X6_cell_38 rfl ?_
      refine ri_cVxv (as := [vi i, vi v]) (rest := []) (d' := d - 1) a_X6_cell_39 mv_X4_write ml_X6_236 (rcC_19 (iC_19 (by assumption))) (by omega) (ok_X4_write (by omega) hq i v hm hm40) (Nat.le_of_ble_eq_true rfl) rfl (fun zM4 hzM4 => ?_)
      refine ri_ic a_X6_cell_42 ?_
      refine ri_ireturn a_X6_cell_43 rfl rfl ?_
      have h := sr0 (ezy1.symm.trans zc2)
      exact rX (by rw [if_neg h, if_pos zc3]; exact ⟨rfl, by rw [hzM4, if_pos (hm ▸ zc3)]⟩)
    · refine ri_if_ne a_X6_cell_29 (fun q => absurd q (by decide)) (fun _ => ?_)
      refine ri_ic a_X6_cell_32 ?_
      refine ri_ireturn a_X6_cell_34 rfl rfl ?_
      have h := sr0 (ezy1.symm.trans zc2)
      exact rX (by rw [if_neg h, if_neg zc3]; exact ⟨rfl, rfl⟩)
  · refine ri_ild a_X6_cell_12 rfl ?_
    refine ri_ireturn a_X6_cell_14 rfl rfl ?_
    rw [ezy1] at zc2 ⊢
    obtain ⟨h1, h2⟩ := sr1 zc2
    exact rX (by rw [if_pos h1]; exact ⟨h2, rfl⟩)
theorem no_X6_cell {w : Wd} {d : Nat} (hd : 3 ≤ d) {M : Mem} {s : Int32} (hs : ¬ (0 ≤ s ∧ s ≤ 3)) (i v : Int32) : lr_Ok tC sC w d jX6_cell [vo 0 0, vi s, vi i, vi v] M (qI (-2) M) := by
  refine lr_ok (by decide +kernel) rfl ?_
  refine ri_ald a_X6_cell_0 rfl ?_
  refine ri_ild a_X6_cell_1 rfl ?_
  refine ri_cVpi (as := [vi s]) (rest := []) (d' := d - 1) a_X6_cell_2 mv_X6_sheetRefusal ml_X6_151 (rcC_0 iC_0) (by omega) (no_X6_sheetRefusal (by omega) hs) (Nat.le_of_ble_eq_true rfl) rfl (fun zy1 ezy1 => ?_)
  refine ri_istk (ls' := [some (vo 0 0), some (vi s), some (vi i), some (vi v), some (vi zy1), none]) a_X6_cell_5 rfl ?_
  refine ri_ild a_X6_cell_7 rfl ?_
  refine ri_if_eq a_X6_cell_9 (fun zc2 => ?_) (fun zc2 => ?_)
  · exact absurd zc2 (by rw [ezy1]; decide)
  · refine ri_ild a_X6_cell_12 rfl ?_
    refine ri_ireturn a_X6_cell_14 rfl rfl ?_
    exact rI ezy1 rfl
theorem ok_X6_stand {w : Wd} {d : Nat} (hd : 6 ≤ d) {M : Mem} {q m n : Nat} {L : List (List Op)} (hL : lawC M 0 L) (hq : q < 4) (hm : M 19 q 2 = nI m) (hm40 : m ≤ 40) (hn : M 1 0 6 = nI n) (hn8 : n ≤ 8) (x : Int32) (R : Nat → Nat) (hR : m ≤ 8 → tkr (M 20 q) (M 1 0 6) m 0 0 = true → rowA (M 20 q) R m) : lr_Ok tC sC w d jX6_stand [vo 0 0, vi (nI q), vi x] M (qX fun r M' => frT 23 M M' ∧ r = if M 19 q 1 = -1 then -11 else if m ≤ 8 ∧ tkr (M 20 q) (M 1 0 6) m 0 0 = true then (if 0 ≤ x ∧ x ≤ 2 then meaV L (vwC M 0) (M 6 0) R m x else -7) else -2) := by
  refine lr_ok (by decide +kernel) rfl ?_
  refine ri_ald a_X6_stand_0 rfl ?_
  refine ri_ild a_X6_stand_1 rfl ?_
  refine ri_cVpi (as := [vi (nI q)]) (rest := []) (d' := d - 1) a_X6_stand_2 mv_X6_sheetRefusal ml_X6_151 (rcC_0 iC_0) (by omega) (ok_X6_sheetRefusal (by omega) hq) (Nat.le_of_ble_eq_true rfl) rfl (fun zy1 ezy1 => ?_)
  refine ri_istk (ls' := [some (vo 0 0), some (vi (nI q)), some (vi x), some (vi zy1), none]) a_X6_stand_5 rfl ?_
  refine ri_ild a_X6_stand_6 rfl ?_
  refine ri_if_eq a_X6_stand_7 (fun zc2 => ?_) (fun zc2 => ?_)
  · refine ri_ald a_X6_stand_12 rfl ?_
    refine ri_ald a_X6_stand_13 rfl ?_
    refine ri_getR (t' := 22) (i' := 0) a_X6_stand_14 fl_X6_38 kC_0_7 rfl iC_0 (Or.inr ⟨rfl, rfl, rfl⟩) ?_
    refine ri_ild a_X6_stand_17 rfl ?_
    refine ri_aaloadE (k0 := q) a_X6_stand_18 lC_22 (by decide) iC_22 (nI_clamp (by omega)) (vp_in_nI hq (by decide)) ?_
    refine ri_cVxi (as := [vo 19 q]) (rest := []) (d' := d - 1) a_X6_stand_19 mv_X6_takeRow ml_X6_154 (rcC_0 iC_0) (by omega) (ok_X6_takeRow (by omega) hq hm hm40) (Nat.le_of_ble_eq_true rfl) rfl (fun zy3 zM4 hzy3 => ?_)
    refine ri_istk (ls' := [some (vo 0 0), some (vi (nI q)), some (vi x), some (vi zy1), some (vi zy3)]) a_X6_stand_22 rfl ?_
    refine ri_ild a_X6_stand_24 rfl ?_
    refine ri_ic a_X6_stand_26 ?_
    refine ri_icmp_ne a_X6_stand_27 (fun zc5 => ?_) (fun zc5 => ?_)
    · refine ri_ild a_X6_stand_33 rfl ?_
      refine ri_ic a_X6_stand_34 ?_
      refine ri_cSpb (as := [vi x, vi 2]) (rest := []) (d' := d - 1) a_X6_stand_35 ms_X6_within ml_X6_102 (by omega) (ok_X6_within x 2) (Nat.le_of_ble_eq_true rfl) rfl (fun zc6 => ?_) (fun zc6 => ?_)
      · refine ri_if_ne a_X6_stand_38 (fun _ => ?_) (fun q => absurd q (by decide))
        obtain ⟨hf, hc⟩ := hzy3
        have h1 := sr0 (ezy1.symm.trans zc2)
        by_cases h : m ≤ 8 ∧ tkr (M 20 q) (M 1 0 6) m 0 0 = true
        · rw [if_pos h] at hc
          obtain ⟨ez, hrow⟩ := hc
          have hrow2 : rowA (zM4 23 0) R m := fun i hi => by rw [hrow i hi]; exact hR h.1 h.2 i hi
          have hme := ok_X6_measure_r (w := w) (d := d - 1) (c := 0) (by omega) (lawC_fr (hf 1 (by decide)) (hf 9 (by decide)) (hf 10 (by decide)) hL) (by decide) h.1 hrow2 x
          rw [vwC_fr (hf 1 (by decide)) (hf 2 (by decide)) (hf 3 (by decide)) (hf 4 (by decide)) (hf 5 (by decide)), hf 6 (by decide)] at hme
          rw [if_neg h1, if_pos h, if_pos zc6, ez]
          refine ri_ald a_X6_stand_44 rfl ?_
          refine ri_ald a_X6_stand_45 rfl ?_
          refine ri_getR (t' := 1) (i' := 0) a_X6_stand_46 fl_X6_10 kC_0_0 rfl iC_0 (Or.inr ⟨rfl, rfl, rfl⟩) ?_
          refine ri_ald a_X6_stand_49 rfl ?_
          refine ri_getR (t' := 23) (i' := 0) a_X6_stand_50 fl_X6_49 kC_0_9 rfl iC_0 (Or.inr ⟨rfl, rfl, rfl⟩) ?_
          refine ri_ild a_X6_stand_53 rfl ?_
          refine ri_ild a_X6_stand_55 rfl ?_
          refine ri_cVpi (as := [vo 1 0, vo 23 0, vi (nI m), vi x]) (rest := []) (d' := d - 1) a_X6_stand_56 mv_X6_measure ml_X6_147 (rcC_0 iC_0) (by omega) (hme) (Nat.le_of_ble_eq_true rfl) rfl (fun zy11 ezy11 => ?_)
          refine ri_ireturn a_X6_stand_59 rfl rfl ?_
          exact rX ⟨hf, ezy11⟩
        · rw [if_neg h] at hc
          exact absurd hc zc5
      · refine ri_if_ne a_X6_stand_38 (fun q => absurd q (by decide)) (fun _ => ?_)
        refine ri_ic a_X6_stand_41 ?_
        refine ri_ireturn a_X6_stand_43 rfl rfl ?_
        obtain ⟨hf, hc⟩ := hzy3
        have h1 := sr0 (ezy1.symm.trans zc2)
        by_cases h : m ≤ 8 ∧ tkr (M 20 q) (M 1 0 6) m 0 0 = true
        · exact rX ⟨hf, by rw [if_neg h1, if_pos h, if_neg zc6]⟩
        · rw [if_neg h] at hc
          exact absurd hc zc5
    · refine ri_ic a_X6_stand_30 ?_
      refine ri_ireturn a_X6_stand_32 rfl rfl ?_
      obtain ⟨hf, hc⟩ := hzy3
      have h1 := sr0 (ezy1.symm.trans zc2)
      by_cases h : m ≤ 8 ∧ tkr (M 20 q) (M 1 0 6) m 0 0 = true
      · rw [if_pos h, zc5] at hc
        exact absurd hc.1.symm (nI_m1n (by omega))
      · exact rX ⟨hf, by rw [if_neg h1, if_neg h]⟩
  · refine ri_ild a_X6_stand_10 rfl ?_
    refine ri_ireturn a_X6_stand_11 rfl rfl ?_
    rw [ezy1] at zc2 ⊢
    obtain ⟨h1, h2⟩ := sr1 zc2
    exact rX ⟨frT_refl, by rw [if_pos h1, if_pos h1]⟩

