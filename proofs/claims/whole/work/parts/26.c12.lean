/-! class: Reader: one, and what opens there -/
/-- what stands behind a minus -/
def pOpp (tp : Nat → Int32) (n : Nat) (rec : PRec) (s : PS) : PR := match rec with
  | none => .inl s.2.1
  | some r => match r.2.1 (pnx tp n s) with
    | .inl p => .inl p
    | .inr x => .inr (x.1, x.2 ++ [(2, 1)])
/-- what stands in brackets -/
def pBra (tp : Nat → Int32) (n : Nat) (rec : PRec) (s : PS) : PR := match rec with
  | none => .inl s.2.1
  | some r => match r.1 (pnx tp n s) with
    | .inl p => .inl p
    | .inr x => if x.1.1 = (4, 41) then .inr (pnx tp n x.1, x.2) else .inl x.1.2.1
theorem pOne_o {tp : Nat → Int32} {n : Nat} {rec : PRec} {s : PS} (hA : ¬ s.1.1 = 2) (hB : ¬ (s.1.1 = 3 ∧ 6 ≤ s.1.2)) (hC : s.1 = (4, 45)) : pOne tp n rec s = pOpp tp n rec s := by
  unfold pOne
  rw [if_neg hA, if_neg hB, if_pos hC]
  rfl
theorem pOne_r {tp : Nat → Int32} {n : Nat} {rec : PRec} {s : PS} (hA : ¬ s.1.1 = 2) (hB : ¬ (s.1.1 = 3 ∧ 6 ≤ s.1.2)) (hC : ¬ s.1 = (4, 45)) (hE : s.1 = (4, 40)) : pOne tp n rec s = pBra tp n rec s := by
  unfold pOne
  rw [if_neg hA, if_neg hB, if_neg hC, if_pos hE]
  rfl
theorem lv_opposite {w : Wd} {t n D b : Nat} {tp : Nat → Int32} {rec : PRec} (ht : t < 6) (hn : n ≤ 160) (hD : 7 ≤ D) (hb : b ≤ 5)
    (h0 : b = 0 → rec = none) (h1 : ∀ b', b = b' + 1 → ∃ r, rec = some r ∧ LvG w t n D b' jX2_either tp r.1 ∧ LvG w t n D b' jX2_one tp r.2.1 ∧ ∃ e, Gd n e r.1 ∧ Gd n e r.2.1) : LvS w t n (D + 1) b (4, 45) jX2_opposite tp (pOpp tp n rec) := by
  intro d M s z _ rfl hd htp hg hz hk
  refine lr_ok (ls := [some (vo 12 0), some (vi (nI (5 - b)))]) (by decide +kernel) rfl ?_
  have hs1 := hg.2.2.2.1
  have hs2 := hg.2.2.2.2.1
  have hsn := hs1.2.1
  have hnx := (pnx_ok tp hs1).2
  have hlt := hs1.2.2.2 (by rw [hk]; decide)
  unfold pOpp
  rcases Nat.eq_zero_or_pos b with hb0 | hb0
  · rw [h0 hb0]
    refine ri_ald a_X2_opposite_0 rfl ?_
    refine ri_ild a_X2_opposite_1 rfl ?_
    refine ri_cVxi (as := [vi (nI (5 - b))]) (rest := []) (d' := d - 1) a_X2_opposite_2 mv_X2_mayOpen ml_X2_73 (rcC_12 iC_12) (by omega) (ok_X2_mayOpen0 (by omega) (by omega) (by omega)) (Nat.le_of_ble_eq_true rfl) rfl (fun zy1 zM2 hzy1 => ?_)
    refine ri_if_eq a_X2_opposite_5 (fun zc3 => ?_) (fun zc3 => ?_)
    · refine ri_return a_X2_opposite_28 rfl ?_
      rw [hzy1.2]; exact rV ⟨fl_frP, fl_good hn hg⟩
    · exact absurd hzy1.1 zc3
  · obtain ⟨b', rfl⟩ : ∃ b', b = b' + 1 := ⟨b - 1, by omega⟩
    obtain ⟨r, hr, hG1, hG2, dp2, hgd1, hgd2⟩ := h1 b' rfl
    rw [hr]
    dsimp only
    have hop : nI (5 - (b' + 1)) + 1 = nI (5 - b') := by rw [nI_1]; congr 1; omega
    refine ri_ald a_X2_opposite_0 rfl ?_
    refine ri_ild a_X2_opposite_1 rfl ?_
    refine ri_cVpk (as := [vi (nI (5 - (b' + 1)))]) (rest := []) (d' := d - 1) a_X2_opposite_2 mv_X2_mayOpen ml_X2_73 (rcC_12 iC_12) (by omega) (ok_X2_mayOpen1 (by omega)) (Nat.le_of_ble_eq_true rfl) rfl ?_
    refine ri_if_eq a_X2_opposite_5 (fun q => absurd q (by decide)) (fun _ => ?_)
    refine ri_ald a_X2_opposite_8 rfl ?_
    refine ri_cVxv (as := []) (rest := []) (d' := d - 1) a_X2_opposite_9 mv_X2_advance ml_X2_45 (rcC_12 iC_12) (by omega) (ok_adv (by omega) hn hg) (Nat.le_of_ble_eq_true rfl) rfl (fun zM1 hzM1 => ?_)
    rw [htp] at hzM1
    obtain ⟨a1, a2, a3⟩ := hzM1
    have htp2 : zM1 13 0 = tp := (frP_tp (frm_P (t := t) a1)).trans htp
    refine ri_ald a_X2_opposite_12 rfl ?_
    refine ri_ild a_X2_opposite_13 rfl ?_
    refine ri_ic a_X2_opposite_14 ?_
    refine ri_iadd a_X2_opposite_15 ?_
    refine ri_cVxv (as := [vi ((nI (5 - (b' + 1))) + 1)]) (rest := []) (d' := d - 1) a_X2_opposite_16 mv_X2_one ml_X2_83 (rcC_12 iC_12) (by omega) (hG2 (d - 1) zM1 (pnx tp n s) z _ hop (by omega) htp2 a2 a3) (Nat.le_of_ble_eq_true rfl) rfl (fun zM31 hzM31 => ?_)
    obtain ⟨b1, b2⟩ := hzM31
    cases hres : r.2.1 (pnx tp n s) with
    | inl p =>
      rw [hres] at b2
      have b2 : bR t n zM31 p := b2
      have hl7 := b2.1.2
      obtain ⟨zz, hz1, hz2⟩ := b2.2.2.2.2
      refine ri_ald a_X2_opposite_19 rfl ?_
      refine ri_getVe (t0 := t) a_X2_opposite_20 fl_X2_36 kC_12_7 rfl iC_12 (by assumption) (by omega) ?_
      refine ri_ic a_X2_opposite_23 ?_
      refine ri_cVxv (as := [vi (-126)]) (rest := []) (d' := d - 1) a_X2_opposite_25 mv_X1_append ml_X2_61 (rcC_8 (iC_8 (by assumption))) (by omega) (ok_app ht (-126) hz2 hz1) (Nat.le_of_ble_eq_true rfl) rfl (fun zM41 hzM41 => ?_)
      refine ri_return a_X2_opposite_28 rfl ?_
      rw [hzM41]; exact rV ⟨frP_tr (frP_tr (frm_P a1) b1) app_frP, app_bad b2 hz1 hz2⟩
    | inr y =>
      rw [hres] at b2
      obtain ⟨b2, b3, b4, b5⟩ := b2
      have hl7 := b2.1.2
      have hl8 := b2.2.2.2.2.2.1
      obtain ⟨q1, q2, q3, q4⟩ := hgd2 _ _ a2.2.2.2.1 a2.2.2.2.2.1 hres
      have hyn := q1.1
      have hyl := q1.2.2.1
      have hsz : z + y.2.length < 160 := by omega
      refine ri_ald a_X2_opposite_19 rfl ?_
      refine ri_getVe (t0 := t) a_X2_opposite_20 fl_X2_36 kC_12_7 rfl iC_12 (by assumption) (by omega) ?_
      refine ri_ic a_X2_opposite_23 ?_
      refine ri_cVxv (as := [vi (-126)]) (rest := []) (d' := d - 1) a_X2_opposite_25 mv_X1_append ml_X2_61 (rcC_8 (iC_8 (by assumption))) (by omega) (ok_app ht (-126) hl8 (by omega)) (Nat.le_of_ble_eq_true rfl) rfl (fun zM41 hzM41 => ?_)
      refine ri_return a_X2_opposite_28 rfl ?_
      rw [hzM41]
      obtain ⟨e1, e2, e3, e4⟩ := pst_op (x := -126) (op := (2, 1)) (frP_tr (frm_P a1) b1) (fun k hk => (b4 k hk).trans (a1 9 t k (fun q => absurd q.1 (by decide)))) b5 b2 hsz (by omega) (by decide)
      exact rV ⟨e1, e2, by simp only [List.length_append, List.length_cons, List.length_nil]; omega, e3, e4⟩
theorem lv_bracket {w : Wd} {t n D b : Nat} {tp : Nat → Int32} {rec : PRec} (ht : t < 6) (hn : n ≤ 160) (hD : 7 ≤ D) (hb : b ≤ 5)
    (h0 : b = 0 → rec = none) (h1 : ∀ b', b = b' + 1 → ∃ r, rec = some r ∧ LvG w t n D b' jX2_either tp r.1 ∧ LvG w t n D b' jX2_one tp r.2.1 ∧ ∃ e, Gd n e r.1 ∧ Gd n e r.2.1) : LvS w t n (D + 1) b (4, 40) jX2_bracket tp (pBra tp n rec) := by
  intro d M s z _ rfl hd htp hg hz hk
  refine lr_ok (ls := [some (vo 12 0), some (vi (nI (5 - b)))]) (by decide +kernel) rfl ?_
  have hs1 := hg.2.2.2.1
  have hs2 := hg.2.2.2.2.1
  have hsn := hs1.2.1
  have hnx := (pnx_ok tp hs1).2
  have hlt := hs1.2.2.2 (by rw [hk]; decide)
  unfold pBra
  rcases Nat.eq_zero_or_pos b with hb0 | hb0
  · rw [h0 hb0]
    refine ri_ald a_X2_bracket_0 rfl ?_
    refine ri_ild a_X2_bracket_1 rfl ?_
    refine ri_cVxi (as := [vi (nI (5 - b))]) (rest := []) (d' := d - 1) a_X2_bracket_2 mv_X2_mayOpen ml_X2_73 (rcC_12 iC_12) (by omega) (ok_X2_mayOpen0 (by omega) (by omega) (by omega)) (Nat.le_of_ble_eq_true rfl) rfl (fun zy1 zM2 hzy1 => ?_)
    refine ri_if_eq a_X2_bracket_5 (fun zc3 => ?_) (fun zc3 => ?_)
    · refine ri_return a_X2_bracket_25 rfl ?_
      rw [hzy1.2]; exact rV ⟨fl_frP, fl_good hn hg⟩
    · exact absurd hzy1.1 zc3
  · obtain ⟨b', rfl⟩ : ∃ b', b = b' + 1 := ⟨b - 1, by omega⟩
    obtain ⟨r, hr, hG1, hG2, dp2, hgd1, hgd2⟩ := h1 b' rfl
    rw [hr]
    dsimp only
    have hop : nI (5 - (b' + 1)) + 1 = nI (5 - b') := by rw [nI_1]; congr 1; omega
    refine ri_ald a_X2_bracket_0 rfl ?_
    refine ri_ild a_X2_bracket_1 rfl ?_
    refine ri_cVpk (as := [vi (nI (5 - (b' + 1)))]) (rest := []) (d' := d - 1) a_X2_bracket_2 mv_X2_mayOpen ml_X2_73 (rcC_12 iC_12) (by omega) (ok_X2_mayOpen1 (by omega)) (Nat.le_of_ble_eq_true rfl) rfl ?_
    refine ri_if_eq a_X2_bracket_5 (fun q => absurd q (by decide)) (fun _ => ?_)
    refine ri_ald a_X2_bracket_8 rfl ?_
    refine ri_cVxv (as := []) (rest := []) (d' := d - 1) a_X2_bracket_9 mv_X2_advance ml_X2_45 (rcC_12 iC_12) (by omega) (ok_adv (by omega) hn hg) (Nat.le_of_ble_eq_true rfl) rfl (fun zM1 hzM1 => ?_)
    rw [htp] at hzM1
    obtain ⟨a1, a2, a3⟩ := hzM1
    have htp2 : zM1 13 0 = tp := (frP_tp (frm_P (t := t) a1)).trans htp
    refine ri_ald a_X2_bracket_12 rfl ?_
    refine ri_ild a_X2_bracket_13 rfl ?_
    refine ri_ic a_X2_bracket_14 ?_
    refine ri_iadd a_X2_bracket_15 ?_
    refine ri_cVxv (as := [vi ((nI (5 - (b' + 1))) + 1)]) (rest := []) (d' := d - 1) a_X2_bracket_16 mv_X2_either ml_X2_52 (rcC_12 iC_12) (by omega) (hG1 (d - 1) zM1 (pnx tp n s) z _ hop (by omega) htp2 a2 a3) (Nat.le_of_ble_eq_true rfl) rfl (fun zM31 hzM31 => ?_)
    obtain ⟨b1, b2⟩ := hzM31
    cases hres : r.1 (pnx tp n s) with
    | inl p =>
      rw [hres] at b2
      have b2 : bR t n zM31 p := b2
      refine ri_ald a_X2_bracket_19 rfl ?_
      refine ri_ic a_X2_bracket_20 ?_
      refine ri_cVxv (as := [vi 41]) (rest := []) (d' := d - 1) a_X2_bracket_22 mv_X2_expect ml_X2_48 (rcC_12 iC_12) (by omega) (ok_X2_expect0 (by omega) 41 (by rw [b2.2.2.2.1]; decide)) (Nat.le_of_ble_eq_true rfl) rfl (fun zM41 hzM41 => ?_)
      refine ri_return a_X2_bracket_25 rfl ?_
      rw [hzM41]; exact rV ⟨frP_tr (frP_tr (frm_P a1) b1) fl_frP, fl_bad hn b2⟩
    | inr y =>
      rw [hres] at b2
      obtain ⟨b2, b3, b4, b5⟩ := b2
      have htok2 : zM31 12 0 3 = tkc y.1.1 := b2.2.2.1.2.1
      have hy2 := b2.2.2.2.2.1
      have htp3 : zM31 13 0 = tp := (frP_tp b1).trans htp2
      dsimp only
      by_cases h41 : y.1.1 = (4, 41)
      · rw [if_pos h41]
        refine ri_ald a_X2_bracket_19 rfl ?_
        refine ri_ic a_X2_bracket_20 ?_
        refine ri_cVxv (as := [vi 41]) (rest := []) (d' := d - 1) a_X2_bracket_22 mv_X2_expect ml_X2_48 (rcC_12 iC_12) (by omega) (ok_X2_expect1 (by omega) hn b2 41 (by rw [h41]; decide) (by decide)) (Nat.le_of_ble_eq_true rfl) rfl (fun zM41 hzM41 => ?_)
        refine ri_return a_X2_bracket_25 rfl ?_
        rw [htp3] at hzM41
        obtain ⟨f1, f2, f3⟩ := hzM41
        exact rV ⟨frP_tr (frP_tr (frm_P a1) b1) (frm_P f1), f2, f3, fun k hk => (f1 9 t k (fun q => absurd q.1 (by decide))).trans ((b4 k hk).trans (a1 9 t k (fun q => absurd q.1 (by decide)))), fun k o hk => (f1 9 t _ (fun q => absurd q.1 (by decide))).trans (b5 k o hk)⟩
      · rw [if_neg h41]
        have n41 : ¬ zM31 12 0 3 = 41 := by
          rw [htok2, show (41 : Int32) = tkc (4, 41) from rfl, tkc_is hy2 (by decide)]
          exact h41
        refine ri_ald a_X2_bracket_19 rfl ?_
        refine ri_ic a_X2_bracket_20 ?_
        refine ri_cVxv (as := [vi 41]) (rest := []) (d' := d - 1) a_X2_bracket_22 mv_X2_expect ml_X2_48 (rcC_12 iC_12) (by omega) (ok_X2_expect0 (by omega) 41 n41) (Nat.le_of_ble_eq_true rfl) rfl (fun zM41 hzM41 => ?_)
        refine ri_return a_X2_bracket_25 rfl ?_
        rw [hzM41]; exact rV ⟨frP_tr (frP_tr (frm_P a1) b1) fl_frP, fl_good hn b2⟩
theorem lv_one {w : Wd} {t n D b : Nat} {tp : Nat → Int32} {rec : PRec} (ht : t < 6) (hn : n ≤ 160) (hD : 7 ≤ D) (hb : b ≤ 5)
    (h0 : b = 0 → rec = none) (h1 : ∀ b', b = b' + 1 → ∃ r, rec = some r ∧ LvG w t n D b' jX2_either tp r.1 ∧ LvG w t n D b' jX2_one tp r.2.1 ∧ ∃ e, Gd n e r.1 ∧ Gd n e r.2.1) : LvG w t n (D + 2) b jX2_one tp (pOne tp n rec) ∧ LvB w t n (D + 2) b jX2_one := by
  have hO := lv_opposite ht hn hD hb h0 h1
  have hR := lv_bracket ht hn hD hb h0 h1
  constructor
  · intro d M s z _ rfl hd htp hg hz
    refine lr_ok (ls := [some (vo 12 0), some (vi (nI (5 - b)))]) (by decide +kernel) rfl ?_
    have htok : M 12 0 3 = tkc s.1 := hg.2.2.1.2.1
    have hnum : s.1.1 = 2 → M 12 0 5 = nI s.1.2 := hg.2.2.1.2.2.2
    have hs1 := hg.2.2.2.1
    have hs2 := hg.2.2.2.2.1
    have hl7 := hg.1.2
    have hl8 := hg.2.2.2.2.2.1
    have hsn := hs1.2.1
    have hnx := (pnx_ok tp hs1).2
    have is3 : M 12 0 3 = 3 ↔ s.1.1 = 2 := by rw [htok]; exact tkc_num hs2
    have isN : (10 ≤ M 12 0 3 ∧ M 12 0 3 ≤ 15) ↔ (s.1.1 = 3 ∧ 6 ≤ s.1.2) := by rw [htok]; exact tkc_nm hs2
    have is45 : M 12 0 3 = 45 ↔ s.1 = (4, 45) := by rw [htok, show (45 : Int32) = tkc (4, 45) from rfl]; exact tkc_is hs2 (by decide)
    have is40 : M 12 0 3 = 40 ↔ s.1 = (4, 40) := by rw [htok, show (40 : Int32) = tkc (4, 40) from rfl]; exact tkc_is hs2 (by decide)
    -- a leaf
    have leaf : ∀ (op : Op) (M2 : Mem), s.1.1 ≠ 0 → (frm [2, 3, 4, 5] (app M t z (encC op)) M2 ∧ gR t n M2 (pnx (app M t z (encC op) 13 0) n s) (z + 1) ∧ z + 1 ≤ (pnx (app M t z (encC op) 13 0) n s).2.1) → pst t n M z (.inr (pnx tp n s, [op])) M2 := by
      intro op M2 hk h
      have hlt := hs1.2.2.2 hk
      obtain ⟨a1, a2, a3⟩ := app_good hg (by omega) (by omega) (x := encC op)
      rw [frP_tp (app_frP (t := t) (z := z) (M := M) (x := encC op)), htp] at h
      obtain ⟨c1, c2, c3⟩ := h
      refine ⟨frP_tr app_frP (frm_P c1), c2, c3, fun k hk => (c1 9 t k (fun q => absurd q.1 (by decide))).trans (a2 k hk), fun k o hk => ?_⟩
      have hk0 : k = 0 := by
        cases k with
        | zero => rfl
        | succ m => simp at hk
      subst hk0
      simp at hk
      subst hk
      exact (c1 9 t z (fun q => absurd q.1 (by decide))).trans a3
    by_cases hA : s.1.1 = 2
    · unfold pOne
      rw [if_pos hA]
      have hlt := hs1.2.2.2 (by omega)
      have hv : M 12 0 5 = encC (0, s.1.2) := by rw [hnum hA, (tkC_0 rfl).1]
      obtain ⟨a1, a2, a3⟩ := app_good hg (by omega) (by omega) (x := encC (0, s.1.2))
      refine ri_ald a_X2_one_0 rfl ?_
      refine ri_getI a_X2_one_1 fl_X2_24 kC_12_3 rfl iC_12 ?_
      refine ri_ic a_X2_one_4 ?_
      refine ri_icmp_ne a_X2_one_5 (fun zc1 => ?_) (fun zc1 => ?_)
      · exact absurd (is3.mpr hA) zc1
      · refine ri_ald a_X2_one_8 rfl ?_
        refine ri_getVe (t0 := t) a_X2_one_9 fl_X2_36 kC_12_7 rfl iC_12 (by assumption) (by omega) ?_
        refine ri_ald a_X2_one_12 rfl ?_
        refine ri_getI a_X2_one_13 fl_X2_30 kC_12_5 rfl iC_12 ?_
        refine ri_cVxv (as := [vi (M 12 0 5)]) (rest := []) (d' := d - 1) a_X2_one_16 mv_X1_append ml_X2_61 (rcC_8 (iC_8 (by assumption))) (by omega) (ok_app ht (M 12 0 5) hl8 (by omega)) (Nat.le_of_ble_eq_true rfl) rfl (fun zM2 hzM2 => ?_)
        rw [hv] at hzM2
        rw [← hzM2] at a1
        refine ri_ald a_X2_one_19 rfl ?_
        refine ri_cVxv (as := []) (rest := []) (d' := d - 1) a_X2_one_20 mv_X2_advance ml_X2_45 (rcC_12 iC_12) (by omega) (ok_adv (by omega) hn a1) (Nat.le_of_ble_eq_true rfl) rfl (fun zM11 hzM11 => ?_)
        refine ri_goto a_X2_one_23 ?_
        refine ri_return a_X2_one_93 rfl ?_
        rw [hzM2] at hzM11
        exact rV (leaf (0, s.1.2) zM11 (by omega) hzM11)
    · have n3 : ¬ M 12 0 3 = 3 := fun q => hA (is3.mp q)
      by_cases hB : s.1.1 = 3 ∧ 6 ≤ s.1.2
      · unfold pOne
        rw [if_neg hA, if_pos hB]
        have hlt := hs1.2.2.2 (by omega)
        have h12 := hs2.2.2.1 hB.1
        have hv : - M 12 0 3 = encC (1, s.1.2 - 6) := by
          rw [htok, encC, tkC_1 rfl]
          obtain ⟨⟨k1, k2⟩, s2⟩ := s
          dsimp only at hB
          obtain ⟨rfl, hk2⟩ := hB
          show - nI (4 + k2) = - nI (10 + (k2 - 6))
          congr 2
          omega
        obtain ⟨a1, a2, a3⟩ := app_good hg (by omega) (by omega) (x := encC (1, s.1.2 - 6))
        refine ri_ald a_X2_one_0 rfl ?_
        refine ri_getI a_X2_one_1 fl_X2_24 kC_12_3 rfl iC_12 ?_
        refine ri_ic a_X2_one_4 ?_
        refine ri_icmp_ne a_X2_one_5 (fun zc1 => ?_) (fun zc1 => ?_)
        · refine ri_ald a_X2_one_26 rfl ?_
          refine ri_getI a_X2_one_27 fl_X2_24 kC_12_3 rfl iC_12 ?_
          refine ri_cSpb (as := [vi (M 12 0 3)]) (rest := []) (d' := d - 1) a_X2_one_30 ms_X5_isName ml_X2_86 (by omega) (ok_X5_isName (M 12 0 3)) (Nat.le_of_ble_eq_true rfl) rfl (fun zc2 => ?_) (fun zc2 => ?_)
          · refine ri_if_eq a_X2_one_33 (fun q => absurd q (by decide)) (fun _ => ?_)
            refine ri_ald a_X2_one_36 rfl ?_
            refine ri_getVe (t0 := t) a_X2_one_37 fl_X2_36 kC_12_7 rfl iC_12 (by assumption) (by omega) ?_
            refine ri_ald a_X2_one_40 rfl ?_
            refine ri_getI a_X2_one_41 fl_X2_24 kC_12_3 rfl iC_12 ?_
            refine ri_ineg a_X2_one_44 ?_
            refine ri_cVxv (as := [vi (-(M 12 0 3))]) (rest := []) (d' := d - 1) a_X2_one_45 mv_X1_append ml_X2_61 (rcC_8 (iC_8 (by assumption))) (by omega) (ok_app ht (-(M 12 0 3)) hl8 (by omega)) (Nat.le_of_ble_eq_true rfl) rfl (fun zM3 hzM3 => ?_)
            rw [hv] at hzM3
            rw [← hzM3] at a1
            refine ri_ald a_X2_one_48 rfl ?_
            refine ri_cVxv (as := []) (rest := []) (d' := d - 1) a_X2_one_49 mv_X2_advance ml_X2_45 (rcC_12 iC_12) (by omega) (ok_adv (by omega) hn a1) (Nat.le_of_ble_eq_true rfl) rfl (fun zM11 hzM11 => ?_)
            refine ri_goto a_X2_one_52 ?_
            refine ri_return a_X2_one_93 rfl ?_
            rw [hzM3] at hzM11
            exact rV (leaf (1, s.1.2 - 6) zM11 (by omega) hzM11)
          · refine ri_if_eq a_X2_one_33 (fun _ => ?_) (fun q => absurd q (by decide))
            exact absurd (isN.mpr hB) zc2
        · exact absurd zc1 n3
      · have nN : ¬ (10 ≤ M 12 0 3 ∧ M 12 0 3 ≤ 15) := fun q => hB (isN.mp q)
        by_cases hC : s.1 = (4, 45)
        · rw [pOne_o hA hB hC]
          have t45 := is45.mpr hC
          refine ri_ald a_X2_one_0 rfl ?_
          refine ri_getI a_X2_one_1 fl_X2_24 kC_12_3 rfl iC_12 ?_
          refine ri_ic a_X2_one_4 ?_
          refine ri_icmp_ne a_X2_one_5 (fun zc1 => ?_) (fun zc1 => ?_)
          · refine ri_ald a_X2_one_26 rfl ?_
            refine ri_getI a_X2_one_27 fl_X2_24 kC_12_3 rfl iC_12 ?_
            refine ri_cSpb (as := [vi (M 12 0 3)]) (rest := []) (d' := d - 1) a_X2_one_30 ms_X5_isName ml_X2_86 (by omega) (ok_X5_isName (M 12 0 3)) (Nat.le_of_ble_eq_true rfl) rfl (fun zc2 => ?_) (fun zc2 => ?_)
            · refine ri_if_eq a_X2_one_33 (fun q => absurd q (by decide)) (fun _ => ?_)
              exact absurd zc2 nN
            · refine ri_if_eq a_X2_one_33 (fun _ => ?_) (fun q => absurd q (by decide))
              refine ri_ald a_X2_one_55 rfl ?_
              refine ri_getI a_X2_one_56 fl_X2_24 kC_12_3 rfl iC_12 ?_
              refine ri_ic a_X2_one_59 ?_
              refine ri_icmp_ne a_X2_one_61 (fun zc3 => ?_) (fun zc3 => ?_)
              · exact absurd t45 zc3
              · refine ri_ald a_X2_one_64 rfl ?_
                refine ri_ild a_X2_one_65 rfl ?_
                refine ri_cVxv (as := [vi (nI (5 - b))]) (rest := []) (d' := d - 1) a_X2_one_66 mv_X2_opposite ml_X2_89 (rcC_12 iC_12) (by omega) (hO (d - 1) M s z _ rfl (by omega) htp hg hz hC) (Nat.le_of_ble_eq_true rfl) rfl (fun zM4 hzM4 => ?_)
                refine ri_goto a_X2_one_69 ?_
                refine ri_return a_X2_one_93 rfl ?_
                exact rV hzM4
          · exact absurd zc1 n3
        · have n45 : ¬ M 12 0 3 = 45 := fun q => hC (is45.mp q)
          by_cases hE : s.1 = (4, 40)
          · rw [pOne_r hA hB hC hE]
            have t40 := is40.mpr hE
            refine ri_ald a_X2_one_0 rfl ?_
            refine ri_getI a_X2_one_1 fl_X2_24 kC_12_3 rfl iC_12 ?_
            refine ri_ic a_X2_one_4 ?_
            refine ri_icmp_ne a_X2_one_5 (fun zc1 => ?_) (fun zc1 => ?_)
            · refine ri_ald a_X2_one_26 rfl ?_
              refine ri_getI a_X2_one_27 fl_X2_24 kC_12_3 rfl iC_12 ?_
              refine ri_cSpb (as := [vi (M 12 0 3)]) (rest := []) (d' := d - 1) a_X2_one_30 ms_X5_isName ml_X2_86 (by omega) (ok_X5_isName (M 12 0 3)) (Nat.le_of_ble_eq_true rfl) rfl (fun zc2 => ?_) (fun zc2 => ?_)
              · refine ri_if_eq a_X2_one_33 (fun q => absurd q (by decide)) (fun _ => ?_)
                exact absurd zc2 nN
              · refine ri_if_eq a_X2_one_33 (fun _ => ?_) (fun q => absurd q (by decide))
                refine ri_ald a_X2_one_55 rfl ?_
                refine ri_getI a_X2_one_56 fl_X2_24 kC_12_3 rfl iC_12 ?_
                refine ri_ic a_X2_one_59 ?_
                refine ri_icmp_ne a_X2_one_61 (fun zc3 => ?_) (fun zc3 => ?_)
                · refine ri_ald a_X2_one_72 rfl ?_
                  refine ri_getI a_X2_one_73 fl_X2_24 kC_12_3 rfl iC_12 ?_
                  refine ri_ic a_X2_one_76 ?_
                  refine ri_icmp_ne a_X2_one_78 (fun zc4 => ?_) (fun zc4 => ?_)
                  · exact absurd t40 (by assumption)
                  · refine ri_ald a_X2_one_81 rfl ?_
                    refine ri_ild a_X2_one_82 rfl ?_
                    refine ri_cVxv (as := [vi (nI (5 - b))]) (rest := []) (d' := d - 1) a_X2_one_83 mv_X2_bracket ml_X2_92 (rcC_12 iC_12) (by omega) (hR (d - 1) M s z _ rfl (by omega) htp hg hz hE) (Nat.le_of_ble_eq_true rfl) rfl (fun zM5 hzM5 => ?_)
                    refine ri_goto a_X2_one_86 ?_
                    refine ri_return a_X2_one_93 rfl ?_
                    exact rV hzM5
                · exact absurd (by assumption) n45
            · exact absurd zc1 n3
          · unfold pOne
            rw [if_neg hA, if_neg hB, if_neg hC, if_neg hE]
            have n40 : ¬ M 12 0 3 = 40 := fun q => hE (is40.mp q)
            refine ri_ald a_X2_one_0 rfl ?_
            refine ri_getI a_X2_one_1 fl_X2_24 kC_12_3 rfl iC_12 ?_
            refine ri_ic a_X2_one_4 ?_
            refine ri_icmp_ne a_X2_one_5 (fun zc1 => ?_) (fun zc1 => ?_)
            · refine ri_ald a_X2_one_26 rfl ?_
              refine ri_getI a_X2_one_27 fl_X2_24 kC_12_3 rfl iC_12 ?_
              refine ri_cSpb (as := [vi (M 12 0 3)]) (rest := []) (d' := d - 1) a_X2_one_30 ms_X5_isName ml_X2_86 (by omega) (ok_X5_isName (M 12 0 3)) (Nat.le_of_ble_eq_true rfl) rfl (fun zc2 => ?_) (fun zc2 => ?_)
              · refine ri_if_eq a_X2_one_33 (fun q => absurd q (by decide)) (fun _ => ?_)
                exact absurd zc2 nN
              · refine ri_if_eq a_X2_one_33 (fun _ => ?_) (fun q => absurd q (by decide))
                refine ri_ald a_X2_one_55 rfl ?_
                refine ri_getI a_X2_one_56 fl_X2_24 kC_12_3 rfl iC_12 ?_
                refine ri_ic a_X2_one_59 ?_
                refine ri_icmp_ne a_X2_one_61 (fun zc3 => ?_) (fun zc3 => ?_)
                · refine ri_ald a_X2_one_72 rfl ?_
                  refine ri_getI a_X2_one_73 fl_X2_24 kC_12_3 rfl iC_12 ?_
                  refine ri_ic a_X2_one_76 ?_
                  refine ri_icmp_ne a_X2_one_78 (fun zc4 => ?_) (fun zc4 => ?_)
                  · refine ri_ald a_X2_one_89 rfl ?_
                    refine ri_cVxv (as := []) (rest := []) (d' := d - 1) a_X2_one_90 mv_X2_fail ml_X2_95 (rcC_12 iC_12) (by omega) (ok_X2_fail) (Nat.le_of_ble_eq_true rfl) rfl (fun zM5 hzM5 => ?_)
                    refine ri_return a_X2_one_93 rfl ?_
                    rw [hzM5]; exact rV ⟨fl_frP, fl_good hn hg⟩
                  · exact absurd (by assumption) n40
                · exact absurd (by assumption) n45
            · exact absurd zc1 n3
  · intro d M p _ rfl hd hb2
    have h3 := hb2.2.2.2.1
    refine lr_ok (ls := [some (vo 12 0), some (vi (nI (5 - b)))]) (by decide +kernel) rfl ?_
    refine ri_ald a_X2_one_0 rfl ?_
    refine ri_getI a_X2_one_1 fl_X2_24 kC_12_3 rfl iC_12 ?_
    refine ri_ic a_X2_one_4 ?_
    refine ri_icmp_ne a_X2_one_5 (fun zc1 => ?_) (fun zc1 => ?_)
    · refine ri_ald a_X2_one_26 rfl ?_
      refine ri_getI a_X2_one_27 fl_X2_24 kC_12_3 rfl iC_12 ?_
      refine ri_cSpb (as := [vi (M 12 0 3)]) (rest := []) (d' := d - 1) a_X2_one_30 ms_X5_isName ml_X2_86 (by omega) (ok_X5_isName (M 12 0 3)) (Nat.le_of_ble_eq_true rfl) rfl (fun zc2 => ?_) (fun zc2 => ?_)
      · refine ri_if_eq a_X2_one_33 (fun q => absurd q (by decide)) (fun _ => ?_)
        exact absurd (h3 ▸ zc2.1) (by decide)
      · refine ri_if_eq a_X2_one_33 (fun _ => ?_) (fun q => absurd q (by decide))
        refine ri_ald a_X2_one_55 rfl ?_
        refine ri_getI a_X2_one_56 fl_X2_24 kC_12_3 rfl iC_12 ?_
        refine ri_ic a_X2_one_59 ?_
        refine ri_icmp_ne a_X2_one_61 (fun zc3 => ?_) (fun zc3 => ?_)
        · refine ri_ald a_X2_one_72 rfl ?_
          refine ri_getI a_X2_one_73 fl_X2_24 kC_12_3 rfl iC_12 ?_
          refine ri_ic a_X2_one_76 ?_
          refine ri_icmp_ne a_X2_one_78 (fun zc4 => ?_) (fun zc4 => ?_)
          · refine ri_ald a_X2_one_89 rfl ?_
            refine ri_cVxv (as := []) (rest := []) (d' := d - 1) a_X2_one_90 mv_X2_fail ml_X2_95 (rcC_12 iC_12) (by omega) (ok_X2_fail) (Nat.le_of_ble_eq_true rfl) rfl (fun zM5 hzM5 => ?_)
            refine ri_return a_X2_one_93 rfl ?_
            rw [hzM5]; exact rV ⟨fl_frP, fl_bad hn hb2⟩
          · exact absurd (h3.symm.trans (by assumption)) (by decide)
        · exact absurd (h3.symm.trans (by assumption)) (by decide)
    · exact absurd (h3.symm.trans zc1) (by decide)

