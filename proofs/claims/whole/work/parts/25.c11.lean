/-! class: Reader: not, comparison -/
theorem LvG_le {w : Wd} {t n d d2 b : Nat} {j : MI} {tp : Nat → Int32} {sub : PS → PR} (h : LvG w t n d b j tp sub) (hd : d ≤ d2) : LvG w t n d2 b j tp sub := fun d' M s z a h1 h2 => h d' M s z a h1 (by omega)
theorem LvB_le {w : Wd} {t n d d2 b : Nat} {j : MI} (h : LvB w t n d b j) (hd : d ≤ d2) : LvB w t n d2 b j := fun d' M p a h1 h2 => h d' M p a h1 (by omega)
/-- one op behind what was read -/
theorem pst_op {t n z : Nat} {M M2 : Mem} {s : PS} {o2 : List Op} {x : Int32} {op : Op} (g0 : frP t M M2) (g1 : ∀ k, k < z → M2 9 t k = M 9 t k) (g2 : ∀ k o, o2[k]? = some o → M2 9 t (z + k) = encC o) (hg : gR t n M2 s (z + o2.length)) (hz : z + o2.length < 160) (hz2 : z + o2.length + 1 ≤ s.2.2) (hx : x = encC op) :
    frP t M (app M2 t (z + o2.length) x) ∧ gR t n (app M2 t (z + o2.length) x) s (z + (o2 ++ [op]).length) ∧ (∀ k, k < z → app M2 t (z + o2.length) x 9 t k = M 9 t k) ∧ ∀ k o, (o2 ++ [op])[k]? = some o → app M2 t (z + o2.length) x 9 t (z + k) = encC o := by
  have := pst_app (acc := []) (o2 := o2) (op := op) (x := x) (s := s) (n := n) (frP_rf (t := t) (M := M)) (fun k _ => rfl) (fun k o h => by simp at h) g0 (by simpa using g1) (by simpa using g2) (by simpa using hg) (by simpa using hz) (by simpa using hz2) hx
  simpa using this
/-- what stands behind a not -/
def pNeg (tp : Nat → Int32) (n : Nat) (rec : PRec) (s : PS) : PR := match rec with
  | none => .inl s.2.1
  | some r => match r.2.2 (pnx tp n s) with
    | .inl p => .inl p
    | .inr x => .inr (x.1, x.2 ++ [(2, 0)])
/-- a sum, perhaps compared with another -/
def pCmp (tp : Nat → Int32) (n : Nat) (sum : PS → PR) (s : PS) : PR := match sum s with
  | .inl p => .inl p
  | .inr x => match oCmp x.1.1 with
    | none => .inr x
    | some o => match sum (pnx tp n x.1) with
      | .inl p => .inl p
      | .inr y => .inr (y.1, x.2 ++ y.2 ++ [o])
theorem pNot_n {tp : Nat → Int32} {n : Nat} {rec : PRec} {sum : PS → PR} {s : PS} (h : s.1 = (3, 5)) : pNot tp n rec sum s = pNeg tp n rec s := by
  unfold pNot
  rw [if_pos h]
  rfl
theorem pNot_c {tp : Nat → Int32} {n : Nat} {rec : PRec} {sum : PS → PR} {s : PS} (h : ¬ s.1 = (3, 5)) : pNot tp n rec sum s = pCmp tp n sum s := by
  unfold pNot
  rw [if_neg h]
  rfl
/-- behind a sign that opens: what it says where it stands -/
def LvS (w : Wd) (t n d b : Nat) (k : Tok) (j : MI) (tp : Nat → Int32) (sub : PS → PR) : Prop := ∀ (d' : Nat) (M : Mem) (s : PS) (z : Nat) (a : Int32), a = nI (5 - b) → d ≤ d' → M 13 0 = tp → gR t n M s z → z ≤ s.2.1 → s.1 = k → lr_Ok tC sC w d' j [vo 12 0, vi a] M (qV (pst t n M z (sub s)))
theorem lv_negation {w : Wd} {t n D b : Nat} {tp : Nat → Int32} {rec : PRec} (ht : t < 6) (hn : n ≤ 160) (hD : 7 ≤ D) (hb : b ≤ 5)
    (h0 : b = 0 → rec = none) (h1 : ∀ b', b = b' + 1 → ∃ r, rec = some r ∧ LvG w t n D b' jX2_perhapsNot tp r.2.2 ∧ ∃ e, Gd n e r.2.2) : LvS w t n (D + 1) b (3, 5) jX2_negation tp (pNeg tp n rec) := by
  intro d M s z _ rfl hd htp hg hz h35
  refine lr_ok (ls := [some (vo 12 0), some (vi (nI (5 - b)))]) (by decide +kernel) rfl ?_
  have hs1 := hg.2.2.2.1
  have hs2 := hg.2.2.2.2.1
  have hsn := hs1.2.1
  have hsl := hs1.2.2.2 (by rw [h35]; decide)
  unfold pNeg
  rcases Nat.eq_zero_or_pos b with hb0 | hb0
  · rw [h0 hb0]
    refine ri_ald a_X2_negation_0 rfl ?_
    refine ri_ild a_X2_negation_1 rfl ?_
    refine ri_cVxi (as := [vi (nI (5 - b))]) (rest := []) (d' := d - 1) a_X2_negation_2 mv_X2_mayOpen ml_X2_73 (rcC_12 iC_12) (by omega) (ok_X2_mayOpen0 (by omega) (by omega) (by omega)) (Nat.le_of_ble_eq_true rfl) rfl (fun zy1 zM2 hzy1 => ?_)
    refine ri_if_eq a_X2_negation_5 (fun zc3 => ?_) (fun zc3 => ?_)
    · refine ri_return a_X2_negation_28 rfl ?_
      rw [hzy1.2]; exact rV ⟨fl_frP, fl_good hn hg⟩
    · exact absurd hzy1.1 zc3
  · obtain ⟨b', rfl⟩ : ∃ b', b = b' + 1 := ⟨b - 1, by omega⟩
    obtain ⟨r, hr, hG2, dp2, hgd2⟩ := h1 b' rfl
    rw [hr]
    dsimp only
    have hop : nI (5 - (b' + 1)) + 1 = nI (5 - b') := by rw [nI_1]; congr 1; omega
    refine ri_ald a_X2_negation_0 rfl ?_
    refine ri_ild a_X2_negation_1 rfl ?_
    refine ri_cVpk (as := [vi (nI (5 - (b' + 1)))]) (rest := []) (d' := d - 1) a_X2_negation_2 mv_X2_mayOpen ml_X2_73 (rcC_12 iC_12) (by omega) (ok_X2_mayOpen1 (by omega)) (Nat.le_of_ble_eq_true rfl) rfl ?_
    refine ri_if_eq a_X2_negation_5 (fun q => absurd q (by decide)) (fun _ => ?_)
    refine ri_ald a_X2_negation_8 rfl ?_
    refine ri_cVxv (as := []) (rest := []) (d' := d - 1) a_X2_negation_9 mv_X2_advance ml_X2_45 (rcC_12 iC_12) (by omega) (ok_adv (by omega) hn hg) (Nat.le_of_ble_eq_true rfl) rfl (fun zM1 hzM1 => ?_)
    rw [htp] at hzM1
    obtain ⟨a1, a2, a3⟩ := hzM1
    have htp2 : zM1 13 0 = tp := (frP_tp (frm_P (t := t) a1)).trans htp
    refine ri_ald a_X2_negation_12 rfl ?_
    refine ri_ild a_X2_negation_13 rfl ?_
    refine ri_ic a_X2_negation_14 ?_
    refine ri_iadd a_X2_negation_15 ?_
    refine ri_cVxv (as := [vi ((nI (5 - (b' + 1))) + 1)]) (rest := []) (d' := d - 1) a_X2_negation_16 mv_X2_perhapsNot ml_X2_64 (rcC_12 iC_12) (by omega) (hG2 (d - 1) zM1 (pnx tp n s) z _ hop (by omega) htp2 a2 a3) (Nat.le_of_ble_eq_true rfl) rfl (fun zM31 hzM31 => ?_)
    obtain ⟨b1, b2⟩ := hzM31
    cases hres : r.2.2 (pnx tp n s) with
    | inl p =>
      rw [hres] at b2
      have b2 : bR t n zM31 p := b2
      have hl7 := b2.1.2
      obtain ⟨zz, hz1, hz2⟩ := b2.2.2.2.2
      refine ri_ald a_X2_negation_19 rfl ?_
      refine ri_getVe (t0 := t) a_X2_negation_20 fl_X2_36 kC_12_7 rfl iC_12 (by assumption) (by omega) ?_
      refine ri_ic a_X2_negation_23 ?_
      refine ri_cVxv (as := [vi (-9)]) (rest := []) (d' := d - 1) a_X2_negation_25 mv_X1_append ml_X2_61 (rcC_8 (iC_8 (by assumption))) (by omega) (ok_app ht (-9) hz2 hz1) (Nat.le_of_ble_eq_true rfl) rfl (fun zM41 hzM41 => ?_)
      refine ri_return a_X2_negation_28 rfl ?_
      rw [hzM41]; exact rV ⟨frP_tr (frP_tr (frm_P a1) b1) app_frP, app_bad b2 hz1 hz2⟩
    | inr y =>
      rw [hres] at b2
      obtain ⟨b2, b3, b4, b5⟩ := b2
      have hl7 := b2.1.2
      have hl8 := b2.2.2.2.2.2.1
      obtain ⟨q1, q2, q3, q4⟩ := hgd2 _ _ a2.2.2.2.1 a2.2.2.2.2.1 hres
      have hyn := q1.1
      have hyl := q1.2.2.1
      obtain ⟨_, hnx⟩ := pnx_ok tp hs1
      have hsz : z + y.2.length < 160 := by omega
      refine ri_ald a_X2_negation_19 rfl ?_
      refine ri_getVe (t0 := t) a_X2_negation_20 fl_X2_36 kC_12_7 rfl iC_12 (by assumption) (by omega) ?_
      refine ri_ic a_X2_negation_23 ?_
      refine ri_cVxv (as := [vi (-9)]) (rest := []) (d' := d - 1) a_X2_negation_25 mv_X1_append ml_X2_61 (rcC_8 (iC_8 (by assumption))) (by omega) (ok_app ht (-9) hl8 (by omega)) (Nat.le_of_ble_eq_true rfl) rfl (fun zM41 hzM41 => ?_)
      refine ri_return a_X2_negation_28 rfl ?_
      rw [hzM41]
      obtain ⟨e1, e2, e3, e4⟩ := pst_op (x := -9) (op := (2, 0)) (frP_tr (frm_P a1) b1) (fun k hk => (b4 k hk).trans (a1 9 t k (fun q => absurd q.1 (by decide)))) b5 b2 hsz (by omega) (by decide)
      exact rV ⟨e1, e2, by simp only [List.length_append, List.length_cons, List.length_nil]; omega, e3, e4⟩
theorem lv_comparison {w : Wd} {t n D b : Nat} {tp : Nat → Int32} {sum : PS → PR} (ht : t < 6) (hn : n ≤ 160) (hD : 7 ≤ D) (hG : LvG w t n D b jX2_sum tp sum) (hB : LvB w t n D b jX2_sum) (hgd : ∃ e, Gd n e sum) : LvG w t n (D + 1) b jX2_comparison tp (pCmp tp n sum) ∧ LvB w t n (D + 1) b jX2_comparison := by
  obtain ⟨dp, hgd⟩ := hgd
  constructor
  · intro d M s z _ rfl hd htp hg hz
    refine lr_ok (ls := [some (vo 12 0), some (vi (nI (5 - b))), none]) (by decide +kernel) rfl ?_
    unfold pCmp
    refine ri_ald a_X2_comparison_0 rfl ?_
    refine ri_ild a_X2_comparison_1 rfl ?_
    refine ri_cVxv (as := [vi (nI (5 - b))]) (rest := []) (d' := d - 1) a_X2_comparison_2 mv_X2_sum ml_X2_77 (rcC_12 iC_12) (by omega) (hG (d - 1) M s z _ rfl (by omega) htp hg hz) (Nat.le_of_ble_eq_true rfl) rfl (fun zM1 hzM1 => ?_)
    obtain ⟨b1, b2⟩ := hzM1
    cases hres : sum s with
    | inl p =>
      rw [hres] at b2
      have b2 : bR t n zM1 p := b2
      have h3 := b2.2.2.2.1
      refine ri_ald a_X2_comparison_5 rfl ?_
      refine ri_getI a_X2_comparison_6 fl_X2_24 kC_12_3 rfl iC_12 ?_
      refine ri_ic a_X2_comparison_9 ?_
      refine ri_icmp_eq a_X2_comparison_11 (fun zc11 => ?_) (fun zc11 => ?_)
      · first | exact absurd (h3.symm.trans zc11) (by decide) | exact absurd (h3.symm.trans zc12) (by decide)
      · refine ri_ald a_X2_comparison_14 rfl ?_
        refine ri_getI a_X2_comparison_15 fl_X2_24 kC_12_3 rfl iC_12 ?_
        refine ri_ic a_X2_comparison_18 ?_
        refine ri_icmp_ne a_X2_comparison_20 (fun zc12 => ?_) (fun zc12 => ?_)
        · refine ri_return a_X2_comparison_46 rfl ?_
          exact rV ⟨b1, b2⟩
        · first | exact absurd (h3.symm.trans zc11) (by decide) | exact absurd (h3.symm.trans zc12) (by decide)
    | inr x =>
      rw [hres] at b2
      obtain ⟨b2, b3, b4, b5⟩ := b2
      dsimp only
      have htok2 : zM1 12 0 3 = tkc x.1.1 := b2.2.2.1.2.1
      have hx2 := b2.2.2.2.2.1
      cases hcm : oCmp x.1.1 with
      | none =>
        have hne60 : ¬ tkc x.1.1 = 60 := by
          intro q
          rw [show (60 : Int32) = tkc (4, 60) from rfl, tkc_is hx2 (by decide)] at q
          rw [q] at hcm
          exact absurd hcm (by decide)
        have hne61 : ¬ tkc x.1.1 = 61 := by
          intro q
          rw [show (61 : Int32) = tkc (4, 61) from rfl, tkc_is hx2 (by decide)] at q
          rw [q] at hcm
          exact absurd hcm (by decide)
        refine ri_ald a_X2_comparison_5 rfl ?_
        refine ri_getI a_X2_comparison_6 fl_X2_24 kC_12_3 rfl iC_12 ?_
        refine ri_ic a_X2_comparison_9 ?_
        refine ri_icmp_eq a_X2_comparison_11 (fun zc11 => ?_) (fun zc11 => ?_)
        · first | exact absurd (htok2.symm.trans zc11) hne60 | exact absurd (htok2.symm.trans zc12) hne61
        · refine ri_ald a_X2_comparison_14 rfl ?_
          refine ri_getI a_X2_comparison_15 fl_X2_24 kC_12_3 rfl iC_12 ?_
          refine ri_ic a_X2_comparison_18 ?_
          refine ri_icmp_ne a_X2_comparison_20 (fun zc12 => ?_) (fun zc12 => ?_)
          · refine ri_return a_X2_comparison_46 rfl ?_
            exact rV ⟨b1, b2, b3, b4, b5⟩
          · first | exact absurd (htok2.symm.trans zc11) hne60 | exact absurd (htok2.symm.trans zc12) hne61
      | some op =>
        have ht1 : (x.1.1 = (4, 60) ∧ op = (3, 2)) ∨ (x.1.1 = (4, 61) ∧ op = (3, 3)) := by
          unfold oCmp at hcm
          split at hcm
          · cases hcm; exact Or.inl ⟨by assumption, rfl⟩
          · split at hcm
            · cases hcm; exact Or.inr ⟨by assumption, rfl⟩
            · cases hcm
        have hneg : - tkc x.1.1 = encC op := by
          rcases ht1 with ⟨q1, q2⟩ | ⟨q1, q2⟩ <;> rw [q1, q2] <;> decide
        have htk : tkc x.1.1 = 60 ∨ tkc x.1.1 = 61 := by
          rcases ht1 with ⟨q1, q2⟩ | ⟨q1, q2⟩
          · exact Or.inl (by rw [q1]; rfl)
          · exact Or.inr (by rw [q1]; rfl)
        have hxl := b2.2.2.2.1.2.2.2 (by rcases ht1 with q | q <;> rw [q.1] <;> decide)
        have hxn := b2.2.2.2.1.2.1
        have htp1 : zM1 13 0 = tp := (frP_tp b1).trans htp
        dsimp only
        have tail : lr_W tC sC w d jX2_comparison 23 [some (vo 12 0), some (vi (nI (5 - b))), none] [] zM1 (qV (pst t n M z (match sum (pnx tp n x.1) with
          | .inl p => .inl p
          | .inr y => .inr (y.1, x.2 ++ y.2 ++ [op])))) := by
          refine ri_ald a_X2_comparison_23 rfl ?_
          refine ri_getI a_X2_comparison_24 fl_X2_24 kC_12_3 rfl iC_12 ?_
          refine ri_ist (f := fun zx21 => [some (vo 12 0), some (vi (nI (5 - b))), some (vi zx21)]) a_X2_comparison_27 (fun _ => rfl) (fun zx21 ezx21 => ?_)
          refine ri_ald a_X2_comparison_28 rfl ?_
          refine ri_cVxv (as := []) (rest := []) (d' := d - 1) a_X2_comparison_29 mv_X2_advance ml_X2_45 (rcC_12 iC_12) (by omega) (ok_adv (by omega) hn b2) (Nat.le_of_ble_eq_true rfl) rfl (fun zM22 hzM22 => ?_)
          rw [htp1] at hzM22
          obtain ⟨a1, a2, a3⟩ := hzM22
          have htp2 : zM22 13 0 = tp := (frP_tp (frm_P (t := t) a1)).trans htp1
          refine ri_ald a_X2_comparison_32 rfl ?_
          refine ri_ild a_X2_comparison_33 rfl ?_
          refine ri_cVxv (as := [vi (nI (5 - b))]) (rest := []) (d' := d - 1) a_X2_comparison_34 mv_X2_sum ml_X2_77 (rcC_12 iC_12) (by omega) (hG (d - 1) zM22 (pnx tp n x.1) (z + x.2.length) _ rfl (by omega) htp2 a2 a3) (Nat.le_of_ble_eq_true rfl) rfl (fun zM31 hzM31 => ?_)
          obtain ⟨d1, d2⟩ := hzM31
          cases hres2 : sum (pnx tp n x.1) with
          | inl p =>
            rw [hres2] at d2
            have d2 : bR t n zM31 p := d2
            have hl7 := d2.1.2
            obtain ⟨zz, hz1, hz2⟩ := d2.2.2.2.2
            refine ri_ald a_X2_comparison_37 rfl ?_
            refine ri_getVe (t0 := t) a_X2_comparison_38 fl_X2_36 kC_12_7 rfl iC_12 (by assumption) (by omega) ?_
            refine ri_ild a_X2_comparison_41 rfl ?_
            refine ri_ineg a_X2_comparison_42 ?_
            refine ri_cVxv (as := [vi (-zx21)]) (rest := []) (d' := d - 1) a_X2_comparison_43 mv_X1_append ml_X2_61 (rcC_8 (iC_8 (by assumption))) (by omega) (ok_app ht (-zx21) hz2 hz1) (Nat.le_of_ble_eq_true rfl) rfl (fun zM41 hzM41 => ?_)
            refine ri_return a_X2_comparison_46 rfl ?_
            rw [hzM41]; exact rV ⟨frP_tr (frP_tr (frP_tr b1 (frm_P a1)) d1) app_frP, app_bad d2 hz1 hz2⟩
          | inr y =>
            rw [hres2] at d2
            obtain ⟨d2, d3, d4, d5⟩ := d2
            have hl7 := d2.1.2
            have hl8 := d2.2.2.2.2.2.1
            obtain ⟨q1, q2, q3, q4⟩ := hgd _ _ a2.2.2.2.1 a2.2.2.2.2.1 hres2
            have hyn := q1.1
            have hyl := q1.2.2.1
            obtain ⟨_, hnx⟩ := pnx_ok tp b2.2.2.2.1
            have hsz : z + x.2.length + y.2.length < 160 := by omega
            refine ri_ald a_X2_comparison_37 rfl ?_
            refine ri_getVe (t0 := t) a_X2_comparison_38 fl_X2_36 kC_12_7 rfl iC_12 (by assumption) (by omega) ?_
            refine ri_ild a_X2_comparison_41 rfl ?_
            refine ri_ineg a_X2_comparison_42 ?_
            refine ri_cVxv (as := [vi (-zx21)]) (rest := []) (d' := d - 1) a_X2_comparison_43 mv_X1_append ml_X2_61 (rcC_8 (iC_8 (by assumption))) (by omega) (ok_app ht (-zx21) hl8 (by omega)) (Nat.le_of_ble_eq_true rfl) rfl (fun zM41 hzM41 => ?_)
            refine ri_return a_X2_comparison_46 rfl ?_
            rw [hzM41]
            obtain ⟨e1, e2, e3, e4⟩ := pst_app (x := -zx21) (op := op) b1 b4 b5 (frP_tr (frm_P a1) d1) (fun k hk => (d4 k hk).trans (a1 9 t k (fun q => absurd q.1 (by decide)))) d5 d2 hsz (by omega) (by rw [ezx21, htok2]; exact hneg)
            exact rV ⟨e1, e2, by simp only [List.length_append, List.length_cons, List.length_nil]; omega, e3, e4⟩
        refine ri_ald a_X2_comparison_5 rfl ?_
        refine ri_getI a_X2_comparison_6 fl_X2_24 kC_12_3 rfl iC_12 ?_
        refine ri_ic a_X2_comparison_9 ?_
        refine ri_icmp_eq a_X2_comparison_11 (fun zc11 => ?_) (fun zc11 => ?_)
        · exact tail
        · refine ri_ald a_X2_comparison_14 rfl ?_
          refine ri_getI a_X2_comparison_15 fl_X2_24 kC_12_3 rfl iC_12 ?_
          refine ri_ic a_X2_comparison_18 ?_
          refine ri_icmp_ne a_X2_comparison_20 (fun zc12 => ?_) (fun zc12 => ?_)
          · refine ri_return a_X2_comparison_46 rfl ?_
            exact htk.elim (fun q => absurd (htok2.trans q) zc11) (fun q => absurd (htok2.trans q) zc12)
          · exact tail
  · intro d M p _ rfl hd hb2
    have h3 := hb2.2.2.2.1
    refine lr_ok (ls := [some (vo 12 0), some (vi (nI (5 - b))), none]) (by decide +kernel) rfl ?_
    refine ri_ald a_X2_comparison_0 rfl ?_
    refine ri_ild a_X2_comparison_1 rfl ?_
    refine ri_cVxv (as := [vi (nI (5 - b))]) (rest := []) (d' := d - 1) a_X2_comparison_2 mv_X2_sum ml_X2_77 (rcC_12 iC_12) (by omega) (hB (d - 1) M p _ rfl (by omega) hb2) (Nat.le_of_ble_eq_true rfl) rfl (fun zM1 hzM1 => ?_)
    have h32 := hzM1.2.2.2.2.1
    refine ri_ald a_X2_comparison_5 rfl ?_
    refine ri_getI a_X2_comparison_6 fl_X2_24 kC_12_3 rfl iC_12 ?_
    refine ri_ic a_X2_comparison_9 ?_
    refine ri_icmp_eq a_X2_comparison_11 (fun zc11 => ?_) (fun zc11 => ?_)
    · first | exact absurd (h32.symm.trans zc11) (by decide) | exact absurd (h32.symm.trans zc12) (by decide)
    · refine ri_ald a_X2_comparison_14 rfl ?_
      refine ri_getI a_X2_comparison_15 fl_X2_24 kC_12_3 rfl iC_12 ?_
      refine ri_ic a_X2_comparison_18 ?_
      refine ri_icmp_ne a_X2_comparison_20 (fun zc12 => ?_) (fun zc12 => ?_)
      · refine ri_return a_X2_comparison_46 rfl ?_
        exact rV hzM1
      · first | exact absurd (h32.symm.trans zc11) (by decide) | exact absurd (h32.symm.trans zc12) (by decide)
theorem lv_perhapsNot {w : Wd} {t n D b : Nat} {tp : Nat → Int32} {rec : PRec} {sum : PS → PR} (hN : LvS w t n D b (3, 5) jX2_negation tp (pNeg tp n rec)) (hG : LvG w t n D b jX2_comparison tp (pCmp tp n sum)) (hB : LvB w t n D b jX2_comparison) : LvG w t n (D + 1) b jX2_perhapsNot tp (pNot tp n rec sum) ∧ LvB w t n (D + 1) b jX2_perhapsNot := by
  constructor
  · intro d M s z _ rfl hd htp hg hz
    refine lr_ok (ls := [some (vo 12 0), some (vi (nI (5 - b)))]) (by decide +kernel) rfl ?_
    have htok : M 12 0 3 = tkc s.1 := hg.2.2.1.2.1
    have hs2 := hg.2.2.2.2.1
    by_cases h35 : s.1 = (3, 5)
    · rw [pNot_n h35]
      have ht9 : M 12 0 3 = 9 := by rw [htok, h35]; rfl
      refine ri_ald a_X2_perhapsNot_0 rfl ?_
      refine ri_getI a_X2_perhapsNot_1 fl_X2_24 kC_12_3 rfl iC_12 ?_
      refine ri_ic a_X2_perhapsNot_4 ?_
      refine ri_icmp_ne a_X2_perhapsNot_6 (fun zc1 => ?_) (fun zc1 => ?_)
      · exact absurd ht9 zc1
      · refine ri_ald a_X2_perhapsNot_9 rfl ?_
        refine ri_ild a_X2_perhapsNot_10 rfl ?_
        refine ri_cVxv (as := [vi (nI (5 - b))]) (rest := []) (d' := d - 1) a_X2_perhapsNot_11 mv_X2_negation ml_X2_67 (rcC_12 iC_12) (by omega) (hN (d - 1) M s z _ rfl (by omega) htp hg hz h35) (Nat.le_of_ble_eq_true rfl) rfl (fun zM2 hzM2 => ?_)
        refine ri_goto a_X2_perhapsNot_14 ?_
        refine ri_return a_X2_perhapsNot_22 rfl ?_
        exact rV hzM2
    · rw [pNot_c h35]
      have hne9 : ¬ M 12 0 3 = 9 := by
        rw [htok, show (9 : Int32) = tkc (3, 5) from rfl, tkc_is hs2 (by decide)]
        exact h35
      refine ri_ald a_X2_perhapsNot_0 rfl ?_
      refine ri_getI a_X2_perhapsNot_1 fl_X2_24 kC_12_3 rfl iC_12 ?_
      refine ri_ic a_X2_perhapsNot_4 ?_
      refine ri_icmp_ne a_X2_perhapsNot_6 (fun zc1 => ?_) (fun zc1 => ?_)
      · refine ri_ald a_X2_perhapsNot_17 rfl ?_
        refine ri_ild a_X2_perhapsNot_18 rfl ?_
        refine ri_cVxv (as := [vi (nI (5 - b))]) (rest := []) (d' := d - 1) a_X2_perhapsNot_19 mv_X2_comparison ml_X2_70 (rcC_12 iC_12) (by omega) (hG (d - 1) M s z _ rfl (by omega) htp hg hz) (Nat.le_of_ble_eq_true rfl) rfl (fun zM2 hzM2 => ?_)
        refine ri_return a_X2_perhapsNot_22 rfl ?_
        exact rV hzM2
      · exact absurd zc1 hne9
  · intro d M p _ rfl hd hb2
    have h3 := hb2.2.2.2.1
    refine lr_ok (ls := [some (vo 12 0), some (vi (nI (5 - b)))]) (by decide +kernel) rfl ?_
    refine ri_ald a_X2_perhapsNot_0 rfl ?_
    refine ri_getI a_X2_perhapsNot_1 fl_X2_24 kC_12_3 rfl iC_12 ?_
    refine ri_ic a_X2_perhapsNot_4 ?_
    refine ri_icmp_ne a_X2_perhapsNot_6 (fun zc1 => ?_) (fun zc1 => ?_)
    · refine ri_ald a_X2_perhapsNot_17 rfl ?_
      refine ri_ild a_X2_perhapsNot_18 rfl ?_
      refine ri_cVxv (as := [vi (nI (5 - b))]) (rest := []) (d' := d - 1) a_X2_perhapsNot_19 mv_X2_comparison ml_X2_70 (rcC_12 iC_12) (by omega) (hB (d - 1) M p _ rfl (by omega) hb2) (Nat.le_of_ble_eq_true rfl) rfl (fun zM2 hzM2 => ?_)
      refine ri_return a_X2_perhapsNot_22 rfl ?_
      exact rV hzM2
    · exact absurd (h3.symm.trans zc1) (by decide)

