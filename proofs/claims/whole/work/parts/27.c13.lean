/-! class: Reader: all levels, read -/
def LvA (w : Wd) (t n : Nat) (tp : Nat → Int32) (b : Nat) : Prop := (LvG w t n (8 * b + 15) b jX2_either tp (lvE tp n (pRec tp n b)) ∧ LvB w t n (8 * b + 15) b jX2_either) ∧ (LvG w t n (8 * b + 9) b jX2_one tp (pOne tp n (pRec tp n b)) ∧ LvB w t n (8 * b + 9) b jX2_one) ∧ (LvG w t n (8 * b + 13) b jX2_perhapsNot tp (lvN tp n (pRec tp n b)) ∧ LvB w t n (8 * b + 13) b jX2_perhapsNot)
theorem lv_all {w : Wd} {t n : Nat} {tp : Nat → Int32} (ht : t < 6) (hn : n ≤ 160) : ∀ b, b ≤ 5 → LvA w t n tp b := by
  have lev : ∀ b, b ≤ 5 → (LvG w t n (8 * b + 9) b jX2_one tp (pOne tp n (pRec tp n b)) ∧ LvB w t n (8 * b + 9) b jX2_one) → (b = 0 → pRec tp n b = none) → (∀ b', b = b' + 1 → ∃ r, pRec tp n b = some r ∧ LvG w t n (8 * b + 11) b' jX2_perhapsNot tp r.2.2 ∧ ∃ e, Gd n e r.2.2) → LvA w t n tp b := by
    intro b hb h1 h0 hr
    have g1 := (Gd_all tp n b).1
    have g2 := Gd_bin (tp := tp) (iso := oMul) (fun t o => oMul_k) g1
    have g3 := Gd_bin (tp := tp) (iso := oSum) (fun t o => oSum_k) g2
    have g4 := (Gd_all tp n b).2.1
    have g5 := Gd_bin (tp := tp) (iso := oAnd) (fun t o => oAnd_k) g4
    have l2 := lv_term ht hn (by omega) h1.1 h1.2 ⟨_, g1⟩
    have l3 := lv_sum ht hn (by omega) l2.1 l2.2 ⟨_, g2⟩
    have lc := lv_comparison ht hn (by omega) l3.1 l3.2 ⟨_, g3⟩
    have ln := lv_negation (rec := pRec tp n b) ht hn (by omega) hb h0 hr
    have l4 := lv_perhapsNot ln lc.1 lc.2
    have l5 := lv_both ht hn (by omega) l4.1 l4.2 ⟨_, g4⟩
    have l6 := lv_either ht hn (by omega) l5.1 l5.2 ⟨_, g5⟩
    exact ⟨l6, h1, l4⟩
  intro b
  induction b with
  | zero =>
    intro hb
    exact lev 0 hb (lv_one (D := 7) ht hn (by omega) hb (fun _ => rfl) (fun b' h => by cases h)) (fun _ => rfl) (fun b' h => by cases h)
  | succ b ih =>
    intro hb
    have ihb := ih (by omega)
    have hG := Gd_all tp n b
    refine lev (b + 1) hb (lv_one (D := 8 * (b + 1) + 7) ht hn (by omega) hb (fun h => by omega) (fun b' h => ?_)) (fun h => by omega) (fun b' h => ?_)
    · have : b' = b := by omega
      subst this
      exact ⟨_, rfl, LvG_le ihb.1.1 (by omega), LvG_le ihb.2.1.1 (by omega), 5 * b' + 6, hG.2.2, Gd_le hG.1 (by omega)⟩
    · have : b' = b := by omega
      subst this
      exact ⟨_, rfl, LvG_le ihb.2.2.1 (by omega), _, hG.2.1⟩
/-- the parts of a text, from the k-th on -/
def pTk (tp : Nat → Int32) (n : Nat) : Nat → Nat → PS → List (List Op) → Nat ⊕ (PS × List (List Op))
  | 0, _, s, acc => .inr (s, acc)
  | r + 1, k, s, acc => if s.1 = (3, k) then match pEx tp n (pnx tp n s) with
      | .inl p => .inl p
      | .inr x => pTk tp n r (k + 1) (pnx tp n x.1) (acc ++ [x.2])
    else .inl s.2.1
/-- a text: its parts, or the place of its fault -/
def pTx (tp : Nat → Int32) (n : Nat) : Nat ⊕ List (List Op) := match pTk tp n 3 0 (tkA tp n 0) [] with
  | .inl p => .inl p
  | .inr x => if x.1.1 = (0, 0) then .inr x.2 else .inl x.1.2.1
/-- the law t holds these parts, one behind the other -/
def txS (M : Mem) (t : Nat) (L : List (List Op)) : Prop := (∀ i o, L.flatten[i]? = some o → M 9 t i = encC o) ∧ ∀ j, j < L.length → M 10 t j = nI (L.take (j + 1)).flatten.length
def tx (M : Mem) (t : Nat) (L : List (List Op)) : Prop := L.length = 3 ∧ txS M t L ∧ L.flatten.length ≤ 160 ∧ ∀ ops ∈ L, wfd 32 ops 0
def frR (t : Nat) (M M' : Mem) : Prop := ∀ t' i k, ¬ (t' = 12 ∧ i = 0) → ¬ (t' = 8 ∧ i = t ∧ k = 3) → ¬ (t' = 9 ∧ i = t) → ¬ (t' = 10 ∧ i = t) → M' t' i k = M t' i k
theorem frR_tr {t : Nat} {M M1 M2 : Mem} (h : frR t M M1) (h2 : frR t M1 M2) : frR t M M2 := fun t' i k a b c d => (h2 t' i k a b c d).trans (h t' i k a b c d)
theorem frP_R {t : Nat} {M M1 : Mem} (h : frP t M M1) : frR t M M1 := fun t' i k a b c _ => h t' i k (fun q => a ⟨q.1, q.2.1⟩) b c
theorem frR_12 {t k : Nat} {M : Mem} {x : Int32} : frR t M (up M 12 0 k x) := fun t' i k' a _ _ _ => by rw [up_apply, if_neg (fun q => a ⟨q.1, q.2.1⟩)]
theorem frR_10 {t k : Nat} {M : Mem} {x : Int32} : frR t M (up M 10 t k x) := fun t' i k' _ _ _ a => by rw [up_apply, if_neg (fun q => a ⟨q.1, q.2.1⟩)]
theorem gR_up {t n z k : Nat} {M : Mem} {s : PS} {x : Int32} (h : gR t n M s z) : gR t n (up M 10 t k x) s z := by
  obtain ⟨⟨h0, h1⟩, h2, ⟨k1, k2, k3, k4⟩, h4, h5, h6, h7⟩ := h
  refine ⟨⟨?_, ?_⟩, ?_, ⟨?_, ?_, ?_, fun q => ?_⟩, h4, h5, ?_, h7⟩ <;> rw [up_apply, if_neg (by omega)] <;> first | assumption | exact k4 q
theorem bR_up {t n p k : Nat} {M : Mem} {x : Int32} (h : bR t n M p) : bR t n (up M 10 t k x) p := by
  obtain ⟨⟨h0, h1⟩, h2, h3, h4, z, h5, h6⟩ := h
  refine ⟨⟨?_, ?_⟩, ?_, h3, ?_, z, h5, ?_⟩ <;> rw [up_apply, if_neg (by omega)] <;> assumption
/-- what read leaves -/
def rdP (t n : Nat) (M : Mem) (res : Nat ⊕ List (List Op)) (y : Int32) (M' : Mem) : Prop := frR t M M' ∧ M' 12 0 1 = 0 ∧ match res with
  | .inl p => y = nI p ∧ p ≤ n
  | .inr L => y = -1 ∧ tx M' t L
theorem ok_X2_read {w : Wd} {d : Nat} (hd : 57 ≤ d) {t n : Nat} {M : Mem} (ht : t < 6) (hn : n ≤ 160) (hsz : M 12 0 1 = nI n) : lr_Ok tC sC w d jX2_read [vo 12 0, vo 8 t] M (qX (rdP t n M (pTx (M 13 0) n))) := by
  generalize htp : M 13 0 = tp
  have hE := (lv_all (w := w) (tp := tp) ht hn 5 (Nat.le_refl _)).1
  have bad : ∀ r k p M1, r + k = 3 → frR t M M1 → bR t n M1 p → lr_W tC sC w d jX2_read 28 [some (vo 12 0), some (vo 8 t), some (vi (nI k))] [] M1 (qX (rdP t n M (.inl p))) := by
    intro r
    induction r with
    | zero =>
      intro k p M1 hrk hf hb
      have hk : k = 3 := by omega
      subst hk
      have h2 := hb.2.2.2.1
      refine ri_ild a_X2_read_28 rfl ?_
      refine ri_ic a_X2_read_29 ?_
      refine ri_icmp_gt a_X2_read_30 (fun zc11 => ?_) (fun zc11 => ?_)
      · refine ri_ald a_X2_read_65 rfl ?_
        refine ri_ic a_X2_read_66 ?_
        refine ri_cVxv (as := [vi 1]) (rest := []) (d' := d - 1) a_X2_read_67 mv_X2_expect ml_X2_48 (rcC_12 iC_12) (by omega) (ok_X2_expect0 (by omega) 1 (by rw [h2]; decide)) (Nat.le_of_ble_eq_true rfl) rfl (fun zM12 hzM12 => ?_)
        refine ri_ald a_X2_read_70 rfl ?_
        refine ri_ic a_X2_read_71 ?_
        refine ri_putI a_X2_read_72 fp_X2_15 kC_12_1 rfl iC_12 (fun zM13 ezM13 => ?_)
        refine ri_ald a_X2_read_75 rfl ?_
        refine ri_getI a_X2_read_76 fl_X2_33 kC_12_6 rfl iC_12 ?_
        refine ri_ireturn a_X2_read_79 rfl rfl ?_
        refine rX ⟨?_, ?_, ?_, hb.2.2.1⟩
        · rw [ezM13, hzM12]; exact frR_tr (frR_tr hf (frP_R fl_frP)) frR_12
        · rw [ezM13]; exact up_same _ _ _ _ _
        · rw [ezM13, hzM12, up_k (by decide)]; exact (fl_bad hn hb).2.1
      · exact absurd zc11 (by decide)
    | succ r ih =>
      intro k p M1 hrk hf hb
      have h2 := hb.2.2.2.1
      have e4k : (4 : Int32) + nI k = nI (4 + k) := by rw [← nI_add]; rfl
      have hne : ¬ M1 12 0 3 = 4 + nI k := by
        rw [h2, e4k]
        intro q
        have := (nI_eq (a := 2) (b := 4 + k) (by omega) (by omega)).mp q
        omega
      have b1 := fl_bad hn hb
      refine ri_ild a_X2_read_28 rfl ?_
      refine ri_ic a_X2_read_29 ?_
      refine ri_icmp_gt a_X2_read_30 (fun zc11 => ?_) (fun zc11 => ?_)
      · exact absurd zc11 (by rw [show (2 : Int32) = nI 2 from rfl, nI_ltI (by omega) (by omega)]; omega)
      · refine ri_ald a_X2_read_33 rfl ?_
        refine ri_ic a_X2_read_34 ?_
        refine ri_ild a_X2_read_35 rfl ?_
        refine ri_iadd a_X2_read_36 ?_
        refine ri_cVxv (as := [vi (4 + (nI k))]) (rest := []) (d' := d - 1) a_X2_read_37 mv_X2_expect ml_X2_48 (rcC_12 iC_12) (by omega) (ok_X2_expect0 (by omega) _ hne) (Nat.le_of_ble_eq_true rfl) rfl (fun zM12 hzM12 => ?_)
        rw [← hzM12] at b1
        refine ri_ald a_X2_read_40 rfl ?_
        refine ri_ic a_X2_read_41 ?_
        refine ri_cVxv (as := [vi 0]) (rest := []) (d' := d - 1) a_X2_read_42 mv_X2_either ml_X2_52 (rcC_12 iC_12) (by omega) (hE.2 (d - 1) zM12 p _ nI_0.symm (by omega) b1) (Nat.le_of_ble_eq_true rfl) rfl (fun zM21 hzM21 => ?_)
        obtain ⟨a1, a2⟩ := hzM21
        have h3 := a2.2.2.2.1
        have a3 := fl_bad hn a2
        have hl7 : fl zM21 12 0 7 = nI t := a3.1.2
        refine ri_ald a_X2_read_45 rfl ?_
        refine ri_ic a_X2_read_46 ?_
        refine ri_cVxv (as := [vi 59]) (rest := []) (d' := d - 1) a_X2_read_48 mv_X2_expect ml_X2_48 (rcC_12 iC_12) (by omega) (ok_X2_expect0 (by omega) 59 (by rw [h3]; decide)) (Nat.le_of_ble_eq_true rfl) rfl (fun zM31 hzM31 => ?_)
        rw [← hzM31] at a3 hl7
        refine ri_ald a_X2_read_51 rfl ?_
        refine ri_getVe (t0 := t) a_X2_read_52 fl_X2_36 kC_12_7 rfl iC_12 (by assumption) (by omega) ?_
        refine ri_ild a_X2_read_55 rfl ?_
        refine ri_cVxv (as := [vi (nI k)]) (rest := []) (d' := d - 1) a_X2_read_56 mv_X1_endPart ml_X2_55 (rcC_8 (iC_8 (by assumption))) (by omega) (ok_X1_endPart ht (nI k) (vp_in_nI (by omega) (by decide))) (Nat.le_of_ble_eq_true rfl) rfl (fun zM41 hzM41 => ?_)
        refine ri_iinc (c0 := 1) (f := fun zx42 => [some (vo 12 0), some (vo 8 t), some (vi zx42)]) a_X2_read_59 rfl (by decide) (fun _ => rfl) (fun zx42 ezx42 => ?_)
        refine ri_goto a_X2_read_62 ?_
        rw [ezx42, nI_1]
        refine ih (k + 1) p zM41 (by omega) ?_ ?_
        · rw [hzM41, hzM31]
          exact frR_tr (frR_tr (frR_tr (frR_tr hf (by rw [hzM12]; exact frP_R fl_frP)) (frP_R a1)) (frP_R fl_frP)) frR_10
        · rw [hzM41]; exact bR_up a3
  have good : ∀ r k s acc z M1, r + k = 3 → frR t M M1 → M1 13 0 = tp → gR t n M1 s z → z ≤ s.2.1 → z = acc.flatten.length → acc.length = k → txS M1 t acc → (∀ ops ∈ acc, wfd 32 ops 0) →
      lr_W tC sC w d jX2_read 28 [some (vo 12 0), some (vo 8 t), some (vi (nI k))] [] M1 (qX (rdP t n M (match pTk tp n r k s acc with
        | .inl p => .inl p
        | .inr x => if x.1.1 = (0, 0) then .inr x.2 else .inl x.1.2.1))) := by
    intro r
    induction r with
    | zero =>
      intro k s acc z M1 hrk hf htp1 hg hz hzl hal hts hwf
      have hk : k = 3 := by omega
      subst hk
      have htok : M1 12 0 3 = tkc s.1 := hg.2.2.1.2.1
      have hs2 := hg.2.2.2.2.1
      have hsn := hg.2.2.2.1.1
      rw [pTk]
      dsimp only
      by_cases h0 : s.1 = (0, 0)
      · rw [if_pos h0]
        refine ri_ild a_X2_read_28 rfl ?_
        refine ri_ic a_X2_read_29 ?_
        refine ri_icmp_gt a_X2_read_30 (fun zc11 => ?_) (fun zc11 => ?_)
        · refine ri_ald a_X2_read_65 rfl ?_
          refine ri_ic a_X2_read_66 ?_
          refine ri_cVpv (as := [vi 1]) (rest := []) (d' := d - 1) a_X2_read_67 mv_X2_expect ml_X2_48 (rcC_12 iC_12) (by omega) (ok_X2_expectE (by rw [htok, h0]; rfl)) (Nat.le_of_ble_eq_true rfl) rfl ?_
          refine ri_ald a_X2_read_70 rfl ?_
          refine ri_ic a_X2_read_71 ?_
          refine ri_putI a_X2_read_72 fp_X2_15 kC_12_1 rfl iC_12 (fun zM12 ezM12 => ?_)
          refine ri_ald a_X2_read_75 rfl ?_
          refine ri_getI a_X2_read_76 fl_X2_33 kC_12_6 rfl iC_12 ?_
          refine ri_ireturn a_X2_read_79 rfl rfl ?_
          refine rX ⟨?_, ?_, ?_, ⟨hal, ?_, by omega, hwf⟩⟩
          · rw [ezM12]; exact frR_tr hf frR_12
          · rw [ezM12]; exact up_same _ _ _ _ _
          · rw [ezM12, up_k (by decide)]; exact hg.2.1
          · refine ⟨fun i o h => ?_, fun j h => ?_⟩
            · rw [ezM12, up_apply, if_neg (by omega)]; exact hts.1 i o h
            · rw [ezM12, up_apply, if_neg (by omega)]; exact hts.2 j h
        · exact absurd zc11 (by decide)
      · rw [if_neg h0]
        have hne : ¬ M1 12 0 3 = 1 := by
          rw [htok, show (1 : Int32) = tkc (0, 0) from rfl, tkc_is hs2 (by decide)]
          exact h0
        refine ri_ild a_X2_read_28 rfl ?_
        refine ri_ic a_X2_read_29 ?_
        refine ri_icmp_gt a_X2_read_30 (fun zc11 => ?_) (fun zc11 => ?_)
        · refine ri_ald a_X2_read_65 rfl ?_
          refine ri_ic a_X2_read_66 ?_
          refine ri_cVxv (as := [vi 1]) (rest := []) (d' := d - 1) a_X2_read_67 mv_X2_expect ml_X2_48 (rcC_12 iC_12) (by omega) (ok_X2_expect0 (by omega) 1 hne) (Nat.le_of_ble_eq_true rfl) rfl (fun zM12 hzM12 => ?_)
          refine ri_ald a_X2_read_70 rfl ?_
          refine ri_ic a_X2_read_71 ?_
          refine ri_putI a_X2_read_72 fp_X2_15 kC_12_1 rfl iC_12 (fun zM13 ezM13 => ?_)
          refine ri_ald a_X2_read_75 rfl ?_
          refine ri_getI a_X2_read_76 fl_X2_33 kC_12_6 rfl iC_12 ?_
          refine ri_ireturn a_X2_read_79 rfl rfl ?_
          refine rX ⟨?_, ?_, ?_, hsn⟩
          · rw [ezM13, hzM12]; exact frR_tr (frR_tr hf (frP_R fl_frP)) frR_12
          · rw [ezM13]; exact up_same _ _ _ _ _
          · rw [ezM13, hzM12, up_k (by decide)]; exact (fl_good hn hg).2.1
        · exact absurd zc11 (by decide)
    | succ r ih =>
      intro k s acc z M1 hrk hf htp1 hg hz hzl hal hts hwf
      have htok : M1 12 0 3 = tkc s.1 := hg.2.2.1.2.1
      have hs1 := hg.2.2.2.1
      have hs2 := hg.2.2.2.2.1
      have e4k : (4 : Int32) + nI k = nI (4 + k) := by rw [← nI_add]; rfl
      have hT : (3, k) ∈ TL := by
        have : k = 0 ∨ k = 1 ∨ k = 2 := by omega
        rcases this with rfl | rfl | rfl <;> decide
      have nlt : ¬ (2 : Int32) < nI k := by rw [show (2 : Int32) = nI 2 from rfl, nI_ltI (by omega) (by omega)]; omega
      rw [pTk]
      by_cases h3k : s.1 = (3, k)
      · rw [if_pos h3k]
        refine ri_ild a_X2_read_28 rfl ?_
        refine ri_ic a_X2_read_29 ?_
        refine ri_icmp_gt a_X2_read_30 (fun zc11 => ?_) (fun zc11 => ?_)
        · exact absurd zc11 nlt
        · refine ri_ald a_X2_read_33 rfl ?_
          refine ri_ic a_X2_read_34 ?_
          refine ri_ild a_X2_read_35 rfl ?_
          refine ri_iadd a_X2_read_36 ?_
          refine ri_cVxv (as := [vi (4 + (nI k))]) (rest := []) (d' := d - 1) a_X2_read_37 mv_X2_expect ml_X2_48 (rcC_12 iC_12) (by omega) (ok_X2_expect1 (by omega) hn hg _ (by rw [h3k, e4k]; rfl) (by rw [e4k]; intro q; have := (nI_eq (a := 4 + k) (b := 1) (by omega) (by omega)).mp q; omega)) (Nat.le_of_ble_eq_true rfl) rfl (fun zM12 hzM12 => ?_)
          rw [htp1] at hzM12
          obtain ⟨a1, a2, a3⟩ := hzM12
          have htp2 : zM12 13 0 = tp := (frP_tp (frm_P (t := t) a1)).trans htp1
          have ts2 : txS zM12 t acc := ⟨fun i o h => (a1 9 t i (fun q => absurd q.1 (by decide))).trans (hts.1 i o h), fun j h => (a1 10 t j (fun q => absurd q.1 (by decide))).trans (hts.2 j h)⟩
          generalize hs' : pnx tp n s = s1 at a2 a3
          refine ri_ald a_X2_read_40 rfl ?_
          refine ri_ic a_X2_read_41 ?_
          refine ri_cVxv (as := [vi 0]) (rest := []) (d' := d - 1) a_X2_read_42 mv_X2_either ml_X2_52 (rcC_12 iC_12) (by omega) (hE.1 (d - 1) zM12 s1 z _ nI_0.symm (by omega) htp2 a2 a3) (Nat.le_of_ble_eq_true rfl) rfl (fun zM21 hzM21 => ?_)
          obtain ⟨b1, b2⟩ := hzM21
          unfold pEx
          cases hres : lvE tp n (pRec tp n 5) s1 with
          | inl p =>
            rw [hres] at b2
            have b2 : bR t n zM21 p := b2
            have h3 := b2.2.2.2.1
            have c3 := fl_bad hn b2
            have hl7 : fl zM21 12 0 7 = nI t := c3.1.2
            refine ri_ald a_X2_read_45 rfl ?_
            refine ri_ic a_X2_read_46 ?_
            refine ri_cVxv (as := [vi 59]) (rest := []) (d' := d - 1) a_X2_read_48 mv_X2_expect ml_X2_48 (rcC_12 iC_12) (by omega) (ok_X2_expect0 (by omega) 59 (by rw [h3]; decide)) (Nat.le_of_ble_eq_true rfl) rfl (fun zM31 hzM31 => ?_)
            rw [← hzM31] at c3 hl7
            refine ri_ald a_X2_read_51 rfl ?_
            refine ri_getVe (t0 := t) a_X2_read_52 fl_X2_36 kC_12_7 rfl iC_12 (by assumption) (by omega) ?_
            refine ri_ild a_X2_read_55 rfl ?_
            refine ri_cVxv (as := [vi (nI k)]) (rest := []) (d' := d - 1) a_X2_read_56 mv_X1_endPart ml_X2_55 (rcC_8 (iC_8 (by assumption))) (by omega) (ok_X1_endPart ht (nI k) (vp_in_nI (by omega) (by decide))) (Nat.le_of_ble_eq_true rfl) rfl (fun zM41 hzM41 => ?_)
            refine ri_iinc (c0 := 1) (f := fun zx42 => [some (vo 12 0), some (vo 8 t), some (vi zx42)]) a_X2_read_59 rfl (by decide) (fun _ => rfl) (fun zx42 ezx42 => ?_)
            refine ri_goto a_X2_read_62 ?_
            rw [ezx42, nI_1]
            refine bad r (k + 1) p zM41 (by omega) ?_ ?_
            · rw [hzM41, hzM31]
              exact frR_tr (frR_tr (frR_tr (frR_tr hf (frP_R (frm_P a1))) (frP_R b1)) (frP_R fl_frP)) frR_10
            · rw [hzM41]; exact bR_up c3
          | inr x =>
            rw [hres] at b2
            obtain ⟨b2, b3, b4, b5⟩ := b2
            have htok2 : zM21 12 0 3 = tkc x.1.1 := b2.2.2.1.2.1
            have hx2 := b2.2.2.2.2.1
            have htp3 : zM21 13 0 = tp := (frP_tp b1).trans htp2
            dsimp only
            by_cases h59 : x.1.1 = (4, 59)
            · rw [if_pos h59]
              have hpe : pEx tp n s1 = .inr x := by unfold pEx; rw [hres]; dsimp only; rw [if_pos h59]
              obtain ⟨_, _, _, hw⟩ := pEx_ok a2.2.2.2.1 a2.2.2.2.2.1 hpe
              refine ri_ald a_X2_read_45 rfl ?_
              refine ri_ic a_X2_read_46 ?_
              refine ri_cVxv (as := [vi 59]) (rest := []) (d' := d - 1) a_X2_read_48 mv_X2_expect ml_X2_48 (rcC_12 iC_12) (by omega) (ok_X2_expect1 (by omega) hn b2 59 (by rw [h59]; decide) (by decide)) (Nat.le_of_ble_eq_true rfl) rfl (fun zM31 hzM31 => ?_)
              rw [htp3] at hzM31
              obtain ⟨f1, f2, f3⟩ := hzM31
              have hl7 := f2.1.2
              have hl8 := f2.2.2.2.2.2.1
              refine ri_ald a_X2_read_51 rfl ?_
              refine ri_getVe (t0 := t) a_X2_read_52 fl_X2_36 kC_12_7 rfl iC_12 (by assumption) (by omega) ?_
              refine ri_ild a_X2_read_55 rfl ?_
              refine ri_cVxv (as := [vi (nI k)]) (rest := []) (d' := d - 1) a_X2_read_56 mv_X1_endPart ml_X2_55 (rcC_8 (iC_8 (by assumption))) (by omega) (ok_X1_endPart ht (nI k) (vp_in_nI (by omega) (by decide))) (Nat.le_of_ble_eq_true rfl) rfl (fun zM41 hzM41 => ?_)
              refine ri_iinc (c0 := 1) (f := fun zx42 => [some (vo 12 0), some (vo 8 t), some (vi zx42)]) a_X2_read_59 rfl (by decide) (fun _ => rfl) (fun zx42 ezx42 => ?_)
              refine ri_goto a_X2_read_62 ?_
              rw [ezx42, nI_1]
              rw [nI_clamp (by omega), hl8] at hzM41
              have hfl : (acc ++ [x.2]).flatten = acc.flatten ++ x.2 := by simp
              have cd : ∀ i, zM41 9 t i = zM21 9 t i := fun i => by rw [hzM41, up_apply, if_neg (by omega)]; exact f1 9 t i (fun q => absurd q.1 (by decide))
              have en : ∀ j, j ≠ k → zM41 10 t j = zM12 10 t j := fun j hj => by
                rw [hzM41, up_apply, if_neg (by omega)]
                exact (f1 10 t j (fun q => absurd q.1 (by decide))).trans (b1 10 t j (by omega) (by omega) (by omega))
              refine ih (k + 1) (pnx tp n x.1) (acc ++ [x.2]) (z + x.2.length) zM41 (by omega) ?_ ?_ ?_ f3 (by rw [hfl, List.length_append, hzl]) (by simp [hal]) ⟨fun i o h => ?_, fun j h => ?_⟩ ?_
              · rw [hzM41]
                exact frR_tr (frR_tr (frR_tr (frR_tr hf (frP_R (frm_P a1))) (frP_R b1)) (frP_R (frm_P f1))) frR_10
              · rw [hzM41]
                exact (funext fun q => by rw [up_apply, if_neg (by omega)]; exact f1 13 0 q (fun q => absurd q.1 (by decide))).trans htp3
              · rw [hzM41]; exact gR_up f2
              · rw [hfl, List.getElem?_append] at h
                rw [cd]
                split at h
                · rename_i hlt
                  rw [b4 i (by omega)]
                  exact ts2.1 i o h
                · rename_i hlt
                  have := b5 (i - acc.flatten.length) o h
                  rwa [← hzl, show z + (i - z) = i by omega] at this
              · rw [List.length_append, List.length_singleton, hal] at h
                by_cases hjk : j = k
                · subst hjk
                  rw [hzM41, up_same, List.take_of_length_le (by simp [hal]), hfl, List.length_append, hzl]
                · rw [en j hjk, ts2.2 j (by omega), List.take_append_of_le_length (by omega)]
              · intro ops ho
                rcases List.mem_append.mp ho with h | h
                · exact hwf ops h
                · rw [List.mem_singleton.mp h]; exact hw
            · rw [if_neg h59]
              have hne : ¬ zM21 12 0 3 = 59 := by
                rw [htok2, show (59 : Int32) = tkc (4, 59) from rfl, tkc_is hx2 (by decide)]
                exact h59
              have c3 := fl_good hn b2
              have hl7 : fl zM21 12 0 7 = nI t := c3.1.2
              refine ri_ald a_X2_read_45 rfl ?_
              refine ri_ic a_X2_read_46 ?_
              refine ri_cVxv (as := [vi 59]) (rest := []) (d' := d - 1) a_X2_read_48 mv_X2_expect ml_X2_48 (rcC_12 iC_12) (by omega) (ok_X2_expect0 (by omega) 59 hne) (Nat.le_of_ble_eq_true rfl) rfl (fun zM31 hzM31 => ?_)
              rw [← hzM31] at c3 hl7
              refine ri_ald a_X2_read_51 rfl ?_
              refine ri_getVe (t0 := t) a_X2_read_52 fl_X2_36 kC_12_7 rfl iC_12 (by assumption) (by omega) ?_
              refine ri_ild a_X2_read_55 rfl ?_
              refine ri_cVxv (as := [vi (nI k)]) (rest := []) (d' := d - 1) a_X2_read_56 mv_X1_endPart ml_X2_55 (rcC_8 (iC_8 (by assumption))) (by omega) (ok_X1_endPart ht (nI k) (vp_in_nI (by omega) (by decide))) (Nat.le_of_ble_eq_true rfl) rfl (fun zM41 hzM41 => ?_)
              refine ri_iinc (c0 := 1) (f := fun zx42 => [some (vo 12 0), some (vo 8 t), some (vi zx42)]) a_X2_read_59 rfl (by decide) (fun _ => rfl) (fun zx42 ezx42 => ?_)
              refine ri_goto a_X2_read_62 ?_
              rw [ezx42, nI_1]
              refine bad r (k + 1) x.1.2.1 zM41 (by omega) ?_ ?_
              · rw [hzM41, hzM31]
                exact frR_tr (frR_tr (frR_tr (frR_tr hf (frP_R (frm_P a1))) (frP_R b1)) (frP_R fl_frP)) frR_10
              · rw [hzM41]; exact bR_up c3
      · rw [if_neg h3k]
        have hne : ¬ M1 12 0 3 = 4 + nI k := by
          rw [htok, e4k, show nI (4 + k) = tkc (3, k) from rfl, tkc_is hs2 hT]
          exact h3k
        have b1 := fl_good hn hg
        refine ri_ild a_X2_read_28 rfl ?_
        refine ri_ic a_X2_read_29 ?_
        refine ri_icmp_gt a_X2_read_30 (fun zc11 => ?_) (fun zc11 => ?_)
        · exact absurd zc11 nlt
        · refine ri_ald a_X2_read_33 rfl ?_
          refine ri_ic a_X2_read_34 ?_
          refine ri_ild a_X2_read_35 rfl ?_
          refine ri_iadd a_X2_read_36 ?_
          refine ri_cVxv (as := [vi (4 + (nI k))]) (rest := []) (d' := d - 1) a_X2_read_37 mv_X2_expect ml_X2_48 (rcC_12 iC_12) (by omega) (ok_X2_expect0 (by omega) _ hne) (Nat.le_of_ble_eq_true rfl) rfl (fun zM12 hzM12 => ?_)
          rw [← hzM12] at b1
          refine ri_ald a_X2_read_40 rfl ?_
          refine ri_ic a_X2_read_41 ?_
          refine ri_cVxv (as := [vi 0]) (rest := []) (d' := d - 1) a_X2_read_42 mv_X2_either ml_X2_52 (rcC_12 iC_12) (by omega) (hE.2 (d - 1) zM12 s.2.1 _ nI_0.symm (by omega) b1) (Nat.le_of_ble_eq_true rfl) rfl (fun zM21 hzM21 => ?_)
          obtain ⟨a1, a2⟩ := hzM21
          have h3 := a2.2.2.2.1
          have a3 := fl_bad hn a2
          have hl7 : fl zM21 12 0 7 = nI t := a3.1.2
          refine ri_ald a_X2_read_45 rfl ?_
          refine ri_ic a_X2_read_46 ?_
          refine ri_cVxv (as := [vi 59]) (rest := []) (d' := d - 1) a_X2_read_48 mv_X2_expect ml_X2_48 (rcC_12 iC_12) (by omega) (ok_X2_expect0 (by omega) 59 (by rw [h3]; decide)) (Nat.le_of_ble_eq_true rfl) rfl (fun zM31 hzM31 => ?_)
          rw [← hzM31] at a3 hl7
          refine ri_ald a_X2_read_51 rfl ?_
          refine ri_getVe (t0 := t) a_X2_read_52 fl_X2_36 kC_12_7 rfl iC_12 (by assumption) (by omega) ?_
          refine ri_ild a_X2_read_55 rfl ?_
          refine ri_cVxv (as := [vi (nI k)]) (rest := []) (d' := d - 1) a_X2_read_56 mv_X1_endPart ml_X2_55 (rcC_8 (iC_8 (by assumption))) (by omega) (ok_X1_endPart ht (nI k) (vp_in_nI (by omega) (by decide))) (Nat.le_of_ble_eq_true rfl) rfl (fun zM41 hzM41 => ?_)
          refine ri_iinc (c0 := 1) (f := fun zx42 => [some (vo 12 0), some (vo 8 t), some (vi zx42)]) a_X2_read_59 rfl (by decide) (fun _ => rfl) (fun zx42 ezx42 => ?_)
          refine ri_goto a_X2_read_62 ?_
          rw [ezx42, nI_1]
          refine bad r (k + 1) s.2.1 zM41 (by omega) ?_ ?_
          · rw [hzM41, hzM31]
            exact frR_tr (frR_tr (frR_tr (frR_tr hf (by rw [hzM12]; exact frP_R fl_frP)) (frP_R a1)) (frP_R fl_frP)) frR_10
          · rw [hzM41]; exact bR_up a3
  refine lr_ok (ls := [some (vo 12 0), some (vo 8 t), none]) (by decide +kernel) rfl ?_
  refine ri_ald a_X2_read_0 rfl ?_
  refine ri_ald a_X2_read_1 rfl ?_
  refine ri_putV a_X2_read_2 fp_X2_36 kC_12_7 rfl iC_12 (nI_clamp (by omega)) (fun zM1 ezM1 => ?_)
  have hl7 : zM1 12 0 7 = nI t := by rw [ezM1]; exact up_same _ _ _ _ _
  refine ri_ald a_X2_read_5 rfl ?_
  refine ri_getVe (t0 := t) a_X2_read_6 fl_X2_36 kC_12_7 rfl iC_12 (by assumption) (by omega) ?_
  refine ri_cVxv (as := []) (rest := []) (d' := d - 1) a_X2_read_9 mv_X1_clear ml_X2_40 (rcC_8 (iC_8 (by assumption))) (by omega) (ok_X1_clear ht) (Nat.le_of_ble_eq_true rfl) rfl (fun zM11 hzM11 => ?_)
  refine ri_ald a_X2_read_12 rfl ?_
  refine ri_ic a_X2_read_13 ?_
  refine ri_putI a_X2_read_14 fp_X2_19 kC_12_2 rfl iC_12 (fun zM12 ezM12 => ?_)
  refine ri_ald a_X2_read_17 rfl ?_
  refine ri_ic a_X2_read_18 ?_
  refine ri_putI a_X2_read_19 fp_X2_33 kC_12_6 rfl iC_12 (fun zM13 ezM13 => ?_)
  have g1 : zM13 12 0 1 = nI n := by rw [ezM13, up_k (by decide), ezM12, up_k (by decide), hzM11, up_apply, if_neg (by omega), ezM1, up_k (by decide)]; exact hsz
  have g2 : zM13 12 0 2 = nI 0 := by rw [ezM13, up_k (by decide), ezM12, up_same]; exact nI_0.symm
  have g6 : zM13 12 0 6 = -1 := by rw [ezM13]; exact up_same _ _ _ _ _
  have g7 : zM13 12 0 7 = nI t := by rw [ezM13, up_k (by decide), ezM12, up_k (by decide), hzM11, up_apply, if_neg (by omega)]; exact hl7
  have g8 : zM13 8 t 3 = nI 0 := by rw [ezM13, up_apply, if_neg (by omega), ezM12, up_apply, if_neg (by omega), hzM11, up_same]; exact nI_0.symm
  have g13 : zM13 13 0 = tp := by
    rw [← htp]
    funext q
    rw [ezM13, up_apply, if_neg (by omega), ezM12, up_apply, if_neg (by omega), hzM11, up_apply, if_neg (by omega), ezM1, up_apply, if_neg (by omega)]
  have gf : frR t M zM13 := by
    rw [ezM13, ezM12, hzM11, ezM1]
    exact frR_tr (frR_tr (frR_tr frR_12 (fun t' i k _ b _ _ => by rw [up_apply, if_neg b])) frR_12) frR_12
  refine ri_ald a_X2_read_22 rfl ?_
  refine ri_cVxv (as := []) (rest := []) (d' := d - 1) a_X2_read_23 mv_X2_advance ml_X2_45 (rcC_12 iC_12) (by omega) (ok_X2_advance (by omega) g6 g1 hn g2 (Nat.zero_le _)) (Nat.le_of_ble_eq_true rfl) rfl (fun zM21 hzM21 => ?_)
  refine ri_ic a_X2_read_26 ?_
  refine ri_istk (ls' := [some (vo 12 0), some (vo 8 t), some (vi 0)]) a_X2_read_27 rfl ?_
  rw [g13] at hzM21
  obtain ⟨a1, a2⟩ := hzM21
  obtain ⟨k1, k2⟩ := tkA_ok tp (Nat.zero_le n)
  have := k1.2.1
  exact good 3 0 (tkA tp n 0) [] 0 zM21 rfl (frR_tr gf (frP_R (frm_P a1))) ((frP_tp (frm_P (t := t) a1)).trans g13) ⟨frP_C (frm_P a1) ⟨g1, g7⟩, (a1 12 0 6 (by decide)).trans g6, a2, k1, tkA_okT tp n 0, (a1 8 t 3 (fun q => absurd q.1 (by decide))).trans g8, Nat.zero_le _⟩ (Nat.zero_le _) rfl rfl ⟨fun i o h => by simp at h, fun j h => by simp at h⟩ (fun ops h => by simp at h)

