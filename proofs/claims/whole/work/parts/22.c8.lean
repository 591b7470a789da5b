/-! class: Reader's words, advance -/
theorem ok_X5_wordOf {T : Tb} {S : Nat → Bool} {w : Wd} {d : Nat} {M : Mem} {k : Nat} (hk : k < 12) (t : Int32) (ht : t = nI (4 + k)) : lr_Ok T S w d jX5_wordOf [vi t] M (qO 99 (fun i => i = k + 1) M) := by
  refine lr_ok (ls := [some (vi t)]) (by decide +kernel) rfl ?_
  have hkk : k = 0 ∨ k = 1 ∨ k = 2 ∨ k = 3 ∨ k = 4 ∨ k = 5 ∨ k = 6 ∨ k = 7 ∨ k = 8 ∨ k = 9 ∨ k = 10 ∨ k = 11 := by omega
  rcases hkk with rfl | rfl | rfl | rfl | rfl | rfl | rfl | rfl | rfl | rfl | rfl | rfl
  all_goals
    refine ri_ild a_X5_wordOf_0 rfl ?_
    refine ri_tsw a_X5_wordOf_1 ⟨fun zc1 => ?_, fun zc1 => ?_, fun zc1 => ?_, fun zc1 => ?_, fun zc1 => ?_, fun zc1 => ?_, fun zc1 => ?_, fun zc1 => ?_, fun zc1 => ?_, fun zc1 => ?_, fun zc1 => ?_, fun zc1 => ?_, trivial⟩ (fun zc1 => ?_)
    · replace zc1 : t = 4 := zc1.trans (by decide)
      refine ri_sc (q := 1) a_X5_wordOf_64 rfl ?_
      refine ri_areturn a_X5_wordOf_66 rfl (Or.inl ⟨_, rfl⟩) ?_
      first | exact rO rfl | (subst ht; exact absurd zc1 (by decide)) | (subst ht; exact absurd zc1 (by decide +kernel))
    · replace zc1 : t = 5 := zc1.trans (by decide)
      refine ri_sc (q := 2) a_X5_wordOf_67 rfl ?_
      refine ri_areturn a_X5_wordOf_69 rfl (Or.inl ⟨_, rfl⟩) ?_
      first | exact rO rfl | (subst ht; exact absurd zc1 (by decide)) | (subst ht; exact absurd zc1 (by decide +kernel))
    · replace zc1 : t = 6 := zc1.trans (by decide)
      refine ri_sc (q := 3) a_X5_wordOf_70 rfl ?_
      refine ri_areturn a_X5_wordOf_72 rfl (Or.inl ⟨_, rfl⟩) ?_
      first | exact rO rfl | (subst ht; exact absurd zc1 (by decide)) | (subst ht; exact absurd zc1 (by decide +kernel))
    · replace zc1 : t = 7 := zc1.trans (by decide)
      refine ri_sc (q := 4) a_X5_wordOf_73 rfl ?_
      refine ri_areturn a_X5_wordOf_75 rfl (Or.inl ⟨_, rfl⟩) ?_
      first | exact rO rfl | (subst ht; exact absurd zc1 (by decide)) | (subst ht; exact absurd zc1 (by decide +kernel))
    · replace zc1 : t = 8 := zc1.trans (by decide)
      refine ri_sc (q := 5) a_X5_wordOf_76 rfl ?_
      refine ri_areturn a_X5_wordOf_78 rfl (Or.inl ⟨_, rfl⟩) ?_
      first | exact rO rfl | (subst ht; exact absurd zc1 (by decide)) | (subst ht; exact absurd zc1 (by decide +kernel))
    · replace zc1 : t = 9 := zc1.trans (by decide)
      refine ri_sc (q := 6) a_X5_wordOf_79 rfl ?_
      refine ri_areturn a_X5_wordOf_81 rfl (Or.inl ⟨_, rfl⟩) ?_
      first | exact rO rfl | (subst ht; exact absurd zc1 (by decide)) | (subst ht; exact absurd zc1 (by decide +kernel))
    · replace zc1 : t = 10 := zc1.trans (by decide)
      refine ri_sc (q := 7) a_X5_wordOf_82 rfl ?_
      refine ri_areturn a_X5_wordOf_84 rfl (Or.inl ⟨_, rfl⟩) ?_
      first | exact rO rfl | (subst ht; exact absurd zc1 (by decide)) | (subst ht; exact absurd zc1 (by decide +kernel))
    · replace zc1 : t = 11 := zc1.trans (by decide)
      refine ri_sc (q := 8) a_X5_wordOf_85 rfl ?_
      refine ri_areturn a_X5_wordOf_87 rfl (Or.inl ⟨_, rfl⟩) ?_
      first | exact rO rfl | (subst ht; exact absurd zc1 (by decide)) | (subst ht; exact absurd zc1 (by decide +kernel))
    · replace zc1 : t = 12 := zc1.trans (by decide)
      refine ri_sc (q := 9) a_X5_wordOf_88 rfl ?_
      refine ri_areturn a_X5_wordOf_90 rfl (Or.inl ⟨_, rfl⟩) ?_
      first | exact rO rfl | (subst ht; exact absurd zc1 (by decide)) | (subst ht; exact absurd zc1 (by decide +kernel))
    · replace zc1 : t = 13 := zc1.trans (by decide)
      refine ri_sc (q := 10) a_X5_wordOf_91 rfl ?_
      refine ri_areturn a_X5_wordOf_93 rfl (Or.inl ⟨_, rfl⟩) ?_
      first | exact rO rfl | (subst ht; exact absurd zc1 (by decide)) | (subst ht; exact absurd zc1 (by decide +kernel))
    · replace zc1 : t = 14 := zc1.trans (by decide)
      refine ri_sc (q := 11) a_X5_wordOf_94 rfl ?_
      refine ri_areturn a_X5_wordOf_96 rfl (Or.inl ⟨_, rfl⟩) ?_
      first | exact rO rfl | (subst ht; exact absurd zc1 (by decide)) | (subst ht; exact absurd zc1 (by decide +kernel))
    · replace zc1 : t = 15 := zc1.trans (by decide)
      refine ri_sc (q := 12) a_X5_wordOf_97 rfl ?_
      refine ri_areturn a_X5_wordOf_99 rfl (Or.inl ⟨_, rfl⟩) ?_
      first | exact rO rfl | (subst ht; exact absurd zc1 (by decide)) | (subst ht; exact absurd zc1 (by decide +kernel))
    · refine ri_sc (q := 13) a_X5_wordOf_100 rfl ?_
      refine ri_areturn a_X5_wordOf_102 rfl (Or.inl ⟨_, rfl⟩) ?_
      first | exact rO rfl | (subst ht; exact absurd zc1 (by decide)) | (subst ht; exact absurd zc1 (by decide +kernel))
theorem sb_ok : ∀ q, q < lr_nstr → lr_slen.getD q 0 = (lr_sbyt.getD q []).length := by decide +kernel
theorem sgm_len (tp : Nat → Int32) (p n : Nat) : (sgm tp p n).length = n := by simp [sgm]
theorem sgm_at {tp : Nat → Int32} {p n i : Nat} (h : i < n) : (sgm tp p n)[i]? = some (tp (p + i)) := by simp [sgm, h]
theorem sgm_eq {tp : Nat → Int32} {p n : Nat} {l : List Int32} (hl : l.length = n) (h : ∀ i, i < n → tp (p + i) = l.getD i 0) : sgm tp p n = l := by
  apply List.ext_getElem?
  intro i
  by_cases hi : i < n
  · rw [sgm_at hi, h i hi, List.getD_eq_getElem?_getD]
    rw [List.getElem?_eq_getElem (by omega)]
    rfl
  · rw [List.getElem?_eq_none (by rw [sgm_len]; omega), List.getElem?_eq_none (by omega)]
theorem ok_X2_isWord {w : Wd} {d : Nat} (hd : 4 ≤ d) {M : Mem} {q p e : Nat} (hq : q < lr_nstr) (hat : M 12 0 2 = nI e) (hpl : M 12 0 4 = nI p) (hpe : p ≤ e) (he : e ≤ 160) :
    lr_Ok tC sC w d jX2_isWord [vo 12 0, vo 99 q] M (qB (sgm (M 13 0) p (e - p) = lr_sbyt.getD q []) M) := by
  have hL := slen_lt q hq
  have hlen := sb_ok q hq
  have esub : nI e - nI p = nI (e - p) := by
    obtain ⟨z, rfl⟩ : ∃ z, e = p + z := ⟨e - p, by omega⟩
    rw [← nI_add, Int32.add_comm, Int32.add_sub_cancel, Nat.add_sub_cancel_left]
  have loop : ∀ r i, lr_slen.getD q 0 < i + r → i ≤ lr_slen.getD q 0 → lr_slen.getD q 0 = e - p → (∀ k, k < i → M 13 0 (p + k) = (lr_sbyt.getD q []).getD k 0) → lr_W tC sC w d jX2_isWord 20 [some (vo 12 0), some (vo 99 q), some (vi (nI i))] [] M (qB (sgm (M 13 0) p (e - p) = lr_sbyt.getD q []) M) := by
    intro r
    induction r with
    | zero => intro i h1 h2; omega
    | succ r ih =>
      intro i h1 h2 h3 h4
      refine ri_ild a_X2_isWord_20 rfl ?_
      refine ri_ald a_X2_isWord_21 rfl ?_
      refine ri_cVpi (as := []) (rest := [vi (nI i)]) (d' := d - 1) a_X2_isWord_22 mv_J0_length_8abf5 ml_X2_121 (Or.inr ⟨rfl, hq, rfl⟩) (by omega) (ok_J0_length (by omega) hq) (Nat.le_of_ble_eq_true rfl) rfl (fun zy1 ezy1 => ?_)
      refine ri_icmp_ge a_X2_isWord_25 (fun zc2 => ?_) (fun zc2 => ?_)
      · refine ri_ic a_X2_isWord_55 ?_
        refine ri_ireturn a_X2_isWord_56 rfl (by decide) ?_
        first | (rw [ezy1, nI_leI (by omega) (by omega)] at zc2; exact rB1 (sgm_eq (by omega) (fun k hk => h4 k (by omega))))
      · refine ri_ald a_X2_isWord_28 rfl ?_
        refine ri_getR (t' := 13) (i' := 0) a_X2_isWord_29 fl_X2_9 kC_12_0 rfl iC_12 (Or.inr ⟨rfl, rfl, rfl⟩) ?_
        refine ri_ald a_X2_isWord_32 rfl ?_
        refine ri_getI a_X2_isWord_33 fl_X2_27 kC_12_4 rfl iC_12 ?_
        refine ri_ild a_X2_isWord_36 rfl ?_
        refine ri_iadd a_X2_isWord_37 ?_
        refine ri_iaload a_X2_isWord_38 lC_13 rfl iC_13 ?_ ?_
        · rw [ezy1, nI_leI (by omega) (by omega)] at zc2
          rw [hpl, nI_add]
          exact vp_in_nI (by omega) (by decide)
        refine ri_ald a_X2_isWord_39 rfl ?_
        refine ri_ild a_X2_isWord_40 rfl ?_
        refine ri_cVpi (as := [vi (nI i)]) (rest := [vi (M 13 0 ((M 12 0 4) + (nI i)).toNatClampNeg)]) (d' := d - 1) a_X2_isWord_41 mv_J0_charAt_5068e ml_X2_127 (Or.inr ⟨rfl, hq, rfl⟩) (by omega) (ok_J0_charAt (by omega) hq (by rw [ezy1, nI_leI (by omega) (by omega)] at zc2; omega) hL) (Nat.le_of_ble_eq_true rfl) rfl (fun zy3 ezy3 => ?_)
        refine ri_icmp_eq a_X2_isWord_44 (fun zc4 => ?_) (fun zc4 => ?_)
        · refine ri_iinc (c0 := 1) (f := fun zx5 => [some (vo 12 0), some (vo 99 q), some (vi zx5)]) a_X2_isWord_49 rfl (by decide) (fun _ => rfl) (fun zx5 ezx5 => ?_)
          refine ri_goto a_X2_isWord_52 ?_
          rw [hpl, nI_add, nI_clamp (by rw [ezy1, nI_leI (by omega) (by omega)] at zc2; omega), ezy3] at zc4
          rw [ezy1, nI_leI (by omega) (by omega)] at zc2
          rw [ezx5, nI_1]
          refine ih (i + 1) (by omega) (by omega) h3 (fun k hk => ?_)
          by_cases hki : k = i
          · rw [hki]; exact zc4
          · exact h4 k (by omega)
        · refine ri_ic a_X2_isWord_47 ?_
          refine ri_ireturn a_X2_isWord_48 rfl (by decide) ?_
          rw [hpl, nI_add, nI_clamp (by rw [ezy1, nI_leI (by omega) (by omega)] at zc2; omega), ezy3] at zc4
          rw [ezy1, nI_leI (by omega) (by omega)] at zc2
          refine rB0 (fun hs => zc4 ?_)
          rw [← hs, List.getD_eq_getElem?_getD, sgm_at (by omega)]
          rfl
  refine lr_ok (ls := [some (vo 12 0), some (vo 99 q), none]) (by decide +kernel) rfl ?_
  refine ri_ald a_X2_isWord_0 rfl ?_
  refine ri_cVpi (as := []) (rest := []) (d' := d - 1) a_X2_isWord_1 mv_J0_length_8abf5 ml_X2_121 (Or.inr ⟨rfl, hq, rfl⟩) (by omega) (ok_J0_length (by omega) hq) (Nat.le_of_ble_eq_true rfl) rfl (fun zy1 ezy1 => ?_)
  refine ri_ald a_X2_isWord_4 rfl ?_
  refine ri_getI a_X2_isWord_5 fl_X2_19 kC_12_2 rfl iC_12 ?_
  refine ri_ald a_X2_isWord_8 rfl ?_
  refine ri_getI a_X2_isWord_9 fl_X2_27 kC_12_4 rfl iC_12 ?_
  refine ri_isub a_X2_isWord_12 ?_
  refine ri_icmp_eq a_X2_isWord_13 (fun zc2 => ?_) (fun zc2 => ?_)
  · refine ri_ic a_X2_isWord_18 ?_
    refine ri_istk (ls' := [some (vo 12 0), some (vo 99 q), some (vi 0)]) a_X2_isWord_19 rfl ?_
    rw [ezy1, hat, hpl, esub, nI_eq (by omega) (by omega)] at zc2
    exact loop (lr_slen.getD q 0 + 1) 0 (by omega) (by omega) zc2 (fun k hk => by omega)
  · refine ri_ic a_X2_isWord_16 ?_
    refine ri_ireturn a_X2_isWord_17 rfl (by decide) ?_
    rw [ezy1, hat, hpl, esub, nI_eq (by omega) (by omega)] at zc2
    exact rB0 (fun hs => zc2 (by rw [hlen, ← hs, sgm_len]))
theorem idx_lt {l : List Int32} (h : wds.idxOf l < 12) : wds.getD (wds.idxOf l) [] = l := by
  have hl : wds.idxOf l < wds.length := h
  rw [List.getD_eq_getElem?_getD, List.getElem?_eq_getElem hl, List.getElem_idxOf hl]
  rfl
theorem wd_idx : ∀ k, k < 12 → wds.idxOf (wds.getD k []) = k ∧ lr_sbyt.getD (k + 1) [] = wds.getD k [] := by decide +kernel
def tkW (l : List Int32) (j : Nat) : Int32 := if wds.idxOf l < j then nI (4 + wds.idxOf l) else 2
theorem ok_X2_takeWord {w : Wd} {d : Nat} (hd : 5 ≤ d) {M : Mem} {n p : Nat} (hn : M 12 0 1 = nI n) (hn2 : n ≤ 160) (hp : p < n) (hat : M 12 0 2 = nI p) (hpl : M 12 0 4 = nI p) :
    lr_Ok tC sC w d jX2_takeWord [vo 12 0] M (qV fun M' => frm [2, 3] M M' ∧ M' 12 0 2 = nI (rnP bL (M 13 0) (n - p) p) ∧ M' 12 0 3 = tkW (sgm (M 13 0) p (rnP bL (M 13 0) (n - p) p - p)) 12) := by
  generalize hE : rnP bL (M 13 0) (n - p) p = e
  have hle := rnP_le bL (M 13 0) (n - p) p
  rw [hE] at hle
  -- the words
  have wl : ∀ r k M1, 12 < k + r → k ≤ 12 → frm [2, 3] M M1 → M1 12 0 2 = nI e → M1 12 0 3 = tkW (sgm (M 13 0) p (e - p)) k → lr_W tC sC w d jX2_takeWord 46 [some (vo 12 0), some (vi (nI (4 + k)))] [] M1 (qV fun M' => frm [2, 3] M M' ∧ M' 12 0 2 = nI e ∧ M' 12 0 3 = tkW (sgm (M 13 0) p (e - p)) 12) := by
    intro r
    induction r with
    | zero => intro k M1 h1 h2; omega
    | succ r ih =>
      intro k M1 h1 h2 hf ha ht
      have f4 : M1 12 0 4 = nI p := (hf 12 0 4 (by decide)).trans hpl
      have f13 : M1 13 0 = M 13 0 := funext fun k => hf 13 0 k (fun q => absurd q.1 (by decide))
      have e15 : (15 : Int32) = nI 15 := rfl
      refine ri_ild a_X2_takeWord_46 rfl ?_
      refine ri_ic a_X2_takeWord_47 ?_
      refine ri_icmp_gt a_X2_takeWord_49 (fun zc11 => ?_) (fun zc11 => ?_)
      · rw [e15, nI_ltI (by omega) (by omega)] at zc11
        have hk : k = 12 := by omega
        subst hk
        refine ri_return a_X2_takeWord_74 rfl ?_
        exact rV ⟨hf, ha, ht⟩
      · rw [e15, nI_ltI (by omega) (by omega)] at zc11
        have hk12 : k < 12 := by omega
        obtain ⟨w1, w2⟩ := wd_idx k hk12
        refine ri_ald a_X2_takeWord_52 rfl ?_
        refine ri_ild a_X2_takeWord_53 rfl ?_
        refine ri_cSpo (as := [vi (nI (4 + k))]) (rest := [vo 12 0]) (d' := d - 1) a_X2_takeWord_54 ms_X5_wordOf ml_X2_113 (by omega) (ok_X5_wordOf hk12 (nI (4 + k)) rfl) (Nat.le_of_ble_eq_true rfl) rfl (fun zi21 hzi21 => ?_)
        refine ri_cVpb (as := [vo 99 zi21]) (rest := []) (d' := d - 1) a_X2_takeWord_57 mv_X2_isWord ml_X2_117 (rcC_12 iC_12) (by omega) (ok_X2_isWord (by omega) (by rw [hzi21]; show k + 1 < 14; omega) ha f4 (by omega) (by omega)) (Nat.le_of_ble_eq_true rfl) rfl (fun zc22 => ?_) (fun zc22 => ?_)
        · refine ri_if_eq a_X2_takeWord_60 (fun q => absurd q (by decide)) (fun _ => ?_)
          refine ri_ald a_X2_takeWord_63 rfl ?_
          refine ri_ild a_X2_takeWord_64 rfl ?_
          refine ri_putI a_X2_takeWord_65 fp_X2_24 kC_12_3 rfl iC_12 (fun zM23 ezM23 => ?_)
          refine ri_iinc (c0 := 1) (f := fun zx24 => [some (vo 12 0), some (vi zx24)]) a_X2_takeWord_68 rfl (by decide) (fun _ => rfl) (fun zx24 ezx24 => ?_)
          refine ri_goto a_X2_takeWord_71 ?_
          rw [hzi21, w2, f13] at zc22
          rw [ezx24, nI_1]
          refine ih (k + 1) zM23 (by omega) (by omega) ?_ ?_ ?_
          · rw [ezM23]; exact frm_up hf (by decide)
          · rw [ezM23, up_k (by decide)]; exact ha
          · rw [ezM23, up_same, zc22, tkW, w1, if_pos (by omega)]
        · refine ri_if_eq a_X2_takeWord_60 (fun _ => ?_) (fun q => absurd q (by decide))
          refine ri_iinc (c0 := 1) (f := fun zx25 => [some (vo 12 0), some (vi zx25)]) a_X2_takeWord_68 rfl (by decide) (fun _ => rfl) (fun zx25 ezx25 => ?_)
          refine ri_goto a_X2_takeWord_71 ?_
          rw [hzi21, w2, f13] at zc22
          rw [ezx25, nI_1]
          refine ih (k + 1) M1 (by omega) (by omega) hf ha ?_
          rw [ht, tkW, tkW]
          have hne : wds.idxOf (sgm (M 13 0) p (e - p)) ≠ k := fun q => zc22 (by rw [← q]; exact (idx_lt (by omega)).symm)
          by_cases hlt : wds.idxOf (sgm (M 13 0) p (e - p)) < k
          · rw [if_pos hlt, if_pos (by omega)]
          · rw [if_neg hlt, if_neg (by omega)]
  have loop : ∀ r a M1, n < a + r → p ≤ a → a ≤ n → frm [2, 3] M M1 → M1 12 0 2 = nI a → e = rnP bL (M 13 0) (n - a) a →
      lr_W tC sC w d jX2_takeWord 0 [some (vo 12 0), none] [] M1 (qV fun M' => frm [2, 3] M M' ∧ M' 12 0 2 = nI e ∧ M' 12 0 3 = tkW (sgm (M 13 0) p (e - p)) 12) := by
    intro r
    induction r with
    | zero => intro a M1 h1 h2; omega
    | succ r ih =>
      intro a M1 h1 h2 h3 hf ha hrn
      have f1 : M1 12 0 1 = nI n := (hf 12 0 1 (by decide)).trans hn
      have f13 : M1 13 0 = M 13 0 := funext fun k => hf 13 0 k (fun q => absurd q.1 (by decide))
      have fin : e = a → lr_W tC sC w d jX2_takeWord 39 [some (vo 12 0), none] [] M1 (qV fun M' => frm [2, 3] M M' ∧ M' 12 0 2 = nI e ∧ M' 12 0 3 = tkW (sgm (M 13 0) p (e - p)) 12) := by
        intro hEa
        refine ri_ald a_X2_takeWord_39 rfl ?_
        refine ri_ic a_X2_takeWord_40 ?_
        refine ri_putI a_X2_takeWord_41 fp_X2_24 kC_12_3 rfl iC_12 (fun zM31 ezM31 => ?_)
        refine ri_ic a_X2_takeWord_44 ?_
        refine ri_istk (ls' := [some (vo 12 0), some (vi 4)]) a_X2_takeWord_45 rfl ?_
        refine wl 13 0 zM31 (by omega) (by omega) ?_ ?_ ?_
        · rw [ezM31]; exact frm_up hf (by decide)
        · rw [ezM31, up_k (by decide), hEa]; exact ha
        · rw [ezM31, up_same]; rfl
      refine ri_ald a_X2_takeWord_0 rfl ?_
      refine ri_getI a_X2_takeWord_1 fl_X2_19 kC_12_2 rfl iC_12 ?_
      refine ri_ald a_X2_takeWord_4 rfl ?_
      refine ri_getI a_X2_takeWord_5 fl_X2_15 kC_12_1 rfl iC_12 ?_
      refine ri_icmp_ge a_X2_takeWord_8 (fun zc11 => ?_) (fun zc11 => ?_)
      · rw [f1, ha, nI_leI (by omega) (by omega)] at zc11
        exact fin (by rw [hrn, show n - a = 0 by omega]; rfl)
      · refine ri_ald a_X2_takeWord_11 rfl ?_
        refine ri_getR (t' := 13) (i' := 0) a_X2_takeWord_12 fl_X2_9 kC_12_0 rfl iC_12 (Or.inr ⟨rfl, rfl, rfl⟩) ?_
        refine ri_ald a_X2_takeWord_15 rfl ?_
        refine ri_getI a_X2_takeWord_16 fl_X2_19 kC_12_2 rfl iC_12 ?_
        refine ri_iaload a_X2_takeWord_19 lC_13 rfl iC_13 ?_ ?_
        · rw [f1, ha, nI_leI (by omega) (by omega)] at zc11
          rw [ha]
          exact vp_in_nI (by omega) (by decide)
        refine ri_cSpb (as := [vi (M1 13 0 (M1 12 0 2).toNatClampNeg)]) (rest := []) (d' := d - 1) a_X2_takeWord_20 ms_X2_isLetter ml_X2_104 (by omega) (ok_X2_isLetter (M1 13 0 (M1 12 0 2).toNatClampNeg)) (Nat.le_of_ble_eq_true rfl) rfl (fun zc12 => ?_) (fun zc12 => ?_)
        · refine ri_if_eq a_X2_takeWord_23 (fun q => absurd q (by decide)) (fun _ => ?_)
          refine ri_ald a_X2_takeWord_26 rfl ?_
          refine ri_dup a_X2_takeWord_27 (fun _ h => by cases h) ?_
          refine ri_getI a_X2_takeWord_28 fl_X2_19 kC_12_2 rfl iC_12 ?_
          refine ri_ic a_X2_takeWord_31 ?_
          refine ri_iadd a_X2_takeWord_32 ?_
          refine ri_putI a_X2_takeWord_33 fp_X2_19 kC_12_2 rfl iC_12 (fun zM13 ezM13 => ?_)
          refine ri_goto a_X2_takeWord_36 ?_
          rw [f1, ha, nI_leI (by omega) (by omega)] at zc11
          rw [ha, nI_clamp (by omega), f13] at zc12
          obtain ⟨z, hz⟩ : ∃ z, n - a = z + 1 := ⟨n - a - 1, by omega⟩
          refine ih (a + 1) zM13 (by omega) (by omega) (by omega) ?_ ?_ ?_
          · rw [ezM13]; exact frm_up hf (by decide)
          · rw [ezM13, up_same, ha, nI_1]
          · rw [hrn, hz, rnP_t (bL_i.mpr zc12), show n - (a + 1) = z by omega]
        · refine ri_if_eq a_X2_takeWord_23 (fun _ => ?_) (fun q => absurd q (by decide))
          rw [f1, ha, nI_leI (by omega) (by omega)] at zc11
          rw [ha, nI_clamp (by omega), f13] at zc12
          obtain ⟨z, hz⟩ : ∃ z, n - a = z + 1 := ⟨n - a - 1, by omega⟩
          exact fin (by rw [hrn, hz, rnP_f (fun q => zc12 (bL_i.mp q))])
  refine lr_ok (ls := [some (vo 12 0), none]) (by decide +kernel) rfl ?_
  exact loop (n + 1) p M (by omega) (Nat.le_refl _) (by omega) frm_rf hat hE.symm
theorem tkA_end {tp : Nat → Int32} {n a p : Nat} (hp : rnP bB tp (n - a) a = p) (h : n ≤ p) : tkA tp n a = ((0, 0), p, p) := by
  unfold tkA
  dsimp only
  rw [hp, if_pos h]
theorem tkA_num {tp : Nat → Int32} {n a p e : Nat} (hp : rnP bB tp (n - a) a = p) (h : ¬ n ≤ p) (hd : bD (tp p) = true) (he : rnP bD tp (n - p) p = e) : tkA tp n a = (if 4 < e - p then (1, 0) else (2, dcN tp p (e - p)), p, e) := by
  unfold tkA
  dsimp only
  rw [hp, if_neg h, if_pos hd, he]
theorem tkA_wrd {tp : Nat → Int32} {n a p e : Nat} (hp : rnP bB tp (n - a) a = p) (h : ¬ n ≤ p) (hd : ¬ bD (tp p) = true) (hl : bL (tp p) = true) (he : rnP bL tp (n - p) p = e) : tkA tp n a = (if wds.idxOf (sgm tp p (e - p)) < 12 then (3, wds.idxOf (sgm tp p (e - p))) else (1, 0), p, e) := by
  unfold tkA
  dsimp only
  rw [hp, if_neg h, if_neg hd, if_pos hl, he]
theorem tkA_sgn {tp : Nat → Int32} {n a p : Nat} (hp : rnP bB tp (n - a) a = p) (h : ¬ n ≤ p) (hd : ¬ bD (tp p) = true) (hl : ¬ bL (tp p) = true) : tkA tp n a = (if bS (tp p) = true then (4, (tp p).toNatClampNeg) else (1, 0), p, p + 1) := by
  unfold tkA
  dsimp only
  rw [hp, if_neg h, if_neg hd, if_neg hl]
/-- how the class tells a token -/
def tkc (t : Tok) : Int32 := match t.1 with
  | 0 => 1
  | 1 => 2
  | 2 => 3
  | 3 => nI (4 + t.2)
  | _ => nI t.2
def rdT (M : Mem) (s : PS) : Prop := M 12 0 2 = nI s.2.2 ∧ M 12 0 3 = tkc s.1 ∧ M 12 0 4 = nI s.2.1 ∧ (s.1.1 = 2 → M 12 0 5 = nI s.1.2)
theorem bB_i {x : Int32} : bB x = true ↔ x = 32 ∨ x = 10 := by simp [bB]
theorem sg_nI {x : Int32} (h : bS x = true) : nI x.toNatClampNeg = x := by
  rw [bS_i] at h
  rcases h with h | h | h | h | h | h | h | h <;> rw [h] <;> decide
theorem ok_X2_advance0 {w : Wd} {d : Nat} {M : Mem} (hf : ¬ M 12 0 6 = -1) : lr_Ok tC sC w d jX2_advance [vo 12 0] M (qN M) := by
  refine lr_ok (ls := [some (vo 12 0)]) (by decide +kernel) rfl ?_
  refine ri_ald a_X2_advance_0 rfl ?_
  refine ri_getI a_X2_advance_1 fl_X2_33 kC_12_6 rfl iC_12 ?_
  refine ri_ic a_X2_advance_4 ?_
  refine ri_icmp_eq a_X2_advance_5 (fun zc1 => ?_) (fun zc1 => ?_)
  · exact absurd zc1 hf
  · refine ri_return a_X2_advance_8 rfl ?_
    exact rN
theorem ok_X2_advance {w : Wd} {d : Nat} (hd : 6 ≤ d) {M : Mem} {n a : Nat} (hf6 : M 12 0 6 = -1) (hn : M 12 0 1 = nI n) (hn2 : n ≤ 160) (hat : M 12 0 2 = nI a) (han : a ≤ n) : lr_Ok tC sC w d jX2_advance [vo 12 0] M (qV fun M' => frm [2, 3, 4, 5] M M' ∧ rdT M' (tkA (M 13 0) n a)) := by
  generalize hE : rnP bB (M 13 0) (n - a) a = p
  have hle := rnP_le bB (M 13 0) (n - a) a
  rw [hE] at hle
  have fin : ∀ M1, frm [2] M M1 → M1 12 0 2 = nI p → lr_W tC sC w d jX2_advance 61 [some (vo 12 0)] [] M1 (qV fun M' => frm [2, 3, 4, 5] M M' ∧ rdT M' (tkA (M 13 0) n a)) := by
    intro M1 hf ha
    have f1 : M1 12 0 1 = nI n := (hf 12 0 1 (by decide)).trans hn
    have f13 : M1 13 0 = M 13 0 := funext fun k => hf 13 0 k (fun q => absurd q.1 (by decide))
    refine ri_ald a_X2_advance_61 rfl ?_
    refine ri_ald a_X2_advance_62 rfl ?_
    refine ri_getI a_X2_advance_63 fl_X2_19 kC_12_2 rfl iC_12 ?_
    refine ri_putI a_X2_advance_66 fp_X2_27 kC_12_4 rfl iC_12 (fun zM11 ezM11 => ?_)
    refine ri_ald a_X2_advance_69 rfl ?_
    refine ri_getI a_X2_advance_70 fl_X2_19 kC_12_2 rfl iC_12 ?_
    refine ri_ald a_X2_advance_73 rfl ?_
    refine ri_getI a_X2_advance_74 fl_X2_15 kC_12_1 rfl iC_12 ?_
    refine ri_icmp_lt a_X2_advance_77 (fun zc12 => ?_) (fun zc12 => ?_)
    · rw [ezM11, up_k (by decide), up_k (by decide), f1, ha, nI_ltI (by omega) (by omega)] at zc12
      have g1 : zM11 12 0 1 = nI n := by rw [ezM11, up_k (by decide)]; exact f1
      have g2 : zM11 12 0 2 = nI p := by rw [ezM11, up_k (by decide)]; exact ha
      have g4 : zM11 12 0 4 = nI p := by rw [ezM11, up_same]; exact ha
      have g13 : zM11 13 0 = M 13 0 := by rw [← f13, ezM11]; rfl
      have gf : frm [2, 4] M zM11 := by rw [ezM11]; exact frm_up (frm_sub hf (by decide)) (by decide)
      have hnp : ¬ n ≤ p := by omega
      have hpin : vp_in (zM11 12 0 2) 160 := by rw [g2]; exact vp_in_nI (by omega) (by decide)
      refine ri_ald a_X2_advance_88 rfl ?_
      refine ri_getR (t' := 13) (i' := 0) a_X2_advance_89 fl_X2_9 kC_12_0 rfl iC_12 (Or.inr ⟨rfl, rfl, rfl⟩) ?_
      refine ri_ald a_X2_advance_92 rfl ?_
      refine ri_getI a_X2_advance_93 fl_X2_19 kC_12_2 rfl iC_12 ?_
      refine ri_iaload a_X2_advance_96 lC_13 rfl iC_13 ?_ ?_
      · exact hpin
      refine ri_cSpb (as := [vi (zM11 13 0 (zM11 12 0 2).toNatClampNeg)]) (rest := []) (d' := d - 1) a_X2_advance_97 ms_X2_isDigit ml_X2_98 (by omega) (ok_X2_isDigit (zM11 13 0 (zM11 12 0 2).toNatClampNeg)) (Nat.le_of_ble_eq_true rfl) rfl (fun zc21 => ?_) (fun zc21 => ?_)
      · refine ri_if_eq a_X2_advance_100 (fun q => absurd q (by decide)) (fun _ => ?_)
        refine ri_ald a_X2_advance_103 rfl ?_
        refine ri_cVxv (as := []) (rest := []) (d' := d - 1) a_X2_advance_104 mv_X2_takeNumber ml_X2_101 (rcC_12 iC_12) (by omega) (ok_X2_takeNumber (by omega) g1 hn2 zc12 g2 g4) (Nat.le_of_ble_eq_true rfl) rfl (fun zM22 hzM22 => ?_)
        refine ri_goto a_X2_advance_107 ?_
        refine ri_return a_X2_advance_174 rfl ?_
        rw [g2, nI_clamp (by omega), g13] at zc21
        obtain ⟨k1, k2, k3, k4⟩ := hzM22
        rw [g13] at k2 k3 k4
        generalize hee : rnP bD (M 13 0) (n - p) p = e at k2 k3 k4
        rw [tkA_num hE hnp (bD_i.mpr zc21) hee]
        refine rV ⟨frm_tr (frm_sub gf (by decide)) (frm_sub k1 (by decide)), k2, ?_, (k1 12 0 4 (by decide)).trans g4, ?_⟩
        · dsimp only
          split
          · rename_i h4; exact k3 h4
          · rename_i h4; exact (k4 h4).1
        · dsimp only
          split
          · intro q; exact absurd q (by decide)
          · rename_i h4; intro _; exact (k4 h4).2
      · refine ri_if_eq a_X2_advance_100 (fun _ => ?_) (fun q => absurd q (by decide))
        refine ri_ald a_X2_advance_110 rfl ?_
        refine ri_getR (t' := 13) (i' := 0) a_X2_advance_111 fl_X2_9 kC_12_0 rfl iC_12 (Or.inr ⟨rfl, rfl, rfl⟩) ?_
        refine ri_ald a_X2_advance_114 rfl ?_
        refine ri_getI a_X2_advance_115 fl_X2_19 kC_12_2 rfl iC_12 ?_
        refine ri_iaload a_X2_advance_118 lC_13 rfl iC_13 ?_ ?_
        · exact hpin
        refine ri_cSpb (as := [vi (zM11 13 0 (zM11 12 0 2).toNatClampNeg)]) (rest := []) (d' := d - 1) a_X2_advance_119 ms_X2_isLetter ml_X2_104 (by omega) (ok_X2_isLetter (zM11 13 0 (zM11 12 0 2).toNatClampNeg)) (Nat.le_of_ble_eq_true rfl) rfl (fun zc23 => ?_) (fun zc23 => ?_)
        · refine ri_if_eq a_X2_advance_122 (fun q => absurd q (by decide)) (fun _ => ?_)
          refine ri_ald a_X2_advance_125 rfl ?_
          refine ri_cVxv (as := []) (rest := []) (d' := d - 1) a_X2_advance_126 mv_X2_takeWord ml_X2_107 (rcC_12 iC_12) (by omega) (ok_X2_takeWord (by omega) g1 hn2 zc12 g2 g4) (Nat.le_of_ble_eq_true rfl) rfl (fun zM24 hzM24 => ?_)
          refine ri_goto a_X2_advance_129 ?_
          refine ri_return a_X2_advance_174 rfl ?_
          rw [g2, nI_clamp (by omega), g13] at zc21 zc23
          obtain ⟨k1, k2, k3⟩ := hzM24
          rw [g13] at k2 k3
          generalize hee : rnP bL (M 13 0) (n - p) p = e at k2 k3
          rw [tkA_wrd hE hnp (fun q => zc21 (bD_i.mp q)) (bL_i.mpr zc23) hee]
          refine rV ⟨frm_tr (frm_sub gf (by decide)) (frm_sub k1 (by decide)), k2, ?_, (k1 12 0 4 (by decide)).trans g4, ?_⟩
          · rw [k3, tkW]
            dsimp only
            split
            · rfl
            · rfl
          · dsimp only
            split
            · intro q; exact absurd (show (3 : Nat) = 2 from q) (by decide)
            · intro q; exact absurd (show (1 : Nat) = 2 from q) (by decide)
        · refine ri_if_eq a_X2_advance_122 (fun _ => ?_) (fun q => absurd q (by decide))
          refine ri_ald a_X2_advance_132 rfl ?_
          refine ri_ald a_X2_advance_133 rfl ?_
          refine ri_getR (t' := 13) (i' := 0) a_X2_advance_134 fl_X2_9 kC_12_0 rfl iC_12 (Or.inr ⟨rfl, rfl, rfl⟩) ?_
          refine ri_ald a_X2_advance_137 rfl ?_
          refine ri_getI a_X2_advance_138 fl_X2_19 kC_12_2 rfl iC_12 ?_
          refine ri_iaload a_X2_advance_141 lC_13 rfl iC_13 ?_ ?_
          · exact hpin
          refine ri_cSpb (as := [vi (zM11 13 0 (zM11 12 0 2).toNatClampNeg)]) (rest := [vo 12 0]) (d' := d - 1) a_X2_advance_142 ms_X5_isSign ml_X2_110 (by omega) (ok_X5_isSign (zM11 13 0 (zM11 12 0 2).toNatClampNeg)) (Nat.le_of_ble_eq_true rfl) rfl (fun zc25 => ?_) (fun zc25 => ?_)
          · refine ri_if_eq a_X2_advance_145 (fun q => absurd q (by decide)) (fun _ => ?_)
            refine ri_ald a_X2_advance_148 rfl ?_
            refine ri_getR (t' := 13) (i' := 0) a_X2_advance_149 fl_X2_9 kC_12_0 rfl iC_12 (Or.inr ⟨rfl, rfl, rfl⟩) ?_
            refine ri_ald a_X2_advance_152 rfl ?_
            refine ri_getI a_X2_advance_153 fl_X2_19 kC_12_2 rfl iC_12 ?_
            refine ri_iaload a_X2_advance_156 lC_13 rfl iC_13 ?_ ?_
            · exact hpin
            refine ri_goto a_X2_advance_157 ?_
            refine ri_putI a_X2_advance_161 fp_X2_24 kC_12_3 rfl iC_12 (fun zM26 ezM26 => ?_)
            refine ri_ald a_X2_advance_164 rfl ?_
            refine ri_dup a_X2_advance_165 (fun _ h => by cases h) ?_
            refine ri_getI a_X2_advance_166 fl_X2_19 kC_12_2 rfl iC_12 ?_
            refine ri_ic a_X2_advance_169 ?_
            refine ri_iadd a_X2_advance_170 ?_
            refine ri_putI a_X2_advance_171 fp_X2_19 kC_12_2 rfl iC_12 (fun zM27 ezM27 => ?_)
            refine ri_return a_X2_advance_174 rfl ?_
            rw [g2, nI_clamp (by omega), g13] at zc21 zc23 zc25
            rw [tkA_sgn hE hnp (fun q => zc21 (bD_i.mp q)) (fun q => zc23 (bL_i.mp q)), if_pos (bS_i.mpr zc25)]
            refine rV ⟨?_, ?_, ?_, ?_, fun q => absurd (show (4 : Nat) = 2 from q) (by decide)⟩
            · rw [ezM27, ezM26]; exact frm_up (frm_up (frm_sub gf (by decide)) (by decide)) (by decide)
            · rw [ezM27, up_same, ezM26, up_k (by decide), g2, nI_1]
            · rw [ezM27, up_k (by decide), ezM26, up_same, g2, nI_clamp (by omega), g13]
              exact (sg_nI (bS_i.mpr zc25)).symm
            · rw [ezM27, up_k (by decide), ezM26, up_k (by decide)]; exact g4
          · refine ri_if_eq a_X2_advance_145 (fun _ => ?_) (fun q => absurd q (by decide))
            refine ri_ic a_X2_advance_160 ?_
            refine ri_putI a_X2_advance_161 fp_X2_24 kC_12_3 rfl iC_12 (fun zM28 ezM28 => ?_)
            refine ri_ald a_X2_advance_164 rfl ?_
            refine ri_dup a_X2_advance_165 (fun _ h => by cases h) ?_
            refine ri_getI a_X2_advance_166 fl_X2_19 kC_12_2 rfl iC_12 ?_
            refine ri_ic a_X2_advance_169 ?_
            refine ri_iadd a_X2_advance_170 ?_
            refine ri_putI a_X2_advance_171 fp_X2_19 kC_12_2 rfl iC_12 (fun zM29 ezM29 => ?_)
            refine ri_return a_X2_advance_174 rfl ?_
            rw [g2, nI_clamp (by omega), g13] at zc21 zc23 zc25
            rw [tkA_sgn hE hnp (fun q => zc21 (bD_i.mp q)) (fun q => zc23 (bL_i.mp q)), if_neg (fun q => zc25 (bS_i.mp q))]
            refine rV ⟨?_, ?_, ?_, ?_, fun q => absurd (show (1 : Nat) = 2 from q) (by decide)⟩
            · rw [ezM29, ezM28]; exact frm_up (frm_up (frm_sub gf (by decide)) (by decide)) (by decide)
            · rw [ezM29, up_same, ezM28, up_k (by decide), g2, nI_1]
            · rw [ezM29, up_k (by decide), ezM28, up_same]; rfl
            · rw [ezM29, up_k (by decide), ezM28, up_k (by decide)]; exact g4
    · rw [ezM11, up_k (by decide), up_k (by decide), f1, ha, nI_ltI (by omega) (by omega)] at zc12
      refine ri_ald a_X2_advance_80 rfl ?_
      refine ri_ic a_X2_advance_81 ?_
      refine ri_putI a_X2_advance_82 fp_X2_24 kC_12_3 rfl iC_12 (fun zM21 ezM21 => ?_)
      refine ri_goto a_X2_advance_85 ?_
      refine ri_return a_X2_advance_174 rfl ?_
      rw [tkA_end hE (by omega)]
      refine rV ⟨?_, ?_, ?_, ?_, fun q => absurd (show (0 : Nat) = 2 from q) (by decide)⟩
      · rw [ezM21, ezM11]; exact frm_up (frm_up (frm_sub hf (by decide)) (by decide)) (by decide)
      · rw [ezM21, up_k (by decide), ezM11, up_k (by decide)]; exact ha
      · rw [ezM21, up_same]; rfl
      · rw [ezM21, up_k (by decide), ezM11, up_same]; exact ha
  have loop : ∀ r b M1, n < b + r → b ≤ n → frm [2] M M1 → M1 12 0 2 = nI b → rnP bB (M 13 0) (n - b) b = p → lr_W tC sC w d jX2_advance 9 [some (vo 12 0)] [] M1 (qV fun M' => frm [2, 3, 4, 5] M M' ∧ rdT M' (tkA (M 13 0) n a)) := by
    intro r
    induction r with
    | zero => intro b M1 h1 h2; omega
    | succ r ih =>
      intro b M1 h1 h2 hf ha hrn
      have f1 : M1 12 0 1 = nI n := (hf 12 0 1 (by decide)).trans hn
      have f13 : M1 13 0 = M 13 0 := funext fun k => hf 13 0 k (fun q => absurd q.1 (by decide))
      have hbin : b < n → vp_in (M1 12 0 2) 160 := fun q => by rw [ha]; exact vp_in_nI (by omega) (by decide)
      have step : ∀ M2, b < n → (M 13 0 b = 32 ∨ M 13 0 b = 10) → M2 = up M1 12 0 2 (M1 12 0 2 + 1) → lr_W tC sC w d jX2_advance 9 [some (vo 12 0)] [] M2 (qV fun M' => frm [2, 3, 4, 5] M M' ∧ rdT M' (tkA (M 13 0) n a)) := by
        intro M2 hlt hb hM2
        obtain ⟨z, hz⟩ : ∃ z, n - b = z + 1 := ⟨n - b - 1, by omega⟩
        refine ih (b + 1) M2 (by omega) (by omega) ?_ ?_ ?_
        · rw [hM2]; exact frm_up hf (by decide)
        · rw [hM2, up_same, ha, nI_1]
        · rw [← hrn, hz, rnP_t (bB_i.mpr hb), show n - (b + 1) = z by omega]
      refine ri_ald a_X2_advance_9 rfl ?_
      refine ri_getI a_X2_advance_10 fl_X2_19 kC_12_2 rfl iC_12 ?_
      refine ri_ald a_X2_advance_13 rfl ?_
      refine ri_getI a_X2_advance_14 fl_X2_15 kC_12_1 rfl iC_12 ?_
      refine ri_icmp_ge a_X2_advance_17 (fun zc11 => ?_) (fun zc11 => ?_)
      · rw [f1, ha, nI_leI (by omega) (by omega)] at zc11
        have hbn : b = n := by omega
        exact fin M1 hf (by rw [ha, ← hrn, hbn, Nat.sub_self]; rfl)
      · refine ri_ald a_X2_advance_20 rfl ?_
        refine ri_getR (t' := 13) (i' := 0) a_X2_advance_21 fl_X2_9 kC_12_0 rfl iC_12 (Or.inr ⟨rfl, rfl, rfl⟩) ?_
        refine ri_ald a_X2_advance_24 rfl ?_
        refine ri_getI a_X2_advance_25 fl_X2_19 kC_12_2 rfl iC_12 ?_
        refine ri_iaload a_X2_advance_28 lC_13 rfl iC_13 ?_ ?_
        · rw [f1, ha, nI_leI (by omega) (by omega)] at zc11
          exact hbin (by omega)
        refine ri_ic a_X2_advance_29 ?_
        refine ri_icmp_eq a_X2_advance_31 (fun zc12 => ?_) (fun zc12 => ?_)
        · refine ri_ald a_X2_advance_48 rfl ?_
          refine ri_dup a_X2_advance_49 (fun _ h => by cases h) ?_
          refine ri_getI a_X2_advance_50 fl_X2_19 kC_12_2 rfl iC_12 ?_
          refine ri_ic a_X2_advance_53 ?_
          refine ri_iadd a_X2_advance_54 ?_
          refine ri_putI a_X2_advance_55 fp_X2_19 kC_12_2 rfl iC_12 (fun zM13 ezM13 => ?_)
          refine ri_goto a_X2_advance_58 ?_
          rw [f1, ha, nI_leI (by omega) (by omega)] at zc11
          rw [ha, nI_clamp (by omega), f13] at zc12
          exact step zM13 (by omega) (Or.inl zc12) ezM13
        · refine ri_ald a_X2_advance_34 rfl ?_
          refine ri_getR (t' := 13) (i' := 0) a_X2_advance_35 fl_X2_9 kC_12_0 rfl iC_12 (Or.inr ⟨rfl, rfl, rfl⟩) ?_
          refine ri_ald a_X2_advance_38 rfl ?_
          refine ri_getI a_X2_advance_39 fl_X2_19 kC_12_2 rfl iC_12 ?_
          refine ri_iaload a_X2_advance_42 lC_13 rfl iC_13 ?_ ?_
          · rw [f1, ha, nI_leI (by omega) (by omega)] at zc11
            exact hbin (by omega)
          refine ri_ic a_X2_advance_43 ?_
          refine ri_icmp_ne a_X2_advance_45 (fun zc14 => ?_) (fun zc14 => ?_)
          · rw [f1, ha, nI_leI (by omega) (by omega)] at zc11
            rw [ha, nI_clamp (by omega), f13] at zc12 zc14
            obtain ⟨z, hz⟩ : ∃ z, n - b = z + 1 := ⟨n - b - 1, by omega⟩
            exact fin M1 hf (by rw [ha, ← hrn, hz, rnP_f (fun q => (bB_i.mp q).elim zc12 zc14)])
          · refine ri_ald a_X2_advance_48 rfl ?_
            refine ri_dup a_X2_advance_49 (fun _ h => by cases h) ?_
            refine ri_getI a_X2_advance_50 fl_X2_19 kC_12_2 rfl iC_12 ?_
            refine ri_ic a_X2_advance_53 ?_
            refine ri_iadd a_X2_advance_54 ?_
            refine ri_putI a_X2_advance_55 fp_X2_19 kC_12_2 rfl iC_12 (fun zM15 ezM15 => ?_)
            refine ri_goto a_X2_advance_58 ?_
            rw [f1, ha, nI_leI (by omega) (by omega)] at zc11
            rw [ha, nI_clamp (by omega), f13] at zc14
            exact step zM15 (by omega) (Or.inr zc14) ezM15
  refine lr_ok (ls := [some (vo 12 0)]) (by decide +kernel) rfl ?_
  refine ri_ald a_X2_advance_0 rfl ?_
  refine ri_getI a_X2_advance_1 fl_X2_33 kC_12_6 rfl iC_12 ?_
  refine ri_ic a_X2_advance_4 ?_
  refine ri_icmp_eq a_X2_advance_5 (fun zc1 => ?_) (fun zc1 => ?_)
  · exact loop (n + 1) a M (by omega) han frm_rf hat hE
  · refine ri_return a_X2_advance_8 rfl ?_
    exact absurd hf6 zc1

