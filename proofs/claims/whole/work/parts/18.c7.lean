/-! class: Reader's tokens -/
/-- nothing but these fields of the reader has changed -/
def frm (ks : List Nat) (M M' : Mem) : Prop := ∀ t i k, ¬ (t = 12 ∧ i = 0 ∧ k ∈ ks) → M' t i k = M t i k
theorem frm_rf {ks : List Nat} {M : Mem} : frm ks M M := fun _ _ _ _ => rfl
theorem frm_up {ks : List Nat} {M M1 : Mem} {k : Nat} {x : Int32} (h : frm ks M M1) (hk : k ∈ ks) : frm ks M (up M1 12 0 k x) := by
  intro t i k' hn
  rw [up_apply, if_neg (by rintro ⟨rfl, rfl, rfl⟩; exact hn ⟨rfl, rfl, hk⟩)]
  exact h t i k' hn
theorem frm_tr {ks : List Nat} {M M1 M2 : Mem} (h : frm ks M M1) (h2 : frm ks M1 M2) : frm ks M M2 := fun t i k hn => (h2 t i k hn).trans (h t i k hn)
theorem frm_sub {ks ks' : List Nat} {M M1 : Mem} (h : frm ks M M1) (hs : ∀ k ∈ ks, k ∈ ks') : frm ks' M M1 := fun t i k hn => h t i k (fun q => hn ⟨q.1, q.2.1, hs k q.2.2⟩)
theorem up_same (M : Mem) (t i k : Nat) (x : Int32) : up M t i k x t i k = x := by rw [up_apply, if_pos ⟨rfl, rfl, rfl⟩]
theorem up_k {M : Mem} {t i k k' : Nat} {x : Int32} (h : k' ≠ k) : up M t i k x t i k' = M t i k' := by rw [up_apply, if_neg (fun q => h q.2.2)]
theorem ok_X2_fail {w : Wd} {d : Nat} {M : Mem} : lr_Ok tC sC w d jX2_fail [vo 12 0] M (qV fun M' => M' = up (if M 12 0 6 = -1 then up M 12 0 6 (M 12 0 4) else M) 12 0 3 2) := by
  refine lr_ok (ls := [some (vo 12 0)]) (by decide +kernel) rfl ?_
  refine ri_ald a_X2_fail_0 rfl ?_
  refine ri_getI a_X2_fail_1 fl_X2_33 kC_12_6 rfl iC_12 ?_
  refine ri_ic a_X2_fail_4 ?_
  refine ri_icmp_ne a_X2_fail_5 (fun zc1 => ?_) (fun zc1 => ?_)
  · refine ri_ald a_X2_fail_16 rfl ?_
    refine ri_ic a_X2_fail_17 ?_
    refine ri_putI a_X2_fail_18 fp_X2_24 kC_12_3 rfl iC_12 (fun zM2 ezM2 => ?_)
    refine ri_return a_X2_fail_21 rfl ?_
    exact rV (by rw [if_neg zc1]; exact ezM2)
  · refine ri_ald a_X2_fail_8 rfl ?_
    refine ri_ald a_X2_fail_9 rfl ?_
    refine ri_getI a_X2_fail_10 fl_X2_27 kC_12_4 rfl iC_12 ?_
    refine ri_putI a_X2_fail_13 fp_X2_33 kC_12_6 rfl iC_12 (fun zM3 ezM3 => ?_)
    refine ri_ald a_X2_fail_16 rfl ?_
    refine ri_ic a_X2_fail_17 ?_
    refine ri_putI a_X2_fail_18 fp_X2_24 kC_12_3 rfl iC_12 (fun zM4 ezM4 => ?_)
    refine ri_return a_X2_fail_21 rfl ?_
    exact rV (by rw [if_pos zc1, ← ezM3]; exact ezM4)
theorem ok_X2_hear {w : Wd} {d : Nat} {M : Mem} {n : Nat} (hn : M 12 0 1 = nI n) (hn2 : n ≤ 160) (b : Int32) : lr_Ok tC sC w d jX2_hear [vo 12 0, vi b] M (qV fun M' => M' = if n < 160 then up (up M 13 0 n b) 12 0 1 (nI (n + 1)) else M) := by
  refine lr_ok (ls := [some (vo 12 0), some (vi b)]) (by decide +kernel) rfl ?_
  refine ri_ald a_X2_hear_0 rfl ?_
  refine ri_getI a_X2_hear_1 fl_X2_15 kC_12_1 rfl iC_12 ?_
  refine ri_ic a_X2_hear_4 ?_
  refine ri_icmp_ge a_X2_hear_7 (fun zc1 => ?_) (fun zc1 => ?_)
  · refine ri_return a_X2_hear_30 rfl ?_
    rw [hn, show (160 : Int32) = nI 160 from rfl, nI_leI (by omega) (by omega)] at zc1
    exact rV (by rw [if_neg (by omega)])
  · refine ri_ald a_X2_hear_10 rfl ?_
    refine ri_getR (t' := 13) (i' := 0) a_X2_hear_11 fl_X2_9 kC_12_0 rfl iC_12 (Or.inr ⟨rfl, rfl, rfl⟩) ?_
    refine ri_ald a_X2_hear_14 rfl ?_
    refine ri_getI a_X2_hear_15 fl_X2_15 kC_12_1 rfl iC_12 ?_
    refine ri_ild a_X2_hear_18 rfl ?_
    refine ri_iastore a_X2_hear_19 lC_13 rfl iC_13 ?_ (fun zM2 ezM2 => ?_)
    · rw [hn, show (160 : Int32) = nI 160 from rfl, nI_leI (by omega) (by omega)] at zc1
      rw [hn]
      exact vp_in_nI (by omega) (by decide)
    refine ri_ald a_X2_hear_20 rfl ?_
    refine ri_dup a_X2_hear_21 (fun _ h => by cases h) ?_
    refine ri_getI a_X2_hear_22 fl_X2_15 kC_12_1 rfl iC_12 ?_
    refine ri_ic a_X2_hear_25 ?_
    refine ri_iadd a_X2_hear_26 ?_
    refine ri_putI a_X2_hear_27 fp_X2_15 kC_12_1 rfl iC_12 (fun zM3 ezM3 => ?_)
    refine ri_return a_X2_hear_30 rfl ?_
    rw [hn, show (160 : Int32) = nI 160 from rfl, nI_leI (by omega) (by omega)] at zc1
    refine rV ?_
    rw [if_pos (by omega), ezM3, ezM2, hn, nI_clamp (by omega), up_apply, if_neg (by omega), hn, nI_1]
theorem bD_i {x : Int32} : bD x = true ↔ 48 ≤ x ∧ x ≤ 57 := by simp [bD]
theorem bL_i {x : Int32} : bL x = true ↔ 97 ≤ x ∧ x ≤ 122 := by simp [bL]
theorem bS_i {x : Int32} : bS x = true ↔ isSg x := by simp [bS, isSg]
theorem dig_step {x : Int32} (h : 48 ≤ x ∧ x ≤ 57) (a : Nat) (ha : a ≤ 999) : nI a * 10 + x - 48 = nI (a * 10 + (x.toNatClampNeg - 48)) := by
  obtain ⟨q, hq, rfl⟩ := nI_of (Int32.not_lt.mpr (Int32.le_trans (by decide) h.1))
  have h1 : 48 ≤ q := by have := h.1; rw [show (48 : Int32) = nI 48 from rfl, nI_leI (by omega) hq] at this; exact this
  have h2 : q ≤ 57 := by have := h.2; rw [show (57 : Int32) = nI 57 from rfl, nI_leI hq (by omega)] at this; exact this
  rw [nI_clamp hq]
  apply Int32.toInt_inj.mp
  rw [Int32.toInt_sub, Int32.toInt_add, Int32.toInt_mul, nI_toInt (by omega), nI_toInt (by omega), nI_toInt (by omega), show (10 : Int32).toInt = 10 from rfl, show (48 : Int32).toInt = 48 from rfl]
  rw [Int.bmod_eq_of_le (n := (a : Int) * 10) (by omega) (by omega), Int.bmod_eq_of_le (n := (a : Int) * 10 + q) (by omega) (by omega), Int.bmod_eq_of_le (by omega) (by omega)]
  omega
theorem dcN_lt (tp : Nat → Int32) (p : Nat) : ∀ k, (∀ i, i < k → bD (tp (p + i)) = true) → dcN tp p k < 10 ^ k := by
  intro k
  induction k with
  | zero => intro _; exact Nat.one_pos
  | succ k ih =>
    intro h
    have h1 := ih fun i hi => h i (by omega)
    have h2 := bD_i.mp (h k (by omega))
    obtain ⟨q, hq, e⟩ := nI_of (Int32.not_lt.mpr (Int32.le_trans (by decide) h2.1))
    rw [e] at h2
    have h3 : q ≤ 57 := by have := h2.2; rw [show (57 : Int32) = nI 57 from rfl, nI_leI hq (by omega)] at this; exact this
    rw [dcN, e, nI_clamp hq, Nat.pow_succ]
    omega
theorem ok_X2_takeNumber {w : Wd} {d : Nat} (hd : 1 ≤ d) {M : Mem} {n p : Nat} (hn : M 12 0 1 = nI n) (hn2 : n ≤ 160) (hp : p < n) (hat : M 12 0 2 = nI p) (hpl : M 12 0 4 = nI p) :
    lr_Ok tC sC w d jX2_takeNumber [vo 12 0] M (qV fun M' => frm [2, 3, 5] M M' ∧ M' 12 0 2 = nI (rnP bD (M 13 0) (n - p) p) ∧ (4 < rnP bD (M 13 0) (n - p) p - p → M' 12 0 3 = 2) ∧ (¬ 4 < rnP bD (M 13 0) (n - p) p - p → M' 12 0 3 = 3 ∧ M' 12 0 5 = nI (dcN (M 13 0) p (rnP bD (M 13 0) (n - p) p - p)))) := by
  have loop : ∀ r a M1, n < a + r → p ≤ a → a ≤ n → frm [2, 5] M M1 → M1 12 0 2 = nI a → (∀ i, i < a - p → bD (M 13 0 (p + i)) = true) → rnP bD (M 13 0) (n - p) p = rnP bD (M 13 0) (n - a) a → (a - p ≤ 4 → M1 12 0 5 = nI (dcN (M 13 0) p (a - p))) →
      lr_W tC sC w d jX2_takeNumber 5 [some (vo 12 0)] [] M1 (qV fun M' => frm [2, 3, 5] M M' ∧ M' 12 0 2 = nI (rnP bD (M 13 0) (n - p) p) ∧ (4 < rnP bD (M 13 0) (n - p) p - p → M' 12 0 3 = 2) ∧ (¬ 4 < rnP bD (M 13 0) (n - p) p - p → M' 12 0 3 = 3 ∧ M' 12 0 5 = nI (dcN (M 13 0) p (rnP bD (M 13 0) (n - p) p - p)))) := by
    intro r
    induction r with
    | zero => intro a M1 h1 h2; omega
    | succ r ih =>
      intro a M1 h1 h2 h3 hf ha hdg hrn hnum
      have f1 : M1 12 0 1 = nI n := (hf 12 0 1 (by decide)).trans hn
      have f4 : M1 12 0 4 = nI p := (hf 12 0 4 (by decide)).trans hpl
      have f13 : ∀ k, M1 13 0 k = M 13 0 k := fun k => hf 13 0 k (fun q => absurd q.1 (by decide))
      have e4 : (4 : Int32) = nI 4 := rfl
      have esub : nI a - nI p = nI (a - p) := by
        obtain ⟨z, rfl⟩ : ∃ z, a = p + z := ⟨a - p, by omega⟩
        rw [← nI_add, Int32.add_comm, Int32.add_sub_cancel, Nat.add_sub_cancel_left]
      -- the end
      have fin : rnP bD (M 13 0) (n - a) a = a → lr_W tC sC w d jX2_takeNumber 88 [some (vo 12 0)] [] M1 (qV fun M' => frm [2, 3, 5] M M' ∧ M' 12 0 2 = nI (rnP bD (M 13 0) (n - p) p) ∧ (4 < rnP bD (M 13 0) (n - p) p - p → M' 12 0 3 = 2) ∧ (¬ 4 < rnP bD (M 13 0) (n - p) p - p → M' 12 0 3 = 3 ∧ M' 12 0 5 = nI (dcN (M 13 0) p (rnP bD (M 13 0) (n - p) p - p)))) := by
        intro hE
        rw [hrn, hE]
        refine ri_ald a_X2_takeNumber_88 rfl ?_
        refine ri_ald a_X2_takeNumber_89 rfl ?_
        refine ri_getI a_X2_takeNumber_90 fl_X2_19 kC_12_2 rfl iC_12 ?_
        refine ri_ald a_X2_takeNumber_93 rfl ?_
        refine ri_getI a_X2_takeNumber_94 fl_X2_27 kC_12_4 rfl iC_12 ?_
        refine ri_isub a_X2_takeNumber_97 ?_
        refine ri_ic a_X2_takeNumber_98 ?_
        refine ri_icmp_le a_X2_takeNumber_99 (fun zc31 => ?_) (fun zc31 => ?_)
        · refine ri_ic a_X2_takeNumber_106 ?_
          refine ri_putI a_X2_takeNumber_107 fp_X2_24 kC_12_3 rfl iC_12 (fun zM32 ezM32 => ?_)
          refine ri_return a_X2_takeNumber_110 rfl ?_
          rw [ha, f4, esub, e4, nI_leI (by omega) (by omega)] at zc31
          refine rV ⟨?_, ?_, ?_, ?_⟩
          · rw [ezM32]; exact frm_up (frm_sub hf (by decide)) (by decide)
          · rw [ezM32, up_k (by decide)]; exact ha
          · intro q; first | omega | (rw [ezM32]; exact up_same _ _ _ _ _)
          · intro q; first | omega | (rw [ezM32, up_same, up_k (by decide)]; exact ⟨rfl, hnum (by omega)⟩)
        · refine ri_ic a_X2_takeNumber_102 ?_
          refine ri_goto a_X2_takeNumber_103 ?_
          refine ri_putI a_X2_takeNumber_107 fp_X2_24 kC_12_3 rfl iC_12 (fun zM33 ezM33 => ?_)
          refine ri_return a_X2_takeNumber_110 rfl ?_
          rw [ha, f4, esub, e4, nI_leI (by omega) (by omega)] at zc31
          refine rV ⟨?_, ?_, ?_, ?_⟩
          · rw [ezM33]; exact frm_up (frm_sub hf (by decide)) (by decide)
          · rw [ezM33, up_k (by decide)]; exact ha
          · intro q; first | omega | (rw [ezM33]; exact up_same _ _ _ _ _)
          · intro q; first | omega | (rw [ezM33, up_same, up_k (by decide)]; exact ⟨rfl, hnum (by omega)⟩)
      refine ri_ald a_X2_takeNumber_5 rfl ?_
      refine ri_getI a_X2_takeNumber_6 fl_X2_19 kC_12_2 rfl iC_12 ?_
      refine ri_ald a_X2_takeNumber_9 rfl ?_
      refine ri_getI a_X2_takeNumber_10 fl_X2_15 kC_12_1 rfl iC_12 ?_
      refine ri_icmp_ge a_X2_takeNumber_13 (fun zc11 => ?_) (fun zc11 => ?_)
      · rw [f1, ha, nI_leI (by omega) (by omega)] at zc11
        exact fin (by rw [show n - a = 0 by omega]; rfl)
      · refine ri_ald a_X2_takeNumber_16 rfl ?_
        refine ri_getR (t' := 13) (i' := 0) a_X2_takeNumber_17 fl_X2_9 kC_12_0 rfl iC_12 (Or.inr ⟨rfl, rfl, rfl⟩) ?_
        refine ri_ald a_X2_takeNumber_20 rfl ?_
        refine ri_getI a_X2_takeNumber_21 fl_X2_19 kC_12_2 rfl iC_12 ?_
        refine ri_iaload a_X2_takeNumber_24 lC_13 rfl iC_13 ?_ ?_
        · rw [f1, ha, nI_leI (by omega) (by omega)] at zc11
          rw [ha]
          exact vp_in_nI (by omega) (by decide)
        refine ri_cSpb (as := [vi (M1 13 0 (M1 12 0 2).toNatClampNeg)]) (rest := []) (d' := d - 1) a_X2_takeNumber_25 ms_X2_isDigit ml_X2_98 (by omega) (ok_X2_isDigit (M1 13 0 (M1 12 0 2).toNatClampNeg)) (Nat.le_of_ble_eq_true rfl) rfl (fun zc12 => ?_) (fun zc12 => ?_)
        · refine ri_if_eq a_X2_takeNumber_28 (fun q => absurd q (by decide)) (fun _ => ?_)
          refine ri_ald a_X2_takeNumber_31 rfl ?_
          refine ri_ald a_X2_takeNumber_32 rfl ?_
          refine ri_getI a_X2_takeNumber_33 fl_X2_19 kC_12_2 rfl iC_12 ?_
          refine ri_ald a_X2_takeNumber_36 rfl ?_
          refine ri_getI a_X2_takeNumber_37 fl_X2_27 kC_12_4 rfl iC_12 ?_
          refine ri_isub a_X2_takeNumber_40 ?_
          refine ri_ic a_X2_takeNumber_41 ?_
          refine ri_icmp_ge a_X2_takeNumber_42 (fun zc13 => ?_) (fun zc13 => ?_)
          · refine ri_ald a_X2_takeNumber_68 rfl ?_
            refine ri_getI a_X2_takeNumber_69 fl_X2_30 kC_12_5 rfl iC_12 ?_
            refine ri_putI a_X2_takeNumber_72 fp_X2_30 kC_12_5 rfl iC_12 (fun zM14 ezM14 => ?_)
            refine ri_ald a_X2_takeNumber_75 rfl ?_
            refine ri_dup a_X2_takeNumber_76 (fun _ h => by cases h) ?_
            refine ri_getI a_X2_takeNumber_77 fl_X2_19 kC_12_2 rfl iC_12 ?_
            refine ri_ic a_X2_takeNumber_80 ?_
            refine ri_iadd a_X2_takeNumber_81 ?_
            refine ri_putI a_X2_takeNumber_82 fp_X2_19 kC_12_2 rfl iC_12 (fun zM15 ezM15 => ?_)
            refine ri_goto a_X2_takeNumber_85 ?_
            rw [f1, ha, nI_leI (by omega) (by omega)] at zc11
            rw [ha, nI_clamp (by omega), f13] at zc12
            rw [ha, f4, esub, e4, nI_leI (by omega) (by omega)] at zc13
            obtain ⟨z, hz⟩ : ∃ z, n - a = z + 1 := ⟨n - a - 1, by omega⟩
            refine ih (a + 1) zM15 (by omega) (by omega) (by omega) ?_ ?_ ?_ ?_ (fun q => by omega)
            · rw [ezM15, ezM14]; exact frm_up (frm_up hf (by decide)) (by decide)
            · rw [ezM15, up_same, ezM14, up_k (by decide), ha, nI_1]
            · intro i hi
              by_cases hia : i = a - p
              · rw [hia, show p + (a - p) = a by omega]; exact bD_i.mpr zc12
              · exact hdg i (by omega)
            · rw [hrn, hz, rnP_t (bD_i.mpr zc12), show n - (a + 1) = z by omega]
          · refine ri_ald a_X2_takeNumber_45 rfl ?_
            refine ri_getI a_X2_takeNumber_46 fl_X2_30 kC_12_5 rfl iC_12 ?_
            refine ri_ic a_X2_takeNumber_49 ?_
            refine ri_imul a_X2_takeNumber_51 ?_
            refine ri_ald a_X2_takeNumber_52 rfl ?_
            refine ri_getR (t' := 13) (i' := 0) a_X2_takeNumber_53 fl_X2_9 kC_12_0 rfl iC_12 (Or.inr ⟨rfl, rfl, rfl⟩) ?_
            refine ri_ald a_X2_takeNumber_56 rfl ?_
            refine ri_getI a_X2_takeNumber_57 fl_X2_19 kC_12_2 rfl iC_12 ?_
            refine ri_iaload a_X2_takeNumber_60 lC_13 rfl iC_13 ?_ ?_
            · rw [f1, ha, nI_leI (by omega) (by omega)] at zc11
              rw [ha]
              exact vp_in_nI (by omega) (by decide)
            refine ri_iadd a_X2_takeNumber_61 ?_
            refine ri_ic a_X2_takeNumber_62 ?_
            refine ri_isub a_X2_takeNumber_64 ?_
            refine ri_goto a_X2_takeNumber_65 ?_
            refine ri_putI a_X2_takeNumber_72 fp_X2_30 kC_12_5 rfl iC_12 (fun zM16 ezM16 => ?_)
            refine ri_ald a_X2_takeNumber_75 rfl ?_
            refine ri_dup a_X2_takeNumber_76 (fun _ h => by cases h) ?_
            refine ri_getI a_X2_takeNumber_77 fl_X2_19 kC_12_2 rfl iC_12 ?_
            refine ri_ic a_X2_takeNumber_80 ?_
            refine ri_iadd a_X2_takeNumber_81 ?_
            refine ri_putI a_X2_takeNumber_82 fp_X2_19 kC_12_2 rfl iC_12 (fun zM17 ezM17 => ?_)
            refine ri_goto a_X2_takeNumber_85 ?_
            rw [f1, ha, nI_leI (by omega) (by omega)] at zc11
            rw [ha, nI_clamp (by omega), f13] at zc12
            rw [ha, f4, esub, e4, nI_leI (by omega) (by omega)] at zc13
            obtain ⟨z, hz⟩ : ∃ z, n - a = z + 1 := ⟨n - a - 1, by omega⟩
            refine ih (a + 1) zM17 (by omega) (by omega) (by omega) ?_ ?_ ?_ ?_ (fun q => ?_)
            · rw [ezM17, ezM16]; exact frm_up (frm_up hf (by decide)) (by decide)
            · rw [ezM17, up_same, ezM16, up_k (by decide), ha, nI_1]
            · intro i hi
              by_cases hia : i = a - p
              · rw [hia, show p + (a - p) = a by omega]; exact bD_i.mpr zc12
              · exact hdg i (by omega)
            · rw [hrn, hz, rnP_t (bD_i.mpr zc12), show n - (a + 1) = z by omega]
            · have hlt := dcN_lt (M 13 0) p (a - p) hdg
              have hp10 : 10 ^ (a - p) ≤ 10 ^ 3 := Nat.pow_le_pow_right (by decide) (by omega)
              have hst := dig_step zc12 (dcN (M 13 0) p (a - p)) (by omega)
              rw [ezM17, up_k (by decide), ezM16, up_same, hnum (by omega), ha, nI_clamp (by omega), f13, hst, show a + 1 - p = a - p + 1 by omega, dcN, show p + (a - p) = a by omega]
        · refine ri_if_eq a_X2_takeNumber_28 (fun _ => ?_) (fun q => absurd q (by decide))
          rw [f1, ha, nI_leI (by omega) (by omega)] at zc11
          rw [ha, nI_clamp (by omega), f13] at zc12
          obtain ⟨z, hz⟩ : ∃ z, n - a = z + 1 := ⟨n - a - 1, by omega⟩
          exact fin (by rw [hz, rnP_f (fun q => zc12 (bD_i.mp q))])
  refine lr_ok (ls := [some (vo 12 0)]) (by decide +kernel) rfl ?_
  refine ri_ald a_X2_takeNumber_0 rfl ?_
  refine ri_ic a_X2_takeNumber_1 ?_
  refine ri_putI a_X2_takeNumber_2 fp_X2_30 kC_12_5 rfl iC_12 (fun zM1 ezM1 => ?_)
  refine loop (n + 1) p zM1 (by omega) (Nat.le_refl _) (by omega) ?_ ?_ (fun i hi => by omega) rfl ?_
  · rw [ezM1]; exact frm_up frm_rf (by decide)
  · rw [ezM1, up_k (by decide)]; exact hat
  · intro _; rw [ezM1, up_same, Nat.sub_self]; rfl

