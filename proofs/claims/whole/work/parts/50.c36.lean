/-! class: missed -/
def miT (Ms : Mem) (al : Int32) (O : Nat → Nat) (i : Nat) (s : Int32 × Int32) : Int32 × Int32 := if s.1 = -1 ∨ (seF Ms (al &&& ((1 <<< (nI (O i) &&& 31)) ^^^ -1)) 4).1 < s.2 then (nI (O i), (seF Ms (al &&& ((1 <<< (nI (O i) &&& 31)) ^^^ -1)) 4).1) else s
theorem ok_X6_missed {w : Wd} {d : Nat} (hd : 7 ≤ d) {M : Mem} {n k : Nat} {L : List (List Op)} {O : Nat → Nat} (hL : lawC M 0 L) (hn : M 1 0 6 = nI n) (hn8 : n ≤ 8) (hk : M 1 0 7 = nI k) (hk8 : k ≤ 8) (hO : rowA (M 7 0) O k) (x : Int32) : lr_Ok tC sC w d jX6_missed [vo 0 0, vi x] M (qX fun r M' => frQ M M' ∧ if 0 ≤ x ∧ x ≤ 1 then ∃ M1, msP L (vwC M 0) (M 6 0) n M1 ∧ r = (if x = 0 then (lp (miT M1 (bitsF (M 7 0) k) O) k 0 (-1, 0)).1 else (lp (miT M1 (bitsF (M 7 0) k) O) k 0 (-1, 0)).2) else r = -2) := by
  generalize hal : bitsF (M 7 0) k = al
  have loop : ∀ Ms, frS M Ms → ∀ r m s j5 M1, k = m + r → frT 14 Ms M1 → lr_W tC sC w d jX6_missed 22 [some (vo 0 0), some (vi x), some (vi s.1), some (vi s.2), some (vi (nI m)), j5] [] M1 (qX fun r' M' => frQ M M' ∧ r' = (if x = 0 then (lp (miT Ms al O) r m s).1 else (lp (miT Ms al O) r m s).2)) := by
    intro Ms hs r
    induction r with
    | zero =>
      intro m s j5 M1 hr hf
      have : k = m := hr
      subst this
      have ek : M1 1 0 7 = nI k := by rw [hf 1 (by decide), hs 1 (by decide) (by decide) (by decide) (by decide)]; exact hk
      refine ri_ild a_X6_missed_22 rfl ?_
      refine ri_ald a_X6_missed_24 rfl ?_
      refine ri_getR (t' := 1) (i' := 0) a_X6_missed_25 fl_X6_10 kC_0_0 rfl iC_0 (Or.inr ⟨rfl, rfl, rfl⟩) ?_
      refine ri_getI a_X6_missed_28 fl_X6_90 kC_1_7 rfl (iC_1 (by decide)) ?_
      refine ri_icmp_ge a_X6_missed_31 (fun zc11 => ?_) (fun zc11 => ?_)
      · refine ri_ild a_X6_missed_101 rfl ?_
        refine ri_if_ne a_X6_missed_102 (fun zc12 => ?_) (fun zc12 => ?_)
        · refine ri_ild a_X6_missed_109 rfl ?_
          refine ri_ireturn a_X6_missed_110 rfl rfl ?_
          exact rX ⟨fun t h1 h2 h3 h4 h5 => by rw [hf t h1, hs t h2 h3 h4 h5], by simp only [zc12, if_true, if_false]; rfl⟩
        · refine ri_ild a_X6_missed_105 rfl ?_
          refine ri_goto a_X6_missed_106 ?_
          refine ri_ireturn a_X6_missed_110 rfl rfl ?_
          exact rX ⟨fun t h1 h2 h3 h4 h5 => by rw [hf t h1, hs t h2 h3 h4 h5], by simp only [zc12, if_true, if_false]; rfl⟩
      · exact absurd (by rw [ek]; exact Int32.le_refl _) zc11
    | succ r ih =>
      intro m s j5 M1 hr hf
      obtain ⟨hr0, h8⟩ := hO m (by omega)
      have e7 : M1 7 0 = M 7 0 := by rw [hf 7 (by decide), hs 7 (by decide) (by decide) (by decide) (by decide)]
      have eg : M1 7 0 (nI m).toNatClampNeg = nI (O m) := by rw [e7, nI_clamp (by omega)]; exact hr0
      have ek : M1 1 0 7 = nI k := by rw [hf 1 (by decide), hs 1 (by decide) (by decide) (by decide) (by decide)]; exact hk
      have eb : bitsF (M1 7 0) k = al := by rw [e7]; exact hal
      have es : ∀ a m, seF M1 a m = seF Ms a m := fun a m => by
        unfold seF
        rw [hf 15 (by decide), hf 16 (by decide), hf 17 (by decide), hf 18 (by decide)]
      have hsb := ok_X0_savedBits (w := w) (d := d - 1) (c := 0) (by decide) ek hk8
      rw [eb] at hsb
      have hru := ok_X3_run (w := w) (d := d - 1) (M := M1) (m := 4) (by omega) (by decide) (al &&& ((1 <<< (nI (O m) &&& 31)) ^^^ -1))
      rw [es] at hru
      refine ri_ild a_X6_missed_22 rfl ?_
      refine ri_ald a_X6_missed_24 rfl ?_
      refine ri_getR (t' := 1) (i' := 0) a_X6_missed_25 fl_X6_10 kC_0_0 rfl iC_0 (Or.inr ⟨rfl, rfl, rfl⟩) ?_
      refine ri_getI a_X6_missed_28 fl_X6_90 kC_1_7 rfl (iC_1 (by decide)) ?_
      refine ri_icmp_ge a_X6_missed_31 (fun zc11 => ?_) (fun zc11 => ?_)
      · refine ri_ild a_X6_missed_101 rfl ?_
        refine ri_if_ne a_X6_missed_102 (fun zc12 => ?_) (fun zc12 => ?_)
        · refine ri_ild a_X6_missed_109 rfl ?_
          refine ri_ireturn a_X6_missed_110 rfl rfl ?_
          exact absurd zc11 (by rw [ek]; exact nI_ge (by omega) (by omega))
        · refine ri_ild a_X6_missed_105 rfl ?_
          refine ri_goto a_X6_missed_106 ?_
          refine ri_ireturn a_X6_missed_110 rfl rfl ?_
          exact absurd zc11 (by rw [ek]; exact nI_ge (by omega) (by omega))
      · refine ri_ald a_X6_missed_34 rfl ?_
        refine ri_getR (t' := 1) (i' := 0) a_X6_missed_35 fl_X6_10 kC_0_0 rfl iC_0 (Or.inr ⟨rfl, rfl, rfl⟩) ?_
        refine ri_getR (t' := 7) (i' := 0) a_X6_missed_38 fl_X6_144 kC_1_5 rfl (iC_1 (by decide)) (Or.inl ⟨rfl, rfl, rfl⟩) ?_
        refine ri_ild a_X6_missed_41 rfl ?_
        refine ri_iaload a_X6_missed_43 lC_7 rfl (iC_7 (by decide)) ?_ ?_
        · exact vp_in_nI (by omega) (by decide)
        rw [eg]
        refine ri_istk (ls' := [some (vo 0 0), some (vi x), some (vi s.1), some (vi s.2), some (vi (nI m)), some (vi (nI (O m)))]) a_X6_missed_44 rfl ?_
        refine ri_ald a_X6_missed_46 rfl ?_
        refine ri_getR (t' := 14) (i' := 0) a_X6_missed_47 fl_X6_45 kC_0_8 rfl iC_0 (Or.inr ⟨rfl, rfl, rfl⟩) ?_
        refine ri_ic a_X6_missed_50 ?_
        refine ri_ald a_X6_missed_51 rfl ?_
        refine ri_getR (t' := 1) (i' := 0) a_X6_missed_52 fl_X6_10 kC_0_0 rfl iC_0 (Or.inr ⟨rfl, rfl, rfl⟩) ?_
        refine ri_cVpi (as := []) (rest := [vi 4, vo 14 0]) (d' := d - 1) a_X6_missed_55 mv_X0_savedBits ml_X6_171 (rcC_1 (iC_1 (by decide))) (by omega) (hsb) (Nat.le_of_ble_eq_true rfl) rfl (fun zy21 ezy21 => ?_)
        refine ri_ic a_X6_missed_58 ?_
        refine ri_ild a_X6_missed_59 rfl ?_
        refine ri_ishl a_X6_missed_61 ?_
        refine ri_ic a_X6_missed_62 ?_
        refine ri_ixor a_X6_missed_63 ?_
        refine ri_iand a_X6_missed_64 ?_
        rw [ezy21]
        refine ri_cVxv (as := [vi 4, vi (al &&& ((1 <<< (nI (O m) &&& 31)) ^^^ -1))]) (rest := []) (d' := d - 1) a_X6_missed_65 mv_X3_run ml_X6_174 (rcC_14 iC_14) (by omega) (hru) (Nat.le_of_ble_eq_true rfl) rfl (fun zM31 hzM31 => ?_)
        refine ri_ild a_X6_missed_68 rfl ?_
        refine ri_ic a_X6_missed_69 ?_
        refine ri_icmp_eq a_X6_missed_70 (fun zc32 => ?_) (fun zc32 => ?_)
        · refine ri_ild a_X6_missed_84 rfl ?_
          refine ri_ist (f := fun zx33 => [some (vo 0 0), some (vi x), some (vi zx33), some (vi s.2), some (vi (nI m)), some (vi (nI (O m)))]) a_X6_missed_86 (fun _ => rfl) (fun zx33 ezx33 => ?_)
          refine ri_ald a_X6_missed_87 rfl ?_
          refine ri_getR (t' := 14) (i' := 0) a_X6_missed_88 fl_X6_45 kC_0_8 rfl iC_0 (Or.inr ⟨rfl, rfl, rfl⟩) ?_
          refine ri_getI a_X6_missed_91 fl_X6_181 kC_14_6 rfl iC_14 ?_
          refine ri_ist (f := fun zx34 => [some (vo 0 0), some (vi x), some (vi zx33), some (vi zx34), some (vi (nI m)), some (vi (nI (O m)))]) a_X6_missed_94 (fun _ => rfl) (fun zx34 ezx34 => ?_)
          refine ri_iinc (c0 := 1) (f := fun zx35 => [some (vo 0 0), some (vi x), some (vi zx33), some (vi zx34), some (vi zx35), some (vi (nI (O m)))]) a_X6_missed_95 rfl (by decide) (fun _ => rfl) (fun zx35 ezx35 => ?_)
          refine ri_goto a_X6_missed_98 ?_
          have hg : frT 14 Ms zM31 := fun t ht => (hzM31.1 t ht).trans (hf t ht)
          have e6 : zM31 14 0 6 = (seF Ms (al &&& ((1 <<< (nI (O m) &&& 31)) ^^^ -1)) 4).1 := congrArg Prod.fst hzM31.2
          have := ih (m + 1) (miT Ms al O m s) (some (vi (nI (O m)))) zM31 (by omega) hg
          rw [ezx33, ezx34, ezx35, nI_1, e6]
          have em : miT Ms al O m s = (nI (O m), (seF Ms (al &&& ((1 <<< (nI (O m) &&& 31)) ^^^ -1)) 4).1) := if_pos (Or.inl zc32)
          rw [lp, em]
          rw [em] at this
          exact this
        · refine ri_ald a_X6_missed_73 rfl ?_
          refine ri_getR (t' := 14) (i' := 0) a_X6_missed_74 fl_X6_45 kC_0_8 rfl iC_0 (Or.inr ⟨rfl, rfl, rfl⟩) ?_
          refine ri_getI a_X6_missed_77 fl_X6_181 kC_14_6 rfl iC_14 ?_
          refine ri_ild a_X6_missed_80 rfl ?_
          refine ri_icmp_ge a_X6_missed_81 (fun zc36 => ?_) (fun zc36 => ?_)
          · refine ri_iinc (c0 := 1) (f := fun zx37 => [some (vo 0 0), some (vi x), some (vi s.1), some (vi s.2), some (vi zx37), some (vi (nI (O m)))]) a_X6_missed_95 rfl (by decide) (fun _ => rfl) (fun zx37 ezx37 => ?_)
            refine ri_goto a_X6_missed_98 ?_
            have hg : frT 14 Ms zM31 := fun t ht => (hzM31.1 t ht).trans (hf t ht)
            have e6 : zM31 14 0 6 = (seF Ms (al &&& ((1 <<< (nI (O m) &&& 31)) ^^^ -1)) 4).1 := congrArg Prod.fst hzM31.2
            have := ih (m + 1) (miT Ms al O m s) (some (vi (nI (O m)))) zM31 (by omega) hg
            rw [e6] at zc36
            have em : miT Ms al O m s = s := if_neg (fun q => q.elim zc32 (Int32.not_lt.mpr zc36))
            rw [lp, em, ezx37, nI_1]
            rw [em] at this
            exact this
          · refine ri_ild a_X6_missed_84 rfl ?_
            refine ri_ist (f := fun zx38 => [some (vo 0 0), some (vi x), some (vi zx38), some (vi s.2), some (vi (nI m)), some (vi (nI (O m)))]) a_X6_missed_86 (fun _ => rfl) (fun zx38 ezx38 => ?_)
            refine ri_ald a_X6_missed_87 rfl ?_
            refine ri_getR (t' := 14) (i' := 0) a_X6_missed_88 fl_X6_45 kC_0_8 rfl iC_0 (Or.inr ⟨rfl, rfl, rfl⟩) ?_
            refine ri_getI a_X6_missed_91 fl_X6_181 kC_14_6 rfl iC_14 ?_
            refine ri_ist (f := fun zx39 => [some (vo 0 0), some (vi x), some (vi zx38), some (vi zx39), some (vi (nI m)), some (vi (nI (O m)))]) a_X6_missed_94 (fun _ => rfl) (fun zx39 ezx39 => ?_)
            refine ri_iinc (c0 := 1) (f := fun zx40 => [some (vo 0 0), some (vi x), some (vi zx38), some (vi zx39), some (vi zx40), some (vi (nI (O m)))]) a_X6_missed_95 rfl (by decide) (fun _ => rfl) (fun zx40 ezx40 => ?_)
            refine ri_goto a_X6_missed_98 ?_
            have hg : frT 14 Ms zM31 := fun t ht => (hzM31.1 t ht).trans (hf t ht)
            have e6 : zM31 14 0 6 = (seF Ms (al &&& ((1 <<< (nI (O m) &&& 31)) ^^^ -1)) 4).1 := congrArg Prod.fst hzM31.2
            have := ih (m + 1) (miT Ms al O m s) (some (vi (nI (O m)))) zM31 (by omega) hg
            rw [e6] at zc36 ezx39
            have em : miT Ms al O m s = (nI (O m), (seF Ms (al &&& ((1 <<< (nI (O m) &&& 31)) ^^^ -1)) 4).1) := if_pos (Or.inr (Int32.not_le.mp zc36))
            rw [ezx38, ezx39, ezx40, nI_1]
            rw [lp, em]
            rw [em] at this
            exact this
  refine lr_ok (by decide +kernel) rfl ?_
  refine ri_ild a_X6_missed_0 rfl ?_
  refine ri_ic a_X6_missed_1 ?_
  refine ri_cSpb (as := [vi x, vi 1]) (rest := []) (d' := d - 1) a_X6_missed_2 ms_X6_within ml_X6_102 (by omega) (ok_X6_within x 1) (Nat.le_of_ble_eq_true rfl) rfl (fun zc1 => ?_) (fun zc1 => ?_)
  · refine ri_if_ne a_X6_missed_5 (fun _ => ?_) (fun q => absurd q (by decide))
    refine ri_ald a_X6_missed_11 rfl ?_
    refine ri_cVxv (as := []) (rest := []) (d' := d - 1) a_X6_missed_12 mv_X6_measureAll ml_X6_168 (rcC_0 iC_0) (by omega) (ok_X6_measureAll (by omega) hL hn hn8) (Nat.le_of_ble_eq_true rfl) rfl (fun zM2 hzM2 => ?_)
    refine ri_ic a_X6_missed_15 ?_
    refine ri_istk (ls' := [some (vo 0 0), some (vi x), some (vi (-1)), none, none, none]) a_X6_missed_16 rfl ?_
    refine ri_ic a_X6_missed_17 ?_
    refine ri_istk (ls' := [some (vo 0 0), some (vi x), some (vi (-1)), some (vi 0), none, none]) a_X6_missed_18 rfl ?_
    refine ri_ic a_X6_missed_19 ?_
    refine ri_istk (ls' := [some (vo 0 0), some (vi x), some (vi (-1)), some (vi 0), some (vi 0), none]) a_X6_missed_20 rfl ?_
    refine lr_Wimp (loop zM2 hzM2.1 k 0 (-1, 0) none zM2 (by omega) frT_refl) ?_
    rintro r M' ⟨y, h1, h2, h3⟩
    exact ⟨y, h1, h2, by rw [if_pos zc1]; exact ⟨zM2, hzM2.2, h3⟩⟩
  · refine ri_if_ne a_X6_missed_5 (fun q => absurd q (by decide)) (fun _ => ?_)
    refine ri_ic a_X6_missed_8 ?_
    refine ri_ireturn a_X6_missed_10 rfl rfl ?_
    exact rX ⟨fun _ _ _ _ _ _ => rfl, by rw [if_neg zc1]⟩

