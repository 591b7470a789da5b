/-! class: measures for the search -/
theorem nI_mul (a b : Nat) : nI a * nI b = nI (a * b) := (Int32.ofNat_mul a b).symm
theorem lawC_fr {M M' : Mem} {c : Nat} {L : List (List Op)} (h1 : M' 1 = M 1) (h9 : M' 9 = M 9) (h10 : M' 10 = M 10) (h : lawC M c L) : lawC M' c L := by
  unfold lawC tx txS at h ⊢
  rw [h1, h9, h10]
  exact h
theorem vwC_fr {M M' : Mem} {c : Nat} (h1 : M' 1 = M 1) (h2 : M' 2 = M 2) (h3 : M' 3 = M 3) (h4 : M' 4 = M 4) (h5 : M' 5 = M 5) : vwC M' c = vwC M c := by
  unfold vwC
  rw [h1, h2, h3, h4, h5]
def frS (M M' : Mem) : Prop := ∀ t, t ≠ 15 → t ≠ 16 → t ≠ 17 → t ≠ 18 → M' t = M t
theorem frS_up {k i p : Nat} {x : Int32} {M M1 : Mem} (h : frS M M1) (hk : k = 15 ∨ k = 16 ∨ k = 17 ∨ k = 18) : frS M (up M1 k i p x) := fun t h1 h2 h3 h4 => by
  funext a b
  rw [up_apply, if_neg (fun q => by omega), h t h1 h2 h3 h4]
def msP (L : List (List Op)) (V : Vw) (F : Nat → Int32) (n : Nat) (M' : Mem) : Prop := ∀ p, p < n → M' 17 0 p = weiV V p ∧ M' 18 0 p = F p ∧ ∀ r, r < 5 → M' 15 0 (p * 5 + r) = risV L V p (nI r) ∧ M' 16 0 (p * 5 + r) = beaV L V p (nI r)
def msI (L : List (List Op)) (V : Vw) (F : Nat → Int32) (p k : Nat) (M' : Mem) : Prop := msP L V F p M' ∧ M' 17 0 p = weiV V p ∧ M' 18 0 p = F p ∧ ∀ r, r < k → M' 15 0 (p * 5 + r) = risV L V p (nI r) ∧ M' 16 0 (p * 5 + r) = beaV L V p (nI r)
theorem ok_X6_measureAll {w : Wd} {d : Nat} (hd : 4 ≤ d) {M : Mem} {n : Nat} {L : List (List Op)} (hL : lawC M 0 L) (hn : M 1 0 6 = nI n) (hn8 : n ≤ 8) : lr_Ok tC sC w d jX6_measureAll [vo 0 0] M (qV fun M' => frS M M' ∧ msP L (vwC M 0) (M 6 0) n M') := by
  have fr2 : ∀ M1, frS M M1 → M1 1 0 6 = nI n ∧ lawC M1 0 L ∧ vwC M1 0 = vwC M 0 ∧ M1 6 0 = M 6 0 := fun M1 hf => by
    have f := fun t h1 h2 h3 h4 => hf t h1 h2 h3 h4
    exact ⟨by rw [hf 1 (by decide) (by decide) (by decide) (by decide), hn], lawC_fr (hf 1 (by decide) (by decide) (by decide) (by decide)) (hf 9 (by decide) (by decide) (by decide) (by decide)) (hf 10 (by decide) (by decide) (by decide) (by decide)) hL, vwC_fr (hf 1 (by decide) (by decide) (by decide) (by decide)) (hf 2 (by decide) (by decide) (by decide) (by decide)) (hf 3 (by decide) (by decide) (by decide) (by decide)) (hf 4 (by decide) (by decide) (by decide) (by decide)) (hf 5 (by decide) (by decide) (by decide) (by decide)), by rw [hf 6 (by decide) (by decide) (by decide) (by decide)]⟩
  have outer : ∀ r p j2 j3 M1, n = p + r → frS M M1 → msP L (vwC M 0) (M 6 0) p M1 → lr_W tC sC w d jX6_measureAll 2 [some (vo 0 0), some (vi (nI p)), j2, j3] [] M1 (qV fun M' => frS M M' ∧ msP L (vwC M 0) (M 6 0) n M') := by
    intro r
    induction r with
    | zero =>
      intro p j2 j3 M1 hr hf hm
      have : n = p := hr
      subst this
      obtain ⟨e6, -⟩ := fr2 M1 hf
      refine ri_ild a_X6_measureAll_2 rfl ?_
      refine ri_ald a_X6_measureAll_3 rfl ?_
      refine ri_getR (t' := 1) (i' := 0) a_X6_measureAll_4 fl_X6_10 kC_0_0 rfl iC_0 (Or.inr ⟨rfl, rfl, rfl⟩) ?_
      refine ri_getI a_X6_measureAll_7 fl_X6_87 kC_1_6 rfl (iC_1 (by decide)) ?_
      refine ri_icmp_ge a_X6_measureAll_10 (fun zc1 => ?_) (fun zc1 => ?_)
      · refine ri_return a_X6_measureAll_111 rfl ?_
        exact rV ⟨hf, hm⟩
      · exact absurd (by rw [e6]; exact Int32.le_refl _) zc1
    | succ r ih =>
      intro p j2 j3 M1 hr hf hm
      obtain ⟨e6, eL, eV, eF⟩ := fr2 M1 hf
      have inner : ∀ r2 k j3 M2, 5 = k + r2 → frS M M2 → msI L (vwC M 0) (M 6 0) p k M2 → lr_W tC sC w d jX6_measureAll 50 [some (vo 0 0), some (vi (nI p)), some (vi (nI k)), j3] [] M2 (qV fun M' => frS M M' ∧ msP L (vwC M 0) (M 6 0) n M') := by
        intro r2
        induction r2 with
        | zero =>
          intro k j3 M2 hk hf2 hi
          have : k = 5 := by omega
          subst this
          refine ri_ild a_X6_measureAll_50 rfl ?_
          refine ri_ic a_X6_measureAll_51 ?_
          refine ri_icmp_ge a_X6_measureAll_52 (fun zc1 => ?_) (fun zc1 => ?_)
          · refine ri_iinc (c0 := 1) (f := fun zx2 => [some (vo 0 0), some (vi zx2), some (vi (nI 5)), j3]) a_X6_measureAll_105 rfl (by decide) (fun _ => rfl) (fun zx2 ezx2 => ?_)
            refine ri_goto a_X6_measureAll_108 ?_
            rw [ezx2, nI_1]
            exact ih (p + 1) _ _ M2 (by omega) hf2 (fun q hq => by
              rcases Nat.lt_or_ge q p with h | h
              · exact hi.1 q h
              · have : q = p := by omega
                subst this
                exact hi.2)
          · exact absurd (by decide) zc1
        | succ r2 ih2 =>
          intro k j3 M2 hk hf2 hi
          obtain ⟨-, eL2, eV2, eF2⟩ := fr2 M2 hf2
          refine ri_ild a_X6_measureAll_50 rfl ?_
          refine ri_ic a_X6_measureAll_51 ?_
          refine ri_icmp_ge a_X6_measureAll_52 (fun zc21 => ?_) (fun zc21 => ?_)
          · exact absurd zc21 (nI_ge (b := 5) (by omega) (by decide))
          · refine ri_ild a_X6_measureAll_55 rfl ?_
            refine ri_ic a_X6_measureAll_56 ?_
            refine ri_imul a_X6_measureAll_57 ?_
            refine ri_ild a_X6_measureAll_58 rfl ?_
            refine ri_iadd a_X6_measureAll_59 ?_
            refine ri_ist (f := fun zx22 => [some (vo 0 0), some (vi (nI p)), some (vi (nI k)), some (vi zx22)]) a_X6_measureAll_60 (fun _ => rfl) (fun zx22 ezx22 => ?_)
            refine ri_ald a_X6_measureAll_61 rfl ?_
            refine ri_getR (t' := 14) (i' := 0) a_X6_measureAll_62 fl_X6_45 kC_0_8 rfl iC_0 (Or.inr ⟨rfl, rfl, rfl⟩) ?_
            refine ri_getR (t' := 15) (i' := 0) a_X6_measureAll_65 fl_X6_288 kC_14_0 rfl iC_14 (Or.inr ⟨rfl, rfl, rfl⟩) ?_
            refine ri_ild a_X6_measureAll_68 rfl ?_
            refine ri_ald a_X6_measureAll_69 rfl ?_
            refine ri_ald a_X6_measureAll_70 rfl ?_
            refine ri_getR (t' := 1) (i' := 0) a_X6_measureAll_71 fl_X6_10 kC_0_0 rfl iC_0 (Or.inr ⟨rfl, rfl, rfl⟩) ?_
            refine ri_ild a_X6_measureAll_74 rfl ?_
            refine ri_ild a_X6_measureAll_75 rfl ?_
            refine ri_cVpi (as := [vo 1 0, vi (nI p), vi (nI k)]) (rest := [vi zx22, vo 15 0]) (d' := d - 1) a_X6_measureAll_76 mv_X6_risesOf ml_X6_232 (rcC_0 iC_0) (by omega) (ok_X6_risesOf (by omega) eL2 (by decide) (by omega) (nI k)) (Nat.le_of_ble_eq_true rfl) rfl (fun zy23 ezy23 => ?_)
            refine ri_iastore a_X6_measureAll_79 lC_15 rfl iC_15 ?_ (fun zM24 ezM24 => ?_)
            · rw [ezx22, show (5 : Int32) = nI 5 from rfl, nI_mul, nI_add]; exact vp_in_nI (by omega) (by decide)
            refine ri_ald a_X6_measureAll_80 rfl ?_
            refine ri_getR (t' := 14) (i' := 0) a_X6_measureAll_81 fl_X6_45 kC_0_8 rfl iC_0 (Or.inr ⟨rfl, rfl, rfl⟩) ?_
            refine ri_getR (t' := 16) (i' := 0) a_X6_measureAll_84 fl_X6_291 kC_14_1 rfl iC_14 (Or.inr ⟨rfl, rfl, rfl⟩) ?_
            refine ri_ild a_X6_measureAll_87 rfl ?_
            refine ri_ald a_X6_measureAll_88 rfl ?_
            refine ri_ald a_X6_measureAll_89 rfl ?_
            refine ri_getR (t' := 1) (i' := 0) a_X6_measureAll_90 fl_X6_10 kC_0_0 rfl iC_0 (Or.inr ⟨rfl, rfl, rfl⟩) ?_
            refine ri_ild a_X6_measureAll_93 rfl ?_
            refine ri_ild a_X6_measureAll_94 rfl ?_
            refine ri_cVpi (as := [vo 1 0, vi (nI p), vi (nI k)]) (rest := [vi zx22, vo 16 0]) (d' := d - 1) a_X6_measureAll_95 mv_X6_bearsOf ml_X6_267 (rcC_0 iC_0) (by omega) (ok_X6_bearsOf (by omega) (fr2 zM24 (by rw [ezM24]; exact frS_up hf2 (Or.inl rfl))).2.1 (by decide) (by omega) (nI k)) (Nat.le_of_ble_eq_true rfl) rfl (fun zy25 ezy25 => ?_)
            refine ri_iastore a_X6_measureAll_98 lC_16 rfl iC_16 ?_ (fun zM26 ezM26 => ?_)
            · rw [ezx22, show (5 : Int32) = nI 5 from rfl, nI_mul, nI_add]; exact vp_in_nI (by omega) (by decide)
            refine ri_iinc (c0 := 1) (f := fun zx27 => [some (vo 0 0), some (vi (nI p)), some (vi zx27), some (vi zx22)]) a_X6_measureAll_99 rfl (by decide) (fun _ => rfl) (fun zx27 ezx27 => ?_)
            refine ri_goto a_X6_measureAll_102 ?_
            have hx : zx22.toNatClampNeg = p * 5 + k := by rw [ezx22, show (5 : Int32) = nI 5 from rfl, nI_mul, nI_add, nI_clamp (by omega)]
            rw [hx] at ezM24 ezM26
            have hg : frS M zM24 := by rw [ezM24]; exact frS_up hf2 (Or.inl rfl)
            have hg2 : frS M zM26 := by rw [ezM26]; exact frS_up hg (Or.inr (Or.inl rfl))
            rw [(fr2 zM24 hg).2.2.1] at ezy25
            rw [eV2] at ezy23
            have e17 : zM26 17 = M2 17 := by rw [ezM26, ezM24]; rfl
            have e18 : zM26 18 = M2 18 := by rw [ezM26, ezM24]; rfl
            have e15 : ∀ z, zM26 15 0 z = if z = p * 5 + k then zy23 else M2 15 0 z := fun z => by
              rw [ezM26, up_apply, if_neg (by omega), ezM24, up_apply]
              by_cases e : z = p * 5 + k <;> simp [e]
            have e16 : ∀ z, zM26 16 0 z = if z = p * 5 + k then zy25 else M2 16 0 z := fun z => by
              rw [ezM26, up_apply]
              by_cases e : z = p * 5 + k
              · simp [e]
              · rw [if_neg (fun q => e q.2.2), if_neg e, ezM24, up_apply, if_neg (by omega)]
            obtain ⟨h1, h2, h3, h4⟩ := hi
            rw [ezx27, nI_1]
            refine ih2 (k + 1) _ zM26 (by omega) hg2 ⟨fun q hq => ?_, by rw [e17]; exact h2, by rw [e18]; exact h3, fun r hr2 => ?_⟩
            · obtain ⟨a1, a2, a3⟩ := h1 q hq
              exact ⟨by rw [e17]; exact a1, by rw [e18]; exact a2, fun r hr2 => ⟨by rw [e15, if_neg (by omega)]; exact (a3 r hr2).1, by rw [e16, if_neg (by omega)]; exact (a3 r hr2).2⟩⟩
            · rw [e15, e16]
              by_cases e : r = k
              · subst e
                rw [if_pos rfl, if_pos rfl]
                exact ⟨ezy23, ezy25⟩
              · rw [if_neg (by omega), if_neg (by omega)]
                exact h4 r (by omega)
      refine ri_ild a_X6_measureAll_2 rfl ?_
      refine ri_ald a_X6_measureAll_3 rfl ?_
      refine ri_getR (t' := 1) (i' := 0) a_X6_measureAll_4 fl_X6_10 kC_0_0 rfl iC_0 (Or.inr ⟨rfl, rfl, rfl⟩) ?_
      refine ri_getI a_X6_measureAll_7 fl_X6_87 kC_1_6 rfl (iC_1 (by decide)) ?_
      refine ri_icmp_ge a_X6_measureAll_10 (fun zc11 => ?_) (fun zc11 => ?_)
      · refine ri_return a_X6_measureAll_111 rfl ?_
        exact absurd zc11 (by rw [e6]; exact nI_ge (by omega) (by omega))
      · refine ri_ald a_X6_measureAll_13 rfl ?_
        refine ri_getR (t' := 14) (i' := 0) a_X6_measureAll_14 fl_X6_45 kC_0_8 rfl iC_0 (Or.inr ⟨rfl, rfl, rfl⟩) ?_
        refine ri_getR (t' := 17) (i' := 0) a_X6_measureAll_17 fl_X6_284 kC_14_2 rfl iC_14 (Or.inr ⟨rfl, rfl, rfl⟩) ?_
        refine ri_ild a_X6_measureAll_20 rfl ?_
        refine ri_ald a_X6_measureAll_21 rfl ?_
        refine ri_getR (t' := 1) (i' := 0) a_X6_measureAll_22 fl_X6_10 kC_0_0 rfl iC_0 (Or.inr ⟨rfl, rfl, rfl⟩) ?_
        refine ri_ild a_X6_measureAll_25 rfl ?_
        refine ri_cSpi (as := [vo 1 0, vi (nI p)]) (rest := [vi (nI p), vo 17 0]) (d' := d - 1) a_X6_measureAll_26 ms_X6_weighsOf ml_X6_270 (by omega) (ok_X6_weighsOf (by decide) (by omega)) (Nat.le_of_ble_eq_true rfl) rfl (fun zy12 ezy12 => ?_)
        refine ri_iastore a_X6_measureAll_29 lC_17 rfl iC_17 ?_ (fun zM13 ezM13 => ?_)
        · exact vp_in_nI (by omega) (by decide)
        refine ri_ald a_X6_measureAll_30 rfl ?_
        refine ri_getR (t' := 14) (i' := 0) a_X6_measureAll_31 fl_X6_45 kC_0_8 rfl iC_0 (Or.inr ⟨rfl, rfl, rfl⟩) ?_
        refine ri_getR (t' := 18) (i' := 0) a_X6_measureAll_34 fl_X6_287 kC_14_3 rfl iC_14 (Or.inr ⟨rfl, rfl, rfl⟩) ?_
        refine ri_ild a_X6_measureAll_37 rfl ?_
        refine ri_ald a_X6_measureAll_38 rfl ?_
        refine ri_getR (t' := 1) (i' := 0) a_X6_measureAll_39 fl_X6_10 kC_0_0 rfl iC_0 (Or.inr ⟨rfl, rfl, rfl⟩) ?_
        refine ri_getR (t' := 6) (i' := 0) a_X6_measureAll_42 fl_X6_137 kC_1_4 rfl (iC_1 (by decide)) (Or.inl ⟨rfl, rfl, rfl⟩) ?_
        refine ri_ild a_X6_measureAll_45 rfl ?_
        refine ri_iaload a_X6_measureAll_46 lC_6 rfl (iC_6 (by decide)) ?_ ?_
        · exact vp_in_nI (by omega) (by decide)
        refine ri_iastore a_X6_measureAll_47 lC_18 rfl iC_18 ?_ (fun zM14 ezM14 => ?_)
        · exact vp_in_nI (by omega) (by decide)
        refine ri_ic a_X6_measureAll_48 ?_
        refine ri_istk (ls' := [some (vo 0 0), some (vi (nI p)), some (vi 0), j3]) a_X6_measureAll_49 rfl ?_
        rw [nI_clamp (by omega)] at ezM13 ezM14
        have hg : frS M zM13 := by rw [ezM13]; exact frS_up hf (by omega)
        have hg2 : frS M zM14 := by rw [ezM14]; exact frS_up hg (by omega)
        have e15 : zM14 15 = M1 15 := by rw [ezM14, ezM13]; rfl
        have e16 : zM14 16 = M1 16 := by rw [ezM14, ezM13]; rfl
        have e17 : ∀ z, zM14 17 0 z = if z = p then zy12 else M1 17 0 z := fun z => by
          rw [ezM14, up_apply, if_neg (by omega), ezM13, up_apply]
          by_cases e : z = p <;> simp [e]
        have e18 : ∀ z, zM14 18 0 z = if z = p then M 6 0 p else M1 18 0 z := fun z => by
          rw [ezM14, up_apply]
          by_cases e : z = p
          · simp [e, (fr2 zM13 hg).2.2.2]
          · rw [if_neg (fun q => e q.2.2), if_neg e, ezM13, up_apply, if_neg (by omega)]
        refine inner 5 0 _ zM14 rfl hg2 ⟨fun q hq => ?_, ?_, ?_, fun r hr2 => absurd hr2 (by omega)⟩
        · obtain ⟨a1, a2, a3⟩ := hm q hq
          rw [e15, e16, e17, e18, if_neg (by omega), if_neg (by omega)]
          exact ⟨a1, a2, a3⟩
        · rw [e17, if_pos rfl, ezy12, eV]
        · rw [e18, if_pos rfl]
  refine lr_ok (by decide +kernel) rfl ?_
  refine ri_ic a_X6_measureAll_0 ?_
  refine ri_istk (ls' := [some (vo 0 0), some (vi 0), none, none]) a_X6_measureAll_1 rfl ?_
  exact outer n 0 _ _ M (by omega) (fun _ _ _ _ _ => rfl) (fun p hp => absurd hp (by omega))

