/-! class: reach -/
/-- those of the ladder O whose places a set holds -/
def seL (O : Nat → Nat) (set : Nat) : Nat → Nat → List Nat → List Nat
  | 0, _, acc => acc
  | r + 1, i, acc => if ¬ (nI set >>> (nI i &&& 31)) &&& 1 = 0 then seL O set r (i + 1) (acc ++ [O i]) else seL O set r (i + 1) acc
def seR (O : Nat → Nat) (k set : Nat) : List Nat := seL O set k 0 []
abbrev reG (L : List (List Op)) (V : Vw) (F : Nat → Int32) (O : Nat → Nat) (k : Nat) (win : Int32) (set : Nat) : Prop := win ≤ hiS L V (fun j => (seR O k set).getD j 0) (seR O k set).length ∧ wkV L V F (fun j => (seR O k set).getD j 0) (seR O k set).length = -1
theorem shl_eq : ∀ k, k ≤ 8 → (1 : Int32) <<< (nI k &&& 31) = nI (2 ^ k) := by decide +kernel
theorem ok_X6_reach {w : Wd} {d : Nat} (hd : 7 ≤ d) {M : Mem} {k : Nat} {L : List (List Op)} {O : Nat → Nat} (hL : lawC M 0 L) (hk : M 1 0 7 = nI k) (hk8 : k ≤ 8) (hO : rowA (M 7 0) O k) (win part : Int32) : lr_Ok tC sC w d jX6_reach [vo 0 0, vi win, vi part] M (fun r M' => frT 23 M M' ∧ r = some (vl (if (0 ≤ win ∧ win ≤ 999) ∧ 0 ≤ part ∧ part ≤ 1 then lowV (cntA (reG L (vwC M 0) (M 6 0) O k win) (2 ^ k) 0 0).toInt64 (nI (2 ^ k)).toInt64 part else -4611686018427387904))) := by
  have hk2 : 2 ^ k ≤ 256 := Nat.pow_le_pow_right (n := 2) (by decide) hk8
  have outer : ∀ r set cnt j6 j7 M1, 2 ^ k = set + r → frT 23 M M1 → lr_W tC sC w d jX6_reach 38 [some (vo 0 0), some (vi win), some (vi part), some (vi (nI (2 ^ k))), some (vi cnt), some (vi (nI set)), j6, j7] [] M1 (fun r' M' => frT 23 M M' ∧ r' = some (vl (lowV (cntA (reG L (vwC M 0) (M 6 0) O k win) r set cnt).toInt64 (nI (2 ^ k)).toInt64 part))) := by
    intro r
    induction r with
    | zero =>
      intro set cnt j6 j7 M1 hr hf
      have : 2 ^ k = set := hr
      subst this
      refine ri_ild a_X6_reach_38 rfl ?_
      refine ri_ild a_X6_reach_40 rfl ?_
      refine ri_icmp_ge a_X6_reach_41 (fun zc11 => ?_) (fun zc11 => ?_)
      · refine ri_ild a_X6_reach_125 rfl ?_
        refine ri_i2l a_X6_reach_127 ?_
        refine ri_ild a_X6_reach_128 rfl ?_
        refine ri_i2l a_X6_reach_129 ?_
        refine ri_ild a_X6_reach_130 rfl ?_
        refine ri_cSpl (as := [vl cnt.toInt64, vl ((nI (2 ^ k)).toInt64), vi part]) (rest := []) (d' := d - 1) a_X6_reach_131 ms_X6_lowest ml_X6_211 (by omega) (ok_X6_lowest _ _ part) (Nat.le_of_ble_eq_true rfl) rfl (fun zy12 ezy12 => ?_)
        refine ri_lreturn a_X6_reach_134 rfl ?_
        exact ⟨hf, by rw [ezy12]; rfl⟩
      · exact absurd (Int32.le_refl _) zc11
    | succ r ih =>
      intro set cnt j6 j7 M1 hr hf
      rw [cntA]
      have inner : ∀ r2 i acc M2, k = i + r2 → acc.length ≤ i → seL O set r2 i acc = seR O k set → frT 23 M M2 → rowA (M2 23 0) (fun j => acc.getD j 0) acc.length → lr_W tC sC w d jX6_reach 50 [some (vo 0 0), some (vi win), some (vi part), some (vi (nI (2 ^ k))), some (vi cnt), some (vi (nI set)), some (vi (nI acc.length)), some (vi (nI i))] [] M2 (fun r' M' => frT 23 M M' ∧ r' = some (vl (lowV (cntA (reG L (vwC M 0) (M 6 0) O k win) r (set + 1) (if reG L (vwC M 0) (M 6 0) O k win set then cnt + 1 else cnt)).toInt64 (nI (2 ^ k)).toInt64 part))) := by
        intro r2
        induction r2 with
        | zero =>
          intro i acc M2 hi ha hse hf2 hrow
          have : k = i := hi
          subst this
          have hse : acc = seR O k set := hse
          subst hse
          have ek : M2 1 0 7 = nI k := by rw [hf2 1 (by decide), hk]
          have hse := ok_X6_serves_r (w := w) (d := d - 1) (c := 0) (by omega) (lawC_fr (hf2 1 (by decide)) (hf2 9 (by decide)) (hf2 10 (by decide)) hL) (by decide) (by omega) hrow win
          rw [vwC_fr (hf2 1 (by decide)) (hf2 2 (by decide)) (hf2 3 (by decide)) (hf2 4 (by decide)) (hf2 5 (by decide)), hf2 6 (by decide)] at hse
          refine ri_ild a_X6_reach_50 rfl ?_
          refine ri_ald a_X6_reach_52 rfl ?_
          refine ri_getR (t' := 1) (i' := 0) a_X6_reach_53 fl_X6_10 kC_0_0 rfl iC_0 (Or.inr ⟨rfl, rfl, rfl⟩) ?_
          refine ri_getI a_X6_reach_56 fl_X6_90 kC_1_7 rfl (iC_1 (by decide)) ?_
          refine ri_icmp_ge a_X6_reach_59 (fun zc11 => ?_) (fun zc11 => ?_)
          · refine ri_ald a_X6_reach_98 rfl ?_
            refine ri_ald a_X6_reach_99 rfl ?_
            refine ri_getR (t' := 1) (i' := 0) a_X6_reach_100 fl_X6_10 kC_0_0 rfl iC_0 (Or.inr ⟨rfl, rfl, rfl⟩) ?_
            refine ri_ald a_X6_reach_103 rfl ?_
            refine ri_getR (t' := 23) (i' := 0) a_X6_reach_104 fl_X6_49 kC_0_9 rfl iC_0 (Or.inr ⟨rfl, rfl, rfl⟩) ?_
            refine ri_ild a_X6_reach_107 rfl ?_
            refine ri_ild a_X6_reach_109 rfl ?_
            refine ri_cVpb (as := [vo 1 0, vo 23 0, vi (nI (seR O k set).length), vi win]) (rest := []) (d' := d - 1) a_X6_reach_110 mv_X6_serves ml_X6_158 (rcC_0 iC_0) (by omega) (hse) (Nat.le_of_ble_eq_true rfl) rfl (fun zc12 => ?_) (fun zc12 => ?_)
            · refine ri_if_eq a_X6_reach_113 (fun q => absurd q (by decide)) (fun _ => ?_)
              refine ri_iinc (c0 := 1) (f := fun zx13 => [some (vo 0 0), some (vi win), some (vi part), some (vi (nI (2 ^ k))), some (vi zx13), some (vi (nI set)), some (vi (nI (seR O k set).length)), some (vi (nI k))]) a_X6_reach_116 rfl (by decide) (fun _ => rfl) (fun zx13 ezx13 => ?_)
              refine ri_iinc (c0 := 1) (f := fun zx14 => [some (vo 0 0), some (vi win), some (vi part), some (vi (nI (2 ^ k))), some (vi zx13), some (vi zx14), some (vi (nI (seR O k set).length)), some (vi (nI k))]) a_X6_reach_119 rfl (by decide) (fun _ => rfl) (fun zx14 ezx14 => ?_)
              refine ri_goto a_X6_reach_122 ?_
              rw [if_pos zc12, ezx13, ezx14, nI_1]
              exact ih (set + 1) (cnt + 1) _ _ M2 (by omega) hf2
            · refine ri_if_eq a_X6_reach_113 (fun _ => ?_) (fun q => absurd q (by decide))
              refine ri_iinc (c0 := 1) (f := fun zx15 => [some (vo 0 0), some (vi win), some (vi part), some (vi (nI (2 ^ k))), some (vi cnt), some (vi zx15), some (vi (nI (seR O k set).length)), some (vi (nI k))]) a_X6_reach_119 rfl (by decide) (fun _ => rfl) (fun zx15 ezx15 => ?_)
              refine ri_goto a_X6_reach_122 ?_
              rw [if_neg zc12, ezx15, nI_1]
              exact ih (set + 1) cnt _ _ M2 (by omega) hf2
          · exact absurd (by rw [ek]; exact Int32.le_refl _) zc11
        | succ r2 ih2 =>
          intro i acc M2 hi ha hse hf2 hrow
          obtain ⟨hr0, h8⟩ := hO i (by omega)
          have eg : M2 7 0 (nI i).toNatClampNeg = nI (O i) := by rw [hf2 7 (by decide), nI_clamp (by omega)]; exact hr0
          have ek : M2 1 0 7 = nI k := by rw [hf2 1 (by decide), hk]
          refine ri_ild a_X6_reach_50 rfl ?_
          refine ri_ald a_X6_reach_52 rfl ?_
          refine ri_getR (t' := 1) (i' := 0) a_X6_reach_53 fl_X6_10 kC_0_0 rfl iC_0 (Or.inr ⟨rfl, rfl, rfl⟩) ?_
          refine ri_getI a_X6_reach_56 fl_X6_90 kC_1_7 rfl (iC_1 (by decide)) ?_
          refine ri_icmp_ge a_X6_reach_59 (fun zc11 => ?_) (fun zc11 => ?_)
          · exact absurd zc11 (by rw [ek]; exact nI_ge (by omega) (by omega))
          · refine ri_ild a_X6_reach_62 rfl ?_
            refine ri_ild a_X6_reach_64 rfl ?_
            refine ri_ishr a_X6_reach_66 ?_
            refine ri_ic a_X6_reach_67 ?_
            refine ri_iand a_X6_reach_68 ?_
            refine ri_if_eq a_X6_reach_69 (fun zc12 => ?_) (fun zc12 => ?_)
            · refine ri_iinc (c0 := 1) (f := fun zx13 => [some (vo 0 0), some (vi win), some (vi part), some (vi (nI (2 ^ k))), some (vi cnt), some (vi (nI set)), some (vi (nI acc.length)), some (vi zx13)]) a_X6_reach_92 rfl (by decide) (fun _ => rfl) (fun zx13 ezx13 => ?_)
              refine ri_goto a_X6_reach_95 ?_
              rw [seL, if_neg (fun q => q zc12)] at hse
              rw [ezx13, nI_1]
              exact ih2 (i + 1) acc M2 (by omega) (by omega) hse hf2 hrow
            · refine ri_ald a_X6_reach_72 rfl ?_
              refine ri_getR (t' := 23) (i' := 0) a_X6_reach_73 fl_X6_49 kC_0_9 rfl iC_0 (Or.inr ⟨rfl, rfl, rfl⟩) ?_
              refine ri_ild a_X6_reach_76 rfl ?_
              refine ri_ald a_X6_reach_78 rfl ?_
              refine ri_getR (t' := 1) (i' := 0) a_X6_reach_79 fl_X6_10 kC_0_0 rfl iC_0 (Or.inr ⟨rfl, rfl, rfl⟩) ?_
              refine ri_getR (t' := 7) (i' := 0) a_X6_reach_82 fl_X6_144 kC_1_5 rfl (iC_1 (by decide)) (Or.inl ⟨rfl, rfl, rfl⟩) ?_
              refine ri_ild a_X6_reach_85 rfl ?_
              refine ri_iaload a_X6_reach_87 lC_7 rfl (iC_7 (by decide)) ?_ ?_
              · exact vp_in_nI (by omega) (by decide)
              refine ri_iastore a_X6_reach_88 lC_23 rfl iC_23 ?_ (fun zM14 ezM14 => ?_)
              · exact vp_in_nI (by omega) (by decide)
              refine ri_iinc (c0 := 1) (f := fun zx15 => [some (vo 0 0), some (vi win), some (vi part), some (vi (nI (2 ^ k))), some (vi cnt), some (vi (nI set)), some (vi zx15), some (vi (nI i))]) a_X6_reach_89 rfl (by decide) (fun _ => rfl) (fun zx15 ezx15 => ?_)
              refine ri_iinc (c0 := 1) (f := fun zx16 => [some (vo 0 0), some (vi win), some (vi part), some (vi (nI (2 ^ k))), some (vi cnt), some (vi (nI set)), some (vi zx15), some (vi zx16)]) a_X6_reach_92 rfl (by decide) (fun _ => rfl) (fun zx16 ezx16 => ?_)
              refine ri_goto a_X6_reach_95 ?_
              rw [seL, if_pos zc12] at hse
              rw [eg, nI_clamp (by omega)] at ezM14
              have hg : frT 23 M zM14 := by rw [ezM14]; exact frT_up hf2
              have el : (acc ++ [O i]).length = acc.length + 1 := by simp
              have := ih2 (i + 1) (acc ++ [O i]) zM14 (by omega) (by omega) hse hg (by
                intro j hj
                rw [ezM14]
                rw [el] at hj
                by_cases e : j = acc.length
                · rw [e, up_same]
                  refine ⟨?_, ?_⟩
                  · simp
                  · simpa using h8
                · rw [up_k e]
                  have hj2 : j < acc.length := by omega
                  have := hrow j hj2
                  simp only [List.getD_eq_getElem?_getD] at this ⊢
                  rw [List.getElem?_append_left hj2]
                  exact this)
              rw [el] at this
              rw [ezx15, ezx16, nI_1, nI_1]
              exact this
      refine ri_ild a_X6_reach_38 rfl ?_
      refine ri_ild a_X6_reach_40 rfl ?_
      refine ri_icmp_ge a_X6_reach_41 (fun zc11 => ?_) (fun zc11 => ?_)
      · exact absurd zc11 (nI_ge (by omega) (by omega))
      · refine ri_ic a_X6_reach_44 ?_
        refine ri_istk (ls' := [some (vo 0 0), some (vi win), some (vi part), some (vi (nI (2 ^ k))), some (vi cnt), some (vi (nI set)), some (vi 0), j7]) a_X6_reach_45 rfl ?_
        refine ri_ic a_X6_reach_47 ?_
        refine ri_istk (ls' := [some (vo 0 0), some (vi win), some (vi part), some (vi (nI (2 ^ k))), some (vi cnt), some (vi (nI set)), some (vi 0), some (vi 0)]) a_X6_reach_48 rfl ?_
        exact inner k 0 [] M1 (by omega) (Nat.le_refl _) rfl hf (fun j hj => absurd hj (Nat.not_lt_zero _))
  refine lr_ok (by decide +kernel) rfl ?_
  refine ri_ild a_X6_reach_0 rfl ?_
  refine ri_ic a_X6_reach_1 ?_
  refine ri_cSpb (as := [vi win, vi 999]) (rest := []) (d' := d - 1) a_X6_reach_4 ms_X6_within ml_X6_102 (by omega) (ok_X6_within win 999) (Nat.le_of_ble_eq_true rfl) rfl (fun zc1 => ?_) (fun zc1 => ?_)
  · refine ri_if_eq a_X6_reach_7 (fun q => absurd q (by decide)) (fun _ => ?_)
    refine ri_ild a_X6_reach_10 rfl ?_
    refine ri_ic a_X6_reach_11 ?_
    refine ri_cSpb (as := [vi part, vi 1]) (rest := []) (d' := d - 1) a_X6_reach_12 ms_X6_within ml_X6_102 (by omega) (ok_X6_within part 1) (Nat.le_of_ble_eq_true rfl) rfl (fun zc2 => ?_) (fun zc2 => ?_)
    · refine ri_if_ne a_X6_reach_15 (fun _ => ?_) (fun q => absurd q (by decide))
      refine ri_ic a_X6_reach_22 ?_
      refine ri_ald a_X6_reach_23 rfl ?_
      refine ri_getR (t' := 1) (i' := 0) a_X6_reach_24 fl_X6_10 kC_0_0 rfl iC_0 (Or.inr ⟨rfl, rfl, rfl⟩) ?_
      refine ri_getI a_X6_reach_27 fl_X6_90 kC_1_7 rfl (iC_1 (by decide)) ?_
      refine ri_ishl a_X6_reach_30 ?_
      rw [hk, shl_eq k hk8]
      refine ri_istk (ls' := [some (vo 0 0), some (vi win), some (vi part), some (vi (nI (2 ^ k))), none, none, none, none]) a_X6_reach_31 rfl ?_
      refine ri_ic a_X6_reach_32 ?_
      refine ri_istk (ls' := [some (vo 0 0), some (vi win), some (vi part), some (vi (nI (2 ^ k))), some (vi 0), none, none, none]) a_X6_reach_33 rfl ?_
      refine ri_ic a_X6_reach_35 ?_
      refine ri_istk (ls' := [some (vo 0 0), some (vi win), some (vi part), some (vi (nI (2 ^ k))), some (vi 0), some (vi 0), none, none]) a_X6_reach_36 rfl ?_
      rw [if_pos ⟨zc1, zc2⟩]
      exact outer (2 ^ k) 0 0 none none M (by omega) frT_refl
    · refine ri_if_ne a_X6_reach_15 (fun q => absurd q (by decide)) (fun _ => ?_)
      refine ri_lc a_X6_reach_18 ?_
      refine ri_lreturn a_X6_reach_21 rfl ?_
      exact ⟨frT_refl, by rw [if_neg (fun q => zc2 q.2)]⟩
  · refine ri_if_eq a_X6_reach_7 (fun _ => ?_) (fun q => absurd q (by decide))
    refine ri_lc a_X6_reach_18 ?_
    refine ri_lreturn a_X6_reach_21 rfl ?_
    exact ⟨frT_refl, by rw [if_neg (fun q => zc1 q.1)]⟩

