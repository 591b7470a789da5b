/-! class: feed, text -/
def arg5 (a b c e f : Int32) : Nat → Int32
  | 0 => a
  | 1 => b
  | 2 => c
  | 3 => e
  | _ => f
def fdM (M : Mem) (z : Nat) (g : Nat → Int32) : Nat → Mem
  | 0 => M
  | i + 1 => up (up (fdM M z g i) 13 0 (z + i) (g i)) 12 0 1 (nI (z + i + 1))
abbrev byt (x : Int32) : Prop := 0 ≤ x ∧ x ≤ 255
theorem ok_X6_feed {w : Wd} {d : Nat} (hd : 2 ≤ d) {M : Mem} {z : Nat} (hz : M 12 0 1 = nI z) (hz2 : z ≤ 160) (n a b c e f : Int32) : lr_Ok tC sC w d jX6_feed [vo 0 0, vi n, vi a, vi b, vi c, vi e, vi f] M (qX fun r M' => if (1 ≤ n ∧ n ≤ 5) ∧ byt a ∧ byt b ∧ byt c ∧ byt e ∧ byt f then (if nI z + n ≤ 160 then r = nI (z + n.toNatClampNeg) ∧ M' = fdM M z (arg5 a b c e f) n.toNatClampNeg else r = -4 ∧ M' = M) else r = -2 ∧ M' = M) := by
  have hsz : ∀ nn i, z + nn ≤ 160 → i ≤ nn → fdM M z (arg5 a b c e f) i 12 0 1 = nI (z + i) := by
    intro nn i h1 h2
    cases i with
    | zero => exact hz
    | succ i => rw [fdM, up_same]; rfl
  have loop : ∀ nn, nn ≤ 5 → z + nn ≤ 160 → ∀ r i, nn = i + r → lr_W tC sC w d jX6_feed 99 [some (vo 0 0), some (vi (nI nn)), some (vi a), some (vi b), some (vi c), some (vi e), some (vi f), some (vi 1), some (vi (nI i))] [] (fdM M z (arg5 a b c e f) i) (qX fun r M' => r = nI (z + nn) ∧ M' = fdM M z (arg5 a b c e f) nn) := by
    intro nn h5 h160 r
    induction r with
    | zero =>
      intro i hi
      have : nn = i := hi
      subst this
      have es := hsz nn nn h160 (Nat.le_refl _)
      generalize hM : fdM M z (arg5 a b c e f) nn = M1 at es ⊢
      refine ri_ild a_X6_feed_99 rfl ?_
      refine ri_ild a_X6_feed_101 rfl ?_
      refine ri_icmp_ge a_X6_feed_102 (fun zc11 => ?_) (fun zc11 => ?_)
      · refine ri_ald a_X6_feed_161 rfl ?_
        refine ri_getR (t' := 12) (i' := 0) a_X6_feed_162 fl_X6_63 kC_0_4 rfl iC_0 (Or.inr ⟨rfl, rfl, rfl⟩) ?_
        refine ri_getI a_X6_feed_165 fl_X6_99 kC_12_1 rfl iC_12 ?_
        refine ri_ireturn a_X6_feed_168 rfl rfl ?_
        exact rX ⟨es, rfl⟩
      · exact absurd (Int32.le_refl _) zc11
    | succ r ih =>
      intro i hi
      have es := hsz nn i h160 (by omega)
      have tail : ∀ x, x = arg5 a b c e f i → lr_W tC sC w d jX6_feed 152 [some (vo 0 0), some (vi (nI nn)), some (vi a), some (vi b), some (vi c), some (vi e), some (vi f), some (vi 1), some (vi (nI i))] [vi x, vo 12 0] (fdM M z (arg5 a b c e f) i) (qX fun r M' => r = nI (z + nn) ∧ M' = fdM M z (arg5 a b c e f) nn) := by
        intro x hx
        have hih := ih (i + 1) (by omega)
        rw [fdM, ← hx] at hih
        generalize hM : fdM M z (arg5 a b c e f) i = M1 at es hih ⊢
        refine ri_cVxv (as := [vi x]) (rest := []) (d' := d - 1) a_X6_feed_152 mv_X2_hear ml_X6_79 (rcC_12 iC_12) (by omega) (ok_X2_hear es (by omega) x) (Nat.le_of_ble_eq_true rfl) rfl (fun zM11 hzM11 => ?_)
        refine ri_iinc (c0 := 1) (f := fun zx12 => [some (vo 0 0), some (vi (nI nn)), some (vi a), some (vi b), some (vi c), some (vi e), some (vi f), some (vi 1), some (vi zx12)]) a_X6_feed_155 rfl (by decide) (fun _ => rfl) (fun zx12 ezx12 => ?_)
        refine ri_goto a_X6_feed_158 ?_
        rw [if_pos (by omega)] at hzM11
        rw [ezx12, nI_1, hzM11]
        exact hih
      refine ri_ild a_X6_feed_99 rfl ?_
      refine ri_ild a_X6_feed_101 rfl ?_
      refine ri_icmp_ge a_X6_feed_102 (fun zc11 => ?_) (fun zc11 => ?_)
      · exact absurd zc11 (nI_ge (by omega) (by omega))
      · have hc : i = 0 ∨ i = 1 ∨ i = 2 ∨ i = 3 ∨ i = 4 := by omega
        rcases hc with rfl | rfl | rfl | rfl | rfl
        · skip
          refine ri_ald a_X6_feed_105 rfl ?_
          refine ri_getR (t' := 12) (i' := 0) a_X6_feed_106 fl_X6_63 kC_0_4 rfl iC_0 (Or.inr ⟨rfl, rfl, rfl⟩) ?_
          refine ri_ild a_X6_feed_109 rfl ?_
          refine ri_if_ne a_X6_feed_111 (fun q => absurd q (by decide)) (fun _ => ?_)
          refine ri_ild a_X6_feed_114 rfl ?_
          refine ri_goto a_X6_feed_115 ?_
          exact tail a rfl
        · skip
          refine ri_ald a_X6_feed_105 rfl ?_
          refine ri_getR (t' := 12) (i' := 0) a_X6_feed_106 fl_X6_63 kC_0_4 rfl iC_0 (Or.inr ⟨rfl, rfl, rfl⟩) ?_
          refine ri_ild a_X6_feed_109 rfl ?_
          refine ri_if_ne a_X6_feed_111 (fun _ => ?_) (fun q => absurd q (by decide))
          refine ri_ild a_X6_feed_118 rfl ?_
          refine ri_ic a_X6_feed_120 ?_
          refine ri_icmp_ne a_X6_feed_121 (fun q => absurd q (by decide)) (fun _ => ?_)
          refine ri_ild a_X6_feed_124 rfl ?_
          refine ri_goto a_X6_feed_125 ?_
          exact tail b rfl
        · skip
          refine ri_ald a_X6_feed_105 rfl ?_
          refine ri_getR (t' := 12) (i' := 0) a_X6_feed_106 fl_X6_63 kC_0_4 rfl iC_0 (Or.inr ⟨rfl, rfl, rfl⟩) ?_
          refine ri_ild a_X6_feed_109 rfl ?_
          refine ri_if_ne a_X6_feed_111 (fun _ => ?_) (fun q => absurd q (by decide))
          refine ri_ild a_X6_feed_118 rfl ?_
          refine ri_ic a_X6_feed_120 ?_
          refine ri_icmp_ne a_X6_feed_121 (fun _ => ?_) (fun q => absurd q (by decide))
          refine ri_ild a_X6_feed_128 rfl ?_
          refine ri_ic a_X6_feed_130 ?_
          refine ri_icmp_ne a_X6_feed_131 (fun q => absurd q (by decide)) (fun _ => ?_)
          refine ri_ild a_X6_feed_134 rfl ?_
          refine ri_goto a_X6_feed_136 ?_
          exact tail c rfl
        · skip
          refine ri_ald a_X6_feed_105 rfl ?_
          refine ri_getR (t' := 12) (i' := 0) a_X6_feed_106 fl_X6_63 kC_0_4 rfl iC_0 (Or.inr ⟨rfl, rfl, rfl⟩) ?_
          refine ri_ild a_X6_feed_109 rfl ?_
          refine ri_if_ne a_X6_feed_111 (fun _ => ?_) (fun q => absurd q (by decide))
          refine ri_ild a_X6_feed_118 rfl ?_
          refine ri_ic a_X6_feed_120 ?_
          refine ri_icmp_ne a_X6_feed_121 (fun _ => ?_) (fun q => absurd q (by decide))
          refine ri_ild a_X6_feed_128 rfl ?_
          refine ri_ic a_X6_feed_130 ?_
          refine ri_icmp_ne a_X6_feed_131 (fun _ => ?_) (fun q => absurd q (by decide))
          refine ri_ild a_X6_feed_139 rfl ?_
          refine ri_ic a_X6_feed_141 ?_
          refine ri_icmp_ne a_X6_feed_142 (fun q => absurd q (by decide)) (fun _ => ?_)
          refine ri_ild a_X6_feed_145 rfl ?_
          refine ri_goto a_X6_feed_147 ?_
          exact tail e rfl
        · skip
          refine ri_ald a_X6_feed_105 rfl ?_
          refine ri_getR (t' := 12) (i' := 0) a_X6_feed_106 fl_X6_63 kC_0_4 rfl iC_0 (Or.inr ⟨rfl, rfl, rfl⟩) ?_
          refine ri_ild a_X6_feed_109 rfl ?_
          refine ri_if_ne a_X6_feed_111 (fun _ => ?_) (fun q => absurd q (by decide))
          refine ri_ild a_X6_feed_118 rfl ?_
          refine ri_ic a_X6_feed_120 ?_
          refine ri_icmp_ne a_X6_feed_121 (fun _ => ?_) (fun q => absurd q (by decide))
          refine ri_ild a_X6_feed_128 rfl ?_
          refine ri_ic a_X6_feed_130 ?_
          refine ri_icmp_ne a_X6_feed_131 (fun _ => ?_) (fun q => absurd q (by decide))
          refine ri_ild a_X6_feed_139 rfl ?_
          refine ri_ic a_X6_feed_141 ?_
          refine ri_icmp_ne a_X6_feed_142 (fun _ => ?_) (fun q => absurd q (by decide))
          refine ri_ild a_X6_feed_150 rfl ?_
          exact tail f rfl
  have bad : lr_W tC sC w d jX6_feed 58 [some (vo 0 0), some (vi n), some (vi a), some (vi b), some (vi c), some (vi e), some (vi f), none, none] [vi 0] M (qX fun r M' => r = -2 ∧ M' = M) := by
    refine ri_istk (ls' := [some (vo 0 0), some (vi n), some (vi a), some (vi b), some (vi c), some (vi e), some (vi f), some (vi 0), none]) a_X6_feed_58 rfl ?_
    refine ri_ild a_X6_feed_60 rfl ?_
    refine ri_ic a_X6_feed_61 ?_
    refine ri_icmp_lt a_X6_feed_62 (fun zc1 => ?_) (fun zc1 => ?_)
    · refine ri_ic a_X6_feed_75 ?_
      refine ri_ireturn a_X6_feed_77 rfl rfl ?_
      exact rX ⟨rfl, rfl⟩
    · refine ri_ild a_X6_feed_65 rfl ?_
      refine ri_ic a_X6_feed_66 ?_
      refine ri_icmp_gt a_X6_feed_67 (fun zc2 => ?_) (fun zc2 => ?_)
      · refine ri_ic a_X6_feed_75 ?_
        refine ri_ireturn a_X6_feed_77 rfl rfl ?_
        exact rX ⟨rfl, rfl⟩
      · refine ri_ild a_X6_feed_70 rfl ?_
        refine ri_if_ne a_X6_feed_72 (fun q => absurd q (by decide)) (fun _ => ?_)
        refine ri_ic a_X6_feed_75 ?_
        refine ri_ireturn a_X6_feed_77 rfl rfl ?_
        exact rX ⟨rfl, rfl⟩
  refine lr_ok (by decide +kernel) rfl ?_
  refine ri_ild a_X6_feed_0 rfl ?_
  refine ri_ic a_X6_feed_1 ?_
  refine ri_cSpb (as := [vi a, vi 255]) (rest := []) (d' := d - 1) a_X6_feed_4 ms_X6_within ml_X6_102 (by omega) (ok_X6_within a 255) (Nat.le_of_ble_eq_true rfl) rfl (fun zc1 => ?_) (fun zc1 => ?_)
  · refine ri_if_eq a_X6_feed_7 (fun q => absurd q (by decide)) (fun _ => ?_)
    refine ri_ild a_X6_feed_10 rfl ?_
    refine ri_ic a_X6_feed_11 ?_
    refine ri_cSpb (as := [vi b, vi 255]) (rest := []) (d' := d - 1) a_X6_feed_14 ms_X6_within ml_X6_102 (by omega) (ok_X6_within b 255) (Nat.le_of_ble_eq_true rfl) rfl (fun zc2 => ?_) (fun zc2 => ?_)
    · refine ri_if_eq a_X6_feed_17 (fun q => absurd q (by decide)) (fun _ => ?_)
      refine ri_ild a_X6_feed_20 rfl ?_
      refine ri_ic a_X6_feed_22 ?_
      refine ri_cSpb (as := [vi c, vi 255]) (rest := []) (d' := d - 1) a_X6_feed_25 ms_X6_within ml_X6_102 (by omega) (ok_X6_within c 255) (Nat.le_of_ble_eq_true rfl) rfl (fun zc3 => ?_) (fun zc3 => ?_)
      · refine ri_if_eq a_X6_feed_28 (fun q => absurd q (by decide)) (fun _ => ?_)
        refine ri_ild a_X6_feed_31 rfl ?_
        refine ri_ic a_X6_feed_33 ?_
        refine ri_cSpb (as := [vi e, vi 255]) (rest := []) (d' := d - 1) a_X6_feed_36 ms_X6_within ml_X6_102 (by omega) (ok_X6_within e 255) (Nat.le_of_ble_eq_true rfl) rfl (fun zc4 => ?_) (fun zc4 => ?_)
        · refine ri_if_eq a_X6_feed_39 (fun q => absurd q (by decide)) (fun _ => ?_)
          refine ri_ild a_X6_feed_42 rfl ?_
          refine ri_ic a_X6_feed_44 ?_
          refine ri_cSpb (as := [vi f, vi 255]) (rest := []) (d' := d - 1) a_X6_feed_47 ms_X6_within ml_X6_102 (by omega) (ok_X6_within f 255) (Nat.le_of_ble_eq_true rfl) rfl (fun zc5 => ?_) (fun zc5 => ?_)
          · refine ri_if_eq a_X6_feed_50 (fun q => absurd q (by decide)) (fun _ => ?_)
            refine ri_ic a_X6_feed_53 ?_
            refine ri_goto a_X6_feed_54 ?_
            refine ri_istk (ls' := [some (vo 0 0), some (vi n), some (vi a), some (vi b), some (vi c), some (vi e), some (vi f), some (vi 1), none]) a_X6_feed_58 rfl ?_
            refine ri_ild a_X6_feed_60 rfl ?_
            refine ri_ic a_X6_feed_61 ?_
            refine ri_icmp_lt a_X6_feed_62 (fun zc21 => ?_) (fun zc21 => ?_)
            · refine ri_ic a_X6_feed_75 ?_
              refine ri_ireturn a_X6_feed_77 rfl rfl ?_
              exact rX (by rw [if_neg (fun q => Int32.not_le.mpr zc21 q.1.1)]; exact ⟨rfl, rfl⟩)
            · refine ri_ild a_X6_feed_65 rfl ?_
              refine ri_ic a_X6_feed_66 ?_
              refine ri_icmp_gt a_X6_feed_67 (fun zc22 => ?_) (fun zc22 => ?_)
              · refine ri_ic a_X6_feed_75 ?_
                refine ri_ireturn a_X6_feed_77 rfl rfl ?_
                exact rX (by rw [if_neg (fun q => Int32.not_le.mpr zc22 q.1.2)]; exact ⟨rfl, rfl⟩)
              · refine ri_ild a_X6_feed_70 rfl ?_
                refine ri_if_ne a_X6_feed_72 (fun _ => ?_) (fun q => absurd q (by decide))
                refine ri_ald a_X6_feed_78 rfl ?_
                refine ri_getR (t' := 12) (i' := 0) a_X6_feed_79 fl_X6_63 kC_0_4 rfl iC_0 (Or.inr ⟨rfl, rfl, rfl⟩) ?_
                refine ri_getI a_X6_feed_82 fl_X6_99 kC_12_1 rfl iC_12 ?_
                refine ri_ild a_X6_feed_85 rfl ?_
                refine ri_iadd a_X6_feed_86 ?_
                refine ri_ic a_X6_feed_87 ?_
                refine ri_icmp_le a_X6_feed_90 (fun zc23 => ?_) (fun zc23 => ?_)
                · refine ri_ic a_X6_feed_96 ?_
                  refine ri_istk (ls' := [some (vo 0 0), some (vi n), some (vi a), some (vi b), some (vi c), some (vi e), some (vi f), some (vi 1), some (vi 0)]) a_X6_feed_97 rfl ?_
                  obtain ⟨nn, h5, rfl⟩ := nI_of2 (n := 5) (M := 5) (by decide) (fun q => zc21 (Int32.lt_trans q (by decide))) (Int32.not_lt.mp zc22)
                  rw [hz, nI_add] at zc23
                  have h160 : z + nn ≤ 160 := (nI_leI (b := 160) (by omega) (by decide)).1 zc23
                  refine lr_Wimp (loop nn h5 h160 nn 0 (by omega)) ?_
                  rintro r M' ⟨y, h1, h2⟩
                  exact ⟨y, h1, by dsimp only; rw [if_pos ⟨⟨Int32.not_lt.mp zc21, Int32.not_lt.mp zc22⟩, zc1, zc2, zc3, zc4, zc5⟩, nI_add, if_pos zc23, nI_clamp (by omega)]; exact h2⟩
                · refine ri_ic a_X6_feed_93 ?_
                  refine ri_ireturn a_X6_feed_95 rfl rfl ?_
                  exact rX (by rw [hz] at zc23; rw [if_pos ⟨⟨Int32.not_lt.mp zc21, Int32.not_lt.mp zc22⟩, zc1, zc2, zc3, zc4, zc5⟩, if_neg zc23]; exact ⟨rfl, rfl⟩)
          · refine ri_if_eq a_X6_feed_50 (fun _ => ?_) (fun q => absurd q (by decide))
            refine ri_ic a_X6_feed_57 ?_
            refine lr_Wimp bad ?_
            rintro r M' ⟨y, h1, h2⟩
            exact ⟨y, h1, by dsimp only; rw [if_neg (fun q => zc5 q.2.2.2.2.2)]; exact h2⟩
        · refine ri_if_eq a_X6_feed_39 (fun _ => ?_) (fun q => absurd q (by decide))
          refine ri_ic a_X6_feed_57 ?_
          refine lr_Wimp bad ?_
          rintro r M' ⟨y, h1, h2⟩
          exact ⟨y, h1, by dsimp only; rw [if_neg (fun q => zc4 q.2.2.2.2.1)]; exact h2⟩
      · refine ri_if_eq a_X6_feed_28 (fun _ => ?_) (fun q => absurd q (by decide))
        refine ri_ic a_X6_feed_57 ?_
        refine lr_Wimp bad ?_
        rintro r M' ⟨y, h1, h2⟩
        exact ⟨y, h1, by dsimp only; rw [if_neg (fun q => zc3 q.2.2.2.1)]; exact h2⟩
    · refine ri_if_eq a_X6_feed_17 (fun _ => ?_) (fun q => absurd q (by decide))
      refine ri_ic a_X6_feed_57 ?_
      refine lr_Wimp bad ?_
      rintro r M' ⟨y, h1, h2⟩
      exact ⟨y, h1, by dsimp only; rw [if_neg (fun q => zc2 q.2.2.1)]; exact h2⟩
  · refine ri_if_eq a_X6_feed_7 (fun _ => ?_) (fun q => absurd q (by decide))
    refine ri_ic a_X6_feed_57 ?_
    refine lr_Wimp bad ?_
    rintro r M' ⟨y, h1, h2⟩
    exact ⟨y, h1, by dsimp only; rw [if_neg (fun q => zc1 q.2.1)]; exact h2⟩
/-- what a text that is taken leaves, but for the number of texts -/
def txQ (M : Mem) (tc z : Nat) (res : Nat ⊕ List (List Op)) (r : Int32) (M' : Mem) : Prop := match res with
  | .inl p => r = -100 - nI p ∧ p ≤ z ∧ frR tc M M' ∧ M' 12 0 1 = 0
  | .inr L => r = nI tc ∧ tx M' tc L ∧ frR tc (up M 0 0 6 (nI (tc + 1))) M' ∧ M' 12 0 1 = 0
theorem ok_X6_text {w : Wd} {d : Nat} (hd : 58 ≤ d) {M : Mem} {z tc : Nat} (hz : M 12 0 1 = nI z) (hz2 : z ≤ 160) (ht : M 0 0 6 = nI tc) (ht6 : tc ≤ 6) : lr_Ok tC sC w d jX6_text [vo 0 0] M (qX fun r M' => if tc = 6 then r = -4 ∧ M' = M else txQ M tc z (pTx (M 13 0) z) r M') := by
  refine lr_ok (by decide +kernel) rfl ?_
  by_cases h6 : tc = 6
  · subst h6
    refine ri_ald a_X6_text_0 rfl ?_
    refine ri_getI a_X6_text_1 fl_X6_32 kC_0_6 rfl iC_0 ?_
    refine ri_ic a_X6_text_4 ?_
    refine ri_icmp_lt a_X6_text_6 (fun zc1 => ?_) (fun zc1 => ?_)
    · exact absurd zc1 (by rw [ht]; decide)
    · refine ri_ic a_X6_text_9 ?_
      refine ri_ireturn a_X6_text_11 rfl rfl ?_
      exact rX (by rw [if_pos rfl]; exact ⟨rfl, rfl⟩)
  · have et : (M 0 0 6).toNatClampNeg = tc := by rw [ht, nI_clamp (by omega)]
    refine ri_ald a_X6_text_0 rfl ?_
    refine ri_getI a_X6_text_1 fl_X6_32 kC_0_6 rfl iC_0 ?_
    refine ri_ic a_X6_text_4 ?_
    refine ri_icmp_lt a_X6_text_6 (fun zc1 => ?_) (fun zc1 => ?_)
    · refine ri_ald a_X6_text_12 rfl ?_
      refine ri_getR (t' := 12) (i' := 0) a_X6_text_13 fl_X6_63 kC_0_4 rfl iC_0 (Or.inr ⟨rfl, rfl, rfl⟩) ?_
      refine ri_ald a_X6_text_16 rfl ?_
      refine ri_getR (t' := 21) (i' := 0) a_X6_text_17 fl_X6_28 kC_0_5 rfl iC_0 (Or.inr ⟨rfl, rfl, rfl⟩) ?_
      refine ri_ald a_X6_text_20 rfl ?_
      refine ri_getI a_X6_text_21 fl_X6_32 kC_0_6 rfl iC_0 ?_
      refine ri_aaloadE (k0 := tc) a_X6_text_24 lC_21 (by decide) iC_21 et (ht ▸ vp_in_nI (by omega) (by decide)) ?_
      refine ri_cVxi (as := [vo 8 tc]) (rest := []) (d' := d - 1) a_X6_text_25 mv_X2_read ml_X6_83 (rcC_12 iC_12) (by omega) (ok_X2_read (by omega) (by omega) hz2 hz) (Nat.le_of_ble_eq_true rfl) rfl (fun zy2 zM3 hzy2 => ?_)
      refine ri_istk (ls' := [some (vo 0 0), some (vi zy2)]) a_X6_text_28 rfl ?_
      refine ri_ild a_X6_text_29 rfl ?_
      refine ri_ic a_X6_text_30 ?_
      refine ri_icmp_eq a_X6_text_31 (fun zc4 => ?_) (fun zc4 => ?_)
      · refine ri_ald a_X6_text_39 rfl ?_
        refine ri_dup a_X6_text_40 (fun _ h => by cases h) ?_
        refine ri_getI a_X6_text_41 fl_X6_32 kC_0_6 rfl iC_0 ?_
        refine ri_ic a_X6_text_44 ?_
        refine ri_iadd a_X6_text_45 ?_
        refine ri_putI a_X6_text_46 fp_X6_32 kC_0_6 rfl iC_0 (fun zM5 ezM5 => ?_)
        refine ri_ald a_X6_text_49 rfl ?_
        refine ri_getI a_X6_text_50 fl_X6_32 kC_0_6 rfl iC_0 ?_
        refine ri_ic a_X6_text_53 ?_
        refine ri_isub a_X6_text_54 ?_
        refine ri_ireturn a_X6_text_55 rfl rfl ?_
        refine rX ?_
        rw [if_neg h6]
        obtain ⟨hf, h1, h2⟩ := hzy2
        have e6 : zM3 0 0 6 = nI tc := (hf 0 0 6 (by omega) (by omega) (by omega) (by omega)).trans ht
        rw [e6, nI_1] at ezM5
        have e9 : zM5 9 = zM3 9 := by rw [ezM5]; rfl
        have e10 : zM5 10 = zM3 10 := by rw [ezM5]; rfl
        cases hres : pTx (M 13 0) z with
        | inl p =>
          rw [hres] at h2
          have h2 : zy2 = nI p ∧ p ≤ z := h2
          exact absurd (h2.1.symm.trans zc4) (nI_m1n (by omega))
        | inr L =>
          rw [hres] at h2
          have h2 : zy2 = -1 ∧ tx zM3 tc L := h2
          refine ⟨?_, ?_, ?_, ?_⟩
          · rw [ezM5, up_same, nI_pred]
          · have h3 := h2.2
            unfold tx txS at h3 ⊢
            rw [e9, e10]
            exact h3
          · intro t i k a b c e
            rw [ezM5, up_apply, up_apply, hf t i k a b c e]
          · rw [ezM5, up_apply, if_neg (by omega)]
            exact h1
      · refine ri_ic a_X6_text_34 ?_
        refine ri_ild a_X6_text_36 rfl ?_
        refine ri_isub a_X6_text_37 ?_
        refine ri_ireturn a_X6_text_38 rfl rfl ?_
        refine rX ?_
        rw [if_neg h6]
        obtain ⟨hf, h1, h2⟩ := hzy2
        cases hres : pTx (M 13 0) z with
        | inl p =>
          rw [hres] at h2
          have h2 : zy2 = nI p ∧ p ≤ z := h2
          exact ⟨by rw [h2.1], h2.2, hf, h1⟩
        | inr L =>
          rw [hres] at h2
          have h2 : zy2 = -1 ∧ tx zM3 tc L := h2
          exact absurd h2.1 zc4
    · exact absurd (by rw [ht]; exact nI_lt (b := 6) (by omega) (by decide)) zc1

