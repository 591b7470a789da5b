/-! reference: images, sheets -/
def imA (N : Mem) (a b : Nat) : Nat → Int32 := fun j => if j < a then N 3 0 j else if 16 ≤ j ∧ j < 16 + b then N 4 0 (j - 16) else if 24 ≤ j ∧ j < 24 + b then N 5 0 (j - 24) else N 9 0 j
/-- with the image kept -/
def imM (N : Mem) : Mem := up (up (up (up (upr (up N 0 0 14 1) 9 0 (imA N 16 8)) 10 0 0 (N 0 0 0)) 10 0 1 (N 0 0 6)) 10 0 2 (N 0 0 7)) 10 0 3 (N 0 0 13)
theorem imA_1 {N : Mem} {a : Nat} (ha : a < 16) : ∀ j, (if j = a then N 3 0 a else imA N a 0 j) = imA N (a + 1) 0 j := by
  intro j
  unfold imA
  by_cases e : j = a
  · rw [if_pos e, if_pos (by omega), e]
  · rw [if_neg e]
    by_cases h : j < a
    · rw [if_pos h, if_pos (by omega)]
    · rw [if_neg h, if_neg (show ¬ j < a + 1 by omega)]
theorem imA_2 {N : Mem} {b : Nat} (hb : b < 8) : ∀ j, (if j = 24 + b then N 5 0 b else if j = 16 + b then N 4 0 b else imA N 16 b j) = imA N 16 (b + 1) j := by
  intro j
  unfold imA
  by_cases e : j = 24 + b
  · rw [if_pos e, if_neg (by omega), if_neg (by omega), if_pos (by omega), e, Nat.add_sub_cancel_left]
  · rw [if_neg e]
    by_cases e2 : j = 16 + b
    · rw [if_pos e2, if_neg (by omega), if_pos (by omega), e2, Nat.add_sub_cancel_left]
    · rw [if_neg e2]
      by_cases h : j < 16
      · rw [if_pos h, if_pos h]
      · rw [if_neg h, if_neg h]
        by_cases h2 : 16 ≤ j ∧ j < 16 + b
        · rw [if_pos h2, if_pos (by omega)]
        · rw [if_neg h2, if_neg (show ¬ (16 ≤ j ∧ j < 16 + (b + 1)) by omega)]
          by_cases h3 : 24 ≤ j ∧ j < 24 + b
          · rw [if_pos h3, if_pos (by omega)]
          · rw [if_neg h3, if_neg (by omega)]
theorem nI_16a (y : Nat) : 16 + nI y = nI (16 + y) := by rw [show (16 : Int32) = nI 16 from rfl, nI_add]
theorem nI_24a (y : Nat) : 24 + nI y = nI (24 + y) := by rw [show (24 : Int32) = nI 24 from rfl, nI_add]
theorem ok_X7_image {w : Wd} {d : Nat} {N : Mem} : lr_Ok tM sM w d jX7_image [vo 0 0] N (qX fun r N' => r = N 0 0 0 ∧ N' = imM N) := by
  have n3 : ∀ g, upr (up N 0 0 14 1) 9 0 g 3 = N 3 := fun g => rfl
  have n4 : ∀ g, upr (up N 0 0 14 1) 9 0 g 4 = N 4 := fun g => rfl
  have n5 : ∀ g, upr (up N 0 0 14 1) 9 0 g 5 = N 5 := fun g => rfl
  have l2 : ∀ r b, 8 = b + r → lr_W tM sM w d jX7_image 33 [some (vo 0 0), some (vi (nI b))] [] (upr (up N 0 0 14 1) 9 0 (imA N 16 b)) (qX fun r N' => r = N 0 0 0 ∧ N' = imM N) := by
    intro r
    induction r with
    | zero =>
      intro b hb
      have : b = 8 := by omega
      subst this
      have f0 : upr (up N 0 0 14 1) 9 0 (imA N 16 8) 0 0 0 = N 0 0 0 := rfl
      have f6 : upr (up N 0 0 14 1) 9 0 (imA N 16 8) 0 0 6 = N 0 0 6 := rfl
      have f7 : upr (up N 0 0 14 1) 9 0 (imA N 16 8) 0 0 7 = N 0 0 7 := rfl
      have f13 : upr (up N 0 0 14 1) 9 0 (imA N 16 8) 0 0 13 = N 0 0 13 := rfl
      have eM : imM N = up (up (up (up (upr (up N 0 0 14 1) 9 0 (imA N 16 8)) 10 0 0 (N 0 0 0)) 10 0 1 (N 0 0 6)) 10 0 2 (N 0 0 7)) 10 0 3 (N 0 0 13) := rfl
      generalize upr (up N 0 0 14 1) 9 0 (imA N 16 8) = N1 at f0 f6 f7 f13 eM ⊢
      refine ri_ild a_X7_image_33 rfl ?_
      refine ri_ic a_X7_image_34 ?_
      refine ri_icmp_ge a_X7_image_36 (fun zc11 => ?_) (fun zc11 => ?_)
      · refine ri_ald a_X7_image_75 rfl ?_
        refine ri_getR (t' := 10) (i' := 0) a_X7_image_76 fl_X7_37 kM_0_16 rfl iM_0 (Or.inr ⟨rfl, rfl, rfl⟩) ?_
        refine ri_ic a_X7_image_79 ?_
        refine ri_ald a_X7_image_80 rfl ?_
        refine ri_getI a_X7_image_81 fl_X7_93 kM_0_0 rfl iM_0 ?_
        refine ri_iastore a_X7_image_84 lM_10 rfl iM_10 (vp_in_lit (by decide) (by decide)) (fun zM12 ezM12 => ?_)
        refine ri_ald a_X7_image_85 rfl ?_
        refine ri_getR (t' := 10) (i' := 0) a_X7_image_86 fl_X7_37 kM_0_16 rfl iM_0 (Or.inr ⟨rfl, rfl, rfl⟩) ?_
        refine ri_ic a_X7_image_89 ?_
        refine ri_ald a_X7_image_90 rfl ?_
        refine ri_getI a_X7_image_91 fl_X7_100 kM_0_6 rfl iM_0 ?_
        refine ri_iastore a_X7_image_94 lM_10 rfl iM_10 (vp_in_lit (by decide) (by decide)) (fun zM13 ezM13 => ?_)
        refine ri_ald a_X7_image_95 rfl ?_
        refine ri_getR (t' := 10) (i' := 0) a_X7_image_96 fl_X7_37 kM_0_16 rfl iM_0 (Or.inr ⟨rfl, rfl, rfl⟩) ?_
        refine ri_ic a_X7_image_99 ?_
        refine ri_ald a_X7_image_100 rfl ?_
        refine ri_getI a_X7_image_101 fl_X7_103 kM_0_7 rfl iM_0 ?_
        refine ri_iastore a_X7_image_104 lM_10 rfl iM_10 (vp_in_lit (by decide) (by decide)) (fun zM14 ezM14 => ?_)
        refine ri_ald a_X7_image_105 rfl ?_
        refine ri_getR (t' := 10) (i' := 0) a_X7_image_106 fl_X7_37 kM_0_16 rfl iM_0 (Or.inr ⟨rfl, rfl, rfl⟩) ?_
        refine ri_ic a_X7_image_109 ?_
        refine ri_ald a_X7_image_110 rfl ?_
        refine ri_getI a_X7_image_111 fl_X7_109 kM_0_13 rfl iM_0 ?_
        refine ri_iastore a_X7_image_114 lM_10 rfl iM_10 (vp_in_lit (by decide) (by decide)) (fun zM15 ezM15 => ?_)
        refine ri_ald a_X7_image_115 rfl ?_
        refine ri_getI a_X7_image_116 fl_X7_93 kM_0_0 rfl iM_0 ?_
        refine ri_ireturn a_X7_image_119 rfl rfl ?_
        have g6 : zM12 0 0 6 = N 0 0 6 := by rw [ezM12]; exact f6
        have g7 : zM13 0 0 7 = N 0 0 7 := by rw [ezM13, ezM12]; exact f7
        have g13 : zM14 0 0 13 = N 0 0 13 := by rw [ezM14, ezM13, ezM12]; exact f13
        have g0 : zM15 0 0 0 = N 0 0 0 := by rw [ezM15, ezM14, ezM13, ezM12]; exact f0
        rw [f0] at ezM12
        rw [g6] at ezM13
        rw [g7] at ezM14
        rw [g13] at ezM15
        exact rX ⟨g0, by rw [ezM15, ezM14, ezM13, ezM12, eM]; rfl⟩
      · exact absurd (by decide) zc11
    | succ r ih =>
      intro b hb
      have hih := ih (b + 1) (by omega)
      rw [← upr_ext (imA_2 (N := N) (b := b) (by omega)), ← up_upr] at hih
      rw [show (fun j => if j = 16 + b then N 4 0 b else imA N 16 b j) = (fun j => if j = 16 + b then N 4 0 b else imA N 16 b j) from rfl, ← up_upr] at hih
      have g4 := n4 (imA N 16 b)
      have g5 : up (upr (up N 0 0 14 1) 9 0 (imA N 16 b)) 9 0 (16 + b) (N 4 0 b) 5 = N 5 := rfl
      generalize upr (up N 0 0 14 1) 9 0 (imA N 16 b) = N1 at g4 g5 hih ⊢
      refine ri_ild a_X7_image_33 rfl ?_
      refine ri_ic a_X7_image_34 ?_
      refine ri_icmp_ge a_X7_image_36 (fun zc11 => ?_) (fun zc11 => ?_)
      · exact absurd zc11 (nI_ge (b := 8) (by omega) (by decide))
      · refine ri_ald a_X7_image_39 rfl ?_
        refine ri_getR (t' := 9) (i' := 0) a_X7_image_40 fl_X7_34 kM_0_15 rfl iM_0 (Or.inr ⟨rfl, rfl, rfl⟩) ?_
        refine ri_ic a_X7_image_43 ?_
        refine ri_ild a_X7_image_45 rfl ?_
        refine ri_iadd a_X7_image_46 ?_
        refine ri_ald a_X7_image_47 rfl ?_
        refine ri_getR (t' := 4) (i' := 0) a_X7_image_48 fl_X7_19 kM_0_4 rfl iM_0 (Or.inr ⟨rfl, rfl, rfl⟩) ?_
        refine ri_ild a_X7_image_51 rfl ?_
        refine ri_iaload a_X7_image_52 lM_4 rfl iM_4 (vp_in_nI (by omega) (by decide)) ?_
        refine ri_iastore a_X7_image_53 lM_9 rfl iM_9 (by rw [nI_16a]; exact vp_in_nI (by omega) (by decide)) (fun zM12 ezM12 => ?_)
        refine ri_ald a_X7_image_54 rfl ?_
        refine ri_getR (t' := 9) (i' := 0) a_X7_image_55 fl_X7_34 kM_0_15 rfl iM_0 (Or.inr ⟨rfl, rfl, rfl⟩) ?_
        refine ri_ic a_X7_image_58 ?_
        refine ri_ild a_X7_image_60 rfl ?_
        refine ri_iadd a_X7_image_61 ?_
        refine ri_ald a_X7_image_62 rfl ?_
        refine ri_getR (t' := 5) (i' := 0) a_X7_image_63 fl_X7_22 kM_0_5 rfl iM_0 (Or.inr ⟨rfl, rfl, rfl⟩) ?_
        refine ri_ild a_X7_image_66 rfl ?_
        refine ri_iaload a_X7_image_67 lM_5 rfl iM_5 (vp_in_nI (by omega) (by decide)) ?_
        refine ri_iastore a_X7_image_68 lM_9 rfl iM_9 (by rw [nI_24a]; exact vp_in_nI (by omega) (by decide)) (fun zM13 ezM13 => ?_)
        refine ri_iinc (c0 := 1) (f := fun zx14 => [some (vo 0 0), some (vi zx14)]) a_X7_image_69 rfl (by decide) (fun _ => rfl) (fun zx14 ezx14 => ?_)
        refine ri_goto a_X7_image_72 ?_
        rw [nI_16a, nI_clamp (by omega), nI_clamp (by omega), g4] at ezM12
        rw [nI_24a, nI_clamp (by omega), nI_clamp (by omega), ezM12, g5] at ezM13
        rw [ezx14, nI_1, ezM13]
        exact hih
  have l1 : ∀ r a, 16 = a + r → lr_W tM sM w d jX7_image 7 [some (vo 0 0), some (vi (nI a))] [] (upr (up N 0 0 14 1) 9 0 (imA N a 0)) (qX fun r N' => r = N 0 0 0 ∧ N' = imM N) := by
    intro r
    induction r with
    | zero =>
      intro a ha
      have : a = 16 := by omega
      subst this
      have h2 := l2 8 0 rfl
      generalize upr (up N 0 0 14 1) 9 0 (imA N 16 0) = N1 at h2 ⊢
      refine ri_ild a_X7_image_7 rfl ?_
      refine ri_ic a_X7_image_8 ?_
      refine ri_icmp_ge a_X7_image_10 (fun zc11 => ?_) (fun zc11 => ?_)
      · refine ri_ic a_X7_image_31 ?_
        refine ri_istk (ls' := [some (vo 0 0), some (vi 0)]) a_X7_image_32 rfl ?_
        exact h2
      · exact absurd (by decide) zc11
    | succ r ih =>
      intro a ha
      have hih := ih (a + 1) (by omega)
      rw [← upr_ext (imA_1 (N := N) (a := a) (by omega)), ← up_upr] at hih
      have g3 := n3 (imA N a 0)
      generalize upr (up N 0 0 14 1) 9 0 (imA N a 0) = N1 at g3 hih ⊢
      refine ri_ild a_X7_image_7 rfl ?_
      refine ri_ic a_X7_image_8 ?_
      refine ri_icmp_ge a_X7_image_10 (fun zc11 => ?_) (fun zc11 => ?_)
      · exact absurd zc11 (nI_ge (b := 16) (by omega) (by decide))
      · refine ri_ald a_X7_image_13 rfl ?_
        refine ri_getR (t' := 9) (i' := 0) a_X7_image_14 fl_X7_34 kM_0_15 rfl iM_0 (Or.inr ⟨rfl, rfl, rfl⟩) ?_
        refine ri_ild a_X7_image_17 rfl ?_
        refine ri_ald a_X7_image_18 rfl ?_
        refine ri_getR (t' := 3) (i' := 0) a_X7_image_19 fl_X7_16 kM_0_3 rfl iM_0 (Or.inr ⟨rfl, rfl, rfl⟩) ?_
        refine ri_ild a_X7_image_22 rfl ?_
        refine ri_iaload a_X7_image_23 lM_3 rfl iM_3 (vp_in_nI (by omega) (by decide)) ?_
        refine ri_iastore a_X7_image_24 lM_9 rfl iM_9 (vp_in_nI (by omega) (by decide)) (fun zM12 ezM12 => ?_)
        refine ri_iinc (c0 := 1) (f := fun zx13 => [some (vo 0 0), some (vi zx13)]) a_X7_image_25 rfl (by decide) (fun _ => rfl) (fun zx13 ezx13 => ?_)
        refine ri_goto a_X7_image_28 ?_
        rw [nI_clamp (by omega), g3] at ezM12
        rw [ezx13, nI_1, ezM12]
        exact hih
  refine lr_ok (by decide +kernel) rfl ?_
  refine ri_ald a_X7_image_0 rfl ?_
  refine ri_ic a_X7_image_1 ?_
  refine ri_putZ a_X7_image_2 fp_X7_268 kM_0_14 rfl iM_0 (by decide) (fun zM1 ezM1 => ?_)
  refine ri_ic a_X7_image_5 ?_
  refine ri_istk (ls' := [some (vo 0 0), some (vi 0)]) a_X7_image_6 rfl ?_
  have := l1 16 0 rfl
  rw [show upr (up N 0 0 14 1) 9 0 (imA N 0 0) = zM1 by rw [ezM1]; exact upr_self (fun j => by unfold imA; rw [if_neg (by omega), if_neg (by omega), if_neg (by omega)]; rfl)] at this
  exact this
def baA (N : Mem) (b : Nat) : Mem := upr (upr (upr N 3 0 (fun j => if j < 16 then N 9 0 j else N 3 0 j)) 4 0 (fun j => if j < b then N 9 0 (16 + j) else N 4 0 j)) 5 0 (fun j => if j < b then N 9 0 (24 + j) else N 5 0 j)
/-- with the image taken back -/
def baM (N : Mem) : Mem := up (up (up (up (baA N 8) 0 0 0 (N 10 0 0)) 0 0 6 (N 10 0 1)) 0 0 7 (N 10 0 2)) 0 0 13 (N 10 0 3)
theorem baA_s {N : Mem} {b : Nat} : up (up (baA N b) 4 0 b (N 9 0 (16 + b))) 5 0 b (N 9 0 (24 + b)) = baA N (b + 1) := by
  have h : ∀ (t : Nat) (x : Nat → Int32) (y : Nat → Int32) j, (if j = b then x b else if j < b then x j else y j) = if j < b + 1 then x j else y j := by
    intro t x y j
    by_cases e : j = b
    · rw [if_pos e, if_pos (by omega), e]
    · rw [if_neg e]
      by_cases h : j < b
      · rw [if_pos h, if_pos (by omega)]
      · rw [if_neg h, if_neg (by omega)]
  funext t i q
  unfold baA
  simp only [up_apply, upr_apply]
  by_cases h5 : t = 5 ∧ i = 0
  · obtain ⟨rfl, rfl⟩ := h5
    simp only [true_and, and_self, if_true]
    rw [← h 5 (fun j => N 9 0 (24 + j)) (fun j => N 5 0 j) q]
    try simp
  · rw [if_neg (fun z => h5 ⟨z.1, z.2.1⟩), if_neg h5, if_neg h5]
    by_cases h4 : t = 4 ∧ i = 0
    · obtain ⟨rfl, rfl⟩ := h4
      simp only [true_and, and_self, if_true]
      rw [← h 4 (fun j => N 9 0 (16 + j)) (fun j => N 4 0 j) q]
      try simp
    · rw [if_neg (fun z => h4 ⟨z.1, z.2.1⟩), if_neg h4, if_neg h4]
theorem ok_X7_back {w : Wd} {d : Nat} {N : Mem} : lr_Ok tM sM w d jX7_back [vo 0 0] N (qX fun r N' => if N 0 0 14 = 0 then r = -3 ∧ N' = N else r = N 10 0 0 ∧ N' = baM N) := by
  have l2 : ∀ r b, 8 = b + r → lr_W tM sM w d jX7_back 38 [some (vo 0 0), some (vi (nI b))] [] (baA N b) (qX fun r N' => r = N 10 0 0 ∧ N' = baM N) := by
    intro r
    induction r with
    | zero =>
      intro b hb
      have : b = 8 := by omega
      subst this
      have f0 : baA N 8 10 = N 10 := rfl
      have eM : baM N = up (up (up (up (baA N 8) 0 0 0 (N 10 0 0)) 0 0 6 (N 10 0 1)) 0 0 7 (N 10 0 2)) 0 0 13 (N 10 0 3) := rfl
      generalize baA N 8 = N1 at f0 eM ⊢
      refine ri_ild a_X7_back_38 rfl ?_
      refine ri_ic a_X7_back_39 ?_
      refine ri_icmp_ge a_X7_back_41 (fun zc11 => ?_) (fun zc11 => ?_)
      · refine ri_ald a_X7_back_80 rfl ?_
        refine ri_ald a_X7_back_81 rfl ?_
        refine ri_getR (t' := 10) (i' := 0) a_X7_back_82 fl_X7_37 kM_0_16 rfl iM_0 (Or.inr ⟨rfl, rfl, rfl⟩) ?_
        refine ri_ic a_X7_back_85 ?_
        refine ri_iaload a_X7_back_86 lM_10 rfl iM_10 (vp_in_lit (by decide) (by decide)) ?_
        refine ri_putI a_X7_back_87 fp_X7_93 kM_0_0 rfl iM_0 (fun zM12 ezM12 => ?_)
        refine ri_ald a_X7_back_90 rfl ?_
        refine ri_ald a_X7_back_91 rfl ?_
        refine ri_getR (t' := 10) (i' := 0) a_X7_back_92 fl_X7_37 kM_0_16 rfl iM_0 (Or.inr ⟨rfl, rfl, rfl⟩) ?_
        refine ri_ic a_X7_back_95 ?_
        refine ri_iaload a_X7_back_96 lM_10 rfl iM_10 (vp_in_lit (by decide) (by decide)) ?_
        refine ri_putI a_X7_back_97 fp_X7_100 kM_0_6 rfl iM_0 (fun zM13 ezM13 => ?_)
        refine ri_ald a_X7_back_100 rfl ?_
        refine ri_ald a_X7_back_101 rfl ?_
        refine ri_getR (t' := 10) (i' := 0) a_X7_back_102 fl_X7_37 kM_0_16 rfl iM_0 (Or.inr ⟨rfl, rfl, rfl⟩) ?_
        refine ri_ic a_X7_back_105 ?_
        refine ri_iaload a_X7_back_106 lM_10 rfl iM_10 (vp_in_lit (by decide) (by decide)) ?_
        refine ri_putI a_X7_back_107 fp_X7_103 kM_0_7 rfl iM_0 (fun zM14 ezM14 => ?_)
        refine ri_ald a_X7_back_110 rfl ?_
        refine ri_ald a_X7_back_111 rfl ?_
        refine ri_getR (t' := 10) (i' := 0) a_X7_back_112 fl_X7_37 kM_0_16 rfl iM_0 (Or.inr ⟨rfl, rfl, rfl⟩) ?_
        refine ri_ic a_X7_back_115 ?_
        refine ri_iaload a_X7_back_116 lM_10 rfl iM_10 (vp_in_lit (by decide) (by decide)) ?_
        refine ri_putI a_X7_back_117 fp_X7_109 kM_0_13 rfl iM_0 (fun zM15 ezM15 => ?_)
        refine ri_ald a_X7_back_120 rfl ?_
        refine ri_getI a_X7_back_121 fl_X7_93 kM_0_0 rfl iM_0 ?_
        refine ri_ireturn a_X7_back_124 rfl rfl ?_
        have g1 : zM12 10 = N 10 := by rw [ezM12]; exact f0
        have g2 : zM13 10 = N 10 := by rw [ezM13, ezM12]; exact f0
        have g3 : zM14 10 = N 10 := by rw [ezM14, ezM13, ezM12]; exact f0
        rw [f0] at ezM12
        rw [g1] at ezM13
        rw [g2] at ezM14
        rw [g3] at ezM15
        exact rX ⟨by rw [ezM15, ezM14, ezM13, ezM12]; rfl, by rw [ezM15, ezM14, ezM13, ezM12, eM]; rfl⟩
      · exact absurd (by decide) zc11
    | succ r ih =>
      intro b hb
      have hih := ih (b + 1) (by omega)
      rw [← baA_s] at hih
      have g9 : baA N b 9 = N 9 := rfl
      have g9' : up (baA N b) 4 0 b (N 9 0 (16 + b)) 9 = N 9 := rfl
      generalize baA N b = N1 at g9 g9' hih ⊢
      refine ri_ild a_X7_back_38 rfl ?_
      refine ri_ic a_X7_back_39 ?_
      refine ri_icmp_ge a_X7_back_41 (fun zc11 => ?_) (fun zc11 => ?_)
      · exact absurd zc11 (nI_ge (b := 8) (by omega) (by decide))
      · refine ri_ald a_X7_back_44 rfl ?_
        refine ri_getR (t' := 4) (i' := 0) a_X7_back_45 fl_X7_19 kM_0_4 rfl iM_0 (Or.inr ⟨rfl, rfl, rfl⟩) ?_
        refine ri_ild a_X7_back_48 rfl ?_
        refine ri_ald a_X7_back_49 rfl ?_
        refine ri_getR (t' := 9) (i' := 0) a_X7_back_50 fl_X7_34 kM_0_15 rfl iM_0 (Or.inr ⟨rfl, rfl, rfl⟩) ?_
        refine ri_ic a_X7_back_53 ?_
        refine ri_ild a_X7_back_55 rfl ?_
        refine ri_iadd a_X7_back_56 ?_
        refine ri_iaload a_X7_back_57 lM_9 rfl iM_9 (by rw [nI_16a]; exact vp_in_nI (by omega) (by decide)) ?_
        refine ri_iastore a_X7_back_58 lM_4 rfl iM_4 (vp_in_nI (by omega) (by decide)) (fun zM12 ezM12 => ?_)
        refine ri_ald a_X7_back_59 rfl ?_
        refine ri_getR (t' := 5) (i' := 0) a_X7_back_60 fl_X7_22 kM_0_5 rfl iM_0 (Or.inr ⟨rfl, rfl, rfl⟩) ?_
        refine ri_ild a_X7_back_63 rfl ?_
        refine ri_ald a_X7_back_64 rfl ?_
        refine ri_getR (t' := 9) (i' := 0) a_X7_back_65 fl_X7_34 kM_0_15 rfl iM_0 (Or.inr ⟨rfl, rfl, rfl⟩) ?_
        refine ri_ic a_X7_back_68 ?_
        refine ri_ild a_X7_back_70 rfl ?_
        refine ri_iadd a_X7_back_71 ?_
        refine ri_iaload a_X7_back_72 lM_9 rfl iM_9 (by rw [nI_24a]; exact vp_in_nI (by omega) (by decide)) ?_
        refine ri_iastore a_X7_back_73 lM_5 rfl iM_5 (vp_in_nI (by omega) (by decide)) (fun zM13 ezM13 => ?_)
        refine ri_iinc (c0 := 1) (f := fun zx14 => [some (vo 0 0), some (vi zx14)]) a_X7_back_74 rfl (by decide) (fun _ => rfl) (fun zx14 ezx14 => ?_)
        refine ri_goto a_X7_back_77 ?_
        rw [nI_16a, nI_clamp (by omega), nI_clamp (by omega), g9] at ezM12
        rw [nI_24a, nI_clamp (by omega), nI_clamp (by omega), ezM12, g9'] at ezM13
        rw [ezx14, nI_1, ezM13]
        exact hih
  have l1 : ∀ r a, 16 = a + r → lr_W tM sM w d jX7_back 12 [some (vo 0 0), some (vi (nI a))] [] (upr N 3 0 (fun j => if j < a then N 9 0 j else N 3 0 j)) (qX fun r N' => r = N 10 0 0 ∧ N' = baM N) := by
    intro r
    induction r with
    | zero =>
      intro a ha
      have : a = 16 := by omega
      subst this
      have h2 := l2 8 0 rfl
      rw [show baA N 0 = upr N 3 0 (fun j => if j < 16 then N 9 0 j else N 3 0 j) by
        unfold baA
        rw [upr_self (M := upr (upr N 3 0 (fun j => if j < 16 then N 9 0 j else N 3 0 j)) 4 0 (fun j => if j < 0 then N 9 0 (16 + j) else N 4 0 j)) (t := 5) (i := 0) (fun k => by rw [if_neg (Nat.not_lt_zero _)]; rfl)]
        exact upr_self (fun k => by rw [if_neg (Nat.not_lt_zero _)]; rfl)] at h2
      generalize upr N 3 0 (fun j => if j < 16 then N 9 0 j else N 3 0 j) = N1 at h2 ⊢
      refine ri_ild a_X7_back_12 rfl ?_
      refine ri_ic a_X7_back_13 ?_
      refine ri_icmp_ge a_X7_back_15 (fun zc11 => ?_) (fun zc11 => ?_)
      · refine ri_ic a_X7_back_36 ?_
        refine ri_istk (ls' := [some (vo 0 0), some (vi 0)]) a_X7_back_37 rfl ?_
        exact h2
      · exact absurd (by decide) zc11
    | succ r ih =>
      intro a ha
      have hih := ih (a + 1) (by omega)
      rw [← upr_ext (g := fun j => if j = a then N 9 0 a else if j < a then N 9 0 j else N 3 0 j) (fun j => by
        by_cases e : j = a
        · rw [if_pos e, if_pos (by omega), e]
        · rw [if_neg e]
          by_cases h : j < a
          · rw [if_pos h, if_pos (by omega)]
          · rw [if_neg h, if_neg (by omega)]), ← up_upr] at hih
      have g9 : upr N 3 0 (fun j => if j < a then N 9 0 j else N 3 0 j) 9 = N 9 := rfl
      generalize upr N 3 0 (fun j => if j < a then N 9 0 j else N 3 0 j) = N1 at g9 hih ⊢
      refine ri_ild a_X7_back_12 rfl ?_
      refine ri_ic a_X7_back_13 ?_
      refine ri_icmp_ge a_X7_back_15 (fun zc11 => ?_) (fun zc11 => ?_)
      · exact absurd zc11 (nI_ge (b := 16) (by omega) (by decide))
      · refine ri_ald a_X7_back_18 rfl ?_
        refine ri_getR (t' := 3) (i' := 0) a_X7_back_19 fl_X7_16 kM_0_3 rfl iM_0 (Or.inr ⟨rfl, rfl, rfl⟩) ?_
        refine ri_ild a_X7_back_22 rfl ?_
        refine ri_ald a_X7_back_23 rfl ?_
        refine ri_getR (t' := 9) (i' := 0) a_X7_back_24 fl_X7_34 kM_0_15 rfl iM_0 (Or.inr ⟨rfl, rfl, rfl⟩) ?_
        refine ri_ild a_X7_back_27 rfl ?_
        refine ri_iaload a_X7_back_28 lM_9 rfl iM_9 (vp_in_nI (by omega) (by decide)) ?_
        refine ri_iastore a_X7_back_29 lM_3 rfl iM_3 (vp_in_nI (by omega) (by decide)) (fun zM12 ezM12 => ?_)
        refine ri_iinc (c0 := 1) (f := fun zx13 => [some (vo 0 0), some (vi zx13)]) a_X7_back_30 rfl (by decide) (fun _ => rfl) (fun zx13 ezx13 => ?_)
        refine ri_goto a_X7_back_33 ?_
        rw [nI_clamp (by omega), g9] at ezM12
        rw [ezx13, nI_1, ezM12]
        exact hih
  refine lr_ok (by decide +kernel) rfl ?_
  refine ri_ald a_X7_back_0 rfl ?_
  refine ri_getI a_X7_back_1 fl_X7_268 kM_0_14 rfl iM_0 ?_
  refine ri_if_ne a_X7_back_4 (fun zc1 => ?_) (fun zc1 => ?_)
  · refine ri_ic a_X7_back_10 ?_
    refine ri_istk (ls' := [some (vo 0 0), some (vi 0)]) a_X7_back_11 rfl ?_
    have := l1 16 0 rfl
    rw [upr_self (M := N) (t := 3) (i := 0) (g := fun j => if j < 0 then N 9 0 j else N 3 0 j) (fun k => by rw [if_neg (Nat.not_lt_zero _)])] at this
    refine lr_Wimp this ?_
    rintro r M' ⟨y, h1, h2⟩
    exact ⟨y, h1, by dsimp only; rw [if_neg zc1]; exact h2⟩
  · refine ri_ic a_X7_back_7 ?_
    refine ri_ireturn a_X7_back_9 rfl rfl ?_
    exact rX (by rw [if_pos zc1]; exact ⟨rfl, rfl⟩)

