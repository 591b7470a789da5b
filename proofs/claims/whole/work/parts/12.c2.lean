/-! class: Crew's writes, Sheet; consequence, hiding -/
theorem up_apply (M : Mem) (t i k : Nat) (x : Int32) (t' i' k' : Nat) : up M t i k x t' i' k' = if t' = t ∧ i' = i ∧ k' = k then x else M t' i' k' := by
  unfold up upd
  by_cases h1 : t' = t
  · subst h1
    by_cases h2 : i' = i
    · subst h2
      by_cases h3 : k' = k <;> simp [h3]
    · simp [h2]
  · simp [h1]
theorem upr_apply (M : Mem) (t i : Nat) (g : Nat → Int32) (t' i' k' : Nat) : upr M t i g t' i' k' = if t' = t ∧ i' = i then g k' else M t' i' k' := by
  unfold upr
  by_cases h1 : t' = t
  · subst h1
    by_cases h2 : i' = i <;> simp [h2]
  · simp [h1]
theorem lr_imp {T : Tb} {S : Nat → Bool} {w : Wd} {d : Nat} {j : MI} {as : List AV} {M : Mem} {Q Q' : RP} (h : lr_Ok T S w d j as M Q) (hq : ∀ r M', Q r M' → Q' r M') : lr_Ok T S w d j as M Q' := by
  intro p e ha hc hk s m args below hf happ hP hK
  obtain ⟨n, o, h1, h2, h3, ⟨⟨r, M', hr, hQ, hp⟩, hF⟩, h4⟩ := h p e ha hc hk s m args below hf happ hP hK
  exact ⟨n, o, h1, h2, h3, ⟨⟨r, M', hr, hq r M' hQ, hp⟩, hF⟩, h4⟩
/-- scratch that nobody else reads may be forgotten -/
theorem lr_hide {T : Tb} {S : Nat → Bool} {w : Wd} {d : Nat} {j : MI} {as : List AV} {M : Mem} {P : Option AV → Prop} (h : ∀ M0 : Mem, (∀ t, S t = false → M0 t = M t) → lr_Ok T s0 w d j as M0 (fun r M' => P r ∧ ∀ t, S t = false → M' t = M0 t)) : lr_Ok T S w d j as M (fun r M' => P r ∧ M' = M) := by
  intro p e ha hc hk s m args below hf happ hP hK
  obtain ⟨hargs, ⟨M0, hzM0, hP1, hP2⟩, hB, hS⟩ := hP
  obtain ⟨n, o, h1, h2, h3, ⟨⟨r, M', hr, ⟨hQ, hag⟩, M1, hzM1, hp⟩, hF⟩, h4⟩ := h M0 hzM0 p e ha hc hk s m args below hf happ ⟨hargs, ⟨M0, fun _ _ => rfl, hP1, hP2⟩, hB, hS⟩ hK
  exact ⟨n, o, h1, h2, h3, ⟨⟨r, M, hr, ⟨hQ, rfl⟩, M1, fun t ht => by rw [hzM1 t rfl, hag t ht, hzM0 t ht], hp⟩, hF⟩, h4⟩
def bitsF (f : Nat → Int32) : Nat → Int32
  | 0 => 0
  | k + 1 => bitsF f k ||| (1 <<< (f k &&& 31))
theorem ok_X0_savedBits {w : Wd} {d : Nat} {M : Mem} {c k : Nat} (hc : c < 3) (hk : M 1 c 7 = nI k) (hk8 : k ≤ 8) : lr_Ok tC sC w d jX0_savedBits [vo 1 c] M (qI (bitsF (M 7 c) k) M) := by
  have loop : ∀ n i x, k < i + n → i ≤ k → x = bitsF (M 7 c) i → lr_W tC sC w d jX0_savedBits 4 [some (vo 1 c), some (vi x), some (vi (nI i))] [] M (qI (bitsF (M 7 c) k) M) := by
    intro n
    induction n with
    | zero => intro i x h1 h2; omega
    | succ n ih =>
      intro i x h1 h2 hx
      refine ri_ild a_X0_savedBits_4 rfl ?_
      refine ri_ald a_X0_savedBits_5 rfl ?_
      refine ri_getI a_X0_savedBits_6 fl_X0_34 kC_1_7 rfl (iC_1 (by assumption)) ?_
      refine ri_icmp_ge a_X0_savedBits_9 (fun zc1 => ?_) (fun zc1 => ?_)
      · refine ri_ild a_X0_savedBits_29 rfl ?_
        refine ri_ireturn a_X0_savedBits_30 rfl rfl ?_
        rw [hk, nI_leI (by omega) (by omega)] at zc1
        have : i = k := by omega
        subst this
        exact rI hx rfl
      · refine ri_ild a_X0_savedBits_12 rfl ?_
        refine ri_ic a_X0_savedBits_13 ?_
        refine ri_ald a_X0_savedBits_14 rfl ?_
        refine ri_getR (t' := 7) (i' := c) a_X0_savedBits_15 fl_X0_27 kC_1_5 rfl (iC_1 (by assumption)) (Or.inl ⟨rfl, rfl, rfl⟩) ?_
        refine ri_ild a_X0_savedBits_18 rfl ?_
        refine ri_iaload a_X0_savedBits_19 lC_7 rfl (iC_7 (by assumption)) ?_ ?_
        · exact vp_in_nI (by rw [hk, nI_leI (by omega) (by omega)] at zc1; omega) (by decide)
        refine ri_ishl a_X0_savedBits_20 ?_
        refine ri_ior a_X0_savedBits_21 ?_
        refine ri_ist (f := fun zx2 => [some (vo 1 c), some (vi zx2), some (vi (nI i))]) a_X0_savedBits_22 (fun _ => rfl) (fun zx2 ezx2 => ?_)
        refine ri_iinc (c0 := 1) (f := fun zx3 => [some (vo 1 c), some (vi zx2), some (vi zx3)]) a_X0_savedBits_23 rfl (by decide) (fun _ => rfl) (fun zx3 ezx3 => ?_)
        refine ri_goto a_X0_savedBits_26 ?_
        rw [hk, nI_leI (by omega) (by omega)] at zc1
        rw [ezx3, nI_1]
        rw [nI_clamp (by omega)] at ezx2
        exact ih (i + 1) zx2 (by omega) (by omega) (by rw [ezx2, hx]; rfl)
  refine lr_ok (ls := [some (vo 1 c), none, none]) (by decide +kernel) rfl ?_
  refine ri_ic a_X0_savedBits_0 ?_
  refine ri_istk (ls' := [some (vo 1 c), some (vi 0), none]) a_X0_savedBits_1 rfl ?_
  refine ri_ic a_X0_savedBits_2 ?_
  refine ri_istk (ls' := [some (vo 1 c), some (vi 0), some (vi 0)]) a_X0_savedBits_3 rfl ?_
  exact loop (k + 1) 0 0 (by omega) (by omega) rfl
theorem ok_X0_save {w : Wd} {d : Nat} {M : Mem} {c k : Nat} (hc : c < 3) (p : Int32) (hk : M 1 c 7 = nI k) (hk8 : k ≤ 8) : lr_Ok tC sC w d jX0_save [vo 1 c, vi p] M (qV fun M' => M' = if k < 8 then up (up M 7 c k p) 1 c 7 (nI (k + 1)) else M) := by
  refine lr_ok (ls := [some (vo 1 c), some (vi p)]) (by decide +kernel) rfl ?_
  refine ri_ald a_X0_save_0 rfl ?_
  refine ri_getI a_X0_save_1 fl_X0_34 kC_1_7 rfl (iC_1 (by assumption)) ?_
  refine ri_ic a_X0_save_4 ?_
  refine ri_icmp_ge a_X0_save_6 (fun zc1 => ?_) (fun zc1 => ?_)
  · refine ri_return a_X0_save_29 rfl ?_
    rw [hk, show (8 : Int32) = nI 8 from rfl, nI_leI (by omega) (by omega)] at zc1
    exact rV (by rw [if_neg (by omega)])
  · refine ri_ald a_X0_save_9 rfl ?_
    refine ri_getR (t' := 7) (i' := c) a_X0_save_10 fl_X0_27 kC_1_5 rfl (iC_1 (by assumption)) (Or.inl ⟨rfl, rfl, rfl⟩) ?_
    refine ri_ald a_X0_save_13 rfl ?_
    refine ri_getI a_X0_save_14 fl_X0_34 kC_1_7 rfl (iC_1 (by assumption)) ?_
    refine ri_ild a_X0_save_17 rfl ?_
    refine ri_iastore a_X0_save_18 lC_7 rfl (iC_7 (by assumption)) ?_ (fun zM2 ezM2 => ?_)
    · rw [hk, show (8 : Int32) = nI 8 from rfl, nI_leI (by omega) (by omega)] at zc1
      rw [hk]
      exact vp_in_nI (by omega) (by decide)
    refine ri_ald a_X0_save_19 rfl ?_
    refine ri_dup a_X0_save_20 (fun _ h => by cases h) ?_
    refine ri_getI a_X0_save_21 fl_X0_34 kC_1_7 rfl (iC_1 (by assumption)) ?_
    refine ri_ic a_X0_save_24 ?_
    refine ri_iadd a_X0_save_25 ?_
    refine ri_putI a_X0_save_26 fp_X0_34 kC_1_7 rfl (iC_1 (by assumption)) (fun zM3 ezM3 => ?_)
    refine ri_return a_X0_save_29 rfl ?_
    rw [hk, show (8 : Int32) = nI 8 from rfl, nI_leI (by omega) (by omega)] at zc1
    refine rV ?_
    rw [if_pos (by omega), ezM3, ezM2, hk, nI_clamp (by omega), up_apply, if_neg (by omega), hk, nI_1]
theorem ok_X0_saveByFire {w : Wd} {d : Nat} (hd : 1 ≤ d) {M : Mem} {c k : Nat} (hc : c < 3) (p : Int32) (hk : M 1 c 7 = nI k) (hk8 : k < 8) : lr_Ok tC sC w d jX0_saveByFire [vo 1 c, vi p] M (qV fun M' => M' = up (up (up M 7 c k p) 1 c 7 (nI (k + 1))) 1 c 8 0) := by
  refine lr_ok (ls := [some (vo 1 c), some (vi p)]) (by decide +kernel) rfl ?_
  have hk9 : k ≤ 8 := by omega
  refine ri_ald a_X0_saveByFire_0 rfl ?_
  refine ri_ild a_X0_saveByFire_1 rfl ?_
  refine ri_cVxv (as := [vi p]) (rest := []) (d' := d - 1) a_X0_saveByFire_2 mv_X0_save ml_X0_49 (rcC_1 (iC_1 (by assumption))) (by omega) (ok_X0_save (by assumption) p (by assumption) (by assumption)) (Nat.le_of_ble_eq_true rfl) rfl (fun zM1 hzM1 => ?_)
  refine ri_ald a_X0_saveByFire_5 rfl ?_
  refine ri_ic a_X0_saveByFire_6 ?_
  refine ri_putI a_X0_saveByFire_7 fp_X0_37 kC_1_8 rfl (iC_1 (by assumption)) (fun zM2 ezM2 => ?_)
  refine ri_return a_X0_saveByFire_10 rfl ?_
  rw [if_pos hk8] at hzM1
  exact rV (by rw [ezM2, hzM1])
def blk (M : Mem) (c e : Nat) : Mem := fun t i k => if i = c ∧ ((2 ≤ t ∧ t ≤ 7 ∧ k < 8) ∨ (t = 1 ∧ 6 ≤ k ∧ k ≤ 9)) then M t e k else M t i k
theorem ok_X0_becomeLike {w : Wd} {d : Nat} (hd : 1 ≤ d) {M : Mem} {c e : Nat} (hc : c < 3) (he : e < 3) : lr_Ok tC sC w d jX0_becomeLike [vo 1 c, vo 1 e] M (qV fun M' => M' = blk M c e) := by
  refine lr_ok (ls := [some (vo 1 c), some (vo 1 e)]) (by decide +kernel) rfl ?_
  refine ri_ald a_X0_becomeLike_0 rfl ?_
  refine ri_getR (t' := 2) (i' := e) a_X0_becomeLike_1 fl_X0_9 kC_1_0 rfl (iC_1 (by assumption)) (Or.inl ⟨rfl, rfl, rfl⟩) ?_
  refine ri_ic a_X0_becomeLike_4 ?_
  refine ri_ald a_X0_becomeLike_5 rfl ?_
  refine ri_getR (t' := 2) (i' := c) a_X0_becomeLike_6 fl_X0_9 kC_1_0 rfl (iC_1 (by assumption)) (Or.inl ⟨rfl, rfl, rfl⟩) ?_
  refine ri_ic a_X0_becomeLike_9 ?_
  refine ri_ic a_X0_becomeLike_10 ?_
  refine ri_copy a_X0_becomeLike_12 mx_X0_43 mx_arraycopy (by omega) (Nat.le_of_ble_eq_true rfl) lC_2 lC_2 rfl rfl (iC_2 (by assumption)) (iC_2 (by assumption)) (by decide) (by decide) (by decide) (by decide) (by decide) (fun zM1 ezM1 => ?_)
  refine ri_ald a_X0_becomeLike_15 rfl ?_
  refine ri_getR (t' := 3) (i' := e) a_X0_becomeLike_16 fl_X0_15 kC_1_1 rfl (iC_1 (by assumption)) (Or.inl ⟨rfl, rfl, rfl⟩) ?_
  refine ri_ic a_X0_becomeLike_19 ?_
  refine ri_ald a_X0_becomeLike_20 rfl ?_
  refine ri_getR (t' := 3) (i' := c) a_X0_becomeLike_21 fl_X0_15 kC_1_1 rfl (iC_1 (by assumption)) (Or.inl ⟨rfl, rfl, rfl⟩) ?_
  refine ri_ic a_X0_becomeLike_24 ?_
  refine ri_ic a_X0_becomeLike_25 ?_
  refine ri_copy a_X0_becomeLike_27 mx_X0_43 mx_arraycopy (by omega) (Nat.le_of_ble_eq_true rfl) lC_3 lC_3 rfl rfl (iC_3 (by assumption)) (iC_3 (by assumption)) (by decide) (by decide) (by decide) (by decide) (by decide) (fun zM2 ezM2 => ?_)
  refine ri_ald a_X0_becomeLike_30 rfl ?_
  refine ri_getR (t' := 4) (i' := e) a_X0_becomeLike_31 fl_X0_18 kC_1_2 rfl (iC_1 (by assumption)) (Or.inl ⟨rfl, rfl, rfl⟩) ?_
  refine ri_ic a_X0_becomeLike_34 ?_
  refine ri_ald a_X0_becomeLike_35 rfl ?_
  refine ri_getR (t' := 4) (i' := c) a_X0_becomeLike_36 fl_X0_18 kC_1_2 rfl (iC_1 (by assumption)) (Or.inl ⟨rfl, rfl, rfl⟩) ?_
  refine ri_ic a_X0_becomeLike_39 ?_
  refine ri_ic a_X0_becomeLike_40 ?_
  refine ri_copy a_X0_becomeLike_42 mx_X0_43 mx_arraycopy (by omega) (Nat.le_of_ble_eq_true rfl) lC_4 lC_4 rfl rfl (iC_4 (by assumption)) (iC_4 (by assumption)) (by decide) (by decide) (by decide) (by decide) (by decide) (fun zM3 ezM3 => ?_)
  refine ri_ald a_X0_becomeLike_45 rfl ?_
  refine ri_getR (t' := 5) (i' := e) a_X0_becomeLike_46 fl_X0_21 kC_1_3 rfl (iC_1 (by assumption)) (Or.inl ⟨rfl, rfl, rfl⟩) ?_
  refine ri_ic a_X0_becomeLike_49 ?_
  refine ri_ald a_X0_becomeLike_50 rfl ?_
  refine ri_getR (t' := 5) (i' := c) a_X0_becomeLike_51 fl_X0_21 kC_1_3 rfl (iC_1 (by assumption)) (Or.inl ⟨rfl, rfl, rfl⟩) ?_
  refine ri_ic a_X0_becomeLike_54 ?_
  refine ri_ic a_X0_becomeLike_55 ?_
  refine ri_copy a_X0_becomeLike_57 mx_X0_43 mx_arraycopy (by omega) (Nat.le_of_ble_eq_true rfl) lC_5 lC_5 rfl rfl (iC_5 (by assumption)) (iC_5 (by assumption)) (by decide) (by decide) (by decide) (by decide) (by decide) (fun zM4 ezM4 => ?_)
  refine ri_ald a_X0_becomeLike_60 rfl ?_
  refine ri_getR (t' := 6) (i' := e) a_X0_becomeLike_61 fl_X0_24 kC_1_4 rfl (iC_1 (by assumption)) (Or.inl ⟨rfl, rfl, rfl⟩) ?_
  refine ri_ic a_X0_becomeLike_64 ?_
  refine ri_ald a_X0_becomeLike_65 rfl ?_
  refine ri_getR (t' := 6) (i' := c) a_X0_becomeLike_66 fl_X0_24 kC_1_4 rfl (iC_1 (by assumption)) (Or.inl ⟨rfl, rfl, rfl⟩) ?_
  refine ri_ic a_X0_becomeLike_69 ?_
  refine ri_ic a_X0_becomeLike_70 ?_
  refine ri_copy a_X0_becomeLike_72 mx_X0_43 mx_arraycopy (by omega) (Nat.le_of_ble_eq_true rfl) lC_6 lC_6 rfl rfl (iC_6 (by assumption)) (iC_6 (by assumption)) (by decide) (by decide) (by decide) (by decide) (by decide) (fun zM5 ezM5 => ?_)
  refine ri_ald a_X0_becomeLike_75 rfl ?_
  refine ri_getR (t' := 7) (i' := e) a_X0_becomeLike_76 fl_X0_27 kC_1_5 rfl (iC_1 (by assumption)) (Or.inl ⟨rfl, rfl, rfl⟩) ?_
  refine ri_ic a_X0_becomeLike_79 ?_
  refine ri_ald a_X0_becomeLike_80 rfl ?_
  refine ri_getR (t' := 7) (i' := c) a_X0_becomeLike_81 fl_X0_27 kC_1_5 rfl (iC_1 (by assumption)) (Or.inl ⟨rfl, rfl, rfl⟩) ?_
  refine ri_ic a_X0_becomeLike_84 ?_
  refine ri_ic a_X0_becomeLike_85 ?_
  refine ri_copy a_X0_becomeLike_87 mx_X0_43 mx_arraycopy (by omega) (Nat.le_of_ble_eq_true rfl) lC_7 lC_7 rfl rfl (iC_7 (by assumption)) (iC_7 (by assumption)) (by decide) (by decide) (by decide) (by decide) (by decide) (fun zM6 ezM6 => ?_)
  refine ri_ald a_X0_becomeLike_90 rfl ?_
  refine ri_ald a_X0_becomeLike_91 rfl ?_
  refine ri_getI a_X0_becomeLike_92 fl_X0_30 kC_1_6 rfl (iC_1 (by assumption)) ?_
  refine ri_putI a_X0_becomeLike_95 fp_X0_30 kC_1_6 rfl (iC_1 (by assumption)) (fun zM7 ezM7 => ?_)
  refine ri_ald a_X0_becomeLike_98 rfl ?_
  refine ri_ald a_X0_becomeLike_99 rfl ?_
  refine ri_getI a_X0_becomeLike_100 fl_X0_34 kC_1_7 rfl (iC_1 (by assumption)) ?_
  refine ri_putI a_X0_becomeLike_103 fp_X0_34 kC_1_7 rfl (iC_1 (by assumption)) (fun zM8 ezM8 => ?_)
  refine ri_ald a_X0_becomeLike_106 rfl ?_
  refine ri_ald a_X0_becomeLike_107 rfl ?_
  refine ri_getI a_X0_becomeLike_108 fl_X0_37 kC_1_8 rfl (iC_1 (by assumption)) ?_
  refine ri_putI a_X0_becomeLike_111 fp_X0_37 kC_1_8 rfl (iC_1 (by assumption)) (fun zM9 ezM9 => ?_)
  refine ri_ald a_X0_becomeLike_114 rfl ?_
  refine ri_ald a_X0_becomeLike_115 rfl ?_
  refine ri_getI a_X0_becomeLike_116 fl_X0_40 kC_1_9 rfl (iC_1 (by assumption)) ?_
  refine ri_putI a_X0_becomeLike_119 fp_X0_40 kC_1_9 rfl (iC_1 (by assumption)) (fun zM10 ezM10 => ?_)
  refine ri_return a_X0_becomeLike_122 rfl ?_
  refine rV ?_
  subst ezM10 ezM9 ezM8 ezM7 ezM6 ezM5 ezM4 ezM3 ezM2 ezM1
  funext t i k
  simp only [up_apply, upr_apply, va_cpy, blk]
  have h8 : (8 : Int32).toNatClampNeg = 8 := by decide
  have h0 : (0 : Int32).toNatClampNeg = 0 := by decide
  rw [h8, h0]
  grind (splits := 40)

