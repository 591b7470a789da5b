/-! class: come -/
def coA (L : List (List Op)) (V : Vw) (O : Nat → Nat) : Nat → Int64
  | 0 => 1
  | i + 1 => coA L V O i * (sayV L V 2 (O i) (nI i)).toInt64
def coB : Nat → Int64
  | 0 => 1
  | i + 1 => coB i * 100
theorem ok_X6_come {w : Wd} {d : Nat} (hd : 3 ≤ d) {M : Mem} {k : Nat} {L : List (List Op)} {O : Nat → Nat} (hL : lawC M 0 L) (hk : M 1 0 7 = nI k) (hk8 : k ≤ 8) (hO : rowA (M 7 0) O k) (n part : Int32) : lr_Ok tC sC w d jX6_come [vo 0 0, vi n, vi part] M (qL (if (0 ≤ n ∧ n ≤ M 1 0 7) ∧ 0 ≤ part ∧ part ≤ 1 then lowV (coA L (vwC M 0) O n.toNatClampNeg) (coB n.toNatClampNeg) part else -4611686018427387904) M) := by
  have loop : ∀ m, m ≤ k → ∀ r i, m = i + r → lr_W tC sC w d jX6_come 34 [some (vo 0 0), some (vi (nI m)), some (vi part), some (vl (coA L (vwC M 0) O i)), none, some (vl (coB i)), none, some (vi (nI i))] [] M (qL (lowV (coA L (vwC M 0) O m) (coB m) part) M) := by
    intro m hm r
    induction r with
    | zero =>
      intro i hi
      have : m = i := hi
      subst this
      refine ri_ild a_X6_come_34 rfl ?_
      refine ri_ild a_X6_come_36 rfl ?_
      refine ri_icmp_ge a_X6_come_37 (fun zc11 => ?_) (fun zc11 => ?_)
      · refine ri_lld a_X6_come_79 rfl ?_
        refine ri_lld a_X6_come_80 rfl ?_
        refine ri_ild a_X6_come_82 rfl ?_
        refine ri_cSpl (as := [vl (coA L (vwC M 0) O m), vl (coB m), vi part]) (rest := []) (d' := d - 1) a_X6_come_83 ms_X6_lowest ml_X6_211 (by omega) (ok_X6_lowest _ _ part) (Nat.le_of_ble_eq_true rfl) rfl (fun zy12 ezy12 => ?_)
        refine ri_lreturn a_X6_come_86 rfl ?_
        exact rL ezy12 rfl
      · exact absurd (Int32.le_refl _) zc11
    | succ r ih =>
      intro i hi
      obtain ⟨hr0, h8⟩ := hO i (by omega)
      have eg : M 7 0 (nI i).toNatClampNeg = nI (O i) := by rw [nI_clamp (by omega)]; exact hr0
      refine ri_ild a_X6_come_34 rfl ?_
      refine ri_ild a_X6_come_36 rfl ?_
      refine ri_icmp_ge a_X6_come_37 (fun zc11 => ?_) (fun zc11 => ?_)
      · exact absurd zc11 (nI_ge (by omega) (by omega))
      · refine ri_lld a_X6_come_40 rfl ?_
        refine ri_ald a_X6_come_41 rfl ?_
        refine ri_ald a_X6_come_42 rfl ?_
        refine ri_getR (t' := 1) (i' := 0) a_X6_come_43 fl_X6_10 kC_0_0 rfl iC_0 (Or.inr ⟨rfl, rfl, rfl⟩) ?_
        refine ri_ic a_X6_come_46 ?_
        refine ri_ald a_X6_come_47 rfl ?_
        refine ri_getR (t' := 1) (i' := 0) a_X6_come_48 fl_X6_10 kC_0_0 rfl iC_0 (Or.inr ⟨rfl, rfl, rfl⟩) ?_
        refine ri_getR (t' := 7) (i' := 0) a_X6_come_51 fl_X6_144 kC_1_5 rfl (iC_1 (by decide)) (Or.inl ⟨rfl, rfl, rfl⟩) ?_
        refine ri_ild a_X6_come_54 rfl ?_
        refine ri_iaload a_X6_come_56 lC_7 rfl (iC_7 (by decide)) ?_ ?_
        · exact vp_in_nI (by omega) (by decide)
        rw [eg]
        refine ri_ild a_X6_come_57 rfl ?_
        refine ri_cVpi (as := [vo 1 0, vi 2, vi (nI (O i)), vi (nI i)]) (rest := [vl (coA L (vwC M 0) O i)]) (d' := d - 1) a_X6_come_59 mv_X6_says ml_X6_110 (rcC_0 iC_0) (by omega) (ok_X6_says (pt := 2) (by omega) hL (by decide) h8 (by decide) (nI i)) (Nat.le_of_ble_eq_true rfl) rfl (fun zy21 ezy21 => ?_)
        refine ri_i2l a_X6_come_62 ?_
        refine ri_lmul a_X6_come_63 ?_
        refine ri_lst (f := fun zx22 => [some (vo 0 0), some (vi (nI m)), some (vi part), some (vl zx22), none, some (vl (coB i)), none, some (vi (nI i))]) a_X6_come_64 (fun _ => rfl) (fun zx22 ezx22 => ?_)
        refine ri_lld a_X6_come_65 rfl ?_
        refine ri_lc a_X6_come_67 ?_
        refine ri_lmul a_X6_come_70 ?_
        refine ri_lst (f := fun zx23 => [some (vo 0 0), some (vi (nI m)), some (vi part), some (vl zx22), none, some (vl zx23), none, some (vi (nI i))]) a_X6_come_71 (fun _ => rfl) (fun zx23 ezx23 => ?_)
        refine ri_iinc (c0 := 1) (f := fun zx24 => [some (vo 0 0), some (vi (nI m)), some (vi part), some (vl zx22), none, some (vl zx23), none, some (vi zx24)]) a_X6_come_73 rfl (by decide) (fun _ => rfl) (fun zx24 ezx24 => ?_)
        refine ri_goto a_X6_come_76 ?_
        have := ih (i + 1) (by omega)
        rw [coA, coB] at this
        rw [ezx22, ezx23, ezx24, ezy21, nI_1]
        exact this
  refine lr_ok (by decide +kernel) rfl ?_
  refine ri_ild a_X6_come_0 rfl ?_
  refine ri_ald a_X6_come_1 rfl ?_
  refine ri_getR (t' := 1) (i' := 0) a_X6_come_2 fl_X6_10 kC_0_0 rfl iC_0 (Or.inr ⟨rfl, rfl, rfl⟩) ?_
  refine ri_getI a_X6_come_5 fl_X6_90 kC_1_7 rfl (iC_1 (by decide)) ?_
  refine ri_cSpb (as := [vi n, vi (M 1 0 7)]) (rest := []) (d' := d - 1) a_X6_come_8 ms_X6_within ml_X6_102 (by omega) (ok_X6_within n (M 1 0 7)) (Nat.le_of_ble_eq_true rfl) rfl (fun zc1 => ?_) (fun zc1 => ?_)
  · refine ri_if_eq a_X6_come_11 (fun q => absurd q (by decide)) (fun _ => ?_)
    refine ri_ild a_X6_come_14 rfl ?_
    refine ri_ic a_X6_come_15 ?_
    refine ri_cSpb (as := [vi part, vi 1]) (rest := []) (d' := d - 1) a_X6_come_16 ms_X6_within ml_X6_102 (by omega) (ok_X6_within part 1) (Nat.le_of_ble_eq_true rfl) rfl (fun zc2 => ?_) (fun zc2 => ?_)
    · refine ri_if_ne a_X6_come_19 (fun _ => ?_) (fun q => absurd q (by decide))
      refine ri_lc a_X6_come_26 ?_
      refine ri_lstk (ls' := [some (vo 0 0), some (vi n), some (vi part), some (vl 1), none, none, none, none]) a_X6_come_27 rfl ?_
      refine ri_lc a_X6_come_28 ?_
      refine ri_lstk (ls' := [some (vo 0 0), some (vi n), some (vi part), some (vl 1), none, some (vl 1), none, none]) a_X6_come_29 rfl ?_
      refine ri_ic a_X6_come_31 ?_
      refine ri_istk (ls' := [some (vo 0 0), some (vi n), some (vi part), some (vl 1), none, some (vl 1), none, some (vi 0)]) a_X6_come_32 rfl ?_
      rw [if_pos ⟨zc1, zc2⟩]
      obtain ⟨m, hm2, rfl⟩ := nI_of (Int32.not_lt.mpr zc1.1)
      have hmk : m ≤ k := (nI_leI hm2 (by omega)).1 (hk ▸ zc1.2)
      rw [nI_clamp (by omega)]
      exact loop m hmk m 0 (by omega)
    · refine ri_if_ne a_X6_come_19 (fun q => absurd q (by decide)) (fun _ => ?_)
      refine ri_lc a_X6_come_22 ?_
      refine ri_lreturn a_X6_come_25 rfl ?_
      exact rL (by rw [if_neg (fun q => zc2 q.2)]) rfl
  · refine ri_if_eq a_X6_come_11 (fun _ => ?_) (fun q => absurd q (by decide))
    refine ri_lc a_X6_come_22 ?_
    refine ri_lreturn a_X6_come_25 rfl ?_
    exact rL (by rw [if_neg (fun q => zc1 q.1)]) rfl

