/-! class: told nights, ways, fractions -/
def bcF (x : Int32) : Int32 :=
  let a := x - (((x.toUInt32 >>> ((1 : Int32).toUInt32 &&& Int32.toUInt32 31)).toInt32) &&& 1431655765)
  let b := (a &&& 858993459) + (((a.toUInt32 >>> ((2 : Int32).toUInt32 &&& Int32.toUInt32 31)).toInt32) &&& 858993459)
  let e := (b + ((b.toUInt32 >>> ((4 : Int32).toUInt32 &&& Int32.toUInt32 31)).toInt32)) &&& 252645135
  let f := e + ((e.toUInt32 >>> ((8 : Int32).toUInt32 &&& Int32.toUInt32 31)).toInt32)
  let g := f + ((f.toUInt32 >>> ((16 : Int32).toUInt32 &&& Int32.toUInt32 31)).toInt32)
  g &&& 63
def popc (n : Nat) : Nat := ((List.range 8).filter fun i => n.testBit i).length
theorem bcF_eq : ∀ n, n < 256 → bcF (nI n) = nI (popc n) := by decide +kernel
theorem popc_le (n : Nat) : popc n ≤ 8 := by
  have := List.length_filter_le (fun i => n.testBit i) (List.range 8)
  rwa [List.length_range] at this
theorem ok_J6_bitCount {w : Wd} {d : Nat} {M : Mem} {n : Nat} (hn : n < 256) : lr_Ok tC sC w d jJ6_bitCount_0f7a4 [vi (nI n)] M (qI (nI (popc n)) M) := by
  have h := bcF_eq n hn
  generalize nI n = x at h
  refine lr_ok (by decide +kernel) rfl ?_
  refine ri_ild a_J6_bitCount_0f7a4_0 rfl ?_
  refine ri_ild a_J6_bitCount_0f7a4_1 rfl ?_
  refine ri_ic a_J6_bitCount_0f7a4_2 ?_
  refine ri_iushr a_J6_bitCount_0f7a4_3 ?_
  refine ri_ic a_J6_bitCount_0f7a4_4 ?_
  refine ri_iand a_J6_bitCount_0f7a4_7 ?_
  refine ri_isub a_J6_bitCount_0f7a4_8 ?_
  refine ri_ist (f := fun zx1 => [some (vi zx1)]) a_J6_bitCount_0f7a4_9 (fun _ => rfl) (fun zx1 ezx1 => ?_)
  refine ri_ild a_J6_bitCount_0f7a4_10 rfl ?_
  refine ri_ic a_J6_bitCount_0f7a4_11 ?_
  refine ri_iand a_J6_bitCount_0f7a4_14 ?_
  refine ri_ild a_J6_bitCount_0f7a4_15 rfl ?_
  refine ri_ic a_J6_bitCount_0f7a4_16 ?_
  refine ri_iushr a_J6_bitCount_0f7a4_17 ?_
  refine ri_ic a_J6_bitCount_0f7a4_18 ?_
  refine ri_iand a_J6_bitCount_0f7a4_21 ?_
  refine ri_iadd a_J6_bitCount_0f7a4_22 ?_
  refine ri_ist (f := fun zx2 => [some (vi zx2)]) a_J6_bitCount_0f7a4_23 (fun _ => rfl) (fun zx2 ezx2 => ?_)
  refine ri_ild a_J6_bitCount_0f7a4_24 rfl ?_
  refine ri_ild a_J6_bitCount_0f7a4_25 rfl ?_
  refine ri_ic a_J6_bitCount_0f7a4_26 ?_
  refine ri_iushr a_J6_bitCount_0f7a4_27 ?_
  refine ri_iadd a_J6_bitCount_0f7a4_28 ?_
  refine ri_ic a_J6_bitCount_0f7a4_29 ?_
  refine ri_iand a_J6_bitCount_0f7a4_32 ?_
  refine ri_ist (f := fun zx3 => [some (vi zx3)]) a_J6_bitCount_0f7a4_33 (fun _ => rfl) (fun zx3 ezx3 => ?_)
  refine ri_ild a_J6_bitCount_0f7a4_34 rfl ?_
  refine ri_ild a_J6_bitCount_0f7a4_35 rfl ?_
  refine ri_ic a_J6_bitCount_0f7a4_36 ?_
  refine ri_iushr a_J6_bitCount_0f7a4_38 ?_
  refine ri_iadd a_J6_bitCount_0f7a4_39 ?_
  refine ri_ist (f := fun zx4 => [some (vi zx4)]) a_J6_bitCount_0f7a4_40 (fun _ => rfl) (fun zx4 ezx4 => ?_)
  refine ri_ild a_J6_bitCount_0f7a4_41 rfl ?_
  refine ri_ild a_J6_bitCount_0f7a4_42 rfl ?_
  refine ri_ic a_J6_bitCount_0f7a4_43 ?_
  refine ri_iushr a_J6_bitCount_0f7a4_45 ?_
  refine ri_iadd a_J6_bitCount_0f7a4_46 ?_
  refine ri_ist (f := fun zx5 => [some (vi zx5)]) a_J6_bitCount_0f7a4_47 (fun _ => rfl) (fun zx5 ezx5 => ?_)
  refine ri_ild a_J6_bitCount_0f7a4_48 rfl ?_
  refine ri_ic a_J6_bitCount_0f7a4_49 ?_
  refine ri_iand a_J6_bitCount_0f7a4_51 ?_
  refine ri_ireturn a_J6_bitCount_0f7a4_52 rfl rfl ?_
  exact rI (by
  rw [← h, ezx5, ezx4, ezx3, ezx2, ezx1]
  rfl) rfl
def foF (L : List (List Op)) (V : Vw) (O : Nat → Nat) (g : Nat → Int32) : Nat → Nat → Int32 → Int32
  | 0, _, _ => -1
  | r + 1, i, h => if h + risV L V (O i) (nI i) = g i then foF L V O g r (i + 1) (h + risV L V (O i) (nI i)) else nI i
theorem ok_X6_firstOtherwise {w : Wd} {d : Nat} (hd : 4 ≤ d) {M : Mem} {c s m k : Nat} {L : List (List Op)} {O : Nat → Nat} (hL : lawC M c L) (hc : c < 3) (hs : s < 4) (hm : M 19 s 2 = nI m) (hm40 : m ≤ 40) (hk : M 1 c 7 = nI k) (hk8 : k ≤ 8) (hO : rowA (M 7 c) O k) : lr_Ok tC sC w d jX6_firstOtherwise [vo 0 0, vo 1 c, vo 19 s] M (qI (foF L (vwC M c) O (M 20 s) (min m k) 0 0) M) := by
  have loop : ∀ r i h, min m k = i + r → lr_W tC sC w d jX6_firstOtherwise 5 [some (vo 0 0), some (vo 1 c), some (vo 19 s), some (vi h), some (vi (nI i))] [] M (qI (foF L (vwC M c) O (M 20 s) r i h) M) := by
    intro r
    induction r with
    | zero =>
      intro i h hr
      refine ri_ild a_X6_firstOtherwise_5 rfl ?_
      refine ri_ald a_X6_firstOtherwise_7 rfl ?_
      refine ri_getI a_X6_firstOtherwise_8 fl_X6_256 kC_19_2 rfl (iC_19 (by assumption)) ?_
      refine ri_icmp_ge a_X6_firstOtherwise_11 (fun zc1 => ?_) (fun zc1 => ?_)
      · refine ri_ic a_X6_firstOtherwise_60 ?_
        refine ri_ireturn a_X6_firstOtherwise_61 rfl rfl ?_
        exact rI rfl rfl
      · refine ri_ild a_X6_firstOtherwise_14 rfl ?_
        refine ri_ald a_X6_firstOtherwise_16 rfl ?_
        refine ri_getI a_X6_firstOtherwise_17 fl_X6_90 kC_1_7 rfl (iC_1 (by assumption)) ?_
        refine ri_icmp_ge a_X6_firstOtherwise_20 (fun zc2 => ?_) (fun zc2 => ?_)
        · refine ri_ic a_X6_firstOtherwise_60 ?_
          refine ri_ireturn a_X6_firstOtherwise_61 rfl rfl ?_
          exact rI rfl rfl
        · exfalso
          rw [hm] at zc1
          rw [hk] at zc2
          rw [nI_leI (by omega) (by omega)] at zc1 zc2
          omega
    | succ r ih =>
      intro i h hr
      obtain ⟨hr0, h8⟩ := hO i (by omega)
      have eg : M 7 c (nI i).toNatClampNeg = nI (O i) := by rw [nI_clamp (by omega)]; exact hr0
      have eS : M 20 s (nI i).toNatClampNeg = M 20 s i := by rw [nI_clamp (by omega)]
      refine ri_ild a_X6_firstOtherwise_5 rfl ?_
      refine ri_ald a_X6_firstOtherwise_7 rfl ?_
      refine ri_getI a_X6_firstOtherwise_8 fl_X6_256 kC_19_2 rfl (iC_19 (by assumption)) ?_
      refine ri_icmp_ge a_X6_firstOtherwise_11 (fun zc11 => ?_) (fun zc11 => ?_)
      · refine ri_ic a_X6_firstOtherwise_60 ?_
        refine ri_ireturn a_X6_firstOtherwise_61 rfl rfl ?_
        exfalso
        first
        | (rw [hm, nI_leI (by omega) (by omega)] at zc11; omega)
        | (rw [hk, nI_leI (by omega) (by omega)] at zc12; omega)
      · refine ri_ild a_X6_firstOtherwise_14 rfl ?_
        refine ri_ald a_X6_firstOtherwise_16 rfl ?_
        refine ri_getI a_X6_firstOtherwise_17 fl_X6_90 kC_1_7 rfl (iC_1 (by assumption)) ?_
        refine ri_icmp_ge a_X6_firstOtherwise_20 (fun zc12 => ?_) (fun zc12 => ?_)
        · refine ri_ic a_X6_firstOtherwise_60 ?_
          refine ri_ireturn a_X6_firstOtherwise_61 rfl rfl ?_
          exfalso
          first
          | (rw [hm, nI_leI (by omega) (by omega)] at zc11; omega)
          | (rw [hk, nI_leI (by omega) (by omega)] at zc12; omega)
        · refine ri_ild a_X6_firstOtherwise_23 rfl ?_
          refine ri_ald a_X6_firstOtherwise_24 rfl ?_
          refine ri_ald a_X6_firstOtherwise_25 rfl ?_
          refine ri_ald a_X6_firstOtherwise_26 rfl ?_
          refine ri_getR (t' := 7) (i' := c) a_X6_firstOtherwise_27 fl_X6_144 kC_1_5 rfl (iC_1 (by assumption)) (Or.inl ⟨rfl, rfl, rfl⟩) ?_
          refine ri_ild a_X6_firstOtherwise_30 rfl ?_
          refine ri_iaload a_X6_firstOtherwise_32 lC_7 rfl (iC_7 (by assumption)) ?_ ?_
          · exact vp_in_nI (by omega) (by decide)
          rw [eg]
          refine ri_ild a_X6_firstOtherwise_33 rfl ?_
          refine ri_cVpi (as := [vo 1 c, vi (nI (O i)), vi (nI i)]) (rest := [vi h]) (d' := d - 1) a_X6_firstOtherwise_35 mv_X6_risesOf ml_X6_232 (rcC_0 iC_0) (by omega) (ok_X6_risesOf (by omega) hL hc h8 (nI i)) (Nat.le_of_ble_eq_true rfl) rfl (fun zy21 ezy21 => ?_)
          refine ri_iadd a_X6_firstOtherwise_38 ?_
          refine ri_ist (f := fun zx22 => [some (vo 0 0), some (vo 1 c), some (vo 19 s), some (vi zx22), some (vi (nI i))]) a_X6_firstOtherwise_39 (fun _ => rfl) (fun zx22 ezx22 => ?_)
          refine ri_ild a_X6_firstOtherwise_40 rfl ?_
          refine ri_ald a_X6_firstOtherwise_41 rfl ?_
          refine ri_getR (t' := 20) (i' := s) a_X6_firstOtherwise_42 fl_X6_250 kC_19_0 rfl (iC_19 (by assumption)) (Or.inl ⟨rfl, rfl, rfl⟩) ?_
          refine ri_ild a_X6_firstOtherwise_45 rfl ?_
          refine ri_iaload a_X6_firstOtherwise_47 lC_20 rfl (iC_20 (by assumption)) ?_ ?_
          · exact vp_in_nI (by omega) (by decide)
          refine ri_icmp_eq a_X6_firstOtherwise_48 (fun zc23 => ?_) (fun zc23 => ?_)
          · refine ri_iinc (c0 := 1) (f := fun zx24 => [some (vo 0 0), some (vo 1 c), some (vo 19 s), some (vi zx22), some (vi zx24)]) a_X6_firstOtherwise_54 rfl (by decide) (fun _ => rfl) (fun zx24 ezx24 => ?_)
            refine ri_goto a_X6_firstOtherwise_57 ?_
            rw [eS, ezx22, ezy21] at zc23
            rw [foF, if_pos zc23, ezx24, nI_1, ezx22, ezy21]
            exact ih (i + 1) _ (by omega)
          · refine ri_ild a_X6_firstOtherwise_51 rfl ?_
            refine ri_ireturn a_X6_firstOtherwise_53 rfl rfl ?_
            rw [eS, ezx22, ezy21] at zc23
            rw [foF, if_neg zc23]
            exact rI rfl rfl
  refine lr_ok (by decide +kernel) rfl ?_
  refine ri_ic a_X6_firstOtherwise_0 ?_
  refine ri_istk (ls' := [some (vo 0 0), some (vo 1 c), some (vo 19 s), some (vi 0), none]) a_X6_firstOtherwise_1 rfl ?_
  refine ri_ic a_X6_firstOtherwise_2 ?_
  refine ri_istk (ls' := [some (vo 0 0), some (vo 1 c), some (vo 19 s), some (vi 0), some (vi 0)]) a_X6_firstOtherwise_3 rfl ?_
  exact loop (min m k) 0 0 (by omega)
/-- whether one rises at a rung as told -/
abbrev fitF (L : List (List Op)) (V : Vw) (g : Nat → Int32) (p r : Nat) : Prop := (if r = 0 then 0 else g (r - 1)) + risV L V p (nI r) = g r
theorem ok_X6_fits {w : Wd} {d : Nat} (hd : 4 ≤ d) {M : Mem} {s p r : Nat} {L : List (List Op)} (hL : lawC M 0 L) (hs : s < 4) (hp : p < 8) (hr : r < 40) : lr_Ok tC sC w d jX6_fits [vo 0 0, vo 19 s, vi (nI p), vi (nI r)] M (qB (fitF L (vwC M 0) (M 20 s) p r) M) := by
  refine lr_ok (by decide +kernel) rfl ?_
  have eS : M 20 s (nI r).toNatClampNeg = M 20 s r := by rw [nI_clamp (by omega)]
  refine ri_ild a_X6_fits_0 rfl ?_
  refine ri_if_ne a_X6_fits_1 (fun zc1 => ?_) (fun zc1 => ?_)
  · refine ri_ald a_X6_fits_8 rfl ?_
    refine ri_getR (t' := 20) (i' := s) a_X6_fits_9 fl_X6_250 kC_19_0 rfl (iC_19 (by assumption)) (Or.inl ⟨rfl, rfl, rfl⟩) ?_
    refine ri_ild a_X6_fits_12 rfl ?_
    refine ri_ic a_X6_fits_13 ?_
    refine ri_isub a_X6_fits_14 ?_
    refine ri_iaload a_X6_fits_15 lC_20 rfl (iC_20 (by assumption)) ?_ ?_
    · exact (by
      obtain ⟨z, rfl⟩ : ∃ z, r = z + 1 := ⟨r - 1, by
        have : ¬ r = 0 := fun q => zc1 (by rw [q]; decide)
        omega⟩
      rw [nI_pred]
      exact vp_in_nI (by omega) (by decide))
    refine ri_ist (f := fun zx2 => [some (vo 0 0), some (vo 19 s), some (vi (nI p)), some (vi (nI r)), some (vi zx2)]) a_X6_fits_16 (fun _ => rfl) (fun zx2 ezx2 => ?_)
    refine ri_ild a_X6_fits_18 rfl ?_
    refine ri_ald a_X6_fits_20 rfl ?_
    refine ri_ald a_X6_fits_21 rfl ?_
    refine ri_getR (t' := 1) (i' := 0) a_X6_fits_22 fl_X6_10 kC_0_0 rfl iC_0 (Or.inr ⟨rfl, rfl, rfl⟩) ?_
    refine ri_ild a_X6_fits_25 rfl ?_
    refine ri_ild a_X6_fits_26 rfl ?_
    refine ri_cVpi (as := [vo 1 0, vi (nI p), vi (nI r)]) (rest := [vi zx2]) (d' := d - 1) a_X6_fits_27 mv_X6_risesOf ml_X6_232 (rcC_0 iC_0) (by omega) (ok_X6_risesOf (by omega) hL (by decide) hp (nI r)) (Nat.le_of_ble_eq_true rfl) rfl (fun zy3 ezy3 => ?_)
    refine ri_iadd a_X6_fits_30 ?_
    refine ri_ald a_X6_fits_31 rfl ?_
    refine ri_getR (t' := 20) (i' := s) a_X6_fits_32 fl_X6_250 kC_19_0 rfl (iC_19 (by assumption)) (Or.inl ⟨rfl, rfl, rfl⟩) ?_
    refine ri_ild a_X6_fits_35 rfl ?_
    refine ri_iaload a_X6_fits_36 lC_20 rfl (iC_20 (by assumption)) ?_ ?_
    · exact vp_in_nI (by omega) (by decide)
    refine ri_icmp_ne a_X6_fits_37 (fun zc4 => ?_) (fun zc4 => ?_)
    · refine ri_ic a_X6_fits_44 ?_
      refine ri_ireturn a_X6_fits_45 rfl (by decide) ?_
      obtain ⟨z, rfl⟩ : ∃ z, r = z + 1 := ⟨r - 1, by
        have : ¬ r = 0 := fun q => zc1 (by rw [q]; decide)
        omega⟩
      rw [nI_pred, nI_clamp (by omega)] at ezx2
      rw [eS, ezx2, ezy3] at zc4
      exact rB0 zc4
    · refine ri_ic a_X6_fits_40 ?_
      refine ri_goto a_X6_fits_41 ?_
      refine ri_ireturn a_X6_fits_45 rfl (by decide) ?_
      obtain ⟨z, rfl⟩ : ∃ z, r = z + 1 := ⟨r - 1, by
        have : ¬ r = 0 := fun q => zc1 (by rw [q]; decide)
        omega⟩
      rw [nI_pred, nI_clamp (by omega)] at ezx2
      rw [eS, ezx2, ezy3] at zc4
      exact rB1 zc4
  · refine ri_ic a_X6_fits_4 ?_
    refine ri_goto a_X6_fits_5 ?_
    refine ri_istk (ls' := [some (vo 0 0), some (vo 19 s), some (vi (nI p)), some (vi (nI r)), some (vi 0)]) a_X6_fits_16 rfl ?_
    refine ri_ild a_X6_fits_18 rfl ?_
    refine ri_ald a_X6_fits_20 rfl ?_
    refine ri_ald a_X6_fits_21 rfl ?_
    refine ri_getR (t' := 1) (i' := 0) a_X6_fits_22 fl_X6_10 kC_0_0 rfl iC_0 (Or.inr ⟨rfl, rfl, rfl⟩) ?_
    refine ri_ild a_X6_fits_25 rfl ?_
    refine ri_ild a_X6_fits_26 rfl ?_
    refine ri_cVpi (as := [vo 1 0, vi (nI p), vi (nI r)]) (rest := [vi 0]) (d' := d - 1) a_X6_fits_27 mv_X6_risesOf ml_X6_232 (rcC_0 iC_0) (by omega) (ok_X6_risesOf (by omega) hL (by decide) hp (nI r)) (Nat.le_of_ble_eq_true rfl) rfl (fun zy5 ezy5 => ?_)
    refine ri_iadd a_X6_fits_30 ?_
    refine ri_ald a_X6_fits_31 rfl ?_
    refine ri_getR (t' := 20) (i' := s) a_X6_fits_32 fl_X6_250 kC_19_0 rfl (iC_19 (by assumption)) (Or.inl ⟨rfl, rfl, rfl⟩) ?_
    refine ri_ild a_X6_fits_35 rfl ?_
    refine ri_iaload a_X6_fits_36 lC_20 rfl (iC_20 (by assumption)) ?_ ?_
    · exact vp_in_nI (by omega) (by decide)
    refine ri_icmp_ne a_X6_fits_37 (fun zc6 => ?_) (fun zc6 => ?_)
    · refine ri_ic a_X6_fits_44 ?_
      refine ri_ireturn a_X6_fits_45 rfl (by decide) ?_
      have hz : r = 0 := (nI_eq (b := 0) (by omega) (by decide)).1 zc1
      rw [eS, ezy5] at zc6
      subst hz
      exact rB0 zc6
    · refine ri_ic a_X6_fits_40 ?_
      refine ri_goto a_X6_fits_41 ?_
      refine ri_ireturn a_X6_fits_45 rfl (by decide) ?_
      have hz : r = 0 := (nI_eq (b := 0) (by omega) (by decide)).1 zc1
      rw [eS, ezy5] at zc6
      subst hz
      exact rB1 zc6

