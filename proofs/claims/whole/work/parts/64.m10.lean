/-! reference: fractions, come, reach, chain -/
/-- a fraction in lowest terms, above or below its line -/
def loV (a b : Nat) (part : Int32) : Int64 := if a = 0 then part.toInt64 else if part = 0 then lN (a / Nat.gcd a b) else lN (b / Nat.gcd a b)
theorem ok_X7_lowest {T : Tb} {S : Nat → Bool} {w : Wd} {d : Nat} {M : Mem} {a b : Nat} (ha : a < 2 ^ 63) (h0 : 0 < b) (hb : b < 2 ^ 63) (part : Int32) : lr_Ok T S w d jX7_lowest [vl (lN a), vl (lN b), vi part] M (qL (loV a b part) M) := by
  have z0 : (0 : Int64) = lN 0 := rfl
  have loop : ∀ m x y (j9 : Option AV), y ≤ m → x < 2 ^ 63 → y < 2 ^ 63 → 0 < x ∨ 0 < y → Nat.gcd x y = Nat.gcd a b → 0 < a → lr_W T S w d jX7_lowest 16 [some (vl (lN a)), none, some (vl (lN b)), none, some (vi part), some (vl (lN x)), none, some (vl (lN y)), none, j9, none] [] M (qL (loV a b part) M) := by
    intro m
    induction m with
    | zero =>
      intro x y j9 hm hx hy hpos hg ha0
      have : y = 0 := Nat.le_zero.mp hm
      subst this
      have hxg : x = Nat.gcd a b := by rw [← hg, Nat.gcd_zero_right]
      have hx0 : 0 < x := by omega
      have hne : ¬ lN x = 0 := by rw [z0, pk_lEQ hx (by decide)]; omega
      refine ri_lld a_X7_lowest_16 rfl ?_
      refine ri_lc a_X7_lowest_18 ?_
      refine ri_lcmp a_X7_lowest_19 ?_
      refine ri_if_eq a_X7_lowest_20 (fun zc11 => ?_) (fun zc11 => ?_)
      · refine ri_ild a_X7_lowest_41 rfl ?_
        refine ri_if_ne a_X7_lowest_43 (fun zc12 => ?_) (fun zc12 => ?_)
        · refine ri_lld a_X7_lowest_50 rfl ?_
          refine ri_lld a_X7_lowest_51 rfl ?_
          refine ri_ldiv a_X7_lowest_53 hne ?_
          refine ri_lreturn a_X7_lowest_54 rfl ?_
          refine rL ?_ rfl
          unfold loV
          rw [if_neg (by omega), ← hxg]
          first
          | (rw [if_pos (by assumption), pk_lDiv (by omega) hx0 hx]; done)
          | (rw [if_neg (by assumption), pk_lDiv (by omega) hx0 hx]; done)
        · refine ri_lld a_X7_lowest_46 rfl ?_
          refine ri_goto a_X7_lowest_47 ?_
          refine ri_lld a_X7_lowest_51 rfl ?_
          refine ri_ldiv a_X7_lowest_53 hne ?_
          refine ri_lreturn a_X7_lowest_54 rfl ?_
          refine rL ?_ rfl
          unfold loV
          rw [if_neg (by omega), ← hxg]
          first
          | (rw [if_pos (by assumption), pk_lDiv (by omega) hx0 hx]; done)
          | (rw [if_neg (by assumption), pk_lDiv (by omega) hx0 hx]; done)
      · exact absurd ((lg_cmp_eq _ _).2 rfl) zc11
    | succ m ih =>
      intro x y j9 hm hx hy hpos hg ha0
      by_cases hy0 : y = 0
      · subst hy0
        exact ih x 0 j9 (by omega) hx hy hpos hg ha0
      · have hyp : 0 < y := by omega
        have hne : ¬ lN y = 0 := by rw [z0, pk_lEQ hy (by decide)]; omega
        refine ri_lld a_X7_lowest_16 rfl ?_
        refine ri_lc a_X7_lowest_18 ?_
        refine ri_lcmp a_X7_lowest_19 ?_
        refine ri_if_eq a_X7_lowest_20 (fun zc11 => ?_) (fun zc11 => ?_)
        · exact absurd ((lg_cmp_eq _ _).1 zc11) hne
        · refine ri_lld a_X7_lowest_23 rfl ?_
          refine ri_lld a_X7_lowest_25 rfl ?_
          refine ri_lrem a_X7_lowest_27 hne ?_
          refine ri_lst (f := fun zx12 => [some (vl (lN a)), none, some (vl (lN b)), none, some (vi part), some (vl (lN x)), none, some (vl (lN y)), none, some (vl zx12), none]) a_X7_lowest_28 (fun _ => rfl) (fun zx12 ezx12 => ?_)
          refine ri_lld a_X7_lowest_30 rfl ?_
          refine ri_lst (f := fun zx13 => [some (vl (lN a)), none, some (vl (lN b)), none, some (vi part), some (vl zx13), none, some (vl (lN y)), none, some (vl zx12), none]) a_X7_lowest_32 (fun _ => rfl) (fun zx13 ezx13 => ?_)
          refine ri_lld a_X7_lowest_34 rfl ?_
          refine ri_lstk (ls' := [some (vl (lN a)), none, some (vl (lN b)), none, some (vi part), some (vl zx13), none, some (vl zx12), none, some (vl zx12), none]) a_X7_lowest_36 rfl ?_
          refine ri_goto a_X7_lowest_38 ?_
          rw [pk_lRem hx hyp hy] at *
          subst_vars
          refine ih y (x % y) _ (by have := Nat.mod_lt x hyp; omega) hy (by have := Nat.mod_lt x hyp; omega) (Or.inl hyp) ?_ ha0
          rw [← hg, Nat.gcd_comm x y, Nat.gcd_rec y x, Nat.gcd_comm]
  refine lr_ok (by decide +kernel) rfl ?_
  refine ri_lld a_X7_lowest_0 rfl ?_
  refine ri_lc a_X7_lowest_1 ?_
  refine ri_lcmp a_X7_lowest_2 ?_
  refine ri_if_ne a_X7_lowest_3 (fun zc11 => ?_) (fun zc11 => ?_)
  · refine ri_lld a_X7_lowest_10 rfl ?_
    refine ri_lst (f := fun zx12 => [some (vl (lN a)), none, some (vl (lN b)), none, some (vi part), some (vl zx12), none, none, none, none, none]) a_X7_lowest_11 (fun _ => rfl) (fun zx12 ezx12 => ?_)
    refine ri_lld a_X7_lowest_13 rfl ?_
    refine ri_lst (f := fun zx13 => [some (vl (lN a)), none, some (vl (lN b)), none, some (vi part), some (vl zx12), none, some (vl zx13), none, none, none]) a_X7_lowest_14 (fun _ => rfl) (fun zx13 ezx13 => ?_)
    have e : ¬ lN a = 0 := fun q => zc11 ((lg_cmp_eq _ _).2 q)
    rw [z0, pk_lEQ ha (by decide)] at e
    subst_vars
    exact loop b a b none (Nat.le_refl _) ha hb (Or.inr h0) rfl (by omega)
  · refine ri_ild a_X7_lowest_6 rfl ?_
    refine ri_i2l a_X7_lowest_8 ?_
    refine ri_lreturn a_X7_lowest_9 rfl ?_
    have e : lN a = 0 := (lg_cmp_eq _ _).1 zc11
    rw [z0, pk_lEQ ha (by decide)] at e
    exact rL (by unfold loV; rw [if_pos e]) rfl
/-- what comes tells of each, multiplied -/
def coN (L : List (List Op)) (V : Vw) (O : Nat → Nat) : Nat → Nat
  | 0 => 1
  | i + 1 => coN L V O i * (sayV L V 2 (O i) (nI i)).toNatClampNeg
theorem sayV_100 (L : List (List Op)) (V : Vw) (q : Nat) (r : Int32) : ∃ z, z ≤ 100 ∧ sayV L V 2 q r = nI z := by
  have h0 : 0 ≤ sayV L V 2 q r := clp_nn _ _
  have h1 : sayV L V 2 q r ≤ 100 := by
    unfold sayV
    rw [← clp_eq (mxV_pos 2)]
    show (if 0 ≤ _ then (if _ ≤ (100 : Int32) then _ else (100 : Int32)) else (0 : Int32)) ≤ 100
    split
    · split
      · assumption
      · exact Int32.le_refl _
    · decide
  obtain ⟨z, hz, e⟩ := nI_of2 (n := 100) (M := 100) (by decide) (Int32.not_lt.mpr h0) h1
  exact ⟨z, hz, e⟩
theorem coN_le (L : List (List Op)) (V : Vw) (O : Nat → Nat) : ∀ i, coN L V O i ≤ 100 ^ i := by
  intro i
  induction i with
  | zero => exact Nat.le_refl _
  | succ i ih =>
    rw [coN, Nat.pow_succ]
    refine Nat.mul_le_mul ih ?_
    obtain ⟨z, hz, e⟩ := sayV_100 L V (O i) (nI i)
    rw [e, nI_clamp (by omega)]
    exact hz
theorem p100 : ∀ i, i ≤ 8 → 100 ^ i < 2 ^ 63 ∧ 0 < 100 ^ i := by decide
theorem ok_X7_come {w : Wd} {d : Nat} (hd : 3 ≤ d) {N : Mem} {n k : Nat} {L : List (List Op)} {O : Nat → Nat} (hL : lawN N L) (hn8 : n ≤ 8) (hO : orN N O k n) (a part : Int32) : lr_Ok tM sM w d jX7_come [vo 0 0, vi a, vi part] N (qL (if (0 ≤ a ∧ a ≤ nI k) ∧ 0 ≤ part ∧ part ≤ 1 then loV (coN L (vwM N) O a.toNatClampNeg) (100 ^ a.toNatClampNeg) part else -4611686018427387904) N) := by
  obtain ⟨h6, hk8, hOr⟩ := hO
  have loop : ∀ m, m ≤ k → ∀ r i, m = i + r → lr_W tM sM w d jX7_come 33 [some (vo 0 0), some (vi (nI m)), some (vi part), some (vl (lN (coN L (vwM N) O i))), none, some (vl (lN (100 ^ i))), none, some (vi (nI i))] [] N (qL (loV (coN L (vwM N) O m) (100 ^ m) part) N) := by
    intro m hmk r
    induction r with
    | zero =>
      intro i hi
      have : m = i := hi
      subst this
      obtain ⟨p1, p2⟩ := p100 m (by omega)
      have hc := coN_le L (vwM N) O m
      refine ri_ild a_X7_come_33 rfl ?_
      refine ri_ild a_X7_come_35 rfl ?_
      refine ri_icmp_ge a_X7_come_36 (fun zc11 => ?_) (fun zc11 => ?_)
      · refine ri_lld a_X7_come_71 rfl ?_
        refine ri_lld a_X7_come_72 rfl ?_
        refine ri_ild a_X7_come_74 rfl ?_
        refine ri_cSpl (as := [vl (lN (coN L (vwM N) O m)), vl (lN (100 ^ m)), vi part]) (rest := []) (d' := d - 1) a_X7_come_75 ms_X7_lowest ml_X7_245 (by omega) (ok_X7_lowest (by omega) p2 p1 part) (Nat.le_of_ble_eq_true rfl) rfl (fun zy12 ezy12 => ?_)
        refine ri_lreturn a_X7_come_78 rfl ?_
        exact rL ezy12 rfl
      · exact absurd (Int32.le_refl _) zc11
    | succ r ih =>
      intro i hi
      obtain ⟨ho, hon⟩ := hOr i (by omega)
      have ei : N 5 0 (nI i).toNatClampNeg = nI (O i) := by rw [nI_clamp (by omega)]; exact ho
      obtain ⟨z, hz, ez⟩ := sayV_100 L (vwM N) (O i) (nI i)
      have has := ok_X7_asksOf (w := w) (d := d - 1) (N := N) (pt := 2) (q := O i) (by omega) hL (by omega) (by decide) (nI i)
      rw [← ei] at has
      refine ri_ild a_X7_come_33 rfl ?_
      refine ri_ild a_X7_come_35 rfl ?_
      refine ri_icmp_ge a_X7_come_36 (fun zc11 => ?_) (fun zc11 => ?_)
      · exact absurd zc11 (nI_ge (by omega) (by omega))
      · refine ri_lld a_X7_come_39 rfl ?_
        refine ri_ald a_X7_come_40 rfl ?_
        refine ri_ic a_X7_come_41 ?_
        refine ri_ald a_X7_come_42 rfl ?_
        refine ri_getR (t' := 5) (i' := 0) a_X7_come_43 fl_X7_22 kM_0_5 rfl iM_0 (Or.inr ⟨rfl, rfl, rfl⟩) ?_
        refine ri_ild a_X7_come_46 rfl ?_
        refine ri_iaload a_X7_come_48 lM_5 rfl iM_5 (vp_in_nI (by omega) (by decide)) ?_
        refine ri_ild a_X7_come_49 rfl ?_
        refine ri_cVpi (as := [vi 2, vi (N 5 0 (nI i).toNatClampNeg), vi (nI i)]) (rest := [vl (lN (coN L (vwM N) O i))]) (d' := d - 1) a_X7_come_51 mv_X7_asksOf ml_X7_185 (rcM_0 iM_0) (by omega) (has) (Nat.le_of_ble_eq_true rfl) rfl (fun zy12 ezy12 => ?_)
        refine ri_i2l a_X7_come_54 ?_
        refine ri_lmul a_X7_come_55 ?_
        refine ri_lst (f := fun zx13 => [some (vo 0 0), some (vi (nI m)), some (vi part), some (vl zx13), none, some (vl (lN (100 ^ i))), none, some (vi (nI i))]) a_X7_come_56 (fun _ => rfl) (fun zx13 ezx13 => ?_)
        refine ri_lld a_X7_come_57 rfl ?_
        refine ri_lc a_X7_come_59 ?_
        refine ri_lmul a_X7_come_62 ?_
        refine ri_lst (f := fun zx14 => [some (vo 0 0), some (vi (nI m)), some (vi part), some (vl zx13), none, some (vl zx14), none, some (vi (nI i))]) a_X7_come_63 (fun _ => rfl) (fun zx14 ezx14 => ?_)
        refine ri_iinc (c0 := 1) (f := fun zx15 => [some (vo 0 0), some (vi (nI m)), some (vi part), some (vl zx13), none, some (vl zx14), none, some (vi zx15)]) a_X7_come_65 rfl (by decide) (fun _ => rfl) (fun zx15 ezx15 => ?_)
        refine ri_goto a_X7_come_68 ?_
        have := ih (i + 1) (by omega)
        rw [coN, Nat.pow_succ, ez, nI_clamp (by omega), ← lN_mul, ← lN_mul] at this
        rw [ezx13, ezx14, ezx15, ezy12, ez, nI_l (by omega), nI_1]
        exact this
  refine lr_ok (by decide +kernel) rfl ?_
  refine ri_ild a_X7_come_0 rfl ?_
  refine ri_ic a_X7_come_1 ?_
  refine ri_ald a_X7_come_2 rfl ?_
  refine ri_getI a_X7_come_3 fl_X7_100 kM_0_6 rfl iM_0 ?_
  refine ri_cSpb (as := [vi a, vi 0, vi (N 0 0 6)]) (rest := []) (d' := d - 1) a_X7_come_6 ms_X7_in ml_X7_96 (by omega) (ok_X7_in a 0 (N 0 0 6)) (Nat.le_of_ble_eq_true rfl) rfl (fun zc1 => ?_) (fun zc1 => ?_)
  · refine ri_if_eq a_X7_come_9 (fun q => absurd q (by decide)) (fun _ => ?_)
    refine ri_ild a_X7_come_12 rfl ?_
    refine ri_ic a_X7_come_13 ?_
    refine ri_ic a_X7_come_14 ?_
    refine ri_cSpb (as := [vi part, vi 0, vi 1]) (rest := []) (d' := d - 1) a_X7_come_15 ms_X7_in ml_X7_96 (by omega) (ok_X7_in part 0 1) (Nat.le_of_ble_eq_true rfl) rfl (fun zc2 => ?_) (fun zc2 => ?_)
    · refine ri_if_ne a_X7_come_18 (fun _ => ?_) (fun q => absurd q (by decide))
      refine ri_lc a_X7_come_25 ?_
      refine ri_lstk (ls' := [some (vo 0 0), some (vi a), some (vi part), some (vl 1), none, none, none, none]) a_X7_come_26 rfl ?_
      refine ri_lc a_X7_come_27 ?_
      refine ri_lstk (ls' := [some (vo 0 0), some (vi a), some (vi part), some (vl 1), none, some (vl 1), none, none]) a_X7_come_28 rfl ?_
      refine ri_ic a_X7_come_30 ?_
      refine ri_istk (ls' := [some (vo 0 0), some (vi a), some (vi part), some (vl 1), none, some (vl 1), none, some (vi 0)]) a_X7_come_31 rfl ?_
      rw [h6] at zc1
      rw [if_pos ⟨zc1, zc2⟩]
      obtain ⟨m, hm2, rfl⟩ := nI_of (Int32.not_lt.mpr zc1.1)
      have hmk : m ≤ k := (nI_leI hm2 (by omega)).1 zc1.2
      rw [nI_clamp (by omega)]
      exact loop m hmk m 0 (by omega)
    · refine ri_if_ne a_X7_come_18 (fun q => absurd q (by decide)) (fun _ => ?_)
      refine ri_lc a_X7_come_21 ?_
      refine ri_lreturn a_X7_come_24 rfl ?_
      exact rL (by rw [if_neg (fun q => zc2 q.2)]) rfl
  · refine ri_if_eq a_X7_come_9 (fun _ => ?_) (fun q => absurd q (by decide))
    refine ri_lc a_X7_come_21 ?_
    refine ri_lreturn a_X7_come_24 rfl ?_
    rw [h6] at zc1
    exact rL (by rw [if_neg (fun q => zc1 q.1)]) rfl

