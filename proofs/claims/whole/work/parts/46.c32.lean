/-! class: laws -/
def bitA (g : Nat → Prop) [DecidablePred g] : Nat → Nat → Int32 → Int32
  | 0, _, a => a
  | r + 1, t, a => bitA g r (t + 1) (if g t then a ||| (1 <<< (nI t &&& 31)) else a)
abbrev laG (M : Mem) (LL : Nat → List (List Op)) (O : Nat → Nat) (q mk : Nat) (t : Nat) : Prop := foF (LL t) (vwC M 0) O (M 20 q) mk 0 0 = -1
/-- the trial's crew is the true one but for its law -/
def tr3 (M M1 : Mem) : Prop := frC M M1 ∧ (∀ k, k < 8 → M1 7 2 k = M 7 0 k) ∧ M1 1 2 7 = M 1 0 7 ∧ veq (vwC M1 2) (vwC M 0)
theorem ok_X6_laws {w : Wd} {d : Nat} (hd : 5 ≤ d) {M : Mem} {q m k tc : Nat} {LL : Nat → List (List Op)} {O : Nat → Nat} (htc : M 0 0 6 = nI tc) (htc6 : tc ≤ 6) (hLL : ∀ t, t < tc → tx M t (LL t)) (hq : q < 4) (hm : M 19 q 2 = nI m) (hm40 : m ≤ 40) (hk : M 1 0 7 = nI k) (hk8 : k ≤ 8) (hO : rowA (M 7 0) O k) : lr_Ok tC sC w d jX6_laws [vo 0 0, vi (nI q)] M (qX fun r M' => frC M M' ∧ r = if M 19 q 1 = -1 then -11 else if M 19 q 2 ≤ M 1 0 7 then bitA (laG M LL O q (min m k)) tc 0 0 else -2) := by
  have loop : ∀ r t z a M1, tc = t + r → tr3 M M1 → lr_W tC sC w d jX6_laws 28 [some (vo 0 0), some (vi (nI q)), some (vi z), some (vi a), some (vi (nI t))] [] M1 (qX fun r' M' => frC M M' ∧ r' = bitA (laG M LL O q (min m k)) r t a) := by
    intro r
    induction r with
    | zero =>
      intro t z a M1 hr ht
      have : tc = t := hr
      subst this
      have e6 : M1 0 0 6 = nI tc := by rw [ht.1 0 0 6 (by omega), htc]
      refine ri_ild a_X6_laws_28 rfl ?_
      refine ri_ald a_X6_laws_30 rfl ?_
      refine ri_getI a_X6_laws_31 fl_X6_32 kC_0_6 rfl iC_0 ?_
      refine ri_icmp_ge a_X6_laws_34 (fun zc11 => ?_) (fun zc11 => ?_)
      · refine ri_ild a_X6_laws_77 rfl ?_
        refine ri_ireturn a_X6_laws_78 rfl rfl ?_
        exact rX ⟨ht.1, rfl⟩
      · exact absurd (by rw [e6]; exact Int32.le_refl _) zc11
    | succ r ih =>
      intro t z a M1 hr ht
      have e6 : M1 0 0 6 = nI tc := by rw [ht.1 0 0 6 (by omega), htc]
      refine ri_ild a_X6_laws_28 rfl ?_
      refine ri_ald a_X6_laws_30 rfl ?_
      refine ri_getI a_X6_laws_31 fl_X6_32 kC_0_6 rfl iC_0 ?_
      refine ri_icmp_ge a_X6_laws_34 (fun zc11 => ?_) (fun zc11 => ?_)
      · refine ri_ild a_X6_laws_77 rfl ?_
        refine ri_ireturn a_X6_laws_78 rfl rfl ?_
        exact absurd zc11 (by rw [e6]; exact nI_ge (by omega) (by omega))
      · refine ri_ald a_X6_laws_37 rfl ?_
        refine ri_getR (t' := 1) (i' := 2) a_X6_laws_38 fl_X6_19 kC_0_2 rfl iC_0 (Or.inr ⟨rfl, rfl, rfl⟩) ?_
        refine ri_ild a_X6_laws_41 rfl ?_
        refine ri_putI a_X6_laws_43 fp_X6_96 kC_1_9 rfl (iC_1 (by decide)) (fun zM12 ezM12 => ?_)
        have ht2 : tr3 M zM12 := by
          obtain ⟨a1, a2, a3, a4⟩ := ht
          rw [ezM12]
          exact ⟨frC_tr a1 (frC_up (by decide)), a2, a3, a4⟩
        have ek : zM12 1 2 7 = nI k := by rw [ht2.2.2.1, hk]
        have e20 : zM12 20 q = M 20 q := funext fun i => ht2.1 20 q i (by omega)
        have e19 : zM12 19 q 2 = nI m := by rw [ht2.1 19 q 2 (by omega), hm]
        have eL : lawC zM12 2 (LL t) := by
          refine ⟨t, by omega, by rw [ezM12, up_same], ?_⟩
          have hx := hLL t (by omega)
          unfold tx txS at hx ⊢
          rw [show zM12 9 = M 9 from funext fun i => funext fun k => ht2.1 9 i k (by omega), show zM12 10 = M 10 from funext fun i => funext fun k => ht2.1 10 i k (by omega)]
          exact hx
        have hh := ok_X6_firstOtherwise (w := w) (d := d - 1) (c := 2) (by omega) eL (by decide) hq e19 hm40 ek hk8 (fun i hi => by rw [ht2.2.1 i (by omega)]; exact hO i hi)
        rw [foF_eq ht2.2.2.2 _ _ _ (fun i hi => (hO i (by omega)).2), e20] at hh
        refine ri_ald a_X6_laws_46 rfl ?_
        refine ri_ald a_X6_laws_47 rfl ?_
        refine ri_getR (t' := 1) (i' := 2) a_X6_laws_48 fl_X6_19 kC_0_2 rfl iC_0 (Or.inr ⟨rfl, rfl, rfl⟩) ?_
        refine ri_ald a_X6_laws_51 rfl ?_
        refine ri_getR (t' := 22) (i' := 0) a_X6_laws_52 fl_X6_38 kC_0_7 rfl iC_0 (Or.inr ⟨rfl, rfl, rfl⟩) ?_
        refine ri_ild a_X6_laws_55 rfl ?_
        refine ri_aaloadE (k0 := q) a_X6_laws_56 lC_22 (by decide) iC_22 (nI_clamp (by omega)) (vp_in_nI hq (by decide)) ?_
        refine ri_cVpi (as := [vo 1 2, vo 19 q]) (rest := []) (d' := d - 1) a_X6_laws_57 mv_X6_firstOtherwise ml_X6_218 (rcC_0 iC_0) (by omega) (hh) (Nat.le_of_ble_eq_true rfl) rfl (fun zy21 ezy21 => ?_)
        refine ri_ic a_X6_laws_60 ?_
        refine ri_icmp_ne a_X6_laws_61 (fun zc22 => ?_) (fun zc22 => ?_)
        · refine ri_iinc (c0 := 1) (f := fun zx23 => [some (vo 0 0), some (vi (nI q)), some (vi z), some (vi a), some (vi zx23)]) a_X6_laws_71 rfl (by decide) (fun _ => rfl) (fun zx23 ezx23 => ?_)
          refine ri_goto a_X6_laws_74 ?_
          have hg : ¬ laG M LL O q (min m k) t := fun q => zc22 (by rw [ezy21]; exact q)
          rw [bitA, if_neg hg, ezx23, nI_1]
          exact ih (t + 1) _ _ zM12 (by omega) ht2
        · refine ri_ild a_X6_laws_64 rfl ?_
          refine ri_ic a_X6_laws_65 ?_
          refine ri_ild a_X6_laws_66 rfl ?_
          refine ri_ishl a_X6_laws_68 ?_
          refine ri_ior a_X6_laws_69 ?_
          refine ri_ist (f := fun zx24 => [some (vo 0 0), some (vi (nI q)), some (vi z), some (vi zx24), some (vi (nI t))]) a_X6_laws_70 (fun _ => rfl) (fun zx24 ezx24 => ?_)
          refine ri_iinc (c0 := 1) (f := fun zx25 => [some (vo 0 0), some (vi (nI q)), some (vi z), some (vi zx24), some (vi zx25)]) a_X6_laws_71 rfl (by decide) (fun _ => rfl) (fun zx25 ezx25 => ?_)
          refine ri_goto a_X6_laws_74 ?_
          have hg : laG M LL O q (min m k) t := ezy21.symm.trans zc22
          rw [bitA, if_pos hg, ezx25, ezx24, nI_1]
          exact ih (t + 1) _ _ zM12 (by omega) ht2
  refine lr_ok (by decide +kernel) rfl ?_
  refine ri_ald a_X6_laws_0 rfl ?_
  refine ri_ild a_X6_laws_1 rfl ?_
  refine ri_cVpi (as := [vi (nI q)]) (rest := []) (d' := d - 1) a_X6_laws_2 mv_X6_nightRefusal ml_X6_215 (rcC_0 iC_0) (by omega) (ok_X6_nightRefusal (by omega) hq) (Nat.le_of_ble_eq_true rfl) rfl (fun zy1 ezy1 => ?_)
  refine ri_istk (ls' := [some (vo 0 0), some (vi (nI q)), some (vi zy1), none, none]) a_X6_laws_5 rfl ?_
  refine ri_ild a_X6_laws_6 rfl ?_
  refine ri_if_eq a_X6_laws_7 (fun zc2 => ?_) (fun zc2 => ?_)
  · refine ri_ald a_X6_laws_12 rfl ?_
    refine ri_getR (t' := 1) (i' := 2) a_X6_laws_13 fl_X6_19 kC_0_2 rfl iC_0 (Or.inr ⟨rfl, rfl, rfl⟩) ?_
    refine ri_ald a_X6_laws_16 rfl ?_
    refine ri_getR (t' := 1) (i' := 0) a_X6_laws_17 fl_X6_10 kC_0_0 rfl iC_0 (Or.inr ⟨rfl, rfl, rfl⟩) ?_
    refine ri_cVxv (as := [vo 1 0]) (rest := []) (d' := d - 1) a_X6_laws_20 mv_X0_becomeLike ml_X6_198 (rcC_1 (iC_1 (by decide))) (by omega) (ok_X0_becomeLike (by omega) (by decide) (by decide)) (Nat.le_of_ble_eq_true rfl) rfl (fun zM3 hzM3 => ?_)
    refine ri_ic a_X6_laws_23 ?_
    refine ri_istk (ls' := [some (vo 0 0), some (vi (nI q)), some (vi zy1), some (vi 0), none]) a_X6_laws_24 rfl ?_
    refine ri_ic a_X6_laws_25 ?_
    refine ri_istk (ls' := [some (vo 0 0), some (vi (nI q)), some (vi zy1), some (vi 0), some (vi 0)]) a_X6_laws_26 rfl ?_
    have h := nr0 (ezy1.symm.trans zc2)
    refine lr_Wimp (loop tc 0 zy1 0 zM3 (by omega) (hzM3 ▸ ⟨tr2_blk.1, tr2_blk.2.1, tr2_blk.2.2.1, tr2_blk.2.2.2.2⟩)) ?_
    rintro r' M' ⟨y, h1, h2, h3⟩
    exact ⟨y, h1, h2, by rw [if_neg h.1, if_pos h.2]; exact h3⟩
  · refine ri_ild a_X6_laws_10 rfl ?_
    refine ri_ireturn a_X6_laws_11 rfl rfl ?_
    rw [ezy1] at zc2 ⊢
    exact rX ⟨fun _ _ _ _ => rfl, nr1 zc2⟩

