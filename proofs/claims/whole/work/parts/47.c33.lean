/-! class: odds -/
abbrev odG (M : Mem) (L : List (List Op)) (O : Nat → Nat) (k : Nat) (seed win : Int32) (i : Nat) : Prop := win ≤ hiS L (vwC M 0) (fun j => (drQ M k L O (seed + nI i)).getD j 0) (drQ M k L O (seed + nI i)).length ∧ wkV L (vwC M 0) (M 6 0) (fun j => (drQ M k L O (seed + nI i)).getD j 0) (drQ M k L O (seed + nI i)).length = -1
def cntA (g : Nat → Prop) [DecidablePred g] : Nat → Nat → Int32 → Int32
  | 0, _, a => a
  | r + 1, t, a => cntA g r (t + 1) (if g t then a + 1 else a)
theorem ok_X6_odds {w : Wd} {d : Nat} (hd : 7 ≤ d) {M : Mem} {k : Nat} {L : List (List Op)} {O : Nat → Nat} (hL : lawC M 0 L) (hk : M 1 0 7 = nI k) (hk8 : k ≤ 8) (hO : rowA (M 7 0) O k) (seed ns win part : Int32) : lr_Ok tC sC w d jX6_odds [vo 0 0, vi seed, vi ns, vi win, vi part] M (fun r M' => frT 23 M M' ∧ r = some (vl (if ((0 ≤ seed ∧ seed ≤ 99999) ∧ 1 ≤ ns ∧ ns ≤ 60) ∧ (0 ≤ win ∧ win ≤ 999) ∧ 0 ≤ part ∧ part ≤ 1 then lowV (cntA (odG M L O k seed win) ns.toNatClampNeg 0 0).toInt64 ns.toInt64 part else -4611686018427387904))) := by
  have loop : ∀ n, n ≤ 60 → ∀ r i z a j8 M1, n = i + r → frT 23 M M1 → lr_W tC sC w d jX6_odds 61 [some (vo 0 0), some (vi seed), some (vi (nI n)), some (vi win), some (vi part), some (vi z), some (vi a), some (vi (nI i)), j8] [] M1 (fun r' M' => frT 23 M M' ∧ r' = some (vl (lowV (cntA (odG M L O k seed win) r i a).toInt64 (nI n).toInt64 part))) := by
    intro n hn r
    induction r with
    | zero =>
      intro i z a j8 M1 hr hf
      have : n = i := hr
      subst this
      refine ri_ild a_X6_odds_61 rfl ?_
      refine ri_ild a_X6_odds_63 rfl ?_
      refine ri_icmp_ge a_X6_odds_64 (fun zc11 => ?_) (fun zc11 => ?_)
      · refine ri_ild a_X6_odds_104 rfl ?_
        refine ri_i2l a_X6_odds_106 ?_
        refine ri_ild a_X6_odds_107 rfl ?_
        refine ri_i2l a_X6_odds_108 ?_
        refine ri_ild a_X6_odds_109 rfl ?_
        refine ri_cSpl (as := [vl a.toInt64, vl ((nI n).toInt64), vi part]) (rest := []) (d' := d - 1) a_X6_odds_111 ms_X6_lowest ml_X6_211 (by omega) (ok_X6_lowest _ _ part) (Nat.le_of_ble_eq_true rfl) rfl (fun zy12 ezy12 => ?_)
        refine ri_lreturn a_X6_odds_114 rfl ?_
        exact ⟨hf, by rw [ezy12]; rfl⟩
      · exact absurd (Int32.le_refl _) zc11
    | succ r ih =>
      intro i z a j8 M1 hr hf
      have hL1 : lawC M1 0 L := lawC_fr (hf 1 (by decide)) (hf 9 (by decide)) (hf 10 (by decide)) hL
      have eV : vwC M1 0 = vwC M 0 := vwC_fr (hf 1 (by decide)) (hf 2 (by decide)) (hf 3 (by decide)) (hf 4 (by decide)) (hf 5 (by decide))
      have hdr := ok_X6_draw (w := w) (d := d - 1) (by omega) hL1 (by rw [hf 1 (by decide)]; exact hk) hk8 (by rw [hf 7 (by decide)]; exact hO) (seed + nI i)
      rw [eV] at hdr
      refine ri_ild a_X6_odds_61 rfl ?_
      refine ri_ild a_X6_odds_63 rfl ?_
      refine ri_icmp_ge a_X6_odds_64 (fun zc11 => ?_) (fun zc11 => ?_)
      · exact absurd zc11 (nI_ge (by omega) (by omega))
      · refine ri_ald a_X6_odds_67 rfl ?_
        refine ri_ild a_X6_odds_68 rfl ?_
        refine ri_ild a_X6_odds_69 rfl ?_
        refine ri_iadd a_X6_odds_71 ?_
        refine ri_cVxi (as := [vi (seed + (nI i))]) (rest := []) (d' := d - 1) a_X6_odds_72 mv_X6_draw ml_X6_240 (rcC_0 iC_0) (by omega) (hdr) (Nat.le_of_ble_eq_true rfl) rfl (fun zy12 zM13 hzy12 => ?_)
        refine ri_istk (ls' := [some (vo 0 0), some (vi seed), some (vi (nI n)), some (vi win), some (vi part), some (vi z), some (vi a), some (vi (nI i)), some (vi zy12)]) a_X6_odds_75 rfl ?_
        obtain ⟨hf2, c, hc8, hlen, hz, hrow⟩ := hzy12
        subst hz
        have hg : frT 23 M zM13 := fun t ht => (hf2 t ht).trans (hf t ht)
        have hsv := ok_X6_serves_r (w := w) (d := d - 1) (c := 0) (by omega) (lawC_fr (hg 1 (by decide)) (hg 9 (by decide)) (hg 10 (by decide)) hL) (by decide) hc8 hrow win
        rw [vwC_fr (hg 1 (by decide)) (hg 2 (by decide)) (hg 3 (by decide)) (hg 4 (by decide)) (hg 5 (by decide)), hg 6 (by decide)] at hsv
        refine ri_ald a_X6_odds_77 rfl ?_
        refine ri_ald a_X6_odds_78 rfl ?_
        refine ri_getR (t' := 1) (i' := 0) a_X6_odds_79 fl_X6_10 kC_0_0 rfl iC_0 (Or.inr ⟨rfl, rfl, rfl⟩) ?_
        refine ri_ald a_X6_odds_82 rfl ?_
        refine ri_getR (t' := 23) (i' := 0) a_X6_odds_83 fl_X6_49 kC_0_9 rfl iC_0 (Or.inr ⟨rfl, rfl, rfl⟩) ?_
        refine ri_ild a_X6_odds_86 rfl ?_
        refine ri_ild a_X6_odds_88 rfl ?_
        refine ri_cVpb (as := [vo 1 0, vo 23 0, vi (nI c), vi win]) (rest := []) (d' := d - 1) a_X6_odds_89 mv_X6_serves ml_X6_158 (rcC_0 iC_0) (by omega) (hsv) (Nat.le_of_ble_eq_true rfl) rfl (fun zc21 => ?_) (fun zc21 => ?_)
        · refine ri_if_eq a_X6_odds_92 (fun q => absurd q (by decide)) (fun _ => ?_)
          refine ri_iinc (c0 := 1) (f := fun zx22 => [some (vo 0 0), some (vi seed), some (vi (nI n)), some (vi win), some (vi part), some (vi z), some (vi zx22), some (vi (nI i)), some (vi (nI c))]) a_X6_odds_95 rfl (by decide) (fun _ => rfl) (fun zx22 ezx22 => ?_)
          refine ri_iinc (c0 := 1) (f := fun zx23 => [some (vo 0 0), some (vi seed), some (vi (nI n)), some (vi win), some (vi part), some (vi z), some (vi zx22), some (vi zx23), some (vi (nI c))]) a_X6_odds_98 rfl (by decide) (fun _ => rfl) (fun zx23 ezx23 => ?_)
          refine ri_goto a_X6_odds_101 ?_
          rw [cntA, if_pos (show odG M L O k seed win i from by unfold odG drQ; rw [hlen]; exact zc21), ezx22, ezx23, nI_1]
          exact ih (i + 1) z (a + 1) _ zM13 (by omega) hg
        · refine ri_if_eq a_X6_odds_92 (fun _ => ?_) (fun q => absurd q (by decide))
          refine ri_iinc (c0 := 1) (f := fun zx24 => [some (vo 0 0), some (vi seed), some (vi (nI n)), some (vi win), some (vi part), some (vi z), some (vi a), some (vi zx24), some (vi (nI c))]) a_X6_odds_98 rfl (by decide) (fun _ => rfl) (fun zx24 ezx24 => ?_)
          refine ri_goto a_X6_odds_101 ?_
          rw [cntA, if_neg (show ¬ odG M L O k seed win i from by unfold odG drQ; rw [hlen]; exact zc21), ezx24, nI_1]
          exact ih (i + 1) z a _ zM13 (by omega) hg
  refine lr_ok (by decide +kernel) rfl ?_
  refine ri_ild a_X6_odds_0 rfl ?_
  refine ri_ic a_X6_odds_1 ?_
  refine ri_cSpb (as := [vi seed, vi 99999]) (rest := []) (d' := d - 1) a_X6_odds_3 ms_X6_within ml_X6_102 (by omega) (ok_X6_within seed 99999) (Nat.le_of_ble_eq_true rfl) rfl (fun zc1 => ?_) (fun zc1 => ?_)
  · refine ri_if_eq a_X6_odds_6 (fun q => absurd q (by decide)) (fun _ => ?_)
    refine ri_ild a_X6_odds_9 rfl ?_
    refine ri_ic a_X6_odds_10 ?_
    refine ri_icmp_lt a_X6_odds_11 (fun zc2 => ?_) (fun zc2 => ?_)
    · refine ri_ic a_X6_odds_24 ?_
      refine ri_istk (ls' := [some (vo 0 0), some (vi seed), some (vi ns), some (vi win), some (vi part), some (vi 0), none, none, none]) a_X6_odds_25 rfl ?_
      refine ri_ild a_X6_odds_27 rfl ?_
      refine ri_if_eq a_X6_odds_29 (fun _ => ?_) (fun q => absurd q (by decide))
      refine ri_lc a_X6_odds_51 ?_
      refine ri_lreturn a_X6_odds_54 rfl ?_
      exact ⟨frT_refl, by rw [if_neg (fun q => Int32.not_le.mpr zc2 q.1.2.1)]⟩
    · refine ri_ild a_X6_odds_14 rfl ?_
      refine ri_ic a_X6_odds_15 ?_
      refine ri_icmp_gt a_X6_odds_17 (fun zc3 => ?_) (fun zc3 => ?_)
      · refine ri_ic a_X6_odds_24 ?_
        refine ri_istk (ls' := [some (vo 0 0), some (vi seed), some (vi ns), some (vi win), some (vi part), some (vi 0), none, none, none]) a_X6_odds_25 rfl ?_
        refine ri_ild a_X6_odds_27 rfl ?_
        refine ri_if_eq a_X6_odds_29 (fun _ => ?_) (fun q => absurd q (by decide))
        refine ri_lc a_X6_odds_51 ?_
        refine ri_lreturn a_X6_odds_54 rfl ?_
        exact ⟨frT_refl, by rw [if_neg (fun q => Int32.not_le.mpr zc3 q.1.2.2)]⟩
      · refine ri_ic a_X6_odds_20 ?_
        refine ri_goto a_X6_odds_21 ?_
        refine ri_istk (ls' := [some (vo 0 0), some (vi seed), some (vi ns), some (vi win), some (vi part), some (vi 1), none, none, none]) a_X6_odds_25 rfl ?_
        refine ri_ild a_X6_odds_27 rfl ?_
        refine ri_if_eq a_X6_odds_29 (fun q => absurd q (by decide)) (fun _ => ?_)
        refine ri_ild a_X6_odds_32 rfl ?_
        refine ri_ic a_X6_odds_33 ?_
        refine ri_cSpb (as := [vi win, vi 999]) (rest := []) (d' := d - 1) a_X6_odds_36 ms_X6_within ml_X6_102 (by omega) (ok_X6_within win 999) (Nat.le_of_ble_eq_true rfl) rfl (fun zc4 => ?_) (fun zc4 => ?_)
        · refine ri_if_eq a_X6_odds_39 (fun q => absurd q (by decide)) (fun _ => ?_)
          refine ri_ild a_X6_odds_42 rfl ?_
          refine ri_ic a_X6_odds_44 ?_
          refine ri_cSpb (as := [vi part, vi 1]) (rest := []) (d' := d - 1) a_X6_odds_45 ms_X6_within ml_X6_102 (by omega) (ok_X6_within part 1) (Nat.le_of_ble_eq_true rfl) rfl (fun zc5 => ?_) (fun zc5 => ?_)
          · refine ri_if_ne a_X6_odds_48 (fun _ => ?_) (fun q => absurd q (by decide))
            refine ri_ic a_X6_odds_55 ?_
            refine ri_istk (ls' := [some (vo 0 0), some (vi seed), some (vi ns), some (vi win), some (vi part), some (vi 1), some (vi 0), none, none]) a_X6_odds_56 rfl ?_
            refine ri_ic a_X6_odds_58 ?_
            refine ri_istk (ls' := [some (vo 0 0), some (vi seed), some (vi ns), some (vi win), some (vi part), some (vi 1), some (vi 0), some (vi 0), none]) a_X6_odds_59 rfl ?_
            have h1 : 1 ≤ ns := Int32.not_lt.mp zc2
            have h2 : ns ≤ 60 := Int32.not_lt.mp zc3
            obtain ⟨n, hn, rfl⟩ := nI_of2 (n := 60) (M := 60) (by decide) (Int32.not_lt.mpr (Int32.le_trans (by decide) h1)) h2
            rw [if_pos ⟨⟨zc1, h1, h2⟩, zc4, zc5⟩, nI_clamp (by omega)]
            exact loop n hn n 0 1 0 none M (by omega) frT_refl
          · refine ri_if_ne a_X6_odds_48 (fun q => absurd q (by decide)) (fun _ => ?_)
            refine ri_lc a_X6_odds_51 ?_
            refine ri_lreturn a_X6_odds_54 rfl ?_
            exact ⟨frT_refl, by rw [if_neg (fun q => zc5 q.2.2)]⟩
        · refine ri_if_eq a_X6_odds_39 (fun _ => ?_) (fun q => absurd q (by decide))
          refine ri_lc a_X6_odds_51 ?_
          refine ri_lreturn a_X6_odds_54 rfl ?_
          exact ⟨frT_refl, by rw [if_neg (fun q => zc4 q.2.1)]⟩
  · refine ri_if_eq a_X6_odds_6 (fun _ => ?_) (fun q => absurd q (by decide))
    refine ri_ic a_X6_odds_24 ?_
    refine ri_istk (ls' := [some (vo 0 0), some (vi seed), some (vi ns), some (vi win), some (vi part), some (vi 0), none, none, none]) a_X6_odds_25 rfl ?_
    refine ri_ild a_X6_odds_27 rfl ?_
    refine ri_if_eq a_X6_odds_29 (fun _ => ?_) (fun q => absurd q (by decide))
    refine ri_lc a_X6_odds_51 ?_
    refine ri_lreturn a_X6_odds_54 rfl ?_
    exact ⟨frT_refl, by rw [if_neg (fun q => zc1 q.1.1)]⟩

