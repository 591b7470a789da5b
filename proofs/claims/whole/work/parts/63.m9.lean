/-! reference: next, rusts, fractions, come, reach, chain -/
def nxU (L : List (List Op)) (V : Vw) (F : Nat → Int32) (O : Nat → Nat) (k : Nat) (fd : Nat → Int32) (p : Nat) (s : Int32 × Int32) : Int32 × Int32 :=
  if fd p = -1 then (if s.2 < (if wkV L V F (tpO O k p) (k + 1) = -1 then hiS L V (tpO O k p) (k + 1) else -1) then (nI p, if wkV L V F (tpO O k p) (k + 1) = -1 then hiS L V (tpO O k p) (k + 1) else -1) else s) else s
theorem ok_X7_next {w : Wd} {d : Nat} (hd : 5 ≤ d) {N : Mem} {n k : Nat} {L : List (List Op)} {O : Nat → Nat} (hL : lawN N L) (hn : N 0 0 0 = nI n) (hn8 : n ≤ 8) (hO : orN N O k n) (hk7 : ∀ p, p < n → fnd (N 5 0) (nI p) k 0 = -1 → k < 8) (x : Int32) : lr_Ok tM sM w d jX7_next [vo 0 0, vi x] N (qX fun r N' => frN N N' ∧ r = if 0 ≤ x ∧ x ≤ 1 then (if x = 0 then (lp (nxU L (vwM N) (N 4 0) O k (fun p => fnd (N 5 0) (nI p) k 0)) n 0 (-1, -1)).1 else if (lp (nxU L (vwM N) (N 4 0) O k (fun p => fnd (N 5 0) (nI p) k 0)) n 0 (-1, -1)).1 = -1 then hiS L (vwM N) O k else (lp (nxU L (vwM N) (N 4 0) O k (fun p => fnd (N 5 0) (nI p) k 0)) n 0 (-1, -1)).2) else -2) := by
  have hk8 := hO.2.1
  generalize hT : nxU L (vwM N) (N 4 0) O k (fun p => fnd (N 5 0) (nI p) k 0) = T
  have loop : ∀ r p s j5 N1, n = p + r → frN N N1 → tbM L (vwM N) n N1 → lr_W tM sM w d jX7_next 23 [some (vo 0 0), some (vi x), some (vi s.1), some (vi s.2), some (vi (nI p)), j5] [] N1 (qX fun r' N' => frN N N' ∧ r' = if x = 0 then (lp T r p s).1 else if (lp T r p s).1 = -1 then hiS L (vwM N) O k else (lp T r p s).2) := by
    intro r
    induction r with
    | zero =>
      intro p s j5 N1 hp hf ht
      have : n = p := hp
      subst this
      have e0 : N1 0 0 0 = nI n := by rw [hf 0 0 0 (by decide) (by omega)]; exact hn
      refine ri_ild a_X7_next_23 rfl ?_
      refine ri_ald a_X7_next_25 rfl ?_
      refine ri_getI a_X7_next_26 fl_X7_93 kM_0_0 rfl iM_0 ?_
      refine ri_icmp_ge a_X7_next_29 (fun zc11 => ?_) (fun zc11 => ?_)
      · refine ri_ald a_X7_next_117 rfl ?_
        refine ri_cVxv (as := []) (rest := []) (d' := d - 1) a_X7_next_118 mv_X7_rowSaved ml_X7_216 (rcM_0 iM_0) (by omega) (ok_X7_rowSaved (orN_N hf hO) hn8) (Nat.le_of_ble_eq_true rfl) rfl (fun zM12 hzM12 => ?_)
        obtain ⟨g1, g2⟩ := hzM12
        have ht2 := frRw_tb g1 ht
        have hf2 := frN_tr hf (frRw_N g1)
        refine ri_ild a_X7_next_121 rfl ?_
        refine ri_if_ne a_X7_next_122 (fun zc21 => ?_) (fun zc21 => ?_)
        · refine ri_ild a_X7_next_129 rfl ?_
          refine ri_ic a_X7_next_130 ?_
          refine ri_icmp_ne a_X7_next_131 (fun zc22 => ?_) (fun zc22 => ?_)
          · refine ri_ild a_X7_next_141 rfl ?_
            refine ri_ireturn a_X7_next_142 rfl rfl ?_
            refine rX ⟨hf2, ?_⟩
            rw [lp]
            simp only [*, if_true, if_false]
          · refine ri_ald a_X7_next_134 rfl ?_
            refine ri_cVpi (as := []) (rest := []) (d' := d - 1) a_X7_next_135 mv_X7_highOf ml_X7_204 (rcM_0 iM_0) (by omega) (ok_X7_highOf ht2 g2 hn8) (Nat.le_of_ble_eq_true rfl) rfl (fun zy23 ezy23 => ?_)
            refine ri_goto a_X7_next_138 ?_
            refine ri_ireturn a_X7_next_142 rfl rfl ?_
            refine rX ⟨hf2, ?_⟩
            rw [lp]
            simp only [*, if_true, if_false]
        · refine ri_ild a_X7_next_125 rfl ?_
          refine ri_goto a_X7_next_126 ?_
          refine ri_ireturn a_X7_next_142 rfl rfl ?_
          refine rX ⟨hf2, ?_⟩
          rw [lp]
          simp only [*, if_true, if_false]
      · exact absurd (by rw [e0]; exact Int32.le_refl _) zc11
    | succ r ih =>
      intro p s j5 N1 hp hf ht
      have e0 : N1 0 0 0 = nI n := by rw [hf 0 0 0 (by decide) (by omega)]; exact hn
      have e5 : N1 5 0 = N 5 0 := by rw [frN_t hf (t := 5) (by decide) (by decide)]
      have e4 : N1 4 0 = N 4 0 := by rw [frN_t hf (t := 4) (by decide) (by decide)]
      have hah := ok_X7_aheadOf (w := w) (d := d - 1) (N := N1) (nI p) (by rw [hf 0 0 6 (by decide) (by omega)]; exact hO.1) hk8
      rw [e5] at hah
      have post : ∀ s' j5 N2, frN N N2 → tbM L (vwM N) n N2 → s' = T p s → lr_W tM sM w d jX7_next 111 [some (vo 0 0), some (vi x), some (vi s'.1), some (vi s'.2), some (vi (nI p)), j5] [] N2 (qX fun r' N' => frN N N' ∧ r' = if x = 0 then (lp T (r + 1) p s).1 else if (lp T (r + 1) p s).1 = -1 then hiS L (vwM N) O k else (lp T (r + 1) p s).2) := by
        intro s' j5 N2 hf2 ht2 hs
        refine ri_iinc (c0 := 1) (f := fun zx11 => [some (vo 0 0), some (vi x), some (vi s'.1), some (vi s'.2), some (vi zx11), j5]) a_X7_next_111 rfl (by decide) (fun _ => rfl) (fun zx11 ezx11 => ?_)
        refine ri_goto a_X7_next_114 ?_
        rw [ezx11, nI_1, lp, ← hs]
        exact ih (p + 1) s' _ N2 (by omega) hf2 ht2
      refine ri_ild a_X7_next_23 rfl ?_
      refine ri_ald a_X7_next_25 rfl ?_
      refine ri_getI a_X7_next_26 fl_X7_93 kM_0_0 rfl iM_0 ?_
      refine ri_icmp_ge a_X7_next_29 (fun zc11 => ?_) (fun zc11 => ?_)
      · exact absurd zc11 (by rw [e0]; exact nI_ge (by omega) (by omega))
      · refine ri_ald a_X7_next_32 rfl ?_
        refine ri_ild a_X7_next_33 rfl ?_
        refine ri_cVpi (as := [vi (nI p)]) (rest := []) (d' := d - 1) a_X7_next_35 mv_X7_aheadOf ml_X7_189 (rcM_0 iM_0) (by omega) (hah) (Nat.le_of_ble_eq_true rfl) rfl (fun zy12 ezy12 => ?_)
        refine ri_ic a_X7_next_38 ?_
        refine ri_icmp_ne a_X7_next_39 (fun zc13 => ?_) (fun zc13 => ?_)
        · exact post s _ N1 hf ht (by rw [← hT, nxU, if_neg (fun q => zc13 (ezy12.trans q))])
        · refine ri_ald a_X7_next_42 rfl ?_
          refine ri_cVxv (as := []) (rest := []) (d' := d - 1) a_X7_next_43 mv_X7_rowSaved ml_X7_216 (rcM_0 iM_0) (by omega) (ok_X7_rowSaved (orN_N hf hO) hn8) (Nat.le_of_ble_eq_true rfl) rfl (fun zM14 hzM14 => ?_)
          have hfn := ezy12.symm.trans zc13
          have h7 := hk7 p (by omega) hfn
          obtain ⟨g1, g2, g3, g4⟩ := hzM14
          have ht2 := frRw_tb g1 ht
          have hf2 := frN_tr hf (frRw_N g1)
          refine ri_ald a_X7_next_46 rfl ?_
          refine ri_getR (t' := 22) (i' := 0) a_X7_next_47 fl_X7_73 kM_0_35 rfl iM_0 (Or.inr ⟨rfl, rfl, rfl⟩) ?_
          refine ri_ald a_X7_next_50 rfl ?_
          refine ri_getI a_X7_next_51 fl_X7_201 kM_0_36 rfl iM_0 ?_
          refine ri_ild a_X7_next_54 rfl ?_
          refine ri_iastore a_X7_next_56 lM_22 rfl iM_22 (by rw [g2]; exact vp_in_nI h7 (by decide)) (fun zM21 ezM21 => ?_)
          refine ri_ald a_X7_next_57 rfl ?_
          refine ri_dup a_X7_next_58 (fun _ h => by cases h) ?_
          refine ri_getI a_X7_next_59 fl_X7_201 kM_0_36 rfl iM_0 ?_
          refine ri_ic a_X7_next_62 ?_
          refine ri_iadd a_X7_next_63 ?_
          refine ri_putI a_X7_next_64 fp_X7_201 kM_0_36 rfl iM_0 (fun zM22 ezM22 => ?_)
          rw [g2, nI_clamp (by omega)] at ezM21
          rw [show zM21 0 0 36 = nI k by rw [ezM21]; exact g2, nI_1] at ezM22
          have hf3 : frN N zM22 := by rw [ezM22, ezM21]; exact frN_up (frN_up hf2 (Or.inl (by decide))) (Or.inr ⟨rfl, by decide⟩)
          have ht3 : tbM L (vwM N) n zM22 := by rw [ezM22, ezM21]; exact ht2
          have hrw : rwN zM22 (tpO O k p) (k + 1) n := by
            refine ⟨by rw [ezM22, up_same], by omega, fun i hi => ?_⟩
            rw [ezM22, up_apply, if_neg (by omega), ezM21, up_apply]
            unfold tpO
            by_cases e : i = k
            · rw [if_pos ⟨rfl, rfl, e⟩, if_pos e]
              exact ⟨rfl, by omega⟩
            · rw [if_neg (fun z => e z.2.2), if_neg e]
              exact g4 i (by omega)
          have e43 : zM22 4 0 = N 4 0 := by rw [frN_t hf3 (t := 4) (by decide) (by decide)]
          have hlo := ok_X7_firstLoose (w := w) (d := d - 1) ht3 hrw hn8
          have hhi := ok_X7_highOf (w := w) (d := d - 1) ht3 hrw hn8
          rw [e43] at hlo
          have fin : ∀ v, v = (if wkV L (vwM N) (N 4 0) (tpO O k p) (k + 1) = -1 then hiS L (vwM N) (tpO O k p) (k + 1) else -1) → lr_W tM sM w d jX7_next 85 [some (vo 0 0), some (vi x), some (vi s.1), some (vi s.2), some (vi (nI p)), some (vi v)] [] zM22 (qX fun r' N' => frN N N' ∧ r' = if x = 0 then (lp T (r + 1) p s).1 else if (lp T (r + 1) p s).1 = -1 then hiS L (vwM N) O k else (lp T (r + 1) p s).2) := by
            intro v hv
            have hTp : T p s = if s.2 < v then (nI p, v) else s := by rw [← hT, nxU, if_pos hfn, ← hv]
            refine ri_ild a_X7_next_85 rfl ?_
            refine ri_ild a_X7_next_87 rfl ?_
            refine ri_icmp_le a_X7_next_88 (fun zc31 => ?_) (fun zc31 => ?_)
            · refine ri_ild a_X7_next_96 rfl ?_
              refine ri_ist (f := fun zx32 => [some (vo 0 0), some (vi x), some (vi zx32), some (vi s.2), some (vi (nI p)), some (vi v)]) a_X7_next_97 (fun _ => rfl) (fun zx32 ezx32 => ?_)
              refine ri_ild a_X7_next_98 rfl ?_
              refine ri_ild a_X7_next_100 rfl ?_
              refine ri_icmp_le a_X7_next_101 (fun zc33 => ?_) (fun zc33 => ?_)
              · refine ri_ild a_X7_next_109 rfl ?_
                refine ri_ist (f := fun zx34 => [some (vo 0 0), some (vi x), some (vi zx32), some (vi zx34), some (vi (nI p)), some (vi v)]) a_X7_next_110 (fun _ => rfl) (fun zx34 ezx34 => ?_)
                rw [ezx32, ezx34]
                exact post s _ zM22 hf3 ht3 (by rw [hTp, if_neg (Int32.not_lt.mpr zc31)])
              · refine ri_ild a_X7_next_104 rfl ?_
                refine ri_goto a_X7_next_106 ?_
                refine ri_istk (ls' := [some (vo 0 0), some (vi x), some (vi zx32), some (vi v), some (vi (nI p)), some (vi v)]) a_X7_next_110 rfl ?_
                exact absurd zc31 zc33
            · refine ri_ild a_X7_next_91 rfl ?_
              refine ri_goto a_X7_next_93 ?_
              refine ri_ist (f := fun zx35 => [some (vo 0 0), some (vi x), some (vi zx35), some (vi s.2), some (vi (nI p)), some (vi v)]) a_X7_next_97 (fun _ => rfl) (fun zx35 ezx35 => ?_)
              refine ri_ild a_X7_next_98 rfl ?_
              refine ri_ild a_X7_next_100 rfl ?_
              refine ri_icmp_le a_X7_next_101 (fun zc36 => ?_) (fun zc36 => ?_)
              · refine ri_ild a_X7_next_109 rfl ?_
                refine ri_ist (f := fun zx37 => [some (vo 0 0), some (vi x), some (vi zx35), some (vi zx37), some (vi (nI p)), some (vi v)]) a_X7_next_110 (fun _ => rfl) (fun zx37 ezx37 => ?_)
                exact absurd zc36 zc31
              · refine ri_ild a_X7_next_104 rfl ?_
                refine ri_goto a_X7_next_106 ?_
                refine ri_istk (ls' := [some (vo 0 0), some (vi x), some (vi zx35), some (vi v), some (vi (nI p)), some (vi v)]) a_X7_next_110 rfl ?_
                rw [ezx35]
                exact post (nI p, v) _ zM22 hf3 ht3 (by rw [hTp, if_pos (Int32.not_le.mp zc31)])
          refine ri_ald a_X7_next_67 rfl ?_
          refine ri_cVpi (as := []) (rest := []) (d' := d - 1) a_X7_next_68 mv_X7_firstLoose ml_X7_207 (rcM_0 iM_0) (by omega) (hlo) (Nat.le_of_ble_eq_true rfl) rfl (fun zy51 ezy51 => ?_)
          refine ri_ic a_X7_next_71 ?_
          refine ri_icmp_ne a_X7_next_72 (fun zc52 => ?_) (fun zc52 => ?_)
          · refine ri_ic a_X7_next_82 ?_
            refine ri_istk (ls' := [some (vo 0 0), some (vi x), some (vi s.1), some (vi s.2), some (vi (nI p)), some (vi (-1))]) a_X7_next_83 rfl ?_
            exact fin (-1) (by rw [if_neg (fun q => zc52 (ezy51.trans q))])
          · refine ri_ald a_X7_next_75 rfl ?_
            refine ri_cVpi (as := []) (rest := []) (d' := d - 1) a_X7_next_76 mv_X7_highOf ml_X7_204 (rcM_0 iM_0) (by omega) (hhi) (Nat.le_of_ble_eq_true rfl) rfl (fun zy53 ezy53 => ?_)
            refine ri_goto a_X7_next_79 ?_
            refine ri_istk (ls' := [some (vo 0 0), some (vi x), some (vi s.1), some (vi s.2), some (vi (nI p)), some (vi zy53)]) a_X7_next_83 rfl ?_
            exact fin zy53 (by rw [if_pos (ezy51.symm.trans zc52)]; exact ezy53)
  refine lr_ok (by decide +kernel) rfl ?_
  refine ri_ild a_X7_next_0 rfl ?_
  refine ri_ic a_X7_next_1 ?_
  refine ri_ic a_X7_next_2 ?_
  refine ri_cSpb (as := [vi x, vi 0, vi 1]) (rest := []) (d' := d - 1) a_X7_next_3 ms_X7_in ml_X7_96 (by omega) (ok_X7_in x 0 1) (Nat.le_of_ble_eq_true rfl) rfl (fun zc1 => ?_) (fun zc1 => ?_)
  · refine ri_if_ne a_X7_next_6 (fun _ => ?_) (fun q => absurd q (by decide))
    refine ri_ald a_X7_next_12 rfl ?_
    refine ri_cVxv (as := []) (rest := []) (d' := d - 1) a_X7_next_13 mv_X7_tellsAll ml_X7_213 (rcM_0 iM_0) (by omega) (ok_X7_tellsAll (by omega) hL hn hn8) (Nat.le_of_ble_eq_true rfl) rfl (fun zM2 hzM2 => ?_)
    refine ri_ic a_X7_next_16 ?_
    refine ri_istk (ls' := [some (vo 0 0), some (vi x), some (vi (-1)), none, none, none]) a_X7_next_17 rfl ?_
    refine ri_ic a_X7_next_18 ?_
    refine ri_istk (ls' := [some (vo 0 0), some (vi x), some (vi (-1)), some (vi (-1)), none, none]) a_X7_next_19 rfl ?_
    refine ri_ic a_X7_next_20 ?_
    refine ri_istk (ls' := [some (vo 0 0), some (vi x), some (vi (-1)), some (vi (-1)), some (vi 0), none]) a_X7_next_21 rfl ?_
    refine lr_Wimp (loop n 0 (-1, -1) none zM2 (by omega) (frTb_N hzM2.1) hzM2.2) ?_
    rintro r M' ⟨y, h1, h2, h3⟩
    exact ⟨y, h1, h2, by rw [if_pos zc1]; exact h3⟩
  · refine ri_if_ne a_X7_next_6 (fun q => absurd q (by decide)) (fun _ => ?_)
    refine ri_ic a_X7_next_9 ?_
    refine ri_ireturn a_X7_next_11 rfl rfl ?_
    exact rX ⟨frN_rf, by rw [if_neg zc1]⟩
def wiN (x : Int32) : Int32 := if 0 ≤ x then (if x ≤ 999 then x else 999) else 0
theorem ok_X7_rusts {w : Wd} {d : Nat} (hd : 5 ≤ d) {N : Mem} {n k : Nat} {L : List (List Op)} {O : Nat → Nat} (hL : lawN N L) (hn8 : n ≤ 8) (hO : orN N O k n) (win : Int32) : lr_Ok tM sM w d jX7_rusts [vo 0 0, vi win] N (qX fun r N' => N' = N ∧ r = if 0 ≤ win ∧ win ≤ 999 then rsF (fun m => hiS L (rsV (vwM N) (wiN (N 0 0 7 + nI m))) O k) win 100 0 else -2) := by
  obtain ⟨h6, hk8, hOr⟩ := hO
  -- how high by another rust
  have inner : ∀ ru : Int32, ∀ best m (Q : RP), (∀ j6, lr_W tM sM w d jX7_rusts 90 [some (vo 0 0), some (vi win), some (vi (N 0 0 7)), some (vi best), some (vi m), some (vi (hiS L (rsV (vwM N) ru) O k)), j6] [] (up N 0 0 7 ru) Q) → ∀ r i, k = i + r → lr_W tM sM w d jX7_rusts 57 [some (vo 0 0), some (vi win), some (vi (N 0 0 7)), some (vi best), some (vi m), some (vi (hiS L (rsV (vwM N) ru) O i)), some (vi (nI i))] [] (up N 0 0 7 ru) Q := by
    intro ru best m Q K r
    have hL1 : lawN (up N 0 0 7 ru) L := by
      obtain ⟨t, a, b, c⟩ := hL
      exact ⟨t, a, b, txN_eq rfl rfl c⟩
    have eV : vwM (up N 0 0 7 ru) = rsV (vwM N) ru := rfl
    have e6 : up N 0 0 7 ru 0 0 6 = nI k := h6
    have e5 : up N 0 0 7 ru 5 0 = N 5 0 := rfl
    generalize up N 0 0 7 ru = N1 at *
    induction r with
    | zero =>
      intro i hi
      have : k = i := hi
      subst this
      refine ri_ild a_X7_rusts_57 rfl ?_
      refine ri_ald a_X7_rusts_59 rfl ?_
      refine ri_getI a_X7_rusts_60 fl_X7_100 kM_0_6 rfl iM_0 ?_
      refine ri_icmp_ge a_X7_rusts_63 (fun zc11 => ?_) (fun zc11 => ?_)
      · exact K _
      · exact absurd (by rw [e6]; exact Int32.le_refl _) zc11
    | succ r ih =>
      intro i hi
      obtain ⟨ho, hon⟩ := hOr i (by omega)
      have ei : N1 5 0 (nI i).toNatClampNeg = nI (O i) := by rw [e5, nI_clamp (by omega)]; exact ho
      have hri := ok_X7_risesOf (w := w) (d := d - 1) (N := N1) (q := O i) (by omega) hL1 (by omega) (nI i)
      rw [eV, ← ei] at hri
      refine ri_ild a_X7_rusts_57 rfl ?_
      refine ri_ald a_X7_rusts_59 rfl ?_
      refine ri_getI a_X7_rusts_60 fl_X7_100 kM_0_6 rfl iM_0 ?_
      refine ri_icmp_ge a_X7_rusts_63 (fun zc11 => ?_) (fun zc11 => ?_)
      · exact absurd zc11 (by rw [e6]; exact nI_ge (by omega) (by omega))
      · refine ri_ild a_X7_rusts_66 rfl ?_
        refine ri_ald a_X7_rusts_68 rfl ?_
        refine ri_ald a_X7_rusts_69 rfl ?_
        refine ri_getR (t' := 5) (i' := 0) a_X7_rusts_70 fl_X7_22 kM_0_5 rfl iM_0 (Or.inr ⟨rfl, rfl, rfl⟩) ?_
        refine ri_ild a_X7_rusts_73 rfl ?_
        refine ri_iaload a_X7_rusts_75 lM_5 rfl iM_5 (vp_in_nI (by omega) (by decide)) ?_
        refine ri_ild a_X7_rusts_76 rfl ?_
        refine ri_cVpi (as := [vi (N1 5 0 (nI i).toNatClampNeg), vi (nI i)]) (rest := [vi (hiS L (rsV (vwM N) ru) O i)]) (d' := d - 1) a_X7_rusts_78 mv_X7_risesOf ml_X7_195 (rcM_0 iM_0) (by omega) (hri) (Nat.le_of_ble_eq_true rfl) rfl (fun zy12 ezy12 => ?_)
        refine ri_iadd a_X7_rusts_81 ?_
        refine ri_ist (f := fun zx13 => [some (vo 0 0), some (vi win), some (vi (N 0 0 7)), some (vi best), some (vi m), some (vi zx13), some (vi (nI i))]) a_X7_rusts_82 (fun _ => rfl) (fun zx13 ezx13 => ?_)
        refine ri_iinc (c0 := 1) (f := fun zx14 => [some (vo 0 0), some (vi win), some (vi (N 0 0 7)), some (vi best), some (vi m), some (vi zx13), some (vi zx14)]) a_X7_rusts_84 rfl (by decide) (fun _ => rfl) (fun zx14 ezx14 => ?_)
        refine ri_goto a_X7_rusts_87 ?_
        rw [ezx13, ezx14, ezy12, nI_1]
        exact ih (i + 1) (by omega)
  have back : ∀ (N1 : Mem), (∃ ru, N1 = up N 0 0 7 ru) → up N1 0 0 7 (N 0 0 7) = N := by
    rintro N1 ⟨ru, rfl⟩
    funext t i q
    rw [up_apply]
    split
    · rename_i h
      rw [h.1, h.2.1, h.2.2]
    · rename_i h
      rw [up_apply, if_neg h]
  have loop : ∀ r m j5 j6 N1, 100 = m + r → (∃ ru, N1 = up N 0 0 7 ru) → lr_W tM sM w d jX7_rusts 24 [some (vo 0 0), some (vi win), some (vi (N 0 0 7)), some (vi (-1)), some (vi (nI m)), j5, j6] [] N1 (qX fun r' N' => N' = N ∧ r' = rsF (fun m => hiS L (rsV (vwM N) (wiN (N 0 0 7 + nI m))) O k) win r m) := by
    intro r
    induction r with
    | zero =>
      intro m j5 j6 N1 hm hN1
      have : m = 100 := by omega
      subst this
      refine ri_ild a_X7_rusts_24 rfl ?_
      refine ri_ic a_X7_rusts_26 ?_
      refine ri_icmp_gt a_X7_rusts_28 (fun zc11 => ?_) (fun zc11 => ?_)
      · refine ri_ald a_X7_rusts_109 rfl ?_
        refine ri_ild a_X7_rusts_110 rfl ?_
        refine ri_putI a_X7_rusts_111 fp_X7_103 kM_0_7 rfl iM_0 (fun zM12 ezM12 => ?_)
        refine ri_ild a_X7_rusts_114 rfl ?_
        refine ri_ireturn a_X7_rusts_115 rfl rfl ?_
        exact rX ⟨by rw [ezM12]; exact back N1 hN1, rfl⟩
      · exact absurd (by decide) zc11
    | succ r ih =>
      intro m j5 j6 N1 hm hN1
      rw [rsF]
      refine ri_ild a_X7_rusts_24 rfl ?_
      refine ri_ic a_X7_rusts_26 ?_
      refine ri_icmp_gt a_X7_rusts_28 (fun zc11 => ?_) (fun zc11 => ?_)
      · exact absurd zc11 (by rw [show (99 : Int32) = nI 99 from rfl]; exact nI_nlt (by omega) (by omega))
      · refine ri_ild a_X7_rusts_31 rfl ?_
        refine ri_ic a_X7_rusts_32 ?_
        refine ri_icmp_ne a_X7_rusts_33 (fun q => absurd q (by decide)) (fun _ => ?_)
        refine ri_ald a_X7_rusts_36 rfl ?_
        refine ri_ild a_X7_rusts_37 rfl ?_
        refine ri_ild a_X7_rusts_38 rfl ?_
        refine ri_iadd a_X7_rusts_40 ?_
        refine ri_ic a_X7_rusts_41 ?_
        refine ri_ic a_X7_rusts_42 ?_
        refine ri_cSpi (as := [vi ((N 0 0 7) + (nI m)), vi 0, vi 999]) (rest := [vo 0 0]) (d' := d - 1) a_X7_rusts_45 ms_X7_within ml_X7_179 (by omega) (ok_X7_within ((N 0 0 7) + (nI m)) 0 999) (Nat.le_of_ble_eq_true rfl) rfl (fun zy12 ezy12 => ?_)
        refine ri_putI a_X7_rusts_48 fp_X7_103 kM_0_7 rfl iM_0 (fun zM13 ezM13 => ?_)
        refine ri_ic a_X7_rusts_51 ?_
        refine ri_istk (ls' := [some (vo 0 0), some (vi win), some (vi (N 0 0 7)), some (vi (-1)), some (vi (nI m)), some (vi 0), j6]) a_X7_rusts_52 rfl ?_
        refine ri_ic a_X7_rusts_54 ?_
        refine ri_istk (ls' := [some (vo 0 0), some (vi win), some (vi (N 0 0 7)), some (vi (-1)), some (vi (nI m)), some (vi 0), some (vi 0)]) a_X7_rusts_55 rfl ?_
        have e12 : zy12 = wiN (N 0 0 7 + nI m) := ezy12
        subst e12
        have eM : zM13 = up N 0 0 7 (wiN (N 0 0 7 + nI m)) := by
          obtain ⟨ru, rfl⟩ := hN1
          rw [ezM13]
          funext t i q
          rw [up_apply, up_apply, up_apply]
          split <;> rfl
        subst eM
        refine inner (wiN (N 0 0 7 + nI m)) (-1) (nI m) _ (fun j6 => ?_) k 0 (by omega)
        generalize hv : hiS L (rsV (vwM N) (wiN (N 0 0 7 + nI m))) O k = v
        generalize hN2 : up N 0 0 7 (wiN (N 0 0 7 + nI m)) = N2
        refine ri_ild a_X7_rusts_90 rfl ?_
        refine ri_ild a_X7_rusts_92 rfl ?_
        refine ri_icmp_ge a_X7_rusts_93 (fun zc31 => ?_) (fun zc31 => ?_)
        · refine ri_ic a_X7_rusts_101 ?_
          refine ri_istk (ls' := [some (vo 0 0), some (vi win), some (vi (N 0 0 7)), some (vi (-1)), some (vi (nI m)), some (vi v), j6]) a_X7_rusts_102 rfl ?_
          refine ri_iinc (c0 := 1) (f := fun zx32 => [some (vo 0 0), some (vi win), some (vi (N 0 0 7)), some (vi (-1)), some (vi zx32), some (vi v), j6]) a_X7_rusts_103 rfl (by decide) (fun _ => rfl) (fun zx32 ezx32 => ?_)
          refine ri_goto a_X7_rusts_106 ?_
          rw [ezx32, nI_1]
          refine lr_Wimp (ih (m + 1) _ _ N2 (by omega) ⟨_, hN2.symm⟩) ?_
          rintro r' M' ⟨y, h1, h2, h3⟩
          exact ⟨y, h1, h2, by rw [if_neg (Int32.not_lt.mpr zc31)]; exact h3⟩
        · refine ri_ild a_X7_rusts_96 rfl ?_
          refine ri_goto a_X7_rusts_98 ?_
          refine ri_ist (f := fun zx33 => [some (vo 0 0), some (vi win), some (vi (N 0 0 7)), some (vi zx33), some (vi (nI m)), some (vi v), j6]) a_X7_rusts_102 (fun _ => rfl) (fun zx33 ezx33 => ?_)
          refine ri_iinc (c0 := 1) (f := fun zx34 => [some (vo 0 0), some (vi win), some (vi (N 0 0 7)), some (vi zx33), some (vi zx34), some (vi v), j6]) a_X7_rusts_103 rfl (by decide) (fun _ => rfl) (fun zx34 ezx34 => ?_)
          refine ri_goto a_X7_rusts_106 ?_
          rw [ezx33, ezx34, nI_1]
          have hne : ¬ nI m = -1 := nI_m1n (by omega)
          refine ri_ild a_X7_rusts_24 rfl ?_
          refine ri_ic a_X7_rusts_26 ?_
          refine ri_icmp_gt a_X7_rusts_28 (fun zc51 => ?_) (fun zc51 => ?_)
          · refine ri_ald a_X7_rusts_109 rfl ?_
            refine ri_ild a_X7_rusts_110 rfl ?_
            refine ri_putI a_X7_rusts_111 fp_X7_103 kM_0_7 rfl iM_0 (fun zM52 ezM52 => ?_)
            refine ri_ild a_X7_rusts_114 rfl ?_
            refine ri_ireturn a_X7_rusts_115 rfl rfl ?_
            exact rX ⟨by first | (rw [ezM52]; exact back N2 ⟨_, hN2.symm⟩) | (rw [ezM53]; exact back N2 ⟨_, hN2.symm⟩) | (rw [ezM54]; exact back N2 ⟨_, hN2.symm⟩), by rw [if_pos (Int32.not_le.mp zc31)]⟩
          · refine ri_ild a_X7_rusts_31 rfl ?_
            refine ri_ic a_X7_rusts_32 ?_
            refine ri_icmp_ne a_X7_rusts_33 (fun zc53 => ?_) (fun zc53 => ?_)
            · refine ri_ald a_X7_rusts_109 rfl ?_
              refine ri_ild a_X7_rusts_110 rfl ?_
              refine ri_putI a_X7_rusts_111 fp_X7_103 kM_0_7 rfl iM_0 (fun zM54 ezM54 => ?_)
              refine ri_ild a_X7_rusts_114 rfl ?_
              refine ri_ireturn a_X7_rusts_115 rfl rfl ?_
              exact rX ⟨by first | (rw [ezM52]; exact back N2 ⟨_, hN2.symm⟩) | (rw [ezM53]; exact back N2 ⟨_, hN2.symm⟩) | (rw [ezM54]; exact back N2 ⟨_, hN2.symm⟩), by rw [if_pos (Int32.not_le.mp zc31)]⟩
            · exact absurd (by assumption) hne
  refine lr_ok (by decide +kernel) rfl ?_
  refine ri_ild a_X7_rusts_0 rfl ?_
  refine ri_ic a_X7_rusts_1 ?_
  refine ri_ic a_X7_rusts_2 ?_
  refine ri_cSpb (as := [vi win, vi 0, vi 999]) (rest := []) (d' := d - 1) a_X7_rusts_5 ms_X7_in ml_X7_96 (by omega) (ok_X7_in win 0 999) (Nat.le_of_ble_eq_true rfl) rfl (fun zc1 => ?_) (fun zc1 => ?_)
  · refine ri_if_ne a_X7_rusts_8 (fun _ => ?_) (fun q => absurd q (by decide))
    refine ri_ald a_X7_rusts_14 rfl ?_
    refine ri_getI a_X7_rusts_15 fl_X7_103 kM_0_7 rfl iM_0 ?_
    refine ri_istk (ls' := [some (vo 0 0), some (vi win), some (vi (N 0 0 7)), none, none, none, none]) a_X7_rusts_18 rfl ?_
    refine ri_ic a_X7_rusts_19 ?_
    refine ri_istk (ls' := [some (vo 0 0), some (vi win), some (vi (N 0 0 7)), some (vi (-1)), none, none, none]) a_X7_rusts_20 rfl ?_
    refine ri_ic a_X7_rusts_21 ?_
    refine ri_istk (ls' := [some (vo 0 0), some (vi win), some (vi (N 0 0 7)), some (vi (-1)), some (vi 0), none, none]) a_X7_rusts_22 rfl ?_
    refine lr_Wimp (loop 100 0 none none N (by omega) ⟨N 0 0 7, ?_⟩) ?_
    · funext t i q
      rw [up_apply]
      split
      · rename_i h; rw [h.1, h.2.1, h.2.2]
      · rfl
    · rintro r M' ⟨y, h1, h2, h3⟩
      exact ⟨y, h1, h2, by rw [if_pos zc1]; exact h3⟩
  · refine ri_if_ne a_X7_rusts_8 (fun q => absurd q (by decide)) (fun _ => ?_)
    refine ri_ic a_X7_rusts_11 ?_
    refine ri_ireturn a_X7_rusts_13 rfl rfl ?_
    exact rX ⟨rfl, by rw [if_neg zc1]⟩

