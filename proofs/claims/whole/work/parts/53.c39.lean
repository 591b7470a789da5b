/-! class: next -/
/-- the ladder O of k, with p on top -/
def tpO (O : Nat → Nat) (k p : Nat) : Nat → Nat := fun i => if i = k then p else O i
abbrev nxG (L : List (List Op)) (V : Vw) (F : Nat → Int32) (O : Nat → Nat) (k : Nat) (fd : Nat → Int32) (p : Nat) : Prop := fd p = -1 ∧ wkV L V F (tpO O k p) (k + 1) = -1
def nxT (L : List (List Op)) (V : Vw) (F : Nat → Int32) (O : Nat → Nat) (k : Nat) (fd : Nat → Int32) (p : Nat) (s : Int32 × Int32) : Int32 × Int32 :=
  if nxG L V F O k fd p ∧ (s.1 = -1 ∨ s.2 < hiS L V (tpO O k p) (k + 1)) then (nI p, hiS L V (tpO O k p) (k + 1)) else s
theorem ok_X6_next {w : Wd} {d : Nat} (hd : 6 ≤ d) {M : Mem} {n k : Nat} {L : List (List Op)} {O : Nat → Nat} (hL : lawC M 0 L) (hn : M 1 0 6 = nI n) (hn8 : n ≤ 8) (hk : M 1 0 7 = nI k) (hk8 : k ≤ 8) (hO : rowA (M 7 0) O k) (x : Int32) : lr_Ok tC sC w d jX6_next [vo 0 0, vi x] M (qX fun r M' => frT 23 M M' ∧ r = if 0 ≤ x ∧ x ≤ 1 then (if x = 0 then (lp (nxT L (vwC M 0) (M 6 0) O k (fun p => fnd (M 7 0) (nI p) k 0)) (if k < 8 then n else 0) 0 (-1, hiS L (vwC M 0) O k)).1 else (lp (nxT L (vwC M 0) (M 6 0) O k (fun p => fnd (M 7 0) (nI p) k 0)) (if k < 8 then n else 0) 0 (-1, hiS L (vwC M 0) O k)).2) else -2) := by
  generalize hT : nxT L (vwC M 0) (M 6 0) O k (fun p => fnd (M 7 0) (nI p) k 0) = T
  have loop : ∀ r p s j6 M1, (if k < 8 then n else 0) = p + r → frT 23 M M1 → rowA (M1 23 0) O k → lr_W tC sC w d jX6_next 59 [some (vo 0 0), some (vi x), some (vi (nI k)), some (vi s.1), some (vi s.2), some (vi (nI p)), j6] [] M1 (qX fun r' M' => frT 23 M M' ∧ r' = if x = 0 then (lp T r p s).1 else (lp T r p s).2) := by
    intro r
    induction r with
    | zero =>
      intro p s j6 M1 hp hf hrow
      have e6 : M1 1 0 6 = nI n := by rw [hf 1 (by decide), hn]
      refine ri_ild a_X6_next_59 rfl ?_
      refine ri_ald a_X6_next_61 rfl ?_
      refine ri_getR (t' := 1) (i' := 0) a_X6_next_62 fl_X6_10 kC_0_0 rfl iC_0 (Or.inr ⟨rfl, rfl, rfl⟩) ?_
      refine ri_getI a_X6_next_65 fl_X6_87 kC_1_6 rfl (iC_1 (by decide)) ?_
      refine ri_icmp_ge a_X6_next_68 (fun zc11 => ?_) (fun zc11 => ?_)
      · refine ri_ild a_X6_next_164 rfl ?_
        refine ri_if_ne a_X6_next_165 (fun zc12 => ?_) (fun zc12 => ?_)
        · refine ri_ild a_X6_next_172 rfl ?_
          refine ri_ireturn a_X6_next_174 rfl rfl ?_
          exact rX ⟨hf, by simp only [*, if_true, if_false]; rfl⟩
        · refine ri_ild a_X6_next_168 rfl ?_
          refine ri_goto a_X6_next_169 ?_
          refine ri_ireturn a_X6_next_174 rfl rfl ?_
          exact rX ⟨hf, by simp only [*, if_true, if_false]; rfl⟩
      · refine ri_ild a_X6_next_71 rfl ?_
        refine ri_ic a_X6_next_72 ?_
        refine ri_icmp_ge a_X6_next_74 (fun zc13 => ?_) (fun zc13 => ?_)
        · refine ri_ild a_X6_next_164 rfl ?_
          refine ri_if_ne a_X6_next_165 (fun zc14 => ?_) (fun zc14 => ?_)
          · refine ri_ild a_X6_next_172 rfl ?_
            refine ri_ireturn a_X6_next_174 rfl rfl ?_
            exact rX ⟨hf, by simp only [*, if_true, if_false]; rfl⟩
          · refine ri_ild a_X6_next_168 rfl ?_
            refine ri_goto a_X6_next_169 ?_
            refine ri_ireturn a_X6_next_174 rfl rfl ?_
            exact rX ⟨hf, by simp only [*, if_true, if_false]; rfl⟩
        · exfalso
          have h8 : k < 8 := by
            rcases Nat.lt_or_ge k 8 with h | h
            · exact h
            · exact absurd (nI_le (a := 8) h (by omega)) zc13
          rw [if_pos h8] at hp
          exact zc11 (by rw [e6]; exact nI_le (by omega) (by omega))
    | succ r ih =>
      intro p s j6 M1 hp hf hrow
      have h8 : k < 8 := by
        rcases Nat.lt_or_ge k 8 with h | h
        · exact h
        · rw [if_neg (by omega)] at hp; omega
      rw [if_pos h8] at hp
      have ih := fun p s j6 M1 (hp : n = p + r) => ih p s j6 M1 (by rw [if_pos h8]; exact hp)
      have e6 : M1 1 0 6 = nI n := by rw [hf 1 (by decide), hn]
      have e7 : M1 1 0 7 = nI k := by rw [hf 1 (by decide), hk]
      have hro := ok_X0_rungOf (w := w) (d := d - 1) (M := M1) (c := 0) (by decide) (nI p) e7 (by omega)
      rw [hf 7 (by decide)] at hro
      have post : ∀ s' j6 M2, frT 23 M M2 → rowA (M2 23 0) O k → s' = T p s → lr_W tC sC w d jX6_next 158 [some (vo 0 0), some (vi x), some (vi (nI k)), some (vi s'.1), some (vi s'.2), some (vi (nI p)), j6] [] M2 (qX fun r' M' => frT 23 M M' ∧ r' = if x = 0 then (lp T (r + 1) p s).1 else (lp T (r + 1) p s).2) := by
        intro s' j6 M2 hf2 hrow2 hs
        refine ri_iinc (c0 := 1) (f := fun zx11 => [some (vo 0 0), some (vi x), some (vi (nI k)), some (vi s'.1), some (vi s'.2), some (vi zx11), j6]) a_X6_next_158 rfl (by decide) (fun _ => rfl) (fun zx11 ezx11 => ?_)
        refine ri_goto a_X6_next_161 ?_
        rw [ezx11, nI_1, lp, ← hs]
        exact ih (p + 1) s' _ M2 (by omega) hf2 hrow2
      refine ri_ild a_X6_next_59 rfl ?_
      refine ri_ald a_X6_next_61 rfl ?_
      refine ri_getR (t' := 1) (i' := 0) a_X6_next_62 fl_X6_10 kC_0_0 rfl iC_0 (Or.inr ⟨rfl, rfl, rfl⟩) ?_
      refine ri_getI a_X6_next_65 fl_X6_87 kC_1_6 rfl (iC_1 (by decide)) ?_
      refine ri_icmp_ge a_X6_next_68 (fun zc11 => ?_) (fun zc11 => ?_)
      · refine ri_ild a_X6_next_164 rfl ?_
        refine ri_if_ne a_X6_next_165 (fun zc12 => ?_) (fun zc12 => ?_)
        · refine ri_ild a_X6_next_172 rfl ?_
          refine ri_ireturn a_X6_next_174 rfl rfl ?_
          exact absurd zc11 (by rw [e6]; exact nI_ge (by omega) (by omega))
        · refine ri_ild a_X6_next_168 rfl ?_
          refine ri_goto a_X6_next_169 ?_
          refine ri_ireturn a_X6_next_174 rfl rfl ?_
          exact absurd zc11 (by rw [e6]; exact nI_ge (by omega) (by omega))
      · refine ri_ild a_X6_next_71 rfl ?_
        refine ri_ic a_X6_next_72 ?_
        refine ri_icmp_ge a_X6_next_74 (fun zc13 => ?_) (fun zc13 => ?_)
        · refine ri_ild a_X6_next_164 rfl ?_
          refine ri_if_ne a_X6_next_165 (fun zc14 => ?_) (fun zc14 => ?_)
          · refine ri_ild a_X6_next_172 rfl ?_
            refine ri_ireturn a_X6_next_174 rfl rfl ?_
            exact absurd zc13 (nI_ge (b := 8) h8 (by decide))
          · refine ri_ild a_X6_next_168 rfl ?_
            refine ri_goto a_X6_next_169 ?_
            refine ri_ireturn a_X6_next_174 rfl rfl ?_
            exact absurd zc13 (nI_ge (b := 8) h8 (by decide))
        · refine ri_ald a_X6_next_77 rfl ?_
          refine ri_getR (t' := 1) (i' := 0) a_X6_next_78 fl_X6_10 kC_0_0 rfl iC_0 (Or.inr ⟨rfl, rfl, rfl⟩) ?_
          refine ri_ild a_X6_next_81 rfl ?_
          refine ri_cVpi (as := [vi (nI p)]) (rest := []) (d' := d - 1) a_X6_next_83 mv_X0_rungOf ml_X6_140 (rcC_1 (iC_1 (by decide))) (by omega) (hro) (Nat.le_of_ble_eq_true rfl) rfl (fun zy15 ezy15 => ?_)
          refine ri_ic a_X6_next_86 ?_
          refine ri_icmp_eq a_X6_next_87 (fun zc16 => ?_) (fun zc16 => ?_)
          · refine ri_ald a_X6_next_93 rfl ?_
            refine ri_getR (t' := 23) (i' := 0) a_X6_next_94 fl_X6_49 kC_0_9 rfl iC_0 (Or.inr ⟨rfl, rfl, rfl⟩) ?_
            refine ri_ild a_X6_next_97 rfl ?_
            refine ri_ild a_X6_next_98 rfl ?_
            refine ri_iastore a_X6_next_100 lC_23 rfl iC_23 ?_ (fun zM17 ezM17 => ?_)
            · exact vp_in_nI h8 (by decide)
            rw [nI_clamp (by omega)] at ezM17
            have hf2 : frT 23 M zM17 := by rw [ezM17]; exact frT_up hf
            have hrow2 : rowA (zM17 23 0) (tpO O k p) (k + 1) := by
              intro i hi
              unfold tpO
              by_cases e : i = k
              · subst e
                rw [if_pos rfl, ezM17, up_same]
                exact ⟨rfl, by omega⟩
              · rw [if_neg e, ezM17, up_k e]
                exact hrow i (by omega)
            have hrow3 : rowA (zM17 23 0) O k := by
              intro i hi
              rw [ezM17, up_k (by omega)]
              exact hrow i hi
            have hL2 := lawC_fr (hf2 1 (by decide)) (hf2 9 (by decide)) (hf2 10 (by decide)) hL
            have eV := @vwC_fr M zM17 0 (hf2 1 (by decide)) (hf2 2 (by decide)) (hf2 3 (by decide)) (hf2 4 (by decide)) (hf2 5 (by decide))
            have hho := ok_X6_holds_r (w := w) (d := d - 1) (c := 0) (by omega) hL2 (by decide) (by omega) hrow2
            have hhi := ok_X6_highOf_r (w := w) (d := d - 1) (c := 0) (by omega) hL2 (by decide) (by omega) hrow2
            rw [eV, ← nI_1] at hho hhi
            rw [hf2 6 (by decide)] at hho
            refine ri_ald a_X6_next_101 rfl ?_
            refine ri_ald a_X6_next_102 rfl ?_
            refine ri_getR (t' := 1) (i' := 0) a_X6_next_103 fl_X6_10 kC_0_0 rfl iC_0 (Or.inr ⟨rfl, rfl, rfl⟩) ?_
            refine ri_ald a_X6_next_106 rfl ?_
            refine ri_getR (t' := 23) (i' := 0) a_X6_next_107 fl_X6_49 kC_0_9 rfl iC_0 (Or.inr ⟨rfl, rfl, rfl⟩) ?_
            refine ri_ild a_X6_next_110 rfl ?_
            refine ri_ic a_X6_next_111 ?_
            refine ri_iadd a_X6_next_112 ?_
            refine ri_cVpb (as := [vo 1 0, vo 23 0, vi ((nI k) + 1)]) (rest := []) (d' := d - 1) a_X6_next_113 mv_X6_holds ml_X6_194 (rcC_0 iC_0) (by omega) (hho) (Nat.le_of_ble_eq_true rfl) rfl (fun zc31 => ?_) (fun zc31 => ?_)
            · refine ri_if_ne a_X6_next_116 (fun _ => ?_) (fun q => absurd q (by decide))
              refine ri_ald a_X6_next_122 rfl ?_
              refine ri_ald a_X6_next_123 rfl ?_
              refine ri_getR (t' := 1) (i' := 0) a_X6_next_124 fl_X6_10 kC_0_0 rfl iC_0 (Or.inr ⟨rfl, rfl, rfl⟩) ?_
              refine ri_ald a_X6_next_127 rfl ?_
              refine ri_getR (t' := 23) (i' := 0) a_X6_next_128 fl_X6_49 kC_0_9 rfl iC_0 (Or.inr ⟨rfl, rfl, rfl⟩) ?_
              refine ri_ild a_X6_next_131 rfl ?_
              refine ri_ic a_X6_next_132 ?_
              refine ri_iadd a_X6_next_133 ?_
              refine ri_cVpi (as := [vo 1 0, vo 23 0, vi ((nI k) + 1)]) (rest := []) (d' := d - 1) a_X6_next_134 mv_X6_highOf ml_X6_184 (rcC_0 iC_0) (by omega) (hhi) (Nat.le_of_ble_eq_true rfl) rfl (fun zy32 ezy32 => ?_)
              refine ri_istk (ls' := [some (vo 0 0), some (vi x), some (vi (nI k)), some (vi s.1), some (vi s.2), some (vi (nI p)), some (vi zy32)]) a_X6_next_137 rfl ?_
              refine ri_ild a_X6_next_139 rfl ?_
              refine ri_ic a_X6_next_140 ?_
              refine ri_icmp_eq a_X6_next_141 (fun zc33 => ?_) (fun zc33 => ?_)
              · refine ri_ild a_X6_next_151 rfl ?_
                refine ri_ist (f := fun zx34 => [some (vo 0 0), some (vi x), some (vi (nI k)), some (vi zx34), some (vi s.2), some (vi (nI p)), some (vi zy32)]) a_X6_next_153 (fun _ => rfl) (fun zx34 ezx34 => ?_)
                refine ri_ild a_X6_next_154 rfl ?_
                refine ri_istk (ls' := [some (vo 0 0), some (vi x), some (vi (nI k)), some (vi zx34), some (vi zy32), some (vi (nI p)), some (vi zy32)]) a_X6_next_156 rfl ?_
                subst ezy32 ezx34
                refine post (nI p, _) _ zM17 hf2 hrow3 ?_
                rw [← hT, nxT, if_pos ⟨⟨ezy15.symm.trans zc16, zc31⟩, Or.inl zc33⟩]
                rfl
              · refine ri_ild a_X6_next_144 rfl ?_
                refine ri_ild a_X6_next_146 rfl ?_
                refine ri_icmp_le a_X6_next_148 (fun zc35 => ?_) (fun zc35 => ?_)
                · subst ezy32
                  refine post s _ zM17 hf2 hrow3 ?_
                  rw [← hT, nxT, if_neg (fun q => q.2.elim zc33 (fun r => Int32.not_le.mpr r zc35))]
                · refine ri_ild a_X6_next_151 rfl ?_
                  refine ri_ist (f := fun zx36 => [some (vo 0 0), some (vi x), some (vi (nI k)), some (vi zx36), some (vi s.2), some (vi (nI p)), some (vi zy32)]) a_X6_next_153 (fun _ => rfl) (fun zx36 ezx36 => ?_)
                  refine ri_ild a_X6_next_154 rfl ?_
                  refine ri_istk (ls' := [some (vo 0 0), some (vi x), some (vi (nI k)), some (vi zx36), some (vi zy32), some (vi (nI p)), some (vi zy32)]) a_X6_next_156 rfl ?_
                  subst ezy32 ezx36
                  refine post (nI p, _) _ zM17 hf2 hrow3 ?_
                  rw [← hT, nxT, if_pos ⟨⟨ezy15.symm.trans zc16, zc31⟩, Or.inr (Int32.not_le.mp zc35)⟩]
                  rfl
            · refine ri_if_ne a_X6_next_116 (fun q => absurd q (by decide)) (fun _ => ?_)
              refine ri_goto a_X6_next_119 ?_
              refine post s _ zM17 hf2 hrow3 ?_
              rw [← hT, nxT, if_neg (fun q => zc31 q.1.2)]
          · refine ri_goto a_X6_next_90 ?_
            refine post s _ M1 hf hrow ?_
            rw [← hT, nxT, if_neg (fun q => zc16 (ezy15.trans q.1.1))]
  refine lr_ok (by decide +kernel) rfl ?_
  refine ri_ild a_X6_next_0 rfl ?_
  refine ri_ic a_X6_next_1 ?_
  refine ri_cSpb (as := [vi x, vi 1]) (rest := []) (d' := d - 1) a_X6_next_2 ms_X6_within ml_X6_102 (by omega) (ok_X6_within x 1) (Nat.le_of_ble_eq_true rfl) rfl (fun zc1 => ?_) (fun zc1 => ?_)
  · refine ri_if_ne a_X6_next_5 (fun _ => ?_) (fun q => absurd q (by decide))
    refine ri_ald a_X6_next_11 rfl ?_
    refine ri_getR (t' := 1) (i' := 0) a_X6_next_12 fl_X6_10 kC_0_0 rfl iC_0 (Or.inr ⟨rfl, rfl, rfl⟩) ?_
    refine ri_getI a_X6_next_15 fl_X6_90 kC_1_7 rfl (iC_1 (by decide)) ?_
    rw [hk]
    refine ri_istk (ls' := [some (vo 0 0), some (vi x), some (vi (nI k)), none, none, none, none]) a_X6_next_18 rfl ?_
    have hhi := ok_X6_highOf_o (w := w) (d := d - 1) (c := 0) (by omega) hL (by decide) hk8 hO
    refine ri_ic a_X6_next_19 ?_
    refine ri_istk (ls' := [some (vo 0 0), some (vi x), some (vi (nI k)), some (vi (-1)), none, none, none]) a_X6_next_20 rfl ?_
    refine ri_ald a_X6_next_21 rfl ?_
    refine ri_ald a_X6_next_22 rfl ?_
    refine ri_getR (t' := 1) (i' := 0) a_X6_next_23 fl_X6_10 kC_0_0 rfl iC_0 (Or.inr ⟨rfl, rfl, rfl⟩) ?_
    refine ri_ald a_X6_next_26 rfl ?_
    refine ri_getR (t' := 1) (i' := 0) a_X6_next_27 fl_X6_10 kC_0_0 rfl iC_0 (Or.inr ⟨rfl, rfl, rfl⟩) ?_
    refine ri_getR (t' := 7) (i' := 0) a_X6_next_30 fl_X6_144 kC_1_5 rfl (iC_1 (by decide)) (Or.inl ⟨rfl, rfl, rfl⟩) ?_
    refine ri_ild a_X6_next_33 rfl ?_
    refine ri_cVpi (as := [vo 1 0, vo 7 0, vi (nI k)]) (rest := []) (d' := d - 1) a_X6_next_34 mv_X6_highOf ml_X6_184 (rcC_0 iC_0) (by omega) (hhi) (Nat.le_of_ble_eq_true rfl) rfl (fun zy11 ezy11 => ?_)
    refine ri_istk (ls' := [some (vo 0 0), some (vi x), some (vi (nI k)), some (vi (-1)), some (vi zy11), none, none]) a_X6_next_37 rfl ?_
    refine ri_ald a_X6_next_39 rfl ?_
    refine ri_getR (t' := 1) (i' := 0) a_X6_next_40 fl_X6_10 kC_0_0 rfl iC_0 (Or.inr ⟨rfl, rfl, rfl⟩) ?_
    refine ri_getR (t' := 7) (i' := 0) a_X6_next_43 fl_X6_144 kC_1_5 rfl (iC_1 (by decide)) (Or.inl ⟨rfl, rfl, rfl⟩) ?_
    refine ri_ic a_X6_next_46 ?_
    refine ri_ald a_X6_next_47 rfl ?_
    refine ri_getR (t' := 23) (i' := 0) a_X6_next_48 fl_X6_49 kC_0_9 rfl iC_0 (Or.inr ⟨rfl, rfl, rfl⟩) ?_
    refine ri_ic a_X6_next_51 ?_
    refine ri_ild a_X6_next_52 rfl ?_
    refine ri_copy a_X6_next_53 mx_X6_188 mx_arraycopy (by omega) (Nat.le_of_ble_eq_true rfl) lC_7 lC_23 rfl rfl (iC_7 (by decide)) iC_23 (by decide) (by decide) (nI_pos (by omega)) (by rw [nI_clamp (by omega)]; show 0 + k ≤ 8; omega) (by rw [nI_clamp (by omega)]; show 0 + k ≤ 8; omega) (fun zM12 ezM12 => ?_)
    refine ri_ic a_X6_next_56 ?_
    refine ri_istk (ls' := [some (vo 0 0), some (vi x), some (vi (nI k)), some (vi (-1)), some (vi zy11), some (vi 0), none]) a_X6_next_57 rfl ?_
    subst ezy11
    have hf : frT 23 M zM12 := by
      intro t ht
      rw [ezM12]
      funext a b
      rw [upr_apply, if_neg (fun q => ht q.1)]
    have hrow : rowA (zM12 23 0) O k := by
      intro i hi
      rw [ezM12, upr_at]
      have := hO i hi
      rw [nI_clamp (by omega)]
      show (if 0 ≤ i ∧ i < 0 + k then M 7 0 (0 + (i - 0)) else M 23 0 i) = _ ∧ _
      rw [if_pos (by omega), Nat.zero_add]
      exact this
    refine lr_Wimp (loop (if k < 8 then n else 0) 0 (-1, hiS L (vwC M 0) O k) none zM12 (by omega) hf hrow) ?_
    rintro r M' ⟨y, h1, h2, h3⟩
    exact ⟨y, h1, h2, by rw [if_pos zc1]; exact h3⟩
  · refine ri_if_ne a_X6_next_5 (fun q => absurd q (by decide)) (fun _ => ?_)
    refine ri_ic a_X6_next_8 ?_
    refine ri_ireturn a_X6_next_10 rfl rfl ?_
    exact rX ⟨frT_refl, by rw [if_neg zc1]⟩

