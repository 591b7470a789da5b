/-! reference: film, images, sheets, the host -/
def fiG (L : List (List Op)) (V : Vw) (O : Nat → Nat) (k i : Nat) : Int32 := if i < k then hiS L V O (i + 1) else 0
/-- the numbers of a sheet are these -/
def shS (N : Mem) (q c : Nat) (g : Nat → Int32) : Mem := upr N 13 0 (fun j => if 40 * q ≤ j ∧ j < 40 * q + c then g (j - 40 * q) else N 13 0 j)
theorem shS_0 {N : Mem} {q : Nat} {g : Nat → Int32} : shS N q 0 g = N := upr_self (fun j => by rw [if_neg (by omega)])
theorem shS_s {N : Mem} {q c : Nat} {g : Nat → Int32} : up (shS N q c g) 13 0 (40 * q + c) (g c) = shS N q (c + 1) g := by
  unfold shS
  rw [up_upr]
  refine upr_ext (fun j => ?_)
  by_cases e : j = 40 * q + c
  · rw [if_pos e, if_pos (by omega), e, Nat.add_sub_cancel_left]
  · rw [if_neg e]
    by_cases h : 40 * q ≤ j ∧ j < 40 * q + c
    · rw [if_pos h, if_pos (by omega)]
    · rw [if_neg h, if_neg (by omega)]
theorem shS_ne {N : Mem} {q c t : Nat} {g : Nat → Int32} (h : t ≠ 13) : shS N q c g t = N t := by
  funext a b
  unfold shS
  rw [upr_apply, if_neg (fun z => h z.1)]
theorem ok_X7_film {w : Wd} {d : Nat} (hd : 4 ≤ d) {N : Mem} {q k n : Nat} {L : List (List Op)} {O : Nat → Nat} (hL : lawN N L) (hq : q < 4) (hO : orN N O k n) (hn8 : n ≤ 8) : lr_Ok tM sM w d jX7_film [vo 0 0, vi (nI q)] N (qX fun r N' => r = nI k ∧ N' = shS (up (up N 11 0 q 2) 12 0 q (nI k)) q 40 (fiG L (vwM N) O k)) := by
  have hk8 := hO.2.1
  have e0 : up (up N 11 0 q 2) 12 0 q (nI k) 0 = N 0 := rfl
  have e5 : up (up N 11 0 q 2) 12 0 q (nI k) 5 = N 5 := rfl
  have e7 : up (up N 11 0 q 2) 12 0 q (nI k) 7 = N 7 := rfl
  have e8 : up (up N 11 0 q 2) 12 0 q (nI k) 8 = N 8 := rfl
  have eV : vwM (up (up N 11 0 q 2) 12 0 q (nI k)) = vwM N := rfl
  generalize hN0 : up (up N 11 0 q 2) 12 0 q (nI k) = N0 at e0 e5 e7 e8 eV
  have loop : ∀ r i, 40 = i + r → lr_W tM sM w d jX7_film 33 [some (vo 0 0), some (vi (nI q)), some (vi (hiS L (vwM N) O (min i k))), some (vi (nI i))] [] (shS N0 q i (fiG L (vwM N) O k)) (qX fun r N' => r = nI k ∧ N' = shS N0 q 40 (fiG L (vwM N) O k)) := by
    intro r
    induction r with
    | zero =>
      intro i hi
      have : i = 40 := by omega
      subst this
      have e6 : shS N0 q 40 (fiG L (vwM N) O k) 0 0 6 = nI k := by rw [shS_ne (by decide), e0]; exact hO.1
      generalize shS N0 q 40 (fiG L (vwM N) O k) = N1 at e6 ⊢
      refine ri_ild a_X7_film_33 rfl ?_
      refine ri_ic a_X7_film_34 ?_
      refine ri_icmp_ge a_X7_film_36 (fun zc11 => ?_) (fun zc11 => ?_)
      · refine ri_ald a_X7_film_101 rfl ?_
        refine ri_getI a_X7_film_102 fl_X7_100 kM_0_6 rfl iM_0 ?_
        refine ri_ireturn a_X7_film_105 rfl rfl ?_
        exact rX ⟨e6, rfl⟩
      · exact absurd (by decide) zc11
    | succ r ih =>
      intro i hi
      have hih := ih (i + 1) (by omega)
      rw [← shS_s] at hih
      have e6 : shS N0 q i (fiG L (vwM N) O k) 0 0 6 = nI k := by rw [shS_ne (by decide), e0]; exact hO.1
      have h5 : shS N0 q i (fiG L (vwM N) O k) 5 = N 5 := by rw [shS_ne (by decide), e5]
      have hL1 : lawN (shS N0 q i (fiG L (vwM N) O k)) L := by
        obtain ⟨t, a, b, c⟩ := hL
        exact ⟨t, a, by rw [shS_ne (by decide), e0]; exact b, txN_eq (by rw [shS_ne (by decide), e7]) (by rw [shS_ne (by decide), e8]) c⟩
      have hV : vwM (shS N0 q i (fiG L (vwM N) O k)) = vwM N := by
        rw [← eV]
        unfold vwM
        rw [shS_ne (by decide), shS_ne (by decide), shS_ne (by decide), shS_ne (by decide)]
      have ic : vp_in (40 * nI q + nI i) 160 := by rw [nI_40a]; exact vp_in_nI (by omega) (by decide)
      have cc : (40 * nI q + nI i).toNatClampNeg = 40 * q + i := by rw [nI_40a, nI_clamp (by omega)]
      generalize shS N0 q i (fiG L (vwM N) O k) = N1 at e6 h5 hL1 hV hih ⊢
      by_cases hik : i < k
      · obtain ⟨ho, hon⟩ := hO.2.2 i hik
        have ew : (if 0 ≤ nI i then (if nI i ≤ 7 then nI i else 7) else 0) = nI i := by
          rw [if_pos (nI_pos' (by omega)), if_pos (show nI i ≤ 7 from nI_le (b := 7) (by omega) (by decide))]
        have ei : N1 5 0 (nI i).toNatClampNeg = nI (O i) := by rw [h5, nI_clamp (by omega)]; exact ho
        have hri := ok_X7_risesOf (w := w) (d := d - 1) (N := N1) (q := O i) (by omega) hL1 (by omega) (nI i)
        rw [hV] at hri
        rw [Nat.min_eq_left (by omega)] at hih ⊢
        refine ri_ild a_X7_film_33 rfl ?_
        refine ri_ic a_X7_film_34 ?_
        refine ri_icmp_ge a_X7_film_36 (fun zc11 => ?_) (fun zc11 => ?_)
        · exact absurd zc11 (nI_ge (b := 40) (by omega) (by decide))
        · refine ri_ild a_X7_film_39 rfl ?_
          refine ri_ild a_X7_film_40 rfl ?_
          refine ri_ald a_X7_film_41 rfl ?_
          refine ri_getI a_X7_film_42 fl_X7_100 kM_0_6 rfl iM_0 ?_
          refine ri_icmp_ge a_X7_film_45 (fun zc12 => ?_) (fun zc12 => ?_)
          · exact absurd (by assumption) (show ¬ N1 0 0 6 ≤ nI i by rw [e6]; exact nI_ge hik (by omega))
          · refine ri_ald a_X7_film_48 rfl ?_
            refine ri_ald a_X7_film_49 rfl ?_
            refine ri_getR (t' := 5) (i' := 0) a_X7_film_50 fl_X7_22 kM_0_5 rfl iM_0 (Or.inr ⟨rfl, rfl, rfl⟩) ?_
            refine ri_ild a_X7_film_53 rfl ?_
            refine ri_ic a_X7_film_54 ?_
            refine ri_ic a_X7_film_55 ?_
            refine ri_cSpi (as := [vi (nI i), vi 0, vi 7]) (rest := [vo 5 0, vo 0 0, vi (hiS L (vwM N) O i)]) (d' := d - 1) a_X7_film_57 ms_X7_within ml_X7_179 (by omega) (ok_X7_within (nI i) 0 7) (Nat.le_of_ble_eq_true rfl) rfl (fun zy13 ezy13 => ?_)
            rw [ew] at ezy13
            subst ezy13
            refine ri_iaload a_X7_film_60 lM_5 rfl iM_5 (vp_in_nI (by omega) (by decide)) ?_
            rw [ei]
            refine ri_ild a_X7_film_61 rfl ?_
            refine ri_cVpi (as := [vi (nI (O i)), vi (nI i)]) (rest := [vi (hiS L (vwM N) O i)]) (d' := d - 1) a_X7_film_62 mv_X7_risesOf ml_X7_195 (rcM_0 iM_0) (by omega) (hri) (Nat.le_of_ble_eq_true rfl) rfl (fun zy21 ezy21 => ?_)
            refine ri_goto a_X7_film_65 ?_
            refine ri_iadd a_X7_film_69 ?_
            refine ri_ist (f := fun zx22 => [some (vo 0 0), some (vi (nI q)), some (vi zx22), some (vi (nI i))]) a_X7_film_70 (fun _ => rfl) (fun zx22 ezx22 => ?_)
            refine ri_ald a_X7_film_71 rfl ?_
            refine ri_getR (t' := 13) (i' := 0) a_X7_film_72 fl_X7_46 kM_0_19 rfl iM_0 (Or.inr ⟨rfl, rfl, rfl⟩) ?_
            refine ri_ic a_X7_film_75 ?_
            refine ri_ild a_X7_film_77 rfl ?_
            refine ri_imul a_X7_film_78 ?_
            refine ri_ild a_X7_film_79 rfl ?_
            refine ri_iadd a_X7_film_80 ?_
            refine ri_ild a_X7_film_81 rfl ?_
            refine ri_ald a_X7_film_82 rfl ?_
            refine ri_getI a_X7_film_83 fl_X7_100 kM_0_6 rfl iM_0 ?_
            refine ri_icmp_ge a_X7_film_86 (fun zc23 => ?_) (fun zc23 => ?_)
            · exact absurd (by assumption) (show ¬ N1 0 0 6 ≤ nI i by rw [e6]; exact nI_ge hik (by omega))
            · refine ri_ild a_X7_film_89 rfl ?_
              refine ri_goto a_X7_film_90 ?_
              refine ri_iastore a_X7_film_94 lM_13 rfl iM_13 ic (fun zM24 ezM24 => ?_)
              refine ri_iinc (c0 := 1) (f := fun zx25 => [some (vo 0 0), some (vi (nI q)), some (vi zx22), some (vi zx25)]) a_X7_film_95 rfl (by decide) (fun _ => rfl) (fun zx25 ezx25 => ?_)
              refine ri_goto a_X7_film_98 ?_
              have ehi : zx22 = hiS L (vwM N) O (i + 1) := by rw [ezx22, ezy21]; rfl
              rw [cc, ehi] at *
              have : fiG L (vwM N) O k i = hiS L (vwM N) O (i + 1) := by unfold fiG; rw [if_pos hik]
              rw [this] at hih
              subst_vars
              rw [nI_1]
              exact hih
      · have emn : min (i + 1) k = min i k := by omega
        rw [emn] at hih
        have : fiG L (vwM N) O k i = 0 := by unfold fiG; rw [if_neg hik]
        rw [this] at hih
        have hge : N1 0 0 6 ≤ nI i := by rw [e6]; exact nI_le (by omega) (by omega)
        generalize hiS L (vwM N) O (min i k) = hv at hih ⊢
        refine ri_ild a_X7_film_33 rfl ?_
        refine ri_ic a_X7_film_34 ?_
        refine ri_icmp_ge a_X7_film_36 (fun zc11 => ?_) (fun zc11 => ?_)
        · exact absurd zc11 (nI_ge (b := 40) (by omega) (by decide))
        · refine ri_ild a_X7_film_39 rfl ?_
          refine ri_ild a_X7_film_40 rfl ?_
          refine ri_ald a_X7_film_41 rfl ?_
          refine ri_getI a_X7_film_42 fl_X7_100 kM_0_6 rfl iM_0 ?_
          refine ri_icmp_ge a_X7_film_45 (fun zc12 => ?_) (fun zc12 => ?_)
          · refine ri_ic a_X7_film_68 ?_
            refine ri_iadd a_X7_film_69 ?_
            refine ri_ist (f := fun zx13 => [some (vo 0 0), some (vi (nI q)), some (vi zx13), some (vi (nI i))]) a_X7_film_70 (fun _ => rfl) (fun zx13 ezx13 => ?_)
            refine ri_ald a_X7_film_71 rfl ?_
            refine ri_getR (t' := 13) (i' := 0) a_X7_film_72 fl_X7_46 kM_0_19 rfl iM_0 (Or.inr ⟨rfl, rfl, rfl⟩) ?_
            refine ri_ic a_X7_film_75 ?_
            refine ri_ild a_X7_film_77 rfl ?_
            refine ri_imul a_X7_film_78 ?_
            refine ri_ild a_X7_film_79 rfl ?_
            refine ri_iadd a_X7_film_80 ?_
            refine ri_ild a_X7_film_81 rfl ?_
            refine ri_ald a_X7_film_82 rfl ?_
            refine ri_getI a_X7_film_83 fl_X7_100 kM_0_6 rfl iM_0 ?_
            refine ri_icmp_ge a_X7_film_86 (fun zc14 => ?_) (fun zc14 => ?_)
            · refine ri_ic a_X7_film_93 ?_
              refine ri_iastore a_X7_film_94 lM_13 rfl iM_13 ic (fun zM15 ezM15 => ?_)
              refine ri_iinc (c0 := 1) (f := fun zx16 => [some (vo 0 0), some (vi (nI q)), some (vi zx13), some (vi zx16)]) a_X7_film_95 rfl (by decide) (fun _ => rfl) (fun zx16 ezx16 => ?_)
              refine ri_goto a_X7_film_98 ?_
              rw [cc] at *
              subst_vars
              rw [nI_1, Int32.add_zero]
              exact hih
            · exact absurd hge (by assumption)
          · exact absurd hge (by assumption)
  refine lr_ok (by decide +kernel) rfl ?_
  refine ri_ild a_X7_film_0 rfl ?_
  refine ri_ic a_X7_film_1 ?_
  refine ri_ic a_X7_film_2 ?_
  refine ri_cSpb (as := [vi (nI q), vi 0, vi 3]) (rest := []) (d' := d - 1) a_X7_film_3 ms_X7_in ml_X7_96 (by omega) (ok_X7_in (nI q) 0 3) (Nat.le_of_ble_eq_true rfl) rfl (fun zc1 => ?_) (fun zc1 => ?_)
  · refine ri_if_ne a_X7_film_6 (fun _ => ?_) (fun q => absurd q (by decide))
    refine ri_ic a_X7_film_12 ?_
    refine ri_istk (ls' := [some (vo 0 0), some (vi (nI q)), some (vi 0), none]) a_X7_film_13 rfl ?_
    refine ri_ald a_X7_film_14 rfl ?_
    refine ri_getR (t' := 11) (i' := 0) a_X7_film_15 fl_X7_40 kM_0_17 rfl iM_0 (Or.inr ⟨rfl, rfl, rfl⟩) ?_
    refine ri_ild a_X7_film_18 rfl ?_
    refine ri_ic a_X7_film_19 ?_
    refine ri_iastore a_X7_film_20 lM_11 rfl iM_11 (vp_in_nI hq (by decide)) (fun zM2 ezM2 => ?_)
    refine ri_ald a_X7_film_21 rfl ?_
    refine ri_getR (t' := 12) (i' := 0) a_X7_film_22 fl_X7_43 kM_0_18 rfl iM_0 (Or.inr ⟨rfl, rfl, rfl⟩) ?_
    refine ri_ild a_X7_film_25 rfl ?_
    refine ri_ald a_X7_film_26 rfl ?_
    refine ri_getI a_X7_film_27 fl_X7_100 kM_0_6 rfl iM_0 ?_
    refine ri_iastore a_X7_film_30 lM_12 rfl iM_12 (vp_in_nI hq (by decide)) (fun zM3 ezM3 => ?_)
    refine ri_ic a_X7_film_31 ?_
    refine ri_istk (ls' := [some (vo 0 0), some (vi (nI q)), some (vi 0), some (vi 0)]) a_X7_film_32 rfl ?_
    rw [nI_clamp (by omega)] at ezM2 ezM3
    rw [show zM2 0 0 6 = nI k by rw [ezM2]; exact hO.1, ezM2, hN0] at ezM3
    have := loop 40 0 rfl
    rw [Nat.min_eq_left (Nat.zero_le _), shS_0] at this
    rw [ezM3]
    exact this
  · refine ri_if_ne a_X7_film_6 (fun q => absurd q (by decide)) (fun _ => ?_)
    refine ri_ic a_X7_film_9 ?_
    refine ri_ireturn a_X7_film_11 rfl rfl ?_
    exact absurd (s4 hq) zc1
theorem no_X7_film {w : Wd} {d : Nat} (hd : 1 ≤ d) {N : Mem} {s : Int32} (hs : ¬ (0 ≤ s ∧ s ≤ 3)) : lr_Ok tM sM w d jX7_film [vo 0 0, vi s] N (qI (-2) N) := by
  refine lr_ok (by decide +kernel) rfl ?_
  refine ri_ild a_X7_film_0 rfl ?_
  refine ri_ic a_X7_film_1 ?_
  refine ri_ic a_X7_film_2 ?_
  refine ri_cSpb (as := [vi s, vi 0, vi 3]) (rest := []) (d' := d - 1) a_X7_film_3 ms_X7_in ml_X7_96 (by omega) (ok_X7_in s 0 3) (Nat.le_of_ble_eq_true rfl) rfl (fun zc1 => ?_) (fun zc1 => ?_)
  · refine ri_if_ne a_X7_film_6 (fun _ => ?_) (fun q => absurd q (by decide))
    exact absurd zc1 hs
  · refine ri_if_ne a_X7_film_6 (fun q => absurd q (by decide)) (fun _ => ?_)
    refine ri_ic a_X7_film_9 ?_
    refine ri_ireturn a_X7_film_11 rfl rfl ?_
    exact rI rfl rfl

