/-! reference: sheets, told nights -/
theorem ok_X7_sheetWrong {w : Wd} {d : Nat} (hd : 1 ≤ d) {N : Mem} {q : Nat} (hq : q < 4) : lr_Ok tM sM w d jX7_sheetWrong [vo 0 0, vi (nI q)] N (qI (if N 11 0 q = -1 then -11 else if N 12 0 q ≤ N 0 0 6 then 0 else -2) N) := by
  have eq : (nI q).toNatClampNeg = q := nI_clamp (by omega)
  refine lr_ok (by decide +kernel) rfl ?_
  refine ri_ild a_X7_sheetWrong_0 rfl ?_
  refine ri_ic a_X7_sheetWrong_1 ?_
  refine ri_ic a_X7_sheetWrong_2 ?_
  refine ri_cSpb (as := [vi (nI q), vi 0, vi 3]) (rest := []) (d' := d - 1) a_X7_sheetWrong_3 ms_X7_in ml_X7_96 (by omega) (ok_X7_in (nI q) 0 3) (Nat.le_of_ble_eq_true rfl) rfl (fun zc1 => ?_) (fun zc1 => ?_)
  · refine ri_if_ne a_X7_sheetWrong_6 (fun _ => ?_) (fun q => absurd q (by decide))
    refine ri_ald a_X7_sheetWrong_12 rfl ?_
    refine ri_getR (t' := 11) (i' := 0) a_X7_sheetWrong_13 fl_X7_40 kM_0_17 rfl iM_0 (Or.inr ⟨rfl, rfl, rfl⟩) ?_
    refine ri_ild a_X7_sheetWrong_16 rfl ?_
    refine ri_iaload a_X7_sheetWrong_17 lM_11 rfl iM_11 (vp_in_nI hq (by decide)) ?_
    refine ri_ic a_X7_sheetWrong_18 ?_
    refine ri_icmp_ne a_X7_sheetWrong_19 (fun zc2 => ?_) (fun zc2 => ?_)
    · refine ri_ald a_X7_sheetWrong_25 rfl ?_
      refine ri_getR (t' := 12) (i' := 0) a_X7_sheetWrong_26 fl_X7_43 kM_0_18 rfl iM_0 (Or.inr ⟨rfl, rfl, rfl⟩) ?_
      refine ri_ild a_X7_sheetWrong_29 rfl ?_
      refine ri_iaload a_X7_sheetWrong_30 lM_12 rfl iM_12 (vp_in_nI hq (by decide)) ?_
      refine ri_ald a_X7_sheetWrong_31 rfl ?_
      refine ri_getI a_X7_sheetWrong_32 fl_X7_100 kM_0_6 rfl iM_0 ?_
      refine ri_icmp_le a_X7_sheetWrong_35 (fun zc3 => ?_) (fun zc3 => ?_)
      · refine ri_ic a_X7_sheetWrong_43 ?_
        refine ri_ireturn a_X7_sheetWrong_44 rfl rfl ?_
        first
        | exact absurd (s4 hq) (by assumption)
        | (simp only [eq] at *; exact rI (by simp only [*, if_true, if_false]) rfl)
      · refine ri_ic a_X7_sheetWrong_38 ?_
        refine ri_goto a_X7_sheetWrong_40 ?_
        refine ri_ireturn a_X7_sheetWrong_44 rfl rfl ?_
        first
        | exact absurd (s4 hq) (by assumption)
        | (simp only [eq] at *; exact rI (by simp only [*, if_true, if_false]) rfl)
    · refine ri_ic a_X7_sheetWrong_22 ?_
      refine ri_ireturn a_X7_sheetWrong_24 rfl rfl ?_
      first
      | exact absurd (s4 hq) (by assumption)
      | (simp only [eq] at *; exact rI (by simp only [*, if_true, if_false]) rfl)
  · refine ri_if_ne a_X7_sheetWrong_6 (fun q => absurd q (by decide)) (fun _ => ?_)
    refine ri_ic a_X7_sheetWrong_9 ?_
    refine ri_ireturn a_X7_sheetWrong_11 rfl rfl ?_
    first
    | exact absurd (s4 hq) (by assumption)
    | (simp only [eq] at *; exact rI (by simp only [*, if_true, if_false]) rfl)
theorem no_X7_sheetWrong {w : Wd} {d : Nat} (hd : 1 ≤ d) {N : Mem} {s : Int32} (hs : ¬ (0 ≤ s ∧ s ≤ 3)) : lr_Ok tM sM w d jX7_sheetWrong [vo 0 0, vi s] N (qI (-2) N) := by
  refine lr_ok (by decide +kernel) rfl ?_
  refine ri_ild a_X7_sheetWrong_0 rfl ?_
  refine ri_ic a_X7_sheetWrong_1 ?_
  refine ri_ic a_X7_sheetWrong_2 ?_
  refine ri_cSpb (as := [vi s, vi 0, vi 3]) (rest := []) (d' := d - 1) a_X7_sheetWrong_3 ms_X7_in ml_X7_96 (by omega) (ok_X7_in s 0 3) (Nat.le_of_ble_eq_true rfl) rfl (fun zc1 => ?_) (fun zc1 => ?_)
  · refine ri_if_ne a_X7_sheetWrong_6 (fun _ => ?_) (fun q => absurd q (by decide))
    exact absurd zc1 hs
  · refine ri_if_ne a_X7_sheetWrong_6 (fun q => absurd q (by decide)) (fun _ => ?_)
    refine ri_ic a_X7_sheetWrong_9 ?_
    refine ri_ireturn a_X7_sheetWrong_11 rfl rfl ?_
    exact rI rfl rfl
theorem ok_X7_unlike {w : Wd} {d : Nat} (hd : 4 ≤ d) {N : Mem} {q m k n : Nat} {L : List (List Op)} {O : Nat → Nat} (hL : lawN N L) (hq : q < 4) (hm : N 12 0 q = nI m) (hmk : m ≤ k) (hO : orN N O k n) (hn8 : n ≤ 8) : lr_Ok tM sM w d jX7_unlike [vo 0 0, vi (nI q)] N (qI (foF L (vwM N) O (shN N q) m 0 0) N) := by
  have hk8 := hO.2.1
  have e12 : N 12 0 (nI q).toNatClampNeg = nI m := by rw [nI_clamp (by omega)]; exact hm
  have loop : ∀ r i h, m = i + r → lr_W tM sM w d jX7_unlike 4 [some (vo 0 0), some (vi (nI q)), some (vi h), some (vi (nI i))] [] N (qI (foF L (vwM N) O (shN N q) r i h) N) := by
    intro r
    induction r with
    | zero =>
      intro i h hi
      have : m = i := hi
      subst this
      refine ri_ild a_X7_unlike_4 rfl ?_
      refine ri_ald a_X7_unlike_5 rfl ?_
      refine ri_getR (t' := 12) (i' := 0) a_X7_unlike_6 fl_X7_43 kM_0_18 rfl iM_0 (Or.inr ⟨rfl, rfl, rfl⟩) ?_
      refine ri_ild a_X7_unlike_9 rfl ?_
      refine ri_iaload a_X7_unlike_10 lM_12 rfl iM_12 (vp_in_nI hq (by decide)) ?_
      refine ri_icmp_ge a_X7_unlike_11 (fun zc1 => ?_) (fun zc1 => ?_)
      · refine ri_ic a_X7_unlike_57 ?_
        refine ri_ireturn a_X7_unlike_58 rfl rfl ?_
        exact rI rfl rfl
      · exact absurd (by rw [e12]; exact Int32.le_refl _) zc1
    | succ r ih =>
      intro i h hi
      obtain ⟨ho, hon⟩ := hO.2.2 i (by omega)
      have ew : (if 0 ≤ nI i then (if nI i ≤ 7 then nI i else 7) else 0) = nI i := by
        rw [if_pos (nI_pos' (by omega)), if_pos (show nI i ≤ 7 from nI_le (b := 7) (by omega) (by decide))]
      have ei : N 5 0 (nI i).toNatClampNeg = nI (O i) := by rw [nI_clamp (by omega)]; exact ho
      have hri := ok_X7_risesOf (w := w) (d := d - 1) (N := N) (q := O i) (by omega) hL (by omega) (nI i)
      have ic : vp_in (40 * nI q + nI i) 160 := by rw [nI_40a]; exact vp_in_nI (by omega) (by decide)
      have ec : N 13 0 (40 * nI q + nI i).toNatClampNeg = shN N q i := by rw [nI_40a, nI_clamp (by omega)]; rfl
      rw [foF]
      refine ri_ild a_X7_unlike_4 rfl ?_
      refine ri_ald a_X7_unlike_5 rfl ?_
      refine ri_getR (t' := 12) (i' := 0) a_X7_unlike_6 fl_X7_43 kM_0_18 rfl iM_0 (Or.inr ⟨rfl, rfl, rfl⟩) ?_
      refine ri_ild a_X7_unlike_9 rfl ?_
      refine ri_iaload a_X7_unlike_10 lM_12 rfl iM_12 (vp_in_nI hq (by decide)) ?_
      refine ri_icmp_ge a_X7_unlike_11 (fun zc11 => ?_) (fun zc11 => ?_)
      · exact absurd zc11 (by rw [e12]; exact nI_ge (by omega) (by omega))
      · refine ri_ild a_X7_unlike_14 rfl ?_
        refine ri_ald a_X7_unlike_15 rfl ?_
        refine ri_ald a_X7_unlike_16 rfl ?_
        refine ri_getR (t' := 5) (i' := 0) a_X7_unlike_17 fl_X7_22 kM_0_5 rfl iM_0 (Or.inr ⟨rfl, rfl, rfl⟩) ?_
        refine ri_ild a_X7_unlike_20 rfl ?_
        refine ri_ic a_X7_unlike_21 ?_
        refine ri_ic a_X7_unlike_22 ?_
        refine ri_cSpi (as := [vi (nI i), vi 0, vi 7]) (rest := [vo 5 0, vo 0 0, vi h]) (d' := d - 1) a_X7_unlike_24 ms_X7_within ml_X7_179 (by omega) (ok_X7_within (nI i) 0 7) (Nat.le_of_ble_eq_true rfl) rfl (fun zy12 ezy12 => ?_)
        rw [ew] at ezy12
        subst ezy12
        refine ri_iaload a_X7_unlike_27 lM_5 rfl iM_5 (vp_in_nI (by omega) (by decide)) ?_
        rw [ei]
        refine ri_ild a_X7_unlike_28 rfl ?_
        refine ri_cVpi (as := [vi (nI (O i)), vi (nI i)]) (rest := [vi h]) (d' := d - 1) a_X7_unlike_29 mv_X7_risesOf ml_X7_195 (rcM_0 iM_0) (by omega) (hri) (Nat.le_of_ble_eq_true rfl) rfl (fun zy21 ezy21 => ?_)
        refine ri_iadd a_X7_unlike_32 ?_
        refine ri_ist (f := fun zx22 => [some (vo 0 0), some (vi (nI q)), some (vi zx22), some (vi (nI i))]) a_X7_unlike_33 (fun _ => rfl) (fun zx22 ezx22 => ?_)
        refine ri_ald a_X7_unlike_34 rfl ?_
        refine ri_getR (t' := 13) (i' := 0) a_X7_unlike_35 fl_X7_46 kM_0_19 rfl iM_0 (Or.inr ⟨rfl, rfl, rfl⟩) ?_
        refine ri_ic a_X7_unlike_38 ?_
        refine ri_ild a_X7_unlike_40 rfl ?_
        refine ri_imul a_X7_unlike_41 ?_
        refine ri_ild a_X7_unlike_42 rfl ?_
        refine ri_iadd a_X7_unlike_43 ?_
        refine ri_iaload a_X7_unlike_44 lM_13 rfl iM_13 ic ?_
        refine ri_ild a_X7_unlike_45 rfl ?_
        refine ri_icmp_eq a_X7_unlike_46 (fun zc23 => ?_) (fun zc23 => ?_)
        · refine ri_iinc (c0 := 1) (f := fun zx24 => [some (vo 0 0), some (vi (nI q)), some (vi zx22), some (vi zx24)]) a_X7_unlike_51 rfl (by decide) (fun _ => rfl) (fun zx24 ezx24 => ?_)
          refine ri_goto a_X7_unlike_54 ?_
          rw [ec, ezx22, ezy21] at zc23
          rw [if_pos zc23.symm, ezx24, ezx22, ezy21, nI_1]
          exact ih (i + 1) _ (by omega)
        · refine ri_ild a_X7_unlike_49 rfl ?_
          refine ri_ireturn a_X7_unlike_50 rfl rfl ?_
          rw [ec, ezx22, ezy21] at zc23
          exact rI (by rw [if_neg (fun z => zc23 z.symm)]) rfl
  refine lr_ok (by decide +kernel) rfl ?_
  refine ri_ic a_X7_unlike_0 ?_
  refine ri_istk (ls' := [some (vo 0 0), some (vi (nI q)), some (vi 0), none]) a_X7_unlike_1 rfl ?_
  refine ri_ic a_X7_unlike_2 ?_
  refine ri_istk (ls' := [some (vo 0 0), some (vi (nI q)), some (vi 0), some (vi 0)]) a_X7_unlike_3 rfl ?_
  exact loop m 0 0 (by omega)
theorem mk_le {N : Mem} {q m k n : Nat} {O : Nat → Nat} (hm : N 12 0 q = nI m) (hm40 : m ≤ 40) (hO : orN N O k n) (h : N 12 0 q ≤ N 0 0 6) : m ≤ k := by
  have := hO.2.1
  rw [hm, hO.1] at h
  exact (nI_leI (by omega) (by omega)).1 h
theorem ok_X7_judge {w : Wd} {d : Nat} (hd : 5 ≤ d) {N : Mem} {q m k n : Nat} {L : List (List Op)} {O : Nat → Nat} (hL : lawN N L) (hq : q < 4) (hm : N 12 0 q = nI m) (hm40 : m ≤ 40) (hO : orN N O k n) (hn8 : n ≤ 8) : lr_Ok tM sM w d jX7_judge [vo 0 0, vi (nI q)] N (qI (if N 11 0 q = -1 then -11 else if N 12 0 q ≤ N 0 0 6 then foF L (vwM N) O (shN N q) m 0 0 else -2) N) := by
  refine lr_ok (by decide +kernel) rfl ?_
  refine ri_ald a_X7_judge_0 rfl ?_
  refine ri_ild a_X7_judge_1 rfl ?_
  refine ri_cVpi (as := [vi (nI q)]) (rest := []) (d' := d - 1) a_X7_judge_2 mv_X7_sheetWrong ml_X7_252 (rcM_0 iM_0) (by omega) (ok_X7_sheetWrong (by omega) hq) (Nat.le_of_ble_eq_true rfl) rfl (fun zy1 ezy1 => ?_)
  refine ri_istk (ls' := [some (vo 0 0), some (vi (nI q)), some (vi zy1)]) a_X7_judge_5 rfl ?_
  refine ri_ild a_X7_judge_6 rfl ?_
  refine ri_if_ne a_X7_judge_7 (fun zc2 => ?_) (fun zc2 => ?_)
  · refine ri_ild a_X7_judge_18 rfl ?_
    refine ri_ireturn a_X7_judge_19 rfl rfl ?_
    rw [ezy1] at zc2 ⊢
    exact rI (nr1 zc2) rfl
  · have h := nr0 (ezy1.symm.trans zc2)
    refine ri_ald a_X7_judge_10 rfl ?_
    refine ri_ild a_X7_judge_11 rfl ?_
    refine ri_cVpi (as := [vi (nI q)]) (rest := []) (d' := d - 1) a_X7_judge_12 mv_X7_unlike ml_X7_255 (rcM_0 iM_0) (by omega) (ok_X7_unlike (by omega) hL hq hm (mk_le hm hm40 hO h.2) hO hn8) (Nat.le_of_ble_eq_true rfl) rfl (fun zy11 ezy11 => ?_)
    refine ri_goto a_X7_judge_15 ?_
    refine ri_ireturn a_X7_judge_19 rfl rfl ?_
    exact rI (by rw [if_neg h.1, if_pos h.2]; exact ezy11) rfl
theorem no_X7_judge {w : Wd} {d : Nat} (hd : 5 ≤ d) {N : Mem} {s : Int32} (hs : ¬ (0 ≤ s ∧ s ≤ 3)) : lr_Ok tM sM w d jX7_judge [vo 0 0, vi s] N (qI (-2) N) := by
  refine lr_ok (by decide +kernel) rfl ?_
  refine ri_ald a_X7_judge_0 rfl ?_
  refine ri_ild a_X7_judge_1 rfl ?_
  refine ri_cVpi (as := [vi s]) (rest := []) (d' := d - 1) a_X7_judge_2 mv_X7_sheetWrong ml_X7_252 (rcM_0 iM_0) (by omega) (no_X7_sheetWrong (by omega) hs) (Nat.le_of_ble_eq_true rfl) rfl (fun zy1 ezy1 => ?_)
  refine ri_istk (ls' := [some (vo 0 0), some (vi s), some (vi zy1)]) a_X7_judge_5 rfl ?_
  refine ri_ild a_X7_judge_6 rfl ?_
  refine ri_if_ne a_X7_judge_7 (fun zc2 => ?_) (fun zc2 => ?_)
  · refine ri_ild a_X7_judge_18 rfl ?_
    refine ri_ireturn a_X7_judge_19 rfl rfl ?_
    exact rI ezy1 rfl
  · exact absurd zc2 (by rw [ezy1]; decide)
/-- up again, over what was written before -/
theorem up_up {M : Mem} {t i k : Nat} {x y : Int32} : up (up M t i k x) t i k y = up M t i k y := by
  funext t' i' k'
  rw [up_apply, up_apply, up_apply]
  split <;> rfl
theorem up_self {M : Mem} {t i k : Nat} : up M t i k (M t i k) = M := by
  funext t' i' k'
  rw [up_apply]
  split
  · rename_i h; rw [h.1, h.2.1, h.2.2]
  · rfl
/-- counting upwards: how many, the least -/
def yuF (g : Nat → Prop) [DecidablePred g] : Nat → Nat → Int32 × Int32 → Int32 × Int32
  | 0, _, s => s
  | r + 1, v, s => yuF g r (v + 1) (if g v then (s.1 + 1, if s.2 = -1 then nI v else s.2) else s)
theorem ok_X7_years {w : Wd} {d : Nat} (hd : 5 ≤ d) {N : Mem} {q m k n : Nat} {L : List (List Op)} {O : Nat → Nat} (hL : lawN N L) (hq : q < 4) (hm : N 12 0 q = nI m) (hm40 : m ≤ 40) (hO : orN N O k n) (hn8 : n ≤ 8) (x : Int32) : lr_Ok tM sM w d jX7_years [vo 0 0, vi (nI q), vi x] N (qX fun r N' => N' = N ∧ r = if N 11 0 q = -1 then -11 else if N 12 0 q ≤ N 0 0 6 then (if 0 ≤ x ∧ x ≤ 1 then (if x = 0 then (yuF (fun v => foF L (rsV (vwM N) (nI v)) O (shN N q) m 0 0 = -1) 100 0 (0, -1)).1 else (yuF (fun v => foF L (rsV (vwM N) (nI v)) O (shN N q) m 0 0 = -1) 100 0 (0, -1)).2) else -7) else -2) := by
  have loop : m ≤ k → ∀ r v s y z8 N1, 100 = v + r → (∃ ru, N1 = up N 0 0 7 ru) → lr_W tM sM w d jX7_years 39 [some (vo 0 0), some (vi (nI q)), some (vi x), some (vi y), some (vi (N 0 0 7)), some (vi s.1), some (vi s.2), some (vi (nI v)), z8] [] N1 (qX fun r' N' => N' = N ∧ r' = if x = 0 then (yuF (fun v => foF L (rsV (vwM N) (nI v)) O (shN N q) m 0 0 = -1) r v s).1 else (yuF (fun v => foF L (rsV (vwM N) (nI v)) O (shN N q) m 0 0 = -1) r v s).2) := by
    intro hmk r
    induction r with
    | zero =>
      intro v s y z8 N1 hv hN1
      have : v = 100 := by omega
      subst this
      have hb : up N1 0 0 7 (N 0 0 7) = N := by
        obtain ⟨ru, rfl⟩ := hN1
        rw [up_up]
        exact up_self
      refine ri_ild a_X7_years_39 rfl ?_
      refine ri_ic a_X7_years_41 ?_
      refine ri_icmp_gt a_X7_years_43 (fun zc11 => ?_) (fun zc11 => ?_)
      · refine ri_ald a_X7_years_109 rfl ?_
        refine ri_ild a_X7_years_110 rfl ?_
        refine ri_putI a_X7_years_112 fp_X7_103 kM_0_7 rfl iM_0 (fun zM12 ezM12 => ?_)
        refine ri_ild a_X7_years_115 rfl ?_
        refine ri_if_ne a_X7_years_116 (fun zc13 => ?_) (fun zc13 => ?_)
        · refine ri_ild a_X7_years_124 rfl ?_
          refine ri_ireturn a_X7_years_126 rfl rfl ?_
          exact rX ⟨by rw [ezM12]; exact hb, by simp only [zc13, if_true, if_false]; rfl⟩
        · refine ri_ild a_X7_years_119 rfl ?_
          refine ri_goto a_X7_years_121 ?_
          refine ri_ireturn a_X7_years_126 rfl rfl ?_
          exact rX ⟨by rw [ezM12]; exact hb, by simp only [zc13, if_true, if_false]; rfl⟩
      · exact absurd (by decide) zc11
    | succ r ih =>
      intro v s y z8 N1 hv hN1
      rw [yuF]
      have eM : up N1 0 0 7 (nI v) = up N 0 0 7 (nI v) := by
        obtain ⟨ru, rfl⟩ := hN1
        exact up_up
      have hun : lr_Ok tM sM w (d - 1) jX7_unlike [vo 0 0, vi (nI q)] (up N 0 0 7 (nI v)) (qI (foF L (rsV (vwM N) (nI v)) O (shN N q) m 0 0) (up N 0 0 7 (nI v))) := by
        refine ok_X7_unlike (N := up N 0 0 7 (nI v)) (by omega) ?_ hq hm hmk hO hn8
        obtain ⟨t, a, b, c⟩ := hL
        exact ⟨t, a, b, txN_eq rfl rfl c⟩
      refine ri_ild a_X7_years_39 rfl ?_
      refine ri_ic a_X7_years_41 ?_
      refine ri_icmp_gt a_X7_years_43 (fun zc11 => ?_) (fun zc11 => ?_)
      · exact absurd zc11 (by rw [show (99 : Int32) = nI 99 from rfl]; exact nI_nlt (by omega) (by omega))
      · refine ri_ald a_X7_years_46 rfl ?_
        refine ri_ild a_X7_years_47 rfl ?_
        refine ri_putI a_X7_years_49 fp_X7_103 kM_0_7 rfl iM_0 (fun zM12 ezM12 => ?_)
        rw [eM] at ezM12
        subst ezM12
        generalize hN2 : up N 0 0 7 (nI v) = N2 at hun ⊢
        generalize hgv : foF L (rsV (vwM N) (nI v)) O (shN N q) m 0 0 = gv at hun
        refine ri_ald a_X7_years_52 rfl ?_
        refine ri_ild a_X7_years_53 rfl ?_
        refine ri_cVpi (as := [vi (nI q)]) (rest := []) (d' := d - 1) a_X7_years_54 mv_X7_unlike ml_X7_255 (rcM_0 iM_0) (by omega) (hun) (Nat.le_of_ble_eq_true rfl) rfl (fun zy21 ezy21 => ?_)
        refine ri_ic a_X7_years_57 ?_
        refine ri_icmp_ne a_X7_years_58 (fun zc22 => ?_) (fun zc22 => ?_)
        · refine ri_ic a_X7_years_65 ?_
          refine ri_istk (ls' := [some (vo 0 0), some (vi (nI q)), some (vi x), some (vi y), some (vi (N 0 0 7)), some (vi s.1), some (vi s.2), some (vi (nI v)), some (vi 0)]) a_X7_years_66 rfl ?_
          refine ri_ild a_X7_years_68 rfl ?_
          refine ri_ild a_X7_years_70 rfl ?_
          refine ri_if_eq a_X7_years_72 (fun _ => ?_) (fun q => absurd q (by decide))
          refine ri_ic a_X7_years_79 ?_
          refine ri_iadd a_X7_years_80 ?_
          refine ri_ist (f := fun zx23 => [some (vo 0 0), some (vi (nI q)), some (vi x), some (vi y), some (vi (N 0 0 7)), some (vi zx23), some (vi s.2), some (vi (nI v)), some (vi 0)]) a_X7_years_81 (fun _ => rfl) (fun zx23 ezx23 => ?_)
          refine ri_ild a_X7_years_83 rfl ?_
          refine ri_if_eq a_X7_years_85 (fun _ => ?_) (fun q => absurd q (by decide))
          refine ri_ild a_X7_years_99 rfl ?_
          refine ri_ist (f := fun zx24 => [some (vo 0 0), some (vi (nI q)), some (vi x), some (vi y), some (vi (N 0 0 7)), some (vi zx23), some (vi zx24), some (vi (nI v)), some (vi 0)]) a_X7_years_101 (fun _ => rfl) (fun zx24 ezx24 => ?_)
          refine ri_iinc (c0 := 1) (f := fun zx25 => [some (vo 0 0), some (vi (nI q)), some (vi x), some (vi y), some (vi (N 0 0 7)), some (vi zx23), some (vi zx24), some (vi zx25), some (vi 0)]) a_X7_years_103 rfl (by decide) (fun _ => rfl) (fun zx25 ezx25 => ?_)
          refine ri_goto a_X7_years_106 ?_
          have hg : ¬ gv = -1 := fun z => zc22 (ezy21.trans z)
          rw [ezx23, ezx24, ezx25, nI_1, Int32.add_zero]
          refine lr_Wimp (ih (v + 1) s _ _ N2 (by omega) ⟨_, hN2.symm⟩) ?_
          rintro r' M' ⟨z, h1, h2, h3⟩
          exact ⟨z, h1, h2, by rw [if_neg hg]; exact h3⟩
        · refine ri_ic a_X7_years_61 ?_
          refine ri_goto a_X7_years_62 ?_
          refine ri_istk (ls' := [some (vo 0 0), some (vi (nI q)), some (vi x), some (vi y), some (vi (N 0 0 7)), some (vi s.1), some (vi s.2), some (vi (nI v)), some (vi 1)]) a_X7_years_66 rfl ?_
          refine ri_ild a_X7_years_68 rfl ?_
          refine ri_ild a_X7_years_70 rfl ?_
          refine ri_if_eq a_X7_years_72 (fun q => absurd q (by decide)) (fun _ => ?_)
          refine ri_ic a_X7_years_75 ?_
          refine ri_goto a_X7_years_76 ?_
          refine ri_iadd a_X7_years_80 ?_
          refine ri_ist (f := fun zx26 => [some (vo 0 0), some (vi (nI q)), some (vi x), some (vi y), some (vi (N 0 0 7)), some (vi zx26), some (vi s.2), some (vi (nI v)), some (vi 1)]) a_X7_years_81 (fun _ => rfl) (fun zx26 ezx26 => ?_)
          refine ri_ild a_X7_years_83 rfl ?_
          refine ri_if_eq a_X7_years_85 (fun q => absurd q (by decide)) (fun _ => ?_)
          refine ri_ild a_X7_years_88 rfl ?_
          refine ri_ic a_X7_years_90 ?_
          refine ri_icmp_ne a_X7_years_91 (fun zc27 => ?_) (fun zc27 => ?_)
          · refine ri_ild a_X7_years_99 rfl ?_
            refine ri_ist (f := fun zx28 => [some (vo 0 0), some (vi (nI q)), some (vi x), some (vi y), some (vi (N 0 0 7)), some (vi zx26), some (vi zx28), some (vi (nI v)), some (vi 1)]) a_X7_years_101 (fun _ => rfl) (fun zx28 ezx28 => ?_)
            refine ri_iinc (c0 := 1) (f := fun zx29 => [some (vo 0 0), some (vi (nI q)), some (vi x), some (vi y), some (vi (N 0 0 7)), some (vi zx26), some (vi zx28), some (vi zx29), some (vi 1)]) a_X7_years_103 rfl (by decide) (fun _ => rfl) (fun zx29 ezx29 => ?_)
            refine ri_goto a_X7_years_106 ?_
            have hg : gv = -1 := ezy21.symm.trans zc22
            rw [ezx26, ezx28, ezx29, nI_1]
            refine lr_Wimp (ih (v + 1) (s.1 + 1, s.2) _ _ N2 (by omega) ⟨_, hN2.symm⟩) ?_
            rintro r' M' ⟨z, h1, h2, h3⟩
            exact ⟨z, h1, h2, by rw [if_pos hg, if_neg zc27]; exact h3⟩
          · refine ri_ild a_X7_years_94 rfl ?_
            refine ri_goto a_X7_years_96 ?_
            refine ri_ist (f := fun zx30 => [some (vo 0 0), some (vi (nI q)), some (vi x), some (vi y), some (vi (N 0 0 7)), some (vi zx26), some (vi zx30), some (vi (nI v)), some (vi 1)]) a_X7_years_101 (fun _ => rfl) (fun zx30 ezx30 => ?_)
            refine ri_iinc (c0 := 1) (f := fun zx31 => [some (vo 0 0), some (vi (nI q)), some (vi x), some (vi y), some (vi (N 0 0 7)), some (vi zx26), some (vi zx30), some (vi zx31), some (vi 1)]) a_X7_years_103 rfl (by decide) (fun _ => rfl) (fun zx31 ezx31 => ?_)
            refine ri_goto a_X7_years_106 ?_
            have hg : gv = -1 := ezy21.symm.trans zc22
            rw [ezx26, ezx30, ezx31, nI_1]
            refine lr_Wimp (ih (v + 1) (s.1 + 1, nI v) _ _ N2 (by omega) ⟨_, hN2.symm⟩) ?_
            rintro r' M' ⟨z, h1, h2, h3⟩
            exact ⟨z, h1, h2, by rw [if_pos hg, if_pos zc27]; exact h3⟩
  refine lr_ok (by decide +kernel) rfl ?_
  refine ri_ald a_X7_years_0 rfl ?_
  refine ri_ild a_X7_years_1 rfl ?_
  refine ri_cVpi (as := [vi (nI q)]) (rest := []) (d' := d - 1) a_X7_years_2 mv_X7_sheetWrong ml_X7_252 (rcM_0 iM_0) (by omega) (ok_X7_sheetWrong (by omega) hq) (Nat.le_of_ble_eq_true rfl) rfl (fun zy1 ezy1 => ?_)
  refine ri_istk (ls' := [some (vo 0 0), some (vi (nI q)), some (vi x), some (vi zy1), none, none, none, none, none]) a_X7_years_5 rfl ?_
  refine ri_ild a_X7_years_6 rfl ?_
  refine ri_if_eq a_X7_years_7 (fun zc2 => ?_) (fun zc2 => ?_)
  · refine ri_ild a_X7_years_12 rfl ?_
    refine ri_ic a_X7_years_13 ?_
    refine ri_ic a_X7_years_14 ?_
    refine ri_cSpb (as := [vi x, vi 0, vi 1]) (rest := []) (d' := d - 1) a_X7_years_15 ms_X7_in ml_X7_96 (by omega) (ok_X7_in x 0 1) (Nat.le_of_ble_eq_true rfl) rfl (fun zc3 => ?_) (fun zc3 => ?_)
    · refine ri_if_ne a_X7_years_18 (fun _ => ?_) (fun q => absurd q (by decide))
      refine ri_ald a_X7_years_24 rfl ?_
      refine ri_getI a_X7_years_25 fl_X7_103 kM_0_7 rfl iM_0 ?_
      have h := nr0 (ezy1.symm.trans zc2)
      refine ri_istk (ls' := [some (vo 0 0), some (vi (nI q)), some (vi x), some (vi zy1), some (vi (N 0 0 7)), none, none, none, none]) a_X7_years_28 rfl ?_
      refine ri_ic a_X7_years_30 ?_
      refine ri_istk (ls' := [some (vo 0 0), some (vi (nI q)), some (vi x), some (vi zy1), some (vi (N 0 0 7)), some (vi 0), none, none, none]) a_X7_years_31 rfl ?_
      refine ri_ic a_X7_years_33 ?_
      refine ri_istk (ls' := [some (vo 0 0), some (vi (nI q)), some (vi x), some (vi zy1), some (vi (N 0 0 7)), some (vi 0), some (vi (-1)), none, none]) a_X7_years_34 rfl ?_
      refine ri_ic a_X7_years_36 ?_
      refine ri_istk (ls' := [some (vo 0 0), some (vi (nI q)), some (vi x), some (vi zy1), some (vi (N 0 0 7)), some (vi 0), some (vi (-1)), some (vi 0), none]) a_X7_years_37 rfl ?_
      refine lr_Wimp (loop (mk_le hm hm40 hO h.2) 100 0 (0, -1) zy1 none N (by omega) ⟨N 0 0 7, up_self.symm⟩) ?_
      rintro r' M' ⟨z, h1, h2, h3⟩
      exact ⟨z, h1, h2, by rw [if_neg h.1, if_pos h.2, if_pos zc3]; exact h3⟩
    · refine ri_if_ne a_X7_years_18 (fun q => absurd q (by decide)) (fun _ => ?_)
      refine ri_ic a_X7_years_21 ?_
      refine ri_ireturn a_X7_years_23 rfl rfl ?_
      have h := nr0 (ezy1.symm.trans zc2)
      exact rX ⟨rfl, by rw [if_neg h.1, if_pos h.2, if_neg zc3]⟩
  · refine ri_ild a_X7_years_10 rfl ?_
    refine ri_ireturn a_X7_years_11 rfl rfl ?_
    rw [ezy1] at zc2 ⊢
    exact rX ⟨rfl, nr1 zc2⟩
theorem no_X7_years {w : Wd} {d : Nat} (hd : 5 ≤ d) {N : Mem} {s : Int32} (hs : ¬ (0 ≤ s ∧ s ≤ 3)) (x : Int32) : lr_Ok tM sM w d jX7_years [vo 0 0, vi s, vi x] N (qI (-2) N) := by
  refine lr_ok (by decide +kernel) rfl ?_
  refine ri_ald a_X7_years_0 rfl ?_
  refine ri_ild a_X7_years_1 rfl ?_
  refine ri_cVpi (as := [vi s]) (rest := []) (d' := d - 1) a_X7_years_2 mv_X7_sheetWrong ml_X7_252 (rcM_0 iM_0) (by omega) (no_X7_sheetWrong (by omega) hs) (Nat.le_of_ble_eq_true rfl) rfl (fun zy1 ezy1 => ?_)
  refine ri_istk (ls' := [some (vo 0 0), some (vi s), some (vi x), some (vi zy1), none, none, none, none, none]) a_X7_years_5 rfl ?_
  refine ri_ild a_X7_years_6 rfl ?_
  refine ri_if_eq a_X7_years_7 (fun zc2 => ?_) (fun zc2 => ?_)
  · exact absurd zc2 (by rw [ezy1]; decide)
  · refine ri_ild a_X7_years_10 rfl ?_
    refine ri_ireturn a_X7_years_11 rfl rfl ?_
    exact rI ezy1 rfl
theorem ok_X7_heights {w : Wd} {d : Nat} (hd : 5 ≤ d) {N : Mem} {q m k n : Nat} {L : List (List Op)} {O : Nat → Nat} (hL : lawN N L) (hq : q < 4) (hm : N 12 0 q = nI m) (hm40 : m ≤ 40) (hn : N 0 0 0 = nI n) (hO : orN N O k n) (hn8 : n ≤ 8) (p x : Int32) : lr_Ok tM sM w d jX7_heights [vo 0 0, vi (nI q), vi p, vi x] N (qX fun r N' => N' = N ∧ r = if N 11 0 q = -1 then -11 else if N 12 0 q ≤ N 0 0 6 then (if 0 ≤ p ∧ p < nI n then (if 0 ≤ x ∧ x ≤ 1 then (if x = 0 then (yuF (fun v => foF L (hgV (vwM N) p.toNatClampNeg (nI v)) O (shN N q) m 0 0 = -1) 100 0 (0, -1)).1 else (yuF (fun v => foF L (hgV (vwM N) p.toNatClampNeg (nI v)) O (shN N q) m 0 0 = -1) 100 0 (0, -1)).2) else -7) else -5) else -2) := by
  have loop : m ≤ k → ∀ p, p < 8 → ∀ r v s y z9 N1, 100 = v + r → (∃ hg, N1 = up N 3 0 (2 * p) hg) → lr_W tM sM w d jX7_heights 57 [some (vo 0 0), some (vi (nI q)), some (vi (nI p)), some (vi x), some (vi y), some (vi (N 3 0 (2 * p))), some (vi s.1), some (vi s.2), some (vi (nI v)), z9] [] N1 (qX fun r' N' => N' = N ∧ r' = if x = 0 then (yuF (fun v => foF L (hgV (vwM N) p (nI v)) O (shN N q) m 0 0 = -1) r v s).1 else (yuF (fun v => foF L (hgV (vwM N) p (nI v)) O (shN N q) m 0 0 = -1) r v s).2) := by
    intro hmk p hp r
    have i2 : vp_in (2 * nI p) 16 := by rw [nI_2m]; exact vp_in_nI (by omega) (by decide)
    have c2 : (2 * nI p).toNatClampNeg = 2 * p := by rw [nI_2m, nI_clamp (by omega)]
    induction r with
    | zero =>
      intro v s y z9 N1 hv hN1
      have : v = 100 := by omega
      subst this
      have hb : up N1 3 0 (2 * p) (N 3 0 (2 * p)) = N := by
        obtain ⟨ru, rfl⟩ := hN1
        rw [up_up]
        exact up_self
      refine ri_ild a_X7_heights_57 rfl ?_
      refine ri_ic a_X7_heights_59 ?_
      refine ri_icmp_gt a_X7_heights_61 (fun zc11 => ?_) (fun zc11 => ?_)
      · refine ri_ald a_X7_heights_131 rfl ?_
        refine ri_getR (t' := 3) (i' := 0) a_X7_heights_132 fl_X7_16 kM_0_3 rfl iM_0 (Or.inr ⟨rfl, rfl, rfl⟩) ?_
        refine ri_ic a_X7_heights_135 ?_
        refine ri_ild a_X7_heights_136 rfl ?_
        refine ri_imul a_X7_heights_137 ?_
        refine ri_ild a_X7_heights_138 rfl ?_
        refine ri_iastore a_X7_heights_140 lM_3 rfl iM_3 i2 (fun zM12 ezM12 => ?_)
        refine ri_ild a_X7_heights_141 rfl ?_
        refine ri_if_ne a_X7_heights_142 (fun zc13 => ?_) (fun zc13 => ?_)
        · refine ri_ild a_X7_heights_150 rfl ?_
          refine ri_ireturn a_X7_heights_152 rfl rfl ?_
          exact rX ⟨by rw [ezM12, c2]; exact hb, by simp only [zc13, if_true, if_false]; rfl⟩
        · refine ri_ild a_X7_heights_145 rfl ?_
          refine ri_goto a_X7_heights_147 ?_
          refine ri_ireturn a_X7_heights_152 rfl rfl ?_
          exact rX ⟨by rw [ezM12, c2]; exact hb, by simp only [zc13, if_true, if_false]; rfl⟩
      · exact absurd (by decide) zc11
    | succ r ih =>
      intro v s y z9 N1 hv hN1
      rw [yuF]
      have eM : up N1 3 0 (2 * p) (nI v) = up N 3 0 (2 * p) (nI v) := by
        obtain ⟨ru, rfl⟩ := hN1
        exact up_up
      have hun : lr_Ok tM sM w (d - 1) jX7_unlike [vo 0 0, vi (nI q)] (up N 3 0 (2 * p) (nI v)) (qI (foF L (hgV (vwM N) p (nI v)) O (shN N q) m 0 0) (up N 3 0 (2 * p) (nI v))) := by
        have eV : vwM (up N 3 0 (2 * p) (nI v)) = hgV (vwM N) p (nI v) := by
          unfold vwM hgV
          refine Prod.ext rfl (Prod.ext rfl (Prod.ext ?_ (Prod.ext ?_ rfl)))
          · funext i
            show up N 3 0 (2 * p) (nI v) 3 0 (2 * i) = if i = p then nI v else N 3 0 (2 * i)
            rw [up_apply]
            by_cases e : i = p
            · rw [if_pos ⟨rfl, rfl, by omega⟩, if_pos e]
            · rw [if_neg (fun z => e (by omega)), if_neg e]
          · funext i
            show up N 3 0 (2 * p) (nI v) 3 0 (2 * i + 1) = N 3 0 (2 * i + 1)
            rw [up_apply, if_neg (by omega)]
        have := ok_X7_unlike (w := w) (d := d - 1) (N := up N 3 0 (2 * p) (nI v)) (L := L) (O := O) (n := n) (by omega) ?_ hq hm hmk hO hn8
        · rw [eV] at this
          exact this
        · obtain ⟨t, a, b, c⟩ := hL
          exact ⟨t, a, b, txN_eq rfl rfl c⟩
      refine ri_ild a_X7_heights_57 rfl ?_
      refine ri_ic a_X7_heights_59 ?_
      refine ri_icmp_gt a_X7_heights_61 (fun zc11 => ?_) (fun zc11 => ?_)
      · exact absurd zc11 (by rw [show (99 : Int32) = nI 99 from rfl]; exact nI_nlt (by omega) (by omega))
      · refine ri_ald a_X7_heights_64 rfl ?_
        refine ri_getR (t' := 3) (i' := 0) a_X7_heights_65 fl_X7_16 kM_0_3 rfl iM_0 (Or.inr ⟨rfl, rfl, rfl⟩) ?_
        refine ri_ic a_X7_heights_68 ?_
        refine ri_ild a_X7_heights_69 rfl ?_
        refine ri_imul a_X7_heights_70 ?_
        refine ri_ild a_X7_heights_71 rfl ?_
        refine ri_iastore a_X7_heights_73 lM_3 rfl iM_3 i2 (fun zM12 ezM12 => ?_)
        rw [c2, eM] at ezM12
        subst ezM12
        generalize hN2 : up N 3 0 (2 * p) (nI v) = N2 at hun ⊢
        generalize hgv : foF L (hgV (vwM N) p (nI v)) O (shN N q) m 0 0 = gv at hun
        refine ri_ald a_X7_heights_74 rfl ?_
        refine ri_ild a_X7_heights_75 rfl ?_
        refine ri_cVpi (as := [vi (nI q)]) (rest := []) (d' := d - 1) a_X7_heights_76 mv_X7_unlike ml_X7_255 (rcM_0 iM_0) (by omega) (hun) (Nat.le_of_ble_eq_true rfl) rfl (fun zy21 ezy21 => ?_)
        refine ri_ic a_X7_heights_79 ?_
        refine ri_icmp_ne a_X7_heights_80 (fun zc22 => ?_) (fun zc22 => ?_)
        · refine ri_ic a_X7_heights_87 ?_
          refine ri_istk (ls' := [some (vo 0 0), some (vi (nI q)), some (vi (nI p)), some (vi x), some (vi y), some (vi (N 3 0 (2 * p))), some (vi s.1), some (vi s.2), some (vi (nI v)), some (vi 0)]) a_X7_heights_88 rfl ?_
          refine ri_ild a_X7_heights_90 rfl ?_
          refine ri_ild a_X7_heights_92 rfl ?_
          refine ri_if_eq a_X7_heights_94 (fun _ => ?_) (fun q => absurd q (by decide))
          refine ri_ic a_X7_heights_101 ?_
          refine ri_iadd a_X7_heights_102 ?_
          refine ri_ist (f := fun zx23 => [some (vo 0 0), some (vi (nI q)), some (vi (nI p)), some (vi x), some (vi y), some (vi (N 3 0 (2 * p))), some (vi zx23), some (vi s.2), some (vi (nI v)), some (vi 0)]) a_X7_heights_103 (fun _ => rfl) (fun zx23 ezx23 => ?_)
          refine ri_ild a_X7_heights_105 rfl ?_
          refine ri_if_eq a_X7_heights_107 (fun _ => ?_) (fun q => absurd q (by decide))
          refine ri_ild a_X7_heights_121 rfl ?_
          refine ri_ist (f := fun zx24 => [some (vo 0 0), some (vi (nI q)), some (vi (nI p)), some (vi x), some (vi y), some (vi (N 3 0 (2 * p))), some (vi zx23), some (vi zx24), some (vi (nI v)), some (vi 0)]) a_X7_heights_123 (fun _ => rfl) (fun zx24 ezx24 => ?_)
          refine ri_iinc (c0 := 1) (f := fun zx25 => [some (vo 0 0), some (vi (nI q)), some (vi (nI p)), some (vi x), some (vi y), some (vi (N 3 0 (2 * p))), some (vi zx23), some (vi zx24), some (vi zx25), some (vi 0)]) a_X7_heights_125 rfl (by decide) (fun _ => rfl) (fun zx25 ezx25 => ?_)
          refine ri_goto a_X7_heights_128 ?_
          have hg : ¬ gv = -1 := fun z => zc22 (ezy21.trans z)
          rw [ezx23, ezx24, ezx25, nI_1, Int32.add_zero]
          refine lr_Wimp (ih (v + 1) s _ _ N2 (by omega) ⟨_, hN2.symm⟩) ?_
          rintro r' M' ⟨z, h1, h2, h3⟩
          exact ⟨z, h1, h2, by rw [if_neg hg]; exact h3⟩
        · refine ri_ic a_X7_heights_83 ?_
          refine ri_goto a_X7_heights_84 ?_
          refine ri_istk (ls' := [some (vo 0 0), some (vi (nI q)), some (vi (nI p)), some (vi x), some (vi y), some (vi (N 3 0 (2 * p))), some (vi s.1), some (vi s.2), some (vi (nI v)), some (vi 1)]) a_X7_heights_88 rfl ?_
          refine ri_ild a_X7_heights_90 rfl ?_
          refine ri_ild a_X7_heights_92 rfl ?_
          refine ri_if_eq a_X7_heights_94 (fun q => absurd q (by decide)) (fun _ => ?_)
          refine ri_ic a_X7_heights_97 ?_
          refine ri_goto a_X7_heights_98 ?_
          refine ri_iadd a_X7_heights_102 ?_
          refine ri_ist (f := fun zx26 => [some (vo 0 0), some (vi (nI q)), some (vi (nI p)), some (vi x), some (vi y), some (vi (N 3 0 (2 * p))), some (vi zx26), some (vi s.2), some (vi (nI v)), some (vi 1)]) a_X7_heights_103 (fun _ => rfl) (fun zx26 ezx26 => ?_)
          refine ri_ild a_X7_heights_105 rfl ?_
          refine ri_if_eq a_X7_heights_107 (fun q => absurd q (by decide)) (fun _ => ?_)
          refine ri_ild a_X7_heights_110 rfl ?_
          refine ri_ic a_X7_heights_112 ?_
          refine ri_icmp_ne a_X7_heights_113 (fun zc27 => ?_) (fun zc27 => ?_)
          · refine ri_ild a_X7_heights_121 rfl ?_
            refine ri_ist (f := fun zx28 => [some (vo 0 0), some (vi (nI q)), some (vi (nI p)), some (vi x), some (vi y), some (vi (N 3 0 (2 * p))), some (vi zx26), some (vi zx28), some (vi (nI v)), some (vi 1)]) a_X7_heights_123 (fun _ => rfl) (fun zx28 ezx28 => ?_)
            refine ri_iinc (c0 := 1) (f := fun zx29 => [some (vo 0 0), some (vi (nI q)), some (vi (nI p)), some (vi x), some (vi y), some (vi (N 3 0 (2 * p))), some (vi zx26), some (vi zx28), some (vi zx29), some (vi 1)]) a_X7_heights_125 rfl (by decide) (fun _ => rfl) (fun zx29 ezx29 => ?_)
            refine ri_goto a_X7_heights_128 ?_
            have hg : gv = -1 := ezy21.symm.trans zc22
            rw [ezx26, ezx28, ezx29, nI_1]
            refine lr_Wimp (ih (v + 1) (s.1 + 1, s.2) _ _ N2 (by omega) ⟨_, hN2.symm⟩) ?_
            rintro r' M' ⟨z, h1, h2, h3⟩
            exact ⟨z, h1, h2, by rw [if_pos hg, if_neg zc27]; exact h3⟩
          · refine ri_ild a_X7_heights_116 rfl ?_
            refine ri_goto a_X7_heights_118 ?_
            refine ri_ist (f := fun zx30 => [some (vo 0 0), some (vi (nI q)), some (vi (nI p)), some (vi x), some (vi y), some (vi (N 3 0 (2 * p))), some (vi zx26), some (vi zx30), some (vi (nI v)), some (vi 1)]) a_X7_heights_123 (fun _ => rfl) (fun zx30 ezx30 => ?_)
            refine ri_iinc (c0 := 1) (f := fun zx31 => [some (vo 0 0), some (vi (nI q)), some (vi (nI p)), some (vi x), some (vi y), some (vi (N 3 0 (2 * p))), some (vi zx26), some (vi zx30), some (vi zx31), some (vi 1)]) a_X7_heights_125 rfl (by decide) (fun _ => rfl) (fun zx31 ezx31 => ?_)
            refine ri_goto a_X7_heights_128 ?_
            have hg : gv = -1 := ezy21.symm.trans zc22
            rw [ezx26, ezx30, ezx31, nI_1]
            refine lr_Wimp (ih (v + 1) (s.1 + 1, nI v) _ _ N2 (by omega) ⟨_, hN2.symm⟩) ?_
            rintro r' M' ⟨z, h1, h2, h3⟩
            exact ⟨z, h1, h2, by rw [if_pos hg, if_pos zc27]; exact h3⟩
  refine lr_ok (by decide +kernel) rfl ?_
  refine ri_ald a_X7_heights_0 rfl ?_
  refine ri_ild a_X7_heights_1 rfl ?_
  refine ri_cVpi (as := [vi (nI q)]) (rest := []) (d' := d - 1) a_X7_heights_2 mv_X7_sheetWrong ml_X7_252 (rcM_0 iM_0) (by omega) (ok_X7_sheetWrong (by omega) hq) (Nat.le_of_ble_eq_true rfl) rfl (fun zy1 ezy1 => ?_)
  refine ri_istk (ls' := [some (vo 0 0), some (vi (nI q)), some (vi p), some (vi x), some (vi zy1), none, none, none, none, none]) a_X7_heights_5 rfl ?_
  refine ri_ild a_X7_heights_7 rfl ?_
  refine ri_if_eq a_X7_heights_9 (fun zc2 => ?_) (fun zc2 => ?_)
  · refine ri_ald a_X7_heights_15 rfl ?_
    refine ri_ild a_X7_heights_16 rfl ?_
    refine ri_cVpb (as := [vi p]) (rest := []) (d' := d - 1) a_X7_heights_17 mv_X7_isOne ml_X7_182 (rcM_0 iM_0) (by omega) (ok_X7_isOne (by omega) hn hn8 p) (Nat.le_of_ble_eq_true rfl) rfl (fun zc3 => ?_) (fun zc3 => ?_)
    · refine ri_if_ne a_X7_heights_20 (fun _ => ?_) (fun q => absurd q (by decide))
      refine ri_ild a_X7_heights_26 rfl ?_
      refine ri_ic a_X7_heights_27 ?_
      refine ri_ic a_X7_heights_28 ?_
      refine ri_cSpb (as := [vi x, vi 0, vi 1]) (rest := []) (d' := d - 1) a_X7_heights_29 ms_X7_in ml_X7_96 (by omega) (ok_X7_in x 0 1) (Nat.le_of_ble_eq_true rfl) rfl (fun zc4 => ?_) (fun zc4 => ?_)
      · refine ri_if_ne a_X7_heights_32 (fun _ => ?_) (fun q => absurd q (by decide))
        have h := nr0 (ezy1.symm.trans zc2)
        obtain ⟨p', rfl, hp⟩ := inP zc3 rfl hn8
        have i2 : vp_in (2 * nI p') 16 := by rw [nI_2m]; exact vp_in_nI (by omega) (by decide)
        have c2 : (2 * nI p').toNatClampNeg = 2 * p' := by rw [nI_2m, nI_clamp (by omega)]
        refine ri_ald a_X7_heights_38 rfl ?_
        refine ri_getR (t' := 3) (i' := 0) a_X7_heights_39 fl_X7_16 kM_0_3 rfl iM_0 (Or.inr ⟨rfl, rfl, rfl⟩) ?_
        refine ri_ic a_X7_heights_42 ?_
        refine ri_ild a_X7_heights_43 rfl ?_
        refine ri_imul a_X7_heights_44 ?_
        refine ri_iaload a_X7_heights_45 lM_3 rfl iM_3 i2 ?_
        refine ri_ist (f := fun zx11 => [some (vo 0 0), some (vi (nI q)), some (vi (nI p')), some (vi x), some (vi zy1), some (vi zx11), none, none, none, none]) a_X7_heights_46 (fun _ => rfl) (fun zx11 ezx11 => ?_)
        refine ri_ic a_X7_heights_48 ?_
        refine ri_istk (ls' := [some (vo 0 0), some (vi (nI q)), some (vi (nI p')), some (vi x), some (vi zy1), some (vi zx11), some (vi 0), none, none, none]) a_X7_heights_49 rfl ?_
        refine ri_ic a_X7_heights_51 ?_
        refine ri_istk (ls' := [some (vo 0 0), some (vi (nI q)), some (vi (nI p')), some (vi x), some (vi zy1), some (vi zx11), some (vi 0), some (vi (-1)), none, none]) a_X7_heights_52 rfl ?_
        refine ri_ic a_X7_heights_54 ?_
        refine ri_istk (ls' := [some (vo 0 0), some (vi (nI q)), some (vi (nI p')), some (vi x), some (vi zy1), some (vi zx11), some (vi 0), some (vi (-1)), some (vi 0), none]) a_X7_heights_55 rfl ?_
        rw [c2] at ezx11
        subst ezx11
        refine lr_Wimp (loop (mk_le hm hm40 hO h.2) p' (by omega) 100 0 (0, -1) zy1 none N (by omega) ⟨N 3 0 (2 * p'), up_self.symm⟩) ?_
        rintro r' M' ⟨z, h1, h2, h3⟩
        exact ⟨z, h1, h2, by rw [if_neg h.1, if_pos h.2, if_pos zc3, if_pos zc4, nI_clamp (by omega)]; exact h3⟩
      · refine ri_if_ne a_X7_heights_32 (fun q => absurd q (by decide)) (fun _ => ?_)
        refine ri_ic a_X7_heights_35 ?_
        refine ri_ireturn a_X7_heights_37 rfl rfl ?_
        have h := nr0 (ezy1.symm.trans zc2)
        exact rX ⟨rfl, by rw [if_neg h.1, if_pos h.2, if_pos zc3, if_neg zc4]⟩
    · refine ri_if_ne a_X7_heights_20 (fun q => absurd q (by decide)) (fun _ => ?_)
      refine ri_ic a_X7_heights_23 ?_
      refine ri_ireturn a_X7_heights_25 rfl rfl ?_
      have h := nr0 (ezy1.symm.trans zc2)
      exact rX ⟨rfl, by rw [if_neg h.1, if_pos h.2, if_neg zc3]⟩
  · refine ri_ild a_X7_heights_12 rfl ?_
    refine ri_ireturn a_X7_heights_14 rfl rfl ?_
    rw [ezy1] at zc2 ⊢
    exact rX ⟨rfl, nr1 zc2⟩
theorem no_X7_heights {w : Wd} {d : Nat} (hd : 5 ≤ d) {N : Mem} {s : Int32} (hs : ¬ (0 ≤ s ∧ s ≤ 3)) (p x : Int32) : lr_Ok tM sM w d jX7_heights [vo 0 0, vi s, vi p, vi x] N (qI (-2) N) := by
  refine lr_ok (by decide +kernel) rfl ?_
  refine ri_ald a_X7_heights_0 rfl ?_
  refine ri_ild a_X7_heights_1 rfl ?_
  refine ri_cVpi (as := [vi s]) (rest := []) (d' := d - 1) a_X7_heights_2 mv_X7_sheetWrong ml_X7_252 (rcM_0 iM_0) (by omega) (no_X7_sheetWrong (by omega) hs) (Nat.le_of_ble_eq_true rfl) rfl (fun zy1 ezy1 => ?_)
  refine ri_istk (ls' := [some (vo 0 0), some (vi s), some (vi p), some (vi x), some (vi zy1), none, none, none, none, none]) a_X7_heights_5 rfl ?_
  refine ri_ild a_X7_heights_7 rfl ?_
  refine ri_if_eq a_X7_heights_9 (fun zc2 => ?_) (fun zc2 => ?_)
  · exact absurd zc2 (by rw [ezy1]; decide)
  · refine ri_ild a_X7_heights_12 rfl ?_
    refine ri_ireturn a_X7_heights_14 rfl rfl ?_
    exact rI ezy1 rfl
theorem ok_X7_laws {w : Wd} {d : Nat} (hd : 5 ≤ d) {N : Mem} {q m k n tc : Nat} {LL : Nat → List (List Op)} {O : Nat → Nat} (htc : N 0 0 12 = nI tc) (htc6 : tc ≤ 6) (hLL : ∀ t, t < tc → txN N t (LL t)) (hq : q < 4) (hm : N 12 0 q = nI m) (hm40 : m ≤ 40) (hO : orN N O k n) (hn8 : n ≤ 8) : lr_Ok tM sM w d jX7_laws [vo 0 0, vi (nI q)] N (qX fun r N' => N' = N ∧ r = if N 11 0 q = -1 then -11 else if N 12 0 q ≤ N 0 0 6 then bitA (fun t => foF (LL t) (vwM N) O (shN N q) m 0 0 = -1) tc 0 0 else -2) := by
  have loop : m ≤ k → ∀ r t a y N1, tc = t + r → (∃ ru, N1 = up N 0 0 13 ru) → lr_W tM sM w d jX7_laws 23 [some (vo 0 0), some (vi (nI q)), some (vi y), some (vi (N 0 0 13)), some (vi a), some (vi (nI t))] [] N1 (qX fun r' N' => N' = N ∧ r' = bitA (fun t => foF (LL t) (vwM N) O (shN N q) m 0 0 = -1) r t a) := by
    intro hmk r
    induction r with
    | zero =>
      intro t a y N1 hv hN1
      have : tc = t := hv
      subst this
      have e12 : N1 0 0 12 = nI tc := by obtain ⟨ru, rfl⟩ := hN1; exact htc
      have hb : up N1 0 0 13 (N 0 0 13) = N := by
        obtain ⟨ru, rfl⟩ := hN1
        rw [up_up]
        exact up_self
      refine ri_ild a_X7_laws_23 rfl ?_
      refine ri_ald a_X7_laws_25 rfl ?_
      refine ri_getI a_X7_laws_26 fl_X7_106 kM_0_12 rfl iM_0 ?_
      refine ri_icmp_ge a_X7_laws_29 (fun zc11 => ?_) (fun zc11 => ?_)
      · refine ri_ald a_X7_laws_66 rfl ?_
        refine ri_ild a_X7_laws_67 rfl ?_
        refine ri_putI a_X7_laws_68 fp_X7_109 kM_0_13 rfl iM_0 (fun zM12 ezM12 => ?_)
        refine ri_ild a_X7_laws_71 rfl ?_
        refine ri_ireturn a_X7_laws_73 rfl rfl ?_
        exact rX ⟨by rw [ezM12]; exact hb, rfl⟩
      · exact absurd (by rw [e12]; exact Int32.le_refl _) zc11
    | succ r ih =>
      intro t a y N1 hv hN1
      rw [bitA]
      have e12 : N1 0 0 12 = nI tc := by obtain ⟨ru, rfl⟩ := hN1; exact htc
      have eM : up N1 0 0 13 (nI t) = up N 0 0 13 (nI t) := by
        obtain ⟨ru, rfl⟩ := hN1
        exact up_up
      have hun : lr_Ok tM sM w (d - 1) jX7_unlike [vo 0 0, vi (nI q)] (up N 0 0 13 (nI t)) (qI (foF (LL t) (vwM N) O (shN N q) m 0 0) (up N 0 0 13 (nI t))) :=
        ok_X7_unlike (N := up N 0 0 13 (nI t)) (by omega) ⟨t, by omega, by rw [up_same], txN_eq rfl rfl (hLL t (by omega))⟩ hq hm hmk hO hn8
      refine ri_ild a_X7_laws_23 rfl ?_
      refine ri_ald a_X7_laws_25 rfl ?_
      refine ri_getI a_X7_laws_26 fl_X7_106 kM_0_12 rfl iM_0 ?_
      refine ri_icmp_ge a_X7_laws_29 (fun zc11 => ?_) (fun zc11 => ?_)
      · exact absurd zc11 (by rw [e12]; exact nI_ge (by omega) (by omega))
      · refine ri_ald a_X7_laws_32 rfl ?_
        refine ri_ild a_X7_laws_33 rfl ?_
        refine ri_putI a_X7_laws_35 fp_X7_109 kM_0_13 rfl iM_0 (fun zM12 ezM12 => ?_)
        rw [eM] at ezM12
        subst ezM12
        generalize hN2 : up N 0 0 13 (nI t) = N2 at hun ⊢
        generalize hgv : foF (LL t) (vwM N) O (shN N q) m 0 0 = gv at hun
        refine ri_ild a_X7_laws_38 rfl ?_
        refine ri_ald a_X7_laws_40 rfl ?_
        refine ri_ild a_X7_laws_41 rfl ?_
        refine ri_cVpi (as := [vi (nI q)]) (rest := [vi a]) (d' := d - 1) a_X7_laws_42 mv_X7_unlike ml_X7_255 (rcM_0 iM_0) (by omega) (hun) (Nat.le_of_ble_eq_true rfl) rfl (fun zy21 ezy21 => ?_)
        refine ri_ic a_X7_laws_45 ?_
        refine ri_icmp_ne a_X7_laws_46 (fun zc22 => ?_) (fun zc22 => ?_)
        · refine ri_ic a_X7_laws_56 ?_
          refine ri_ior a_X7_laws_57 ?_
          refine ri_ist (f := fun zx23 => [some (vo 0 0), some (vi (nI q)), some (vi y), some (vi (N 0 0 13)), some (vi zx23), some (vi (nI t))]) a_X7_laws_58 (fun _ => rfl) (fun zx23 ezx23 => ?_)
          refine ri_iinc (c0 := 1) (f := fun zx24 => [some (vo 0 0), some (vi (nI q)), some (vi y), some (vi (N 0 0 13)), some (vi zx23), some (vi zx24)]) a_X7_laws_60 rfl (by decide) (fun _ => rfl) (fun zx24 ezx24 => ?_)
          refine ri_goto a_X7_laws_63 ?_
          have hg : ¬ gv = -1 := fun z => zc22 (ezy21.trans z)
          rw [ezx23, ezx24, nI_1, Int32.or_zero]
          refine lr_Wimp (ih (t + 1) a y N2 (by omega) ⟨_, hN2.symm⟩) ?_
          rintro r' M' ⟨z, h1, h2, h3⟩
          exact ⟨z, h1, h2, by rw [if_neg hg]; exact h3⟩
        · refine ri_ic a_X7_laws_49 ?_
          refine ri_ild a_X7_laws_50 rfl ?_
          refine ri_ishl a_X7_laws_52 ?_
          refine ri_goto a_X7_laws_53 ?_
          refine ri_ior a_X7_laws_57 ?_
          refine ri_ist (f := fun zx25 => [some (vo 0 0), some (vi (nI q)), some (vi y), some (vi (N 0 0 13)), some (vi zx25), some (vi (nI t))]) a_X7_laws_58 (fun _ => rfl) (fun zx25 ezx25 => ?_)
          refine ri_iinc (c0 := 1) (f := fun zx26 => [some (vo 0 0), some (vi (nI q)), some (vi y), some (vi (N 0 0 13)), some (vi zx25), some (vi zx26)]) a_X7_laws_60 rfl (by decide) (fun _ => rfl) (fun zx26 ezx26 => ?_)
          refine ri_goto a_X7_laws_63 ?_
          have hg : gv = -1 := ezy21.symm.trans zc22
          rw [ezx25, ezx26, nI_1]
          refine lr_Wimp (ih (t + 1) _ y N2 (by omega) ⟨_, hN2.symm⟩) ?_
          rintro r' M' ⟨z, h1, h2, h3⟩
          exact ⟨z, h1, h2, by rw [if_pos hg]; exact h3⟩
  refine lr_ok (by decide +kernel) rfl ?_
  refine ri_ald a_X7_laws_0 rfl ?_
  refine ri_ild a_X7_laws_1 rfl ?_
  refine ri_cVpi (as := [vi (nI q)]) (rest := []) (d' := d - 1) a_X7_laws_2 mv_X7_sheetWrong ml_X7_252 (rcM_0 iM_0) (by omega) (ok_X7_sheetWrong (by omega) hq) (Nat.le_of_ble_eq_true rfl) rfl (fun zy1 ezy1 => ?_)
  refine ri_istk (ls' := [some (vo 0 0), some (vi (nI q)), some (vi zy1), none, none, none]) a_X7_laws_5 rfl ?_
  refine ri_ild a_X7_laws_6 rfl ?_
  refine ri_if_eq a_X7_laws_7 (fun zc2 => ?_) (fun zc2 => ?_)
  · refine ri_ald a_X7_laws_12 rfl ?_
    refine ri_getI a_X7_laws_13 fl_X7_109 kM_0_13 rfl iM_0 ?_
    have h := nr0 (ezy1.symm.trans zc2)
    refine ri_istk (ls' := [some (vo 0 0), some (vi (nI q)), some (vi zy1), some (vi (N 0 0 13)), none, none]) a_X7_laws_16 rfl ?_
    refine ri_ic a_X7_laws_17 ?_
    refine ri_istk (ls' := [some (vo 0 0), some (vi (nI q)), some (vi zy1), some (vi (N 0 0 13)), some (vi 0), none]) a_X7_laws_18 rfl ?_
    refine ri_ic a_X7_laws_20 ?_
    refine ri_istk (ls' := [some (vo 0 0), some (vi (nI q)), some (vi zy1), some (vi (N 0 0 13)), some (vi 0), some (vi 0)]) a_X7_laws_21 rfl ?_
    refine lr_Wimp (loop (mk_le hm hm40 hO h.2) tc 0 0 zy1 N (by omega) ⟨N 0 0 13, up_self.symm⟩) ?_
    rintro r' M' ⟨z, h1, h2, h3⟩
    exact ⟨z, h1, h2, by rw [if_neg h.1, if_pos h.2]; exact h3⟩
  · refine ri_ild a_X7_laws_10 rfl ?_
    refine ri_ireturn a_X7_laws_11 rfl rfl ?_
    rw [ezy1] at zc2 ⊢
    exact rX ⟨rfl, nr1 zc2⟩
theorem no_X7_laws {w : Wd} {d : Nat} (hd : 5 ≤ d) {N : Mem} {s : Int32} (hs : ¬ (0 ≤ s ∧ s ≤ 3))  : lr_Ok tM sM w d jX7_laws [vo 0 0, vi s] N (qI (-2) N) := by
  refine lr_ok (by decide +kernel) rfl ?_
  refine ri_ald a_X7_laws_0 rfl ?_
  refine ri_ild a_X7_laws_1 rfl ?_
  refine ri_cVpi (as := [vi s]) (rest := []) (d' := d - 1) a_X7_laws_2 mv_X7_sheetWrong ml_X7_252 (rcM_0 iM_0) (by omega) (no_X7_sheetWrong (by omega) hs) (Nat.le_of_ble_eq_true rfl) rfl (fun zy1 ezy1 => ?_)
  refine ri_istk (ls' := [some (vo 0 0), some (vi s), some (vi zy1), none, none, none]) a_X7_laws_5 rfl ?_
  refine ri_ild a_X7_laws_6 rfl ?_
  refine ri_if_eq a_X7_laws_7 (fun zc2 => ?_) (fun zc2 => ?_)
  · exact absurd zc2 (by rw [ezy1]; decide)
  · refine ri_ild a_X7_laws_10 rfl ?_
    refine ri_ireturn a_X7_laws_11 rfl rfl ?_
    exact rI ezy1 rfl

