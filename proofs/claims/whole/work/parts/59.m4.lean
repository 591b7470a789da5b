/-! reference: stand, fire, door, person -/
theorem ok_X7_fire {w : Wd} {d : Nat} (hd : 5 ≤ d) {N : Mem} {n k : Nat} {L : List (List Op)} {O : Nat → Nat} (hL : lawN N L) (hn : N 0 0 0 = nI n) (hn8 : n ≤ 8) (hO : orN N O k n) (p win : Int32) (hk7 : 0 ≤ p ∧ p < nI n → fnd (N 5 0) p k 0 = -1 → k < 8) : lr_Ok tM sM w d jX7_fire [vo 0 0, vi p, vi win] N (qX fun r N' => if 0 ≤ p ∧ p < nI n then (if 0 ≤ win ∧ win ≤ 999 then (if fnd (N 5 0) p k 0 = -1 then (if win ≤ hiS L (vwM N) O k ∧ wkV L (vwM N) (N 4 0) O k = -1 then r = 1 ∧ frN (up (up (up N 5 0 k p) 0 0 6 (nI (k + 1))) 0 0 7 0) N' else r = 0 ∧ frN N N') else r = -3 ∧ N' = N) else r = -7 ∧ N' = N) else r = -5 ∧ N' = N) := by
  refine lr_ok (by decide +kernel) rfl ?_
  refine ri_ald a_X7_fire_0 rfl ?_
  refine ri_ild a_X7_fire_1 rfl ?_
  refine ri_cVpb (as := [vi p]) (rest := []) (d' := d - 1) a_X7_fire_2 mv_X7_isOne ml_X7_182 (rcM_0 iM_0) (by omega) (ok_X7_isOne (by omega) hn hn8 p) (Nat.le_of_ble_eq_true rfl) rfl (fun zc1 => ?_) (fun zc1 => ?_)
  · refine ri_if_ne a_X7_fire_5 (fun _ => ?_) (fun q => absurd q (by decide))
    refine ri_ild a_X7_fire_11 rfl ?_
    refine ri_ic a_X7_fire_12 ?_
    refine ri_ic a_X7_fire_13 ?_
    refine ri_cSpb (as := [vi win, vi 0, vi 999]) (rest := []) (d' := d - 1) a_X7_fire_16 ms_X7_in ml_X7_96 (by omega) (ok_X7_in win 0 999) (Nat.le_of_ble_eq_true rfl) rfl (fun zc2 => ?_) (fun zc2 => ?_)
    · refine ri_if_ne a_X7_fire_19 (fun _ => ?_) (fun q => absurd q (by decide))
      refine ri_ald a_X7_fire_25 rfl ?_
      refine ri_ild a_X7_fire_26 rfl ?_
      refine ri_cVpi (as := [vi p]) (rest := []) (d' := d - 1) a_X7_fire_27 mv_X7_aheadOf ml_X7_189 (rcM_0 iM_0) (by omega) (ok_X7_aheadOf p hO.1 hO.2.1) (Nat.le_of_ble_eq_true rfl) rfl (fun zy3 ezy3 => ?_)
      refine ri_ic a_X7_fire_30 ?_
      refine ri_icmp_eq a_X7_fire_31 (fun zc4 => ?_) (fun zc4 => ?_)
      · refine ri_ald a_X7_fire_37 rfl ?_
        refine ri_cVxv (as := []) (rest := []) (d' := d - 1) a_X7_fire_38 mv_X7_tellsAll ml_X7_213 (rcM_0 iM_0) (by omega) (ok_X7_tellsAll (by omega) hL hn hn8) (Nat.le_of_ble_eq_true rfl) rfl (fun zM5 hzM5 => ?_)
        refine ri_ald a_X7_fire_41 rfl ?_
        refine ri_cVxv (as := []) (rest := []) (d' := d - 1) a_X7_fire_42 mv_X7_rowSaved ml_X7_216 (rcM_0 iM_0) (by omega) (ok_X7_rowSaved (orN_N (frTb_N hzM5.1) hO) hn8) (Nat.le_of_ble_eq_true rfl) rfl (fun zM6 hzM6 => ?_)
        have h8 := hk7 zc1 (ezy3.symm.trans zc4)
        rw [ezy3] at zc4
        obtain ⟨g1, g2, g3⟩ := tbRow hzM5 hzM6.1
        have hre := ok_X7_doesReach (w := w) (d := d - 1) (by omega) g2 hzM6.2 hn8 win
        rw [g3] at hre
        have e6 : zM6 0 0 6 = nI k := by rw [g1 0 0 6 (by decide) (by omega)]; exact hO.1
        refine ri_ald a_X7_fire_45 rfl ?_
        refine ri_ild a_X7_fire_46 rfl ?_
        refine ri_cVpb (as := [vi win]) (rest := []) (d' := d - 1) a_X7_fire_47 mv_X7_doesReach ml_X7_222 (rcM_0 iM_0) (by omega) (hre) (Nat.le_of_ble_eq_true rfl) rfl (fun zc11 => ?_) (fun zc11 => ?_)
        · refine ri_if_ne a_X7_fire_50 (fun _ => ?_) (fun q => absurd q (by decide))
          refine ri_ald a_X7_fire_55 rfl ?_
          refine ri_getR (t' := 5) (i' := 0) a_X7_fire_56 fl_X7_22 kM_0_5 rfl iM_0 (Or.inr ⟨rfl, rfl, rfl⟩) ?_
          refine ri_ald a_X7_fire_59 rfl ?_
          refine ri_getI a_X7_fire_60 fl_X7_100 kM_0_6 rfl iM_0 ?_
          refine ri_ild a_X7_fire_63 rfl ?_
          refine ri_iastore a_X7_fire_64 lM_5 rfl iM_5 (by rw [e6]; exact vp_in_nI h8 (by decide)) (fun zM12 ezM12 => ?_)
          refine ri_ald a_X7_fire_65 rfl ?_
          refine ri_dup a_X7_fire_66 (fun _ h => by cases h) ?_
          refine ri_getI a_X7_fire_67 fl_X7_100 kM_0_6 rfl iM_0 ?_
          refine ri_ic a_X7_fire_70 ?_
          refine ri_iadd a_X7_fire_71 ?_
          refine ri_putI a_X7_fire_72 fp_X7_100 kM_0_6 rfl iM_0 (fun zM13 ezM13 => ?_)
          refine ri_ald a_X7_fire_75 rfl ?_
          refine ri_ic a_X7_fire_76 ?_
          refine ri_putI a_X7_fire_77 fp_X7_103 kM_0_7 rfl iM_0 (fun zM14 ezM14 => ?_)
          refine ri_ic a_X7_fire_80 ?_
          refine ri_ireturn a_X7_fire_81 rfl rfl ?_
          rw [e6, nI_clamp (by omega)] at ezM12
          have e7 : zM12 0 0 6 = nI k := by rw [ezM12]; exact e6
          rw [e7, nI_1] at ezM13
          refine rX ?_
          rw [if_pos zc1, if_pos zc2, if_pos zc4, if_pos zc11]
          refine ⟨rfl, fun t i q a b => ?_⟩
          rw [ezM14, ezM13, ezM12]
          simp only [up_apply]
          rw [g1 t i q a b]
        · refine ri_if_ne a_X7_fire_50 (fun q => absurd q (by decide)) (fun _ => ?_)
          refine ri_ic a_X7_fire_53 ?_
          refine ri_ireturn a_X7_fire_54 rfl rfl ?_
          exact rX (by rw [if_pos zc1, if_pos zc2, if_pos zc4, if_neg zc11]; exact ⟨rfl, g1⟩)
      · refine ri_ic a_X7_fire_34 ?_
        refine ri_ireturn a_X7_fire_36 rfl rfl ?_
        rw [ezy3] at zc4
        exact rX (by rw [if_pos zc1, if_pos zc2, if_neg zc4]; exact ⟨rfl, rfl⟩)
    · refine ri_if_ne a_X7_fire_19 (fun q => absurd q (by decide)) (fun _ => ?_)
      refine ri_ic a_X7_fire_22 ?_
      refine ri_ireturn a_X7_fire_24 rfl rfl ?_
      exact rX (by rw [if_pos zc1, if_neg zc2]; exact ⟨rfl, rfl⟩)
  · refine ri_if_ne a_X7_fire_5 (fun q => absurd q (by decide)) (fun _ => ?_)
    refine ri_ic a_X7_fire_8 ?_
    refine ri_ireturn a_X7_fire_10 rfl rfl ?_
    exact rX (by rw [if_neg zc1]; exact ⟨rfl, rfl⟩)
theorem ok_X7_door {w : Wd} {d : Nat} (hd : 2 ≤ d) {N : Mem} {n k : Nat} (hn : N 0 0 0 = nI n) (hn8 : n ≤ 8) (hk : N 0 0 6 = nI k) (hk8 : k ≤ 8) (p : Int32) (hk7 : 0 ≤ p ∧ p < nI n → fnd (N 5 0) p k 0 = -1 → k < 8) : lr_Ok tM sM w d jX7_door [vo 0 0, vi p] N (qX fun r N' => if 0 ≤ p ∧ p < nI n then (if fnd (N 5 0) p k 0 = -1 then N' = up (up N 5 0 k p) 0 0 6 (nI (k + 1)) ∧ r = nI (k + 1) else r = -3 ∧ N' = N) else r = -5 ∧ N' = N) := by
  refine lr_ok (by decide +kernel) rfl ?_
  refine ri_ald a_X7_door_0 rfl ?_
  refine ri_ild a_X7_door_1 rfl ?_
  refine ri_cVpb (as := [vi p]) (rest := []) (d' := d - 1) a_X7_door_2 mv_X7_isOne ml_X7_182 (rcM_0 iM_0) (by omega) (ok_X7_isOne (by omega) hn hn8 p) (Nat.le_of_ble_eq_true rfl) rfl (fun zc1 => ?_) (fun zc1 => ?_)
  · refine ri_if_ne a_X7_door_5 (fun _ => ?_) (fun q => absurd q (by decide))
    refine ri_ald a_X7_door_11 rfl ?_
    refine ri_ild a_X7_door_12 rfl ?_
    refine ri_cVpi (as := [vi p]) (rest := []) (d' := d - 1) a_X7_door_13 mv_X7_aheadOf ml_X7_189 (rcM_0 iM_0) (by omega) (ok_X7_aheadOf p hk hk8) (Nat.le_of_ble_eq_true rfl) rfl (fun zy2 ezy2 => ?_)
    refine ri_ic a_X7_door_16 ?_
    refine ri_icmp_eq a_X7_door_17 (fun zc3 => ?_) (fun zc3 => ?_)
    · rw [ezy2] at zc3
      have h8 := hk7 zc1 zc3
      refine ri_ald a_X7_door_23 rfl ?_
      refine ri_getR (t' := 5) (i' := 0) a_X7_door_24 fl_X7_22 kM_0_5 rfl iM_0 (Or.inr ⟨rfl, rfl, rfl⟩) ?_
      refine ri_ald a_X7_door_27 rfl ?_
      refine ri_getI a_X7_door_28 fl_X7_100 kM_0_6 rfl iM_0 ?_
      refine ri_ild a_X7_door_31 rfl ?_
      refine ri_iastore a_X7_door_32 lM_5 rfl iM_5 (by rw [hk]; exact vp_in_nI h8 (by decide)) (fun zM11 ezM11 => ?_)
      refine ri_ald a_X7_door_33 rfl ?_
      refine ri_dup a_X7_door_34 (fun _ h => by cases h) ?_
      refine ri_getI a_X7_door_35 fl_X7_100 kM_0_6 rfl iM_0 ?_
      refine ri_ic a_X7_door_38 ?_
      refine ri_iadd a_X7_door_39 ?_
      refine ri_putI a_X7_door_40 fp_X7_100 kM_0_6 rfl iM_0 (fun zM12 ezM12 => ?_)
      refine ri_ald a_X7_door_43 rfl ?_
      refine ri_getI a_X7_door_44 fl_X7_100 kM_0_6 rfl iM_0 ?_
      refine ri_ireturn a_X7_door_47 rfl rfl ?_
      rw [hk, nI_clamp (by omega)] at ezM11
      have e6 : zM11 0 0 6 = nI k := by rw [ezM11]; exact hk
      rw [e6, nI_1, ezM11] at ezM12
      exact rX (by rw [if_pos zc1, if_pos zc3]; exact ⟨ezM12, by rw [ezM12, up_same]⟩)
    · refine ri_ic a_X7_door_20 ?_
      refine ri_ireturn a_X7_door_22 rfl rfl ?_
      rw [ezy2] at zc3
      exact rX (by rw [if_pos zc1, if_neg zc3]; exact ⟨rfl, rfl⟩)
  · refine ri_if_ne a_X7_door_5 (fun q => absurd q (by decide)) (fun _ => ?_)
    refine ri_ic a_X7_door_8 ?_
    refine ri_ireturn a_X7_door_10 rfl rfl ?_
    exact rX (by rw [if_neg zc1]; exact ⟨rfl, rfl⟩)
/-- one more of the people -/
def peM (N : Mem) (n : Nat) (a b : Int32) : Mem := up (up (up (up (up N 1 0 n (a / 10)) 2 0 n (a - a / 10 * 10)) 3 0 (2 * n) (b / 1000)) 3 0 (2 * n + 1) (b - b / 1000 * 1000)) 4 0 n 0
def pfM (N : Mem) (n p : Nat) : Mem := upr N 4 0 (fun q => if q < p then N 4 0 q &&& ((1 <<< (nI n &&& 31)) ^^^ -1) else N 4 0 q)
def poM (N : Mem) (n : Nat) (a b : Int32) : Mem := up (pfM (peM N n a b) n n) 0 0 0 (nI (n + 1))
theorem pfM_0 {N : Mem} {n : Nat} : pfM N n 0 = N := by
  funext t i k
  unfold pfM
  rw [upr_apply]
  split
  · rename_i h
    rw [if_neg (Nat.not_lt_zero _), h.1, h.2]
  · rfl
theorem pfM_s {N : Mem} {n p : Nat} : up (pfM N n p) 4 0 p (pfM N n p 4 0 p &&& ((1 <<< (nI n &&& 31)) ^^^ -1)) = pfM N n (p + 1) := by
  funext t i k
  unfold pfM
  rw [up_apply, upr_apply, upr_apply, upr_apply]
  by_cases h : t = 4 ∧ i = 0
  · obtain ⟨rfl, rfl⟩ := h
    simp only [true_and, and_self, if_true]
    by_cases e : k = p
    · subst e
      rw [if_pos rfl, if_neg (Nat.lt_irrefl _), if_pos (by omega)]
    · rw [if_neg e]
      by_cases e2 : k < p
      · rw [if_pos e2, if_pos (by omega)]
      · rw [if_neg e2, if_neg (by omega)]
  · rw [if_neg (fun q => h ⟨q.1, q.2.1⟩), if_neg h, if_neg h]
theorem ok_X7_person {w : Wd} {d : Nat} (hd : 1 ≤ d) {N : Mem} {n : Nat} (hn : N 0 0 0 = nI n) (hn8 : n ≤ 8) (a b : Int32) : lr_Ok tM sM w d jX7_person [vo 0 0, vi a, vi b] N (qX fun r N' => if jnP a b then (if n < 8 then r = nI n ∧ N' = poM N n a b else r = -4 ∧ N' = N) else r = -2 ∧ N' = N) := by
  have loop : ∀ N1 : Mem, N1 0 0 0 = nI n → n < 8 → ∀ r p, n = p + r → lr_W tM sM w d jX7_person 107 [some (vo 0 0), some (vi a), some (vi b), some (vi (nI p))] [] (pfM N1 n p) (qX fun r' N' => r' = nI n ∧ N' = up (pfM N1 n n) 0 0 0 (nI (n + 1))) := by
    intro N1 h1 h8 r
    induction r with
    | zero =>
      intro p hp
      have : n = p := hp
      subst this
      have e0 : pfM N1 n n 0 0 0 = nI n := h1
      generalize hM : pfM N1 n n = N2 at e0 ⊢
      refine ri_ild a_X7_person_107 rfl ?_
      refine ri_ald a_X7_person_108 rfl ?_
      refine ri_getI a_X7_person_109 fl_X7_93 kM_0_0 rfl iM_0 ?_
      refine ri_icmp_ge a_X7_person_112 (fun zc11 => ?_) (fun zc11 => ?_)
      · refine ri_ald a_X7_person_138 rfl ?_
        refine ri_dup a_X7_person_139 (fun _ h => by cases h) ?_
        refine ri_getI a_X7_person_140 fl_X7_93 kM_0_0 rfl iM_0 ?_
        refine ri_ic a_X7_person_143 ?_
        refine ri_iadd a_X7_person_144 ?_
        refine ri_putI a_X7_person_145 fp_X7_93 kM_0_0 rfl iM_0 (fun zM12 ezM12 => ?_)
        refine ri_ald a_X7_person_148 rfl ?_
        refine ri_getI a_X7_person_149 fl_X7_93 kM_0_0 rfl iM_0 ?_
        refine ri_ic a_X7_person_152 ?_
        refine ri_isub a_X7_person_153 ?_
        refine ri_ireturn a_X7_person_154 rfl rfl ?_
        rw [e0, nI_1] at ezM12
        exact rX ⟨by rw [ezM12, up_same, nI_pred], ezM12⟩
      · exact absurd (by rw [e0]; exact Int32.le_refl _) zc11
    | succ r ih =>
      intro p hp
      have hih := ih (p + 1) (by omega)
      rw [← pfM_s] at hih
      have e0 : pfM N1 n p 0 0 0 = nI n := h1
      generalize hM : pfM N1 n p = N2 at e0 hih ⊢
      refine ri_ild a_X7_person_107 rfl ?_
      refine ri_ald a_X7_person_108 rfl ?_
      refine ri_getI a_X7_person_109 fl_X7_93 kM_0_0 rfl iM_0 ?_
      refine ri_icmp_ge a_X7_person_112 (fun zc11 => ?_) (fun zc11 => ?_)
      · exact absurd zc11 (by rw [e0]; exact nI_ge (by omega) (by omega))
      · refine ri_ald a_X7_person_115 rfl ?_
        refine ri_getR (t' := 4) (i' := 0) a_X7_person_116 fl_X7_19 kM_0_4 rfl iM_0 (Or.inr ⟨rfl, rfl, rfl⟩) ?_
        refine ri_ild a_X7_person_119 rfl ?_
        refine ri_dup2 a_X7_person_120 (fun _ h => by cases h) (fun _ h => by cases h) ?_
        refine ri_iaload a_X7_person_121 lM_4 rfl iM_4 (vp_in_nI (by omega) (by decide)) ?_
        refine ri_ic a_X7_person_122 ?_
        refine ri_ald a_X7_person_123 rfl ?_
        refine ri_getI a_X7_person_124 fl_X7_93 kM_0_0 rfl iM_0 ?_
        refine ri_ishl a_X7_person_127 ?_
        refine ri_ic a_X7_person_128 ?_
        refine ri_ixor a_X7_person_129 ?_
        refine ri_iand a_X7_person_130 ?_
        refine ri_iastore a_X7_person_131 lM_4 rfl iM_4 (vp_in_nI (by omega) (by decide)) (fun zM12 ezM12 => ?_)
        refine ri_iinc (c0 := 1) (f := fun zx13 => [some (vo 0 0), some (vi a), some (vi b), some (vi zx13)]) a_X7_person_132 rfl (by decide) (fun _ => rfl) (fun zx13 ezx13 => ?_)
        refine ri_goto a_X7_person_135 ?_
        rw [e0, nI_clamp (by omega)] at ezM12
        rw [ezx13, nI_1, ezM12]
        exact hih
  have i2 : n < 8 → vp_in (2 * nI n) 16 := fun h => by rw [nI_2m]; exact vp_in_nI (by omega) (by decide)
  have i21 : n < 8 → vp_in (2 * nI n + 1) 16 := fun h => by rw [nI_2m, nI_1]; exact vp_in_nI (by omega) (by decide)
  refine lr_ok (by decide +kernel) rfl ?_
  refine ri_ild a_X7_person_0 rfl ?_
  refine ri_ic a_X7_person_1 ?_
  refine ri_ic a_X7_person_2 ?_
  refine ri_cSpb (as := [vi a, vi 0, vi 59]) (rest := []) (d' := d - 1) a_X7_person_4 ms_X7_in ml_X7_96 (by omega) (ok_X7_in a 0 59) (Nat.le_of_ble_eq_true rfl) rfl (fun zc1 => ?_) (fun zc1 => ?_)
  · refine ri_if_eq a_X7_person_7 (fun q => absurd q (by decide)) (fun _ => ?_)
    refine ri_ild a_X7_person_10 rfl ?_
    refine ri_ic a_X7_person_11 ?_
    refine ri_ic a_X7_person_12 ?_
    refine ri_cSpb (as := [vi b, vi 0, vi 99999]) (rest := []) (d' := d - 1) a_X7_person_14 ms_X7_in ml_X7_96 (by omega) (ok_X7_in b 0 99999) (Nat.le_of_ble_eq_true rfl) rfl (fun zc2 => ?_) (fun zc2 => ?_)
    · refine ri_if_ne a_X7_person_17 (fun _ => ?_) (fun q => absurd q (by decide))
      refine ri_ald a_X7_person_23 rfl ?_
      refine ri_getI a_X7_person_24 fl_X7_93 kM_0_0 rfl iM_0 ?_
      refine ri_ic a_X7_person_27 ?_
      refine ri_icmp_ne a_X7_person_29 (fun zc3 => ?_) (fun zc3 => ?_)
      · have h8 : n < 8 := by
          rcases Nat.lt_or_ge n 8 with h | h
          · exact h
          · exact absurd (by rw [hn, show n = 8 by omega]; rfl) zc3
        refine ri_ald a_X7_person_35 rfl ?_
        refine ri_getR (t' := 1) (i' := 0) a_X7_person_36 fl_X7_7 kM_0_1 rfl iM_0 (Or.inr ⟨rfl, rfl, rfl⟩) ?_
        refine ri_ald a_X7_person_39 rfl ?_
        refine ri_getI a_X7_person_40 fl_X7_93 kM_0_0 rfl iM_0 ?_
        refine ri_ild a_X7_person_43 rfl ?_
        refine ri_ic a_X7_person_44 ?_
        refine ri_idiv a_X7_person_46 (by decide) ?_
        refine ri_iastore a_X7_person_47 lM_1 rfl iM_1 (by rw [hn]; exact vp_in_nI h8 (by decide)) (fun zM11 ezM11 => ?_)
        refine ri_ald a_X7_person_48 rfl ?_
        refine ri_getR (t' := 2) (i' := 0) a_X7_person_49 fl_X7_13 kM_0_2 rfl iM_0 (Or.inr ⟨rfl, rfl, rfl⟩) ?_
        refine ri_ald a_X7_person_52 rfl ?_
        refine ri_getI a_X7_person_53 fl_X7_93 kM_0_0 rfl iM_0 ?_
        refine ri_ild a_X7_person_56 rfl ?_
        refine ri_ic a_X7_person_57 ?_
        refine ri_irem a_X7_person_59 (by decide) ?_
        refine ri_iastore a_X7_person_60 lM_2 rfl iM_2 ?_ (fun zM12 ezM12 => ?_)
        · rw [show zM11 0 0 0 = nI n by rw [ezM11]; exact hn]; exact vp_in_nI h8 (by decide)
        refine ri_ald a_X7_person_61 rfl ?_
        refine ri_getR (t' := 3) (i' := 0) a_X7_person_62 fl_X7_16 kM_0_3 rfl iM_0 (Or.inr ⟨rfl, rfl, rfl⟩) ?_
        refine ri_ic a_X7_person_65 ?_
        refine ri_ald a_X7_person_66 rfl ?_
        refine ri_getI a_X7_person_67 fl_X7_93 kM_0_0 rfl iM_0 ?_
        refine ri_imul a_X7_person_70 ?_
        refine ri_ild a_X7_person_71 rfl ?_
        refine ri_ic a_X7_person_72 ?_
        refine ri_idiv a_X7_person_75 (by decide) ?_
        refine ri_iastore a_X7_person_76 lM_3 rfl iM_3 ?_ (fun zM13 ezM13 => ?_)
        · rw [show zM12 0 0 0 = nI n by rw [ezM12, ezM11]; exact hn]; exact i2 h8
        refine ri_ald a_X7_person_77 rfl ?_
        refine ri_getR (t' := 3) (i' := 0) a_X7_person_78 fl_X7_16 kM_0_3 rfl iM_0 (Or.inr ⟨rfl, rfl, rfl⟩) ?_
        refine ri_ic a_X7_person_81 ?_
        refine ri_ald a_X7_person_82 rfl ?_
        refine ri_getI a_X7_person_83 fl_X7_93 kM_0_0 rfl iM_0 ?_
        refine ri_imul a_X7_person_86 ?_
        refine ri_ic a_X7_person_87 ?_
        refine ri_iadd a_X7_person_88 ?_
        refine ri_ild a_X7_person_89 rfl ?_
        refine ri_ic a_X7_person_90 ?_
        refine ri_irem a_X7_person_93 (by decide) ?_
        refine ri_iastore a_X7_person_94 lM_3 rfl iM_3 ?_ (fun zM14 ezM14 => ?_)
        · rw [show zM13 0 0 0 = nI n by rw [ezM13, ezM12, ezM11]; exact hn]; exact i21 h8
        refine ri_ald a_X7_person_95 rfl ?_
        refine ri_getR (t' := 4) (i' := 0) a_X7_person_96 fl_X7_19 kM_0_4 rfl iM_0 (Or.inr ⟨rfl, rfl, rfl⟩) ?_
        refine ri_ald a_X7_person_99 rfl ?_
        refine ri_getI a_X7_person_100 fl_X7_93 kM_0_0 rfl iM_0 ?_
        refine ri_ic a_X7_person_103 ?_
        refine ri_iastore a_X7_person_104 lM_4 rfl iM_4 ?_ (fun zM15 ezM15 => ?_)
        · rw [show zM14 0 0 0 = nI n by rw [ezM14, ezM13, ezM12, ezM11]; exact hn]; exact vp_in_nI h8 (by decide)
        refine ri_ic a_X7_person_105 ?_
        refine ri_istk (ls' := [some (vo 0 0), some (vi a), some (vi b), some (vi 0)]) a_X7_person_106 rfl ?_
        rw [hn, nI_clamp (by omega)] at ezM11
        rw [show zM11 0 0 0 = nI n by rw [ezM11]; exact hn, nI_clamp (by omega)] at ezM12
        rw [show zM12 0 0 0 = nI n by rw [ezM12, ezM11]; exact hn, nI_2m, nI_clamp (by omega)] at ezM13
        rw [show zM13 0 0 0 = nI n by rw [ezM13, ezM12, ezM11]; exact hn, nI_2m, nI_1, nI_clamp (by omega)] at ezM14
        rw [show zM14 0 0 0 = nI n by rw [ezM14, ezM13, ezM12, ezM11]; exact hn, nI_clamp (by omega)] at ezM15
        have e : zM15 = pfM (peM N n a b) n 0 := by rw [pfM_0, ezM15, ezM14, ezM13, ezM12, ezM11]; rfl
        rw [e]
        refine lr_Wimp (loop (peM N n a b) hn h8 n 0 (by omega)) ?_
        rintro r M' ⟨y, h1, h2⟩
        exact ⟨y, h1, by dsimp only; rw [if_pos (show jnP a b from ⟨zc1, zc2⟩), if_pos h8]; exact h2⟩
      · refine ri_ic a_X7_person_32 ?_
        refine ri_ireturn a_X7_person_34 rfl rfl ?_
        have h8 : ¬ n < 8 := fun h => by
          rw [hn] at zc3
          have := (nI_eq (a := n) (b := 8) (by omega) (by decide)).1 zc3
          omega
        exact rX (by rw [if_pos ⟨zc1, zc2⟩, if_neg h8]; exact ⟨rfl, rfl⟩)
    · refine ri_if_ne a_X7_person_17 (fun q => absurd q (by decide)) (fun _ => ?_)
      refine ri_ic a_X7_person_20 ?_
      refine ri_ireturn a_X7_person_22 rfl rfl ?_
      exact rX (by rw [if_neg (fun q => zc2 q.2)]; exact ⟨rfl, rfl⟩)
  · refine ri_if_eq a_X7_person_7 (fun _ => ?_) (fun q => absurd q (by decide))
    refine ri_ic a_X7_person_20 ?_
    refine ri_ireturn a_X7_person_22 rfl rfl ?_
    exact rX (by rw [if_neg (fun q => zc1 q.1)]; exact ⟨rfl, rfl⟩)
theorem nI_40a (q y : Nat) : 40 * nI q + nI y = nI (40 * q + y) := by rw [show (40 : Int32) = nI 40 from rfl, nI_mul, nI_add]
/-- the numbers of a sheet -/
def shN (N : Mem) (q : Nat) : Nat → Int32 := fun i => N 13 0 (40 * q + i)
theorem ok_X7_stand {w : Wd} {d : Nat} (hd : 5 ≤ d) {N : Mem} {q m n : Nat} {L : List (List Op)} (hL : lawN N L) (hq : q < 4) (hm : N 12 0 q = nI m) (hm40 : m ≤ 40) (hn : N 0 0 0 = nI n) (hn8 : n ≤ 8) (x : Int32) (R : Nat → Nat) (hR : m ≤ 8 → tkr (shN N q) (nI n) m 0 0 = true → ∀ i, i < m → shN N q i = nI (R i) ∧ R i < n) : lr_Ok tM sM w d jX7_stand [vo 0 0, vi (nI q), vi x] N (qX fun r N' => frN N N' ∧ r = if N 11 0 q = -1 then -11 else if m ≤ 8 ∧ tkr (shN N q) (nI n) m 0 0 = true then (if 0 ≤ x ∧ x ≤ 2 then meaV L (vwM N) (N 4 0) R m x else -7) else -2) := by
  have eq : (nI q).toNatClampNeg = q := nI_clamp (by omega)
  have i4 : vp_in (nI q) 4 := vp_in_nI hq (by decide)
  have m4 : N 12 0 (nI q).toNatClampNeg = nI m := by rw [eq]; exact hm
  have ip : ∀ i, i < m → m ≤ 8 → vp_in (40 * nI q + nI i) 160 := fun i h h8 => by rw [nI_40a]; exact vp_in_nI (by omega) (by decide)
  have ec : ∀ i, i < m → m ≤ 8 → N 13 0 (40 * nI q + nI i).toNatClampNeg = shN N q i := fun i h h8 => by rw [nI_40a, nI_clamp (by omega)]; rfl
  -- the row is filled
  have fill : m ≤ 8 → (∀ i, i < m → shN N q i = nI (R i) ∧ R i < n) → ∀ N0, frTb N N0 → tbM L (vwM N) n N0 → ∀ sn j5 r i N1, m = i + r → (∀ t a b, ¬ (t = 22 ∧ a = 0) → ¬ (t = 0 ∧ a = 0 ∧ b = 36) → N1 t a b = N0 t a b) → N1 0 0 36 = nI m → (∀ j, j < i → N1 22 0 j = nI (R j)) → lr_W tM sM w d jX7_stand 133 [some (vo 0 0), some (vi (nI q)), some (vi x), some (vi sn), some (vi (nI i)), j5] [] N1 (qX fun r N' => frN N N' ∧ r = meaV L (vwM N) (N 4 0) R m x) := by
    intro h8 hR N0 hf0 ht0 sn j5 r
    induction r with
    | zero =>
      intro i N1 hi hf h36 hrow
      have : m = i := hi
      subst this
      have e12 : N1 12 0 (nI q).toNatClampNeg = nI m := by rw [hf 12 0 _ (by omega) (by omega), hf0 12 (by decide) (by decide) (by decide)]; exact m4
      obtain ⟨g1, g2, g3⟩ := tbRow ⟨hf0, ht0⟩ hf
      have hto := ok_X7_toldOf (w := w) (d := d - 1) (by omega) g2 (R := R) (m := m) ⟨h36, h8, fun i hi => ⟨hrow i hi, (hR i hi).2⟩⟩ hn8 x
      rw [g3] at hto
      refine ri_ild a_X7_stand_133 rfl ?_
      refine ri_ald a_X7_stand_135 rfl ?_
      refine ri_getR (t' := 12) (i' := 0) a_X7_stand_136 fl_X7_43 kM_0_18 rfl iM_0 (Or.inr ⟨rfl, rfl, rfl⟩) ?_
      refine ri_ild a_X7_stand_139 rfl ?_
      refine ri_iaload a_X7_stand_140 lM_12 rfl iM_12 i4 ?_
      refine ri_icmp_ge a_X7_stand_141 (fun zc11 => ?_) (fun zc11 => ?_)
      · refine ri_ald a_X7_stand_169 rfl ?_
        refine ri_ild a_X7_stand_170 rfl ?_
        refine ri_cVpi (as := [vi x]) (rest := []) (d' := d - 1) a_X7_stand_171 mv_X7_toldOf ml_X7_219 (rcM_0 iM_0) (by omega) (hto) (Nat.le_of_ble_eq_true rfl) rfl (fun zy12 ezy12 => ?_)
        refine ri_ireturn a_X7_stand_174 rfl rfl ?_
        exact rX ⟨g1, ezy12⟩
      · exact absurd (by rw [e12]; exact Int32.le_refl _) zc11
    | succ r ih =>
      intro i N1 hi hf h36 hrow
      have e12 : N1 12 0 (nI q).toNatClampNeg = nI m := by rw [hf 12 0 _ (by omega) (by omega), hf0 12 (by decide) (by decide) (by decide)]; exact m4
      have e13 : N1 13 0 (40 * nI q + nI i).toNatClampNeg = nI (R i) := by rw [hf 13 0 _ (by omega) (by omega), hf0 13 (by decide) (by decide) (by decide), ec i (by omega) h8]; exact (hR i (by omega)).1
      refine ri_ild a_X7_stand_133 rfl ?_
      refine ri_ald a_X7_stand_135 rfl ?_
      refine ri_getR (t' := 12) (i' := 0) a_X7_stand_136 fl_X7_43 kM_0_18 rfl iM_0 (Or.inr ⟨rfl, rfl, rfl⟩) ?_
      refine ri_ild a_X7_stand_139 rfl ?_
      refine ri_iaload a_X7_stand_140 lM_12 rfl iM_12 i4 ?_
      refine ri_icmp_ge a_X7_stand_141 (fun zc11 => ?_) (fun zc11 => ?_)
      · exact absurd zc11 (by rw [e12]; exact nI_ge (by omega) (by omega))
      · refine ri_ald a_X7_stand_144 rfl ?_
        refine ri_getR (t' := 22) (i' := 0) a_X7_stand_145 fl_X7_73 kM_0_35 rfl iM_0 (Or.inr ⟨rfl, rfl, rfl⟩) ?_
        refine ri_ild a_X7_stand_148 rfl ?_
        refine ri_ald a_X7_stand_150 rfl ?_
        refine ri_getR (t' := 13) (i' := 0) a_X7_stand_151 fl_X7_46 kM_0_19 rfl iM_0 (Or.inr ⟨rfl, rfl, rfl⟩) ?_
        refine ri_ic a_X7_stand_154 ?_
        refine ri_ild a_X7_stand_156 rfl ?_
        refine ri_imul a_X7_stand_157 ?_
        refine ri_ild a_X7_stand_158 rfl ?_
        refine ri_iadd a_X7_stand_160 ?_
        refine ri_iaload a_X7_stand_161 lM_13 rfl iM_13 (ip i (by omega) h8) ?_
        refine ri_iastore a_X7_stand_162 lM_22 rfl iM_22 (vp_in_nI (by omega) (by decide)) (fun zM12 ezM12 => ?_)
        refine ri_iinc (c0 := 1) (f := fun zx13 => [some (vo 0 0), some (vi (nI q)), some (vi x), some (vi sn), some (vi zx13), j5]) a_X7_stand_163 rfl (by decide) (fun _ => rfl) (fun zx13 ezx13 => ?_)
        refine ri_goto a_X7_stand_166 ?_
        rw [e13, nI_clamp (by omega)] at ezM12
        rw [ezx13, nI_1]
        refine ih (i + 1) zM12 (by omega) (fun t a b c e => ?_) ?_ (fun j hj => ?_)
        · rw [ezM12, up_apply, if_neg (fun z => by omega)]; exact hf t a b c e
        · rw [ezM12, up_apply, if_neg (by omega)]; exact h36
        · rw [ezM12, up_apply]
          by_cases e : j = i
          · rw [if_pos ⟨rfl, rfl, e⟩, e]
          · rw [if_neg (fun z => e z.2.2)]; exact hrow j (by omega)
  have loop : m ≤ 8 → ¬ N 11 0 q = -1 → ∀ r i sn j5, m = i + r → (tkr (shN N q) (nI n) r i sn = true → tkr (shN N q) (nI n) m 0 0 = true) → (tkr (shN N q) (nI n) r i sn = false → tkr (shN N q) (nI n) m 0 0 = false) → lr_W tM sM w d jX7_stand 44 [some (vo 0 0), some (vi (nI q)), some (vi x), some (vi sn), some (vi (nI i)), j5] [] N (qX fun r N' => frN N N' ∧ r = if tkr (shN N q) (nI n) m 0 0 = true then (if 0 ≤ x ∧ x ≤ 2 then meaV L (vwM N) (N 4 0) R m x else -7) else -2) := by
    intro h8 h11 r
    induction r with
    | zero =>
      intro i sn j5 hi ht hf
      have : m = i := hi
      subst this
      have htk := ht rfl
      refine ri_ild a_X7_stand_44 rfl ?_
      refine ri_ald a_X7_stand_46 rfl ?_
      refine ri_getR (t' := 12) (i' := 0) a_X7_stand_47 fl_X7_43 kM_0_18 rfl iM_0 (Or.inr ⟨rfl, rfl, rfl⟩) ?_
      refine ri_ild a_X7_stand_50 rfl ?_
      refine ri_iaload a_X7_stand_51 lM_12 rfl iM_12 i4 ?_
      refine ri_icmp_ge a_X7_stand_52 (fun zc11 => ?_) (fun zc11 => ?_)
      · refine ri_ild a_X7_stand_104 rfl ?_
        refine ri_ic a_X7_stand_105 ?_
        refine ri_ic a_X7_stand_106 ?_
        refine ri_cSpb (as := [vi x, vi 0, vi 2]) (rest := []) (d' := d - 1) a_X7_stand_107 ms_X7_in ml_X7_96 (by omega) (ok_X7_in x 0 2) (Nat.le_of_ble_eq_true rfl) rfl (fun zc12 => ?_) (fun zc12 => ?_)
        · refine ri_if_ne a_X7_stand_110 (fun _ => ?_) (fun q => absurd q (by decide))
          refine ri_ald a_X7_stand_116 rfl ?_
          refine ri_cVxv (as := []) (rest := []) (d' := d - 1) a_X7_stand_117 mv_X7_tellsAll ml_X7_213 (rcM_0 iM_0) (by omega) (ok_X7_tellsAll (by omega) hL hn hn8) (Nat.le_of_ble_eq_true rfl) rfl (fun zM13 hzM13 => ?_)
          refine ri_ald a_X7_stand_120 rfl ?_
          refine ri_ald a_X7_stand_121 rfl ?_
          refine ri_getR (t' := 12) (i' := 0) a_X7_stand_122 fl_X7_43 kM_0_18 rfl iM_0 (Or.inr ⟨rfl, rfl, rfl⟩) ?_
          refine ri_ild a_X7_stand_125 rfl ?_
          refine ri_iaload a_X7_stand_126 lM_12 rfl iM_12 i4 ?_
          refine ri_putI a_X7_stand_127 fp_X7_201 kM_0_36 rfl iM_0 (fun zM14 ezM14 => ?_)
          refine ri_ic a_X7_stand_130 ?_
          refine ri_istk (ls' := [some (vo 0 0), some (vi (nI q)), some (vi x), some (vi sn), some (vi 0), j5]) a_X7_stand_131 rfl ?_
          have e12 : zM13 12 0 (nI q).toNatClampNeg = nI m := by rw [hzM13.1 12 (by decide) (by decide) (by decide)]; exact m4
          rw [e12] at ezM14
          refine lr_Wimp (fill h8 (hR h8 htk) zM13 hzM13.1 hzM13.2 sn _ m 0 zM14 (by omega) (fun t a b c e => ?_) ?_ (fun j hj => absurd hj (Nat.not_lt_zero _))) ?_
          · rw [ezM14, up_apply, if_neg (fun z => by omega)]
          · rw [ezM14, up_same]
          · rintro r M' ⟨y, h1, h2, h3⟩
            exact ⟨y, h1, h2, by rw [if_pos htk, if_pos zc12]; exact h3⟩
        · refine ri_if_ne a_X7_stand_110 (fun q => absurd q (by decide)) (fun _ => ?_)
          refine ri_ic a_X7_stand_113 ?_
          refine ri_ireturn a_X7_stand_115 rfl rfl ?_
          exact rX ⟨frN_rf, by rw [if_pos htk, if_neg zc12]⟩
      · exact absurd (by rw [m4]; exact Int32.le_refl _) zc11
    | succ r ih =>
      intro i sn j5 hi ht hf
      refine ri_ild a_X7_stand_44 rfl ?_
      refine ri_ald a_X7_stand_46 rfl ?_
      refine ri_getR (t' := 12) (i' := 0) a_X7_stand_47 fl_X7_43 kM_0_18 rfl iM_0 (Or.inr ⟨rfl, rfl, rfl⟩) ?_
      refine ri_ild a_X7_stand_50 rfl ?_
      refine ri_iaload a_X7_stand_51 lM_12 rfl iM_12 i4 ?_
      refine ri_icmp_ge a_X7_stand_52 (fun zc11 => ?_) (fun zc11 => ?_)
      · exact absurd zc11 (by rw [m4]; exact nI_ge (by omega) (by omega))
      · refine ri_ald a_X7_stand_55 rfl ?_
        refine ri_getR (t' := 13) (i' := 0) a_X7_stand_56 fl_X7_46 kM_0_19 rfl iM_0 (Or.inr ⟨rfl, rfl, rfl⟩) ?_
        refine ri_ic a_X7_stand_59 ?_
        refine ri_ild a_X7_stand_61 rfl ?_
        refine ri_imul a_X7_stand_62 ?_
        refine ri_ild a_X7_stand_63 rfl ?_
        refine ri_iadd a_X7_stand_65 ?_
        refine ri_iaload a_X7_stand_66 lM_13 rfl iM_13 (ip i (by omega) h8) ?_
        rw [ec i (by omega) h8]
        refine ri_istk (ls' := [some (vo 0 0), some (vi (nI q)), some (vi x), some (vi sn), some (vi (nI i)), some (vi (shN N q i))]) a_X7_stand_67 rfl ?_
        rw [tkr] at ht hf
        refine ri_ald a_X7_stand_69 rfl ?_
        refine ri_ild a_X7_stand_70 rfl ?_
        refine ri_cVpb (as := [vi (shN N q i)]) (rest := []) (d' := d - 1) a_X7_stand_72 mv_X7_isOne ml_X7_182 (rcM_0 iM_0) (by omega) (ok_X7_isOne (by omega) hn hn8 (shN N q i)) (Nat.le_of_ble_eq_true rfl) rfl (fun zc21 => ?_) (fun zc21 => ?_)
        · refine ri_if_eq a_X7_stand_75 (fun q => absurd q (by decide)) (fun _ => ?_)
          refine ri_ild a_X7_stand_78 rfl ?_
          refine ri_ild a_X7_stand_79 rfl ?_
          refine ri_ishr a_X7_stand_81 ?_
          refine ri_ic a_X7_stand_82 ?_
          refine ri_iand a_X7_stand_83 ?_
          refine ri_ic a_X7_stand_84 ?_
          refine ri_icmp_ne a_X7_stand_85 (fun zc22 => ?_) (fun zc22 => ?_)
          · refine ri_ild a_X7_stand_91 rfl ?_
            refine ri_ic a_X7_stand_92 ?_
            refine ri_ild a_X7_stand_93 rfl ?_
            refine ri_ishl a_X7_stand_95 ?_
            refine ri_ior a_X7_stand_96 ?_
            refine ri_ist (f := fun zx23 => [some (vo 0 0), some (vi (nI q)), some (vi x), some (vi zx23), some (vi (nI i)), some (vi (shN N q i))]) a_X7_stand_97 (fun _ => rfl) (fun zx23 ezx23 => ?_)
            refine ri_iinc (c0 := 1) (f := fun zx24 => [some (vo 0 0), some (vi (nI q)), some (vi x), some (vi zx23), some (vi zx24), some (vi (shN N q i))]) a_X7_stand_98 rfl (by decide) (fun _ => rfl) (fun zx24 ezx24 => ?_)
            refine ri_goto a_X7_stand_101 ?_
            have hz := (and1 (sn >>> (shN N q i &&& 31))).elim id (fun z => absurd z zc22)
            rw [if_pos ⟨zc21, hz⟩, ← ezx23] at ht hf
            rw [ezx24, nI_1]
            exact ih (i + 1) zx23 _ (by omega) ht hf
          · refine ri_ic a_X7_stand_88 ?_
            refine ri_ireturn a_X7_stand_90 rfl rfl ?_
            rw [if_neg (fun z => and1n.1 zc22 z.2)] at hf
            exact rX ⟨frN_rf, by rw [hf rfl]; rfl⟩
        · refine ri_if_eq a_X7_stand_75 (fun _ => ?_) (fun q => absurd q (by decide))
          refine ri_ic a_X7_stand_88 ?_
          refine ri_ireturn a_X7_stand_90 rfl rfl ?_
          rw [if_neg (fun z => zc21 z.1)] at hf
          exact rX ⟨frN_rf, by rw [hf rfl]; rfl⟩
  refine lr_ok (by decide +kernel) rfl ?_
  refine ri_ild a_X7_stand_0 rfl ?_
  refine ri_ic a_X7_stand_1 ?_
  refine ri_ic a_X7_stand_2 ?_
  refine ri_cSpb (as := [vi (nI q), vi 0, vi 3]) (rest := []) (d' := d - 1) a_X7_stand_3 ms_X7_in ml_X7_96 (by omega) (ok_X7_in (nI q) 0 3) (Nat.le_of_ble_eq_true rfl) rfl (fun zc1 => ?_) (fun zc1 => ?_)
  · refine ri_if_ne a_X7_stand_6 (fun _ => ?_) (fun q => absurd q (by decide))
    refine ri_ald a_X7_stand_12 rfl ?_
    refine ri_getR (t' := 11) (i' := 0) a_X7_stand_13 fl_X7_40 kM_0_17 rfl iM_0 (Or.inr ⟨rfl, rfl, rfl⟩) ?_
    refine ri_ild a_X7_stand_16 rfl ?_
    refine ri_iaload a_X7_stand_17 lM_11 rfl iM_11 i4 ?_
    refine ri_ic a_X7_stand_18 ?_
    refine ri_icmp_ne a_X7_stand_19 (fun zc2 => ?_) (fun zc2 => ?_)
    · refine ri_ic a_X7_stand_25 ?_
      refine ri_istk (ls' := [some (vo 0 0), some (vi (nI q)), some (vi x), some (vi 0), none, none]) a_X7_stand_26 rfl ?_
      refine ri_ald a_X7_stand_27 rfl ?_
      refine ri_getR (t' := 12) (i' := 0) a_X7_stand_28 fl_X7_43 kM_0_18 rfl iM_0 (Or.inr ⟨rfl, rfl, rfl⟩) ?_
      refine ri_ild a_X7_stand_31 rfl ?_
      refine ri_iaload a_X7_stand_32 lM_12 rfl iM_12 i4 ?_
      refine ri_ic a_X7_stand_33 ?_
      refine ri_icmp_le a_X7_stand_35 (fun zc3 => ?_) (fun zc3 => ?_)
      · refine ri_ic a_X7_stand_41 ?_
        refine ri_istk (ls' := [some (vo 0 0), some (vi (nI q)), some (vi x), some (vi 0), some (vi 0), none]) a_X7_stand_42 rfl ?_
        rw [eq] at zc2
        rw [m4] at zc3
        have h8 : m ≤ 8 := (nI_leI (b := 8) (by omega) (by decide)).1 zc3
        refine lr_Wimp (loop h8 zc2 m 0 0 none (by omega) id id) ?_
        rintro r M' ⟨y, h1, h2, h3⟩
        refine ⟨y, h1, h2, ?_⟩
        rw [if_neg zc2, h3]
        simp only [h8, true_and]
      · refine ri_ic a_X7_stand_38 ?_
        refine ri_ireturn a_X7_stand_40 rfl rfl ?_
        rw [eq] at zc2
        rw [m4] at zc3
        have h8 : ¬ m ≤ 8 := fun h => zc3 (nI_le (b := 8) h (by decide))
        exact rX ⟨frN_rf, by rw [if_neg zc2, if_neg (fun z => h8 z.1)]⟩
    · refine ri_ic a_X7_stand_22 ?_
      refine ri_ireturn a_X7_stand_24 rfl rfl ?_
      rw [eq] at zc2
      exact rX ⟨frN_rf, by rw [if_pos zc2]⟩
  · refine ri_if_ne a_X7_stand_6 (fun q => absurd q (by decide)) (fun _ => ?_)
    refine ri_ic a_X7_stand_9 ?_
    refine ri_ireturn a_X7_stand_11 rfl rfl ?_
    exact absurd (s4 hq) zc1
theorem no_X7_stand {w : Wd} {d : Nat} (hd : 1 ≤ d) {N : Mem} {s : Int32} (hs : ¬ (0 ≤ s ∧ s ≤ 3)) (x : Int32) : lr_Ok tM sM w d jX7_stand [vo 0 0, vi s, vi x] N (qI (-2) N) := by
  refine lr_ok (by decide +kernel) rfl ?_
  refine ri_ild a_X7_stand_0 rfl ?_
  refine ri_ic a_X7_stand_1 ?_
  refine ri_ic a_X7_stand_2 ?_
  refine ri_cSpb (as := [vi s, vi 0, vi 3]) (rest := []) (d' := d - 1) a_X7_stand_3 ms_X7_in ml_X7_96 (by omega) (ok_X7_in s 0 3) (Nat.le_of_ble_eq_true rfl) rfl (fun zc1 => ?_) (fun zc1 => ?_)
  · refine ri_if_ne a_X7_stand_6 (fun _ => ?_) (fun q => absurd q (by decide))
    exact absurd zc1 hs
  · refine ri_if_ne a_X7_stand_6 (fun q => absurd q (by decide)) (fun _ => ?_)
    refine ri_ic a_X7_stand_9 ?_
    refine ri_ireturn a_X7_stand_11 rfl rfl ?_
    exact rI rfl rfl

