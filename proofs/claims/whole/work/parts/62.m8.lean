/-! reference: what is best -/
def upB (L : List (List Op)) (V : Vw) (s : Int32 × Int32) (R : List Nat) : Int32 × Int32 := if s.1 < hiS L V (liF R) R.length then (hiS L V (liF R) R.length, dgL R) else s
def upH (L : List (List Op)) (V : Vw) (h : Nat → Int32) (R : List Nat) : Nat → Int32 := fun i => if i = R.length then (if h R.length < hiS L V (liF R) R.length then hiS L V (liF R) R.length else h R.length) else h i
theorem upS_B {L : List (List Op)} {V : Vw} : ∀ (l : List (List Nat)) (s : St3), ((l.foldl (upS L V) s).1, (l.foldl (upS L V) s).2.1) = l.foldl (upB L V) (s.1, s.2.1) := by
  intro l
  induction l with
  | nil => intro s; rfl
  | cons R l ih =>
    intro s
    rw [List.foldl_cons, ih, List.foldl_cons]
    congr 1
    unfold upS upB
    by_cases h : s.1 < hiS L V (liF R) R.length
    · simp only [if_pos h]
    · simp only [if_neg h]
theorem upS_H {L : List (List Op)} {V : Vw} {i : Nat} : ∀ (l : List (List Nat)) (s : St3) (h : Nat → Int32), s.2.2 i = h i → (l.foldl (upS L V) s).2.2 i = l.foldl (upH L V) h i := by
  intro l
  induction l with
  | nil => intro s h e; exact e
  | cons R l ih =>
    intro s h e
    rw [List.foldl_cons, List.foldl_cons]
    refine ih _ _ ?_
    unfold upS upH
    dsimp only
    by_cases h1 : i = R.length
    · subst h1
      rw [if_pos rfl, if_pos rfl, e]
    · rw [if_neg h1, if_neg h1, e]
/-- the best of all ladders of some people, of m rungs or fewer: how high, its digits; how high by rungs -/
def goB (L : List (List Op)) (V : Vw) (F : Nat → Int32) (al : Int32) (n m : Nat) : Int32 × Int32 := (trT L V F al n m []).foldl (upB L V) (0, -1)
def goH (L : List (List Op)) (V : Vw) (F : Nat → Int32) (al : Int32) (n m : Nat) : Nat → Int32 := (trT L V F al n m []).foldl (upH L V) (fun _ => 0)
theorem ok_X7_goes {w : Wd} {d : Nat} (hd : 1 ≤ d) {N : Mem} {n lim : Nat} {L : List (List Op)} {V : Vw} {al : Int32} (ht : tbM L V n N) (hn : N 0 0 0 = nI n) (hn8 : n ≤ 8) (hl8 : lim ≤ 8) : lr_Ok tM sM w d jX7_goesThrough [vo 0 0, vi al, vi (nI lim)] N (qV fun N' => frG N N' ∧ (N' 0 0 38, N' 0 0 37) = goB L V (N 4 0) al n lim ∧ ∀ i, i < 9 → N' 23 0 i = goH L V (N 4 0) al n lim i) := by
  refine lr_imp (ok_X7_goesThrough hd ht hn hn8 hl8) ?_
  rintro r N' ⟨rfl, h1, h2⟩
  refine ⟨rfl, h1, ?_, fun i hi => ?_⟩
  · have := upS_B (L := L) (V := V) (trT L V (N 4 0) al n lim []) (0, -1, fun i => if i < 9 then 0 else N 23 0 i)
    rw [← h2] at this
    exact this
  · have := upS_H (L := L) (V := V) (i := i) (trT L V (N 4 0) al n lim []) (0, -1, fun i => if i < 9 then 0 else N 23 0 i) (fun _ => 0) (if_pos hi)
    rw [← h2] at this
    exact this
theorem tbM_G {N N' : Mem} (h : frTb N N') : N' 4 0 = N 4 0 := by rw [h 4 (by decide) (by decide) (by decide)]
theorem ok_X7_highest {w : Wd} {d : Nat} (hd : 5 ≤ d) {N : Mem} {n k : Nat} {L : List (List Op)} (hL : lawN N L) (hn : N 0 0 0 = nI n) (hn8 : n ≤ 8) (hk : N 0 0 6 = nI k) (hk8 : k ≤ 8) (a x : Int32) : lr_Ok tM sM w d jX7_highest [vo 0 0, vi a, vi x] N (qX fun r N' => frN N N' ∧ r = if (0 ≤ a ∧ a ≤ 5) ∧ 0 ≤ x ∧ x ≤ 1 then (if x = 0 then (goB L (vwM N) (N 4 0) (bitsF (N 5 0) k) n a.toNatClampNeg).2 else (goB L (vwM N) (N 4 0) (bitsF (N 5 0) k) n a.toNatClampNeg).1) else -2) := by
  refine lr_ok (by decide +kernel) rfl ?_
  refine ri_ild a_X7_highest_0 rfl ?_
  refine ri_ic a_X7_highest_1 ?_
  refine ri_ic a_X7_highest_2 ?_
  refine ri_cSpb (as := [vi a, vi 0, vi 5]) (rest := []) (d' := d - 1) a_X7_highest_3 ms_X7_in ml_X7_96 (by omega) (ok_X7_in a 0 5) (Nat.le_of_ble_eq_true rfl) rfl (fun zc1 => ?_) (fun zc1 => ?_)
  · refine ri_if_eq a_X7_highest_6 (fun q => absurd q (by decide)) (fun _ => ?_)
    refine ri_ild a_X7_highest_9 rfl ?_
    refine ri_ic a_X7_highest_10 ?_
    refine ri_ic a_X7_highest_11 ?_
    refine ri_cSpb (as := [vi x, vi 0, vi 1]) (rest := []) (d' := d - 1) a_X7_highest_12 ms_X7_in ml_X7_96 (by omega) (ok_X7_in x 0 1) (Nat.le_of_ble_eq_true rfl) rfl (fun zc2 => ?_) (fun zc2 => ?_)
    · refine ri_if_ne a_X7_highest_15 (fun _ => ?_) (fun q => absurd q (by decide))
      refine ri_ald a_X7_highest_21 rfl ?_
      refine ri_cVxv (as := []) (rest := []) (d' := d - 1) a_X7_highest_22 mv_X7_tellsAll ml_X7_213 (rcM_0 iM_0) (by omega) (ok_X7_tellsAll (by omega) hL hn hn8) (Nat.le_of_ble_eq_true rfl) rfl (fun zM3 hzM3 => ?_)
      refine ri_ald a_X7_highest_25 rfl ?_
      refine ri_ald a_X7_highest_26 rfl ?_
      refine ri_cVpi (as := []) (rest := [vo 0 0]) (d' := d - 1) a_X7_highest_27 mv_X7_savedSet ml_X7_234 (rcM_0 iM_0) (by omega) (ok_X7_savedSet (N := zM3) (by rw [hzM3.1 0 (by decide) (by decide) (by decide)]; exact hk) hk8) (Nat.le_of_ble_eq_true rfl) rfl (fun zy4 ezy4 => ?_)
      obtain ⟨m, hm, rfl⟩ := nI_of2 (n := 5) (M := 5) (by decide) (Int32.not_lt.mpr zc1.1) zc1.2
      obtain ⟨hf, ht⟩ := hzM3
      rw [hf 5 (by decide) (by decide) (by decide)] at ezy4
      subst ezy4
      have hgo := ok_X7_goes (w := w) (d := d - 1) (lim := m) (al := bitsF (N 5 0) k) (by omega) ht (by rw [hf 0 (by decide) (by decide) (by decide)]; exact hn) hn8 (by omega)
      rw [tbM_G hf] at hgo
      refine ri_ild a_X7_highest_30 rfl ?_
      refine ri_cVxv (as := [vi (bitsF (N 5 0) k), vi (nI m)]) (rest := []) (d' := d - 1) a_X7_highest_31 mv_X7_goesThrough ml_X7_237 (rcM_0 iM_0) (by omega) (hgo) (Nat.le_of_ble_eq_true rfl) rfl (fun zM11 hzM11 => ?_)
      refine ri_ild a_X7_highest_34 rfl ?_
      refine ri_if_ne a_X7_highest_35 (fun zc12 => ?_) (fun zc12 => ?_)
      · refine ri_ald a_X7_highest_45 rfl ?_
        refine ri_getI a_X7_highest_46 fl_X7_228 kM_0_38 rfl iM_0 ?_
        refine ri_ireturn a_X7_highest_49 rfl rfl ?_
        exact rX ⟨frN_tr (frTb_N hf) (frG_N hzM11.1), by rw [if_pos ⟨zc1, zc2⟩, if_neg zc12, nI_clamp (by omega)]; exact congrArg Prod.fst hzM11.2.1⟩
      · refine ri_ald a_X7_highest_38 rfl ?_
        refine ri_getI a_X7_highest_39 fl_X7_225 kM_0_37 rfl iM_0 ?_
        refine ri_goto a_X7_highest_42 ?_
        refine ri_ireturn a_X7_highest_49 rfl rfl ?_
        exact rX ⟨frN_tr (frTb_N hf) (frG_N hzM11.1), by rw [if_pos ⟨zc1, zc2⟩, if_pos zc12, nI_clamp (by omega)]; exact congrArg Prod.snd hzM11.2.1⟩
    · refine ri_if_ne a_X7_highest_15 (fun q => absurd q (by decide)) (fun _ => ?_)
      refine ri_ic a_X7_highest_18 ?_
      refine ri_ireturn a_X7_highest_20 rfl rfl ?_
      exact rX ⟨frN_rf, by rw [if_neg (fun q => zc2 q.2)]⟩
  · refine ri_if_eq a_X7_highest_6 (fun _ => ?_) (fun q => absurd q (by decide))
    refine ri_ic a_X7_highest_18 ?_
    refine ri_ireturn a_X7_highest_20 rfl rfl ?_
    exact rX ⟨frN_rf, by rw [if_neg (fun q => zc1 q.1)]⟩
theorem ok_X7_fewest {w : Wd} {d : Nat} (hd : 5 ≤ d) {N : Mem} {n k : Nat} {L : List (List Op)} (hL : lawN N L) (hn : N 0 0 0 = nI n) (hn8 : n ≤ 8) (hk : N 0 0 6 = nI k) (hk8 : k ≤ 8) (win : Int32) : lr_Ok tM sM w d jX7_fewest [vo 0 0, vi win] N (qX fun r N' => frN N N' ∧ r = if 0 ≤ win ∧ win ≤ 999 then feF (goH L (vwM N) (N 4 0) (bitsF (N 5 0) k) n 5) win 6 0 else -2) := by
  generalize hg : goH L (vwM N) (N 4 0) (bitsF (N 5 0) k) n 5 = g
  have loop : ∀ N1, frN N N1 → (∀ i, i < 9 → N1 23 0 i = g i) → ∀ r m, 6 = m + r → lr_W tM sM w d jX7_fewest 29 [some (vo 0 0), some (vi win), some (vi (nI m))] [] N1 (qX fun r' N' => frN N N' ∧ r' = feF g win r m) := by
    intro N1 hf h23 r
    induction r with
    | zero =>
      intro m hm
      have : m = 6 := by omega
      subst this
      refine ri_ild a_X7_fewest_29 rfl ?_
      refine ri_ic a_X7_fewest_30 ?_
      refine ri_icmp_gt a_X7_fewest_31 (fun zc1 => ?_) (fun zc1 => ?_)
      · refine ri_ic a_X7_fewest_52 ?_
        refine ri_ireturn a_X7_fewest_53 rfl rfl ?_
        exact rX ⟨hf, rfl⟩
      · exact absurd (by decide) zc1
    | succ r ih =>
      intro m hm
      have e23 : N1 23 0 (nI m).toNatClampNeg = g m := by rw [nI_clamp (by omega)]; exact h23 m (by omega)
      rw [feF]
      refine ri_ild a_X7_fewest_29 rfl ?_
      refine ri_ic a_X7_fewest_30 ?_
      refine ri_icmp_gt a_X7_fewest_31 (fun zc11 => ?_) (fun zc11 => ?_)
      · exact absurd zc11 (by rw [show (5 : Int32) = nI 5 from rfl]; exact nI_nlt (by omega) (by omega))
      · refine ri_ald a_X7_fewest_34 rfl ?_
        refine ri_getR (t' := 23) (i' := 0) a_X7_fewest_35 fl_X7_76 kM_0_39 rfl iM_0 (Or.inr ⟨rfl, rfl, rfl⟩) ?_
        refine ri_ild a_X7_fewest_38 rfl ?_
        refine ri_iaload a_X7_fewest_39 lM_23 rfl iM_23 (vp_in_nI (by omega) (by decide)) ?_
        refine ri_ild a_X7_fewest_40 rfl ?_
        refine ri_icmp_lt a_X7_fewest_41 (fun zc12 => ?_) (fun zc12 => ?_)
        · refine ri_iinc (c0 := 1) (f := fun zx13 => [some (vo 0 0), some (vi win), some (vi zx13)]) a_X7_fewest_46 rfl (by decide) (fun _ => rfl) (fun zx13 ezx13 => ?_)
          refine ri_goto a_X7_fewest_49 ?_
          rw [e23] at zc12
          rw [if_neg (Int32.not_le.mpr zc12), ezx13, nI_1]
          exact ih (m + 1) (by omega)
        · refine ri_ild a_X7_fewest_44 rfl ?_
          refine ri_ireturn a_X7_fewest_45 rfl rfl ?_
          rw [e23] at zc12
          exact rX ⟨hf, by rw [if_pos (Int32.not_lt.mp zc12)]⟩
  refine lr_ok (by decide +kernel) rfl ?_
  refine ri_ild a_X7_fewest_0 rfl ?_
  refine ri_ic a_X7_fewest_1 ?_
  refine ri_ic a_X7_fewest_2 ?_
  refine ri_cSpb (as := [vi win, vi 0, vi 999]) (rest := []) (d' := d - 1) a_X7_fewest_5 ms_X7_in ml_X7_96 (by omega) (ok_X7_in win 0 999) (Nat.le_of_ble_eq_true rfl) rfl (fun zc1 => ?_) (fun zc1 => ?_)
  · refine ri_if_ne a_X7_fewest_8 (fun _ => ?_) (fun q => absurd q (by decide))
    refine ri_ald a_X7_fewest_14 rfl ?_
    refine ri_cVxv (as := []) (rest := []) (d' := d - 1) a_X7_fewest_15 mv_X7_tellsAll ml_X7_213 (rcM_0 iM_0) (by omega) (ok_X7_tellsAll (by omega) hL hn hn8) (Nat.le_of_ble_eq_true rfl) rfl (fun zM2 hzM2 => ?_)
    refine ri_ald a_X7_fewest_18 rfl ?_
    refine ri_ald a_X7_fewest_19 rfl ?_
    refine ri_cVpi (as := []) (rest := [vo 0 0]) (d' := d - 1) a_X7_fewest_20 mv_X7_savedSet ml_X7_234 (rcM_0 iM_0) (by omega) (ok_X7_savedSet (N := zM2) (by rw [hzM2.1 0 (by decide) (by decide) (by decide)]; exact hk) hk8) (Nat.le_of_ble_eq_true rfl) rfl (fun zy3 ezy3 => ?_)
    obtain ⟨hf, ht⟩ := hzM2
    rw [hf 5 (by decide) (by decide) (by decide)] at ezy3
    subst ezy3
    have hgo := ok_X7_goes (w := w) (d := d - 1) (lim := 5) (al := bitsF (N 5 0) k) (by omega) ht (by rw [hf 0 (by decide) (by decide) (by decide)]; exact hn) hn8 (by omega)
    rw [tbM_G hf, hg] at hgo
    refine ri_ic a_X7_fewest_23 ?_
    refine ri_cVxv (as := [vi (bitsF (N 5 0) k), vi 5]) (rest := []) (d' := d - 1) a_X7_fewest_24 mv_X7_goesThrough ml_X7_237 (rcM_0 iM_0) (by omega) (hgo) (Nat.le_of_ble_eq_true rfl) rfl (fun zM11 hzM11 => ?_)
    refine ri_ic a_X7_fewest_27 ?_
    refine ri_istk (ls' := [some (vo 0 0), some (vi win), some (vi 0)]) a_X7_fewest_28 rfl ?_
    refine lr_Wimp (loop zM11 (frN_tr (frTb_N hf) (frG_N hzM11.1)) hzM11.2.2 6 0 rfl) ?_
    rintro r M' ⟨y, h1, h2, h3⟩
    exact ⟨y, h1, h2, by rw [if_pos zc1]; exact h3⟩
  · refine ri_if_ne a_X7_fewest_8 (fun q => absurd q (by decide)) (fun _ => ?_)
    refine ri_ic a_X7_fewest_11 ?_
    refine ri_ireturn a_X7_fewest_13 rfl rfl ?_
    exact rX ⟨frN_rf, by rw [if_neg zc1]⟩
def miU (L : List (List Op)) (V : Vw) (F : Nat → Int32) (al : Int32) (n : Nat) (O : Nat → Nat) (i : Nat) (s : Int32 × Int32) : Int32 × Int32 := if s.1 = -1 ∨ (goB L V F (al &&& ((1 <<< (nI (O i) &&& 31)) ^^^ -1)) n 4).1 < s.2 then (nI (O i), (goB L V F (al &&& ((1 <<< (nI (O i) &&& 31)) ^^^ -1)) n 4).1) else s
theorem ok_X7_missed {w : Wd} {d : Nat} (hd : 5 ≤ d) {N : Mem} {n k : Nat} {L : List (List Op)} {O : Nat → Nat} (hL : lawN N L) (hn : N 0 0 0 = nI n) (hn8 : n ≤ 8) (hO : orN N O k n) (x : Int32) : lr_Ok tM sM w d jX7_missed [vo 0 0, vi x] N (qX fun r N' => frN N N' ∧ r = if 0 ≤ x ∧ x ≤ 1 then (if x = 0 then (lp (miU L (vwM N) (N 4 0) (bitsF (N 5 0) k) n O) k 0 (-1, 0)).1 else (lp (miU L (vwM N) (N 4 0) (bitsF (N 5 0) k) n O) k 0 (-1, 0)).2) else -2) := by
  generalize hT : miU L (vwM N) (N 4 0) (bitsF (N 5 0) k) n O = T
  have loop : ∀ r i s j5 N1, k = i + r → frN N N1 → tbM L (vwM N) n N1 → lr_W tM sM w d jX7_missed 23 [some (vo 0 0), some (vi x), some (vi s.1), some (vi s.2), some (vi (nI i)), j5] [] N1 (qX fun r' N' => frN N N' ∧ r' = if x = 0 then (lp T r i s).1 else (lp T r i s).2) := by
    intro r
    induction r with
    | zero =>
      intro i s j5 N1 hi hf ht
      have : k = i := hi
      subst this
      have e6 : N1 0 0 6 = nI k := by rw [hf 0 0 6 (by decide) (by omega)]; exact hO.1
      refine ri_ild a_X7_missed_23 rfl ?_
      refine ri_ald a_X7_missed_25 rfl ?_
      refine ri_getI a_X7_missed_26 fl_X7_100 kM_0_6 rfl iM_0 ?_
      refine ri_icmp_ge a_X7_missed_29 (fun zc11 => ?_) (fun zc11 => ?_)
      · refine ri_ild a_X7_missed_110 rfl ?_
        refine ri_if_ne a_X7_missed_111 (fun zc12 => ?_) (fun zc12 => ?_)
        · refine ri_ild a_X7_missed_118 rfl ?_
          refine ri_ireturn a_X7_missed_119 rfl rfl ?_
          exact rX ⟨hf, by simp only [zc12, if_true, if_false]; rfl⟩
        · refine ri_ild a_X7_missed_114 rfl ?_
          refine ri_goto a_X7_missed_115 ?_
          refine ri_ireturn a_X7_missed_119 rfl rfl ?_
          exact rX ⟨hf, by simp only [zc12, if_true, if_false]; rfl⟩
      · exact absurd (by rw [e6]; exact Int32.le_refl _) zc11
    | succ r ih =>
      intro i s j5 N1 hi hf ht
      have e6 : N1 0 0 6 = nI k := by rw [hf 0 0 6 (by decide) (by omega)]; exact hO.1
      obtain ⟨ho, hon⟩ := hO.2.2 i (by have := hO.2.1; omega)
      have hk8 := hO.2.1
      have e5 : N1 5 0 (nI i).toNatClampNeg = nI (O i) := by rw [nI_clamp (by omega), hf 5 0 i (by decide) (by omega)]; exact ho
      have eb : bitsF (N1 5 0) k = bitsF (N 5 0) k := by rw [frN_t hf (t := 5) (by decide) (by decide)]
      have hgo := ok_X7_goes (w := w) (d := d - 1) (lim := 4) (al := bitsF (N 5 0) k &&& ((1 <<< (nI (O i) &&& 31)) ^^^ -1)) (by omega) ht (by rw [hf 0 0 0 (by decide) (by omega)]; exact hn) hn8 (by omega)
      rw [frN_t hf (t := 4) (by decide) (by decide)] at hgo
      generalize hb : goB L (vwM N) (N 4 0) (bitsF (N 5 0) k &&& ((1 <<< (nI (O i) &&& 31)) ^^^ -1)) n 4 = b at hgo
      have post : ∀ s' j5 N2, frN N N2 → tbM L (vwM N) n N2 → s' = T i s → lr_W tM sM w d jX7_missed 104 [some (vo 0 0), some (vi x), some (vi s'.1), some (vi s'.2), some (vi (nI i)), j5] [] N2 (qX fun r' N' => frN N N' ∧ r' = if x = 0 then (lp T (r + 1) i s).1 else (lp T (r + 1) i s).2) := by
        intro s' j5 N2 hf2 ht2 hs
        refine ri_iinc (c0 := 1) (f := fun zx11 => [some (vo 0 0), some (vi x), some (vi s'.1), some (vi s'.2), some (vi zx11), j5]) a_X7_missed_104 rfl (by decide) (fun _ => rfl) (fun zx11 ezx11 => ?_)
        refine ri_goto a_X7_missed_107 ?_
        rw [ezx11, nI_1, lp, ← hs]
        exact ih (i + 1) s' _ N2 (by omega) hf2 ht2
      have hTi : T i s = if s.1 = -1 ∨ b.1 < s.2 then (nI (O i), b.1) else s := by rw [← hT]; unfold miU; rw [hb]
      have hsv := ok_X7_savedSet (w := w) (d := d - 1) e6 hk8
      rw [eb] at hsv
      refine ri_ild a_X7_missed_23 rfl ?_
      refine ri_ald a_X7_missed_25 rfl ?_
      refine ri_getI a_X7_missed_26 fl_X7_100 kM_0_6 rfl iM_0 ?_
      refine ri_icmp_ge a_X7_missed_29 (fun zc11 => ?_) (fun zc11 => ?_)
      · exact absurd zc11 (by rw [e6]; exact nI_ge (by omega) (by omega))
      · refine ri_ald a_X7_missed_32 rfl ?_
        refine ri_ald a_X7_missed_33 rfl ?_
        refine ri_cVpi (as := []) (rest := [vo 0 0]) (d' := d - 1) a_X7_missed_34 mv_X7_savedSet ml_X7_234 (rcM_0 iM_0) (by omega) (hsv) (Nat.le_of_ble_eq_true rfl) rfl (fun zy12 ezy12 => ?_)
        refine ri_ic a_X7_missed_37 ?_
        refine ri_ald a_X7_missed_38 rfl ?_
        refine ri_getR (t' := 5) (i' := 0) a_X7_missed_39 fl_X7_22 kM_0_5 rfl iM_0 (Or.inr ⟨rfl, rfl, rfl⟩) ?_
        refine ri_ild a_X7_missed_42 rfl ?_
        refine ri_iaload a_X7_missed_44 lM_5 rfl iM_5 (vp_in_nI (by omega) (by decide)) ?_
        rw [e5]
        subst ezy12
        refine ri_ishl a_X7_missed_45 ?_
        refine ri_ic a_X7_missed_46 ?_
        refine ri_ixor a_X7_missed_47 ?_
        refine ri_iand a_X7_missed_48 ?_
        refine ri_ic a_X7_missed_49 ?_
        refine ri_cVxv (as := [vi ((bitsF (N 5 0) k) &&& ((1 <<< ((nI (O i)) &&& 31)) ^^^ (-1))), vi 4]) (rest := []) (d' := d - 1) a_X7_missed_50 mv_X7_goesThrough ml_X7_237 (rcM_0 iM_0) (by omega) (hgo) (Nat.le_of_ble_eq_true rfl) rfl (fun zM21 hzM21 => ?_)
        refine ri_ild a_X7_missed_53 rfl ?_
        refine ri_ic a_X7_missed_54 ?_
        refine ri_icmp_eq a_X7_missed_55 (fun zc22 => ?_) (fun zc22 => ?_)
        · refine ri_ic a_X7_missed_66 ?_
          refine ri_goto a_X7_missed_67 ?_
          refine ri_istk (ls' := [some (vo 0 0), some (vi x), some (vi s.1), some (vi s.2), some (vi (nI i)), some (vi 1)]) a_X7_missed_71 rfl ?_
          refine ri_ild a_X7_missed_73 rfl ?_
          refine ri_if_eq a_X7_missed_75 (fun q => absurd q (by decide)) (fun _ => ?_)
          refine ri_ald a_X7_missed_78 rfl ?_
          refine ri_getR (t' := 5) (i' := 0) a_X7_missed_79 fl_X7_22 kM_0_5 rfl iM_0 (Or.inr ⟨rfl, rfl, rfl⟩) ?_
          refine ri_ild a_X7_missed_82 rfl ?_
          refine ri_iaload a_X7_missed_84 lM_5 rfl iM_5 (vp_in_nI (by omega) (by decide)) ?_
          refine ri_goto a_X7_missed_85 ?_
          refine ri_ist (f := fun zx23 => [some (vo 0 0), some (vi x), some (vi zx23), some (vi s.2), some (vi (nI i)), some (vi 1)]) a_X7_missed_89 (fun _ => rfl) (fun zx23 ezx23 => ?_)
          refine ri_ild a_X7_missed_90 rfl ?_
          refine ri_if_eq a_X7_missed_92 (fun q => absurd q (by decide)) (fun _ => ?_)
          refine ri_ald a_X7_missed_95 rfl ?_
          refine ri_getI a_X7_missed_96 fl_X7_228 kM_0_38 rfl iM_0 ?_
          refine ri_goto a_X7_missed_99 ?_
          refine ri_ist (f := fun zx24 => [some (vo 0 0), some (vi x), some (vi zx23), some (vi zx24), some (vi (nI i)), some (vi 1)]) a_X7_missed_103 (fun _ => rfl) (fun zx24 ezx24 => ?_)
          have hf2 := frN_tr hf (frG_N hzM21.1)
          have ht2 := frG_tb hzM21.1 ht
          have e38 : zM21 0 0 38 = b.1 := congrArg Prod.fst hzM21.2.1
          have e52 : zM21 5 0 (nI i).toNatClampNeg = nI (O i) := by rw [nI_clamp (by omega), hf2 5 0 i (by decide) (by omega)]; exact ho
          rw [ezx23, ezx24, e52, e38]
          exact post (nI (O i), b.1) _ zM21 hf2 ht2 (by rw [hTi, if_pos (Or.inl zc22)])
        · refine ri_ald a_X7_missed_58 rfl ?_
          refine ri_getI a_X7_missed_59 fl_X7_228 kM_0_38 rfl iM_0 ?_
          refine ri_ild a_X7_missed_62 rfl ?_
          refine ri_icmp_ge a_X7_missed_63 (fun zc25 => ?_) (fun zc25 => ?_)
          · refine ri_ic a_X7_missed_70 ?_
            refine ri_istk (ls' := [some (vo 0 0), some (vi x), some (vi s.1), some (vi s.2), some (vi (nI i)), some (vi 0)]) a_X7_missed_71 rfl ?_
            refine ri_ild a_X7_missed_73 rfl ?_
            refine ri_if_eq a_X7_missed_75 (fun _ => ?_) (fun q => absurd q (by decide))
            refine ri_ild a_X7_missed_88 rfl ?_
            refine ri_ist (f := fun zx26 => [some (vo 0 0), some (vi x), some (vi zx26), some (vi s.2), some (vi (nI i)), some (vi 0)]) a_X7_missed_89 (fun _ => rfl) (fun zx26 ezx26 => ?_)
            refine ri_ild a_X7_missed_90 rfl ?_
            refine ri_if_eq a_X7_missed_92 (fun _ => ?_) (fun q => absurd q (by decide))
            refine ri_ild a_X7_missed_102 rfl ?_
            refine ri_ist (f := fun zx27 => [some (vo 0 0), some (vi x), some (vi zx26), some (vi zx27), some (vi (nI i)), some (vi 0)]) a_X7_missed_103 (fun _ => rfl) (fun zx27 ezx27 => ?_)
            have hf2 := frN_tr hf (frG_N hzM21.1)
            have ht2 := frG_tb hzM21.1 ht
            have e38 : zM21 0 0 38 = b.1 := congrArg Prod.fst hzM21.2.1
            have e52 : zM21 5 0 (nI i).toNatClampNeg = nI (O i) := by rw [nI_clamp (by omega), hf2 5 0 i (by decide) (by omega)]; exact ho
            rw [e38] at zc25
            rw [ezx26, ezx27]
            exact post s _ zM21 hf2 ht2 (by rw [hTi, if_neg (fun q => q.elim zc22 (Int32.not_lt.mpr zc25))])
          · refine ri_ic a_X7_missed_66 ?_
            refine ri_goto a_X7_missed_67 ?_
            refine ri_istk (ls' := [some (vo 0 0), some (vi x), some (vi s.1), some (vi s.2), some (vi (nI i)), some (vi 1)]) a_X7_missed_71 rfl ?_
            refine ri_ild a_X7_missed_73 rfl ?_
            refine ri_if_eq a_X7_missed_75 (fun q => absurd q (by decide)) (fun _ => ?_)
            refine ri_ald a_X7_missed_78 rfl ?_
            refine ri_getR (t' := 5) (i' := 0) a_X7_missed_79 fl_X7_22 kM_0_5 rfl iM_0 (Or.inr ⟨rfl, rfl, rfl⟩) ?_
            refine ri_ild a_X7_missed_82 rfl ?_
            refine ri_iaload a_X7_missed_84 lM_5 rfl iM_5 (vp_in_nI (by omega) (by decide)) ?_
            refine ri_goto a_X7_missed_85 ?_
            refine ri_ist (f := fun zx28 => [some (vo 0 0), some (vi x), some (vi zx28), some (vi s.2), some (vi (nI i)), some (vi 1)]) a_X7_missed_89 (fun _ => rfl) (fun zx28 ezx28 => ?_)
            refine ri_ild a_X7_missed_90 rfl ?_
            refine ri_if_eq a_X7_missed_92 (fun q => absurd q (by decide)) (fun _ => ?_)
            refine ri_ald a_X7_missed_95 rfl ?_
            refine ri_getI a_X7_missed_96 fl_X7_228 kM_0_38 rfl iM_0 ?_
            refine ri_goto a_X7_missed_99 ?_
            refine ri_ist (f := fun zx29 => [some (vo 0 0), some (vi x), some (vi zx28), some (vi zx29), some (vi (nI i)), some (vi 1)]) a_X7_missed_103 (fun _ => rfl) (fun zx29 ezx29 => ?_)
            have hf2 := frN_tr hf (frG_N hzM21.1)
            have ht2 := frG_tb hzM21.1 ht
            have e38 : zM21 0 0 38 = b.1 := congrArg Prod.fst hzM21.2.1
            have e52 : zM21 5 0 (nI i).toNatClampNeg = nI (O i) := by rw [nI_clamp (by omega), hf2 5 0 i (by decide) (by omega)]; exact ho
            rw [e38] at zc25
            rw [ezx28, ezx29, e52, e38]
            exact post (nI (O i), b.1) _ zM21 hf2 ht2 (by rw [hTi, if_pos (Or.inr (Int32.not_le.mp zc25))])
  refine lr_ok (by decide +kernel) rfl ?_
  refine ri_ild a_X7_missed_0 rfl ?_
  refine ri_ic a_X7_missed_1 ?_
  refine ri_ic a_X7_missed_2 ?_
  refine ri_cSpb (as := [vi x, vi 0, vi 1]) (rest := []) (d' := d - 1) a_X7_missed_3 ms_X7_in ml_X7_96 (by omega) (ok_X7_in x 0 1) (Nat.le_of_ble_eq_true rfl) rfl (fun zc1 => ?_) (fun zc1 => ?_)
  · refine ri_if_ne a_X7_missed_6 (fun _ => ?_) (fun q => absurd q (by decide))
    refine ri_ald a_X7_missed_12 rfl ?_
    refine ri_cVxv (as := []) (rest := []) (d' := d - 1) a_X7_missed_13 mv_X7_tellsAll ml_X7_213 (rcM_0 iM_0) (by omega) (ok_X7_tellsAll (by omega) hL hn hn8) (Nat.le_of_ble_eq_true rfl) rfl (fun zM2 hzM2 => ?_)
    refine ri_ic a_X7_missed_16 ?_
    refine ri_istk (ls' := [some (vo 0 0), some (vi x), some (vi (-1)), none, none, none]) a_X7_missed_17 rfl ?_
    refine ri_ic a_X7_missed_18 ?_
    refine ri_istk (ls' := [some (vo 0 0), some (vi x), some (vi (-1)), some (vi 0), none, none]) a_X7_missed_19 rfl ?_
    refine ri_ic a_X7_missed_20 ?_
    refine ri_istk (ls' := [some (vo 0 0), some (vi x), some (vi (-1)), some (vi 0), some (vi 0), none]) a_X7_missed_21 rfl ?_
    refine lr_Wimp (loop k 0 (-1, 0) none zM2 (by omega) (frTb_N hzM2.1) hzM2.2) ?_
    rintro r M' ⟨y, h1, h2, h3⟩
    exact ⟨y, h1, h2, by rw [if_pos zc1]; exact h3⟩
  · refine ri_if_ne a_X7_missed_6 (fun q => absurd q (by decide)) (fun _ => ?_)
    refine ri_ic a_X7_missed_9 ?_
    refine ri_ireturn a_X7_missed_11 rfl rfl ?_
    exact rX ⟨frN_rf, by rw [if_neg zc1]⟩

