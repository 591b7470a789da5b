/-! reference: reach, chain -/
theorem ok_X7_rowOf {w : Wd} {d : Nat} {N : Mem} {k n set : Nat} {O : Nat → Nat} (hO : orN N O k n) (hn8 : n ≤ 8) : lr_Ok tM sM w d jX7_rowOf [vo 0 0, vi (nI set)] N (qV fun N' => frRw N N' ∧ rwN N' (fun j => (seR O k set).getD j 0) (seR O k set).length n) := by
  obtain ⟨h6, hk8, hO⟩ := hO
  have loop : ∀ r i acc N1, k = i + r → acc.length ≤ i → seL O set r i acc = seR O k set → frRw N N1 → N1 0 0 36 = nI acc.length → (∀ j, j < acc.length → N1 22 0 j = nI (acc.getD j 0) ∧ acc.getD j 0 < n) → lr_W tM sM w d jX7_rowOf 7 [some (vo 0 0), some (vi (nI set)), some (vi (nI i))] [] N1 (qV fun N' => frRw N N' ∧ rwN N' (fun j => (seR O k set).getD j 0) (seR O k set).length n) := by
    intro r
    induction r with
    | zero =>
      intro i acc N1 hi ha hse hf h36 hrow
      have : k = i := hi
      subst this
      have hse : acc = seR O k set := hse
      have e6 : N1 0 0 6 = nI k := by rw [hf 0 0 6 (by omega) (by omega)]; exact h6
      refine ri_ild a_X7_rowOf_7 rfl ?_
      refine ri_ald a_X7_rowOf_8 rfl ?_
      refine ri_getI a_X7_rowOf_9 fl_X7_100 kM_0_6 rfl iM_0 ?_
      refine ri_icmp_ge a_X7_rowOf_12 (fun zc1 => ?_) (fun zc1 => ?_)
      · refine ri_return a_X7_rowOf_55 rfl ?_
        exact rV ⟨hf, by rw [← hse]; exact ⟨h36, by omega, hrow⟩⟩
      · exact absurd (by rw [e6]; exact Int32.le_refl _) zc1
    | succ r ih =>
      intro i acc N1 hi ha hse hf h36 hrow
      have e6 : N1 0 0 6 = nI k := by rw [hf 0 0 6 (by omega) (by omega)]; exact h6
      obtain ⟨ho, hon⟩ := hO i (by omega)
      have e5 : N1 5 0 (nI i).toNatClampNeg = nI (O i) := by rw [hf 5 0 _ (by omega) (by omega), nI_clamp (by omega)]; exact ho
      rw [seL] at hse
      refine ri_ild a_X7_rowOf_7 rfl ?_
      refine ri_ald a_X7_rowOf_8 rfl ?_
      refine ri_getI a_X7_rowOf_9 fl_X7_100 kM_0_6 rfl iM_0 ?_
      refine ri_icmp_ge a_X7_rowOf_12 (fun zc11 => ?_) (fun zc11 => ?_)
      · exact absurd zc11 (by rw [e6]; exact nI_ge (by omega) (by omega))
      · refine ri_ild a_X7_rowOf_15 rfl ?_
        refine ri_ild a_X7_rowOf_16 rfl ?_
        refine ri_ishr a_X7_rowOf_17 ?_
        refine ri_ic a_X7_rowOf_18 ?_
        refine ri_iand a_X7_rowOf_19 ?_
        refine ri_ic a_X7_rowOf_20 ?_
        refine ri_icmp_ne a_X7_rowOf_21 (fun zc12 => ?_) (fun zc12 => ?_)
        · refine ri_iinc (c0 := 1) (f := fun zx13 => [some (vo 0 0), some (vi (nI set)), some (vi zx13)]) a_X7_rowOf_49 rfl (by decide) (fun _ => rfl) (fun zx13 ezx13 => ?_)
          refine ri_goto a_X7_rowOf_52 ?_
          rw [and1n] at zc12
          rw [if_neg zc12] at hse
          rw [ezx13, nI_1]
          exact ih (i + 1) acc N1 (by omega) (by omega) hse hf h36 hrow
        · refine ri_ald a_X7_rowOf_24 rfl ?_
          refine ri_getR (t' := 22) (i' := 0) a_X7_rowOf_25 fl_X7_73 kM_0_35 rfl iM_0 (Or.inr ⟨rfl, rfl, rfl⟩) ?_
          refine ri_ald a_X7_rowOf_28 rfl ?_
          refine ri_getI a_X7_rowOf_29 fl_X7_201 kM_0_36 rfl iM_0 ?_
          refine ri_ald a_X7_rowOf_32 rfl ?_
          refine ri_getR (t' := 5) (i' := 0) a_X7_rowOf_33 fl_X7_22 kM_0_5 rfl iM_0 (Or.inr ⟨rfl, rfl, rfl⟩) ?_
          refine ri_ild a_X7_rowOf_36 rfl ?_
          refine ri_iaload a_X7_rowOf_37 lM_5 rfl iM_5 ?_ ?_
          · exact vp_in_nI (by omega) (by decide)
          refine ri_iastore a_X7_rowOf_38 lM_22 rfl iM_22 ?_ (fun zM14 ezM14 => ?_)
          · rw [h36]; exact vp_in_nI (by omega) (by decide)
          refine ri_ald a_X7_rowOf_39 rfl ?_
          refine ri_dup a_X7_rowOf_40 (fun _ h => by cases h) ?_
          refine ri_getI a_X7_rowOf_41 fl_X7_201 kM_0_36 rfl iM_0 ?_
          refine ri_ic a_X7_rowOf_44 ?_
          refine ri_iadd a_X7_rowOf_45 ?_
          refine ri_putI a_X7_rowOf_46 fp_X7_201 kM_0_36 rfl iM_0 (fun zM15 ezM15 => ?_)
          refine ri_iinc (c0 := 1) (f := fun zx16 => [some (vo 0 0), some (vi (nI set)), some (vi zx16)]) a_X7_rowOf_49 rfl (by decide) (fun _ => rfl) (fun zx16 ezx16 => ?_)
          refine ri_goto a_X7_rowOf_52 ?_
          rw [and1n] at zc12
          rw [if_pos zc12] at hse
          rw [h36, e5, nI_clamp (by omega)] at ezM14
          rw [show zM14 0 0 36 = nI acc.length by rw [ezM14]; exact h36, nI_1] at ezM15
          rw [ezx16, nI_1]
          have el : (acc ++ [O i]).length = acc.length + 1 := by simp
          refine ih (i + 1) (acc ++ [O i]) zM15 (by omega) (by omega) hse (fun t a b c e => ?_) (by rw [el, ezM15, up_same]) (fun j hj => ?_)
          · rw [ezM15, ezM14, up_apply, up_apply, if_neg (fun q => by omega), if_neg (fun q => by omega)]; exact hf t a b c e
          · rw [ezM15, ezM14, up_apply, up_apply, if_neg (by omega)]
            rw [el] at hj
            by_cases e : j = acc.length
            · rw [if_pos ⟨rfl, rfl, e⟩, e]
              refine ⟨?_, ?_⟩
              · simp
              · simpa using hon
            · rw [if_neg (fun q => e q.2.2)]
              have hj2 : j < acc.length := by omega
              have := hrow j hj2
              simp only [List.getD_eq_getElem?_getD] at this ⊢
              rw [List.getElem?_append_left hj2]
              exact this
  refine lr_ok (by decide +kernel) rfl ?_
  refine ri_ald a_X7_rowOf_0 rfl ?_
  refine ri_ic a_X7_rowOf_1 ?_
  refine ri_putI a_X7_rowOf_2 fp_X7_201 kM_0_36 rfl iM_0 (fun zM1 ezM1 => ?_)
  refine ri_ic a_X7_rowOf_5 ?_
  refine ri_istk (ls' := [some (vo 0 0), some (vi (nI set)), some (vi 0)]) a_X7_rowOf_6 rfl ?_
  exact loop k 0 [] zM1 (by omega) (Nat.le_refl _) rfl (fun t a b c e => by rw [ezM1, up_apply, if_neg (fun q => by omega)]) (by rw [ezM1, up_same]; rfl) (fun j hj => absurd hj (Nat.not_lt_zero _))
def cnN (g : Nat → Prop) [DecidablePred g] : Nat → Nat → Nat → Nat
  | 0, _, a => a
  | r + 1, t, a => cnN g r (t + 1) (if g t then a + 1 else a)
theorem shlL_eq : ∀ k, k ≤ 8 → (1 : Int64) <<< ((nI k).toInt64 &&& 63) = lN (2 ^ k) := by decide +kernel
theorem ok_X7_reach {w : Wd} {d : Nat} (hd : 5 ≤ d) {N : Mem} {n k : Nat} {L : List (List Op)} {O : Nat → Nat} (hL : lawN N L) (hn : N 0 0 0 = nI n) (hn8 : n ≤ 8) (hO : orN N O k n) (win part : Int32) : lr_Ok tM sM w d jX7_reach [vo 0 0, vi win, vi part] N (fun r N' => frN N N' ∧ r = some (vl (if (0 ≤ win ∧ win ≤ 999) ∧ 0 ≤ part ∧ part ≤ 1 then loV (cnN (reG L (vwM N) (N 4 0) O k win) (2 ^ k) 0 0) (2 ^ k) part else -4611686018427387904))) := by
  have hk8 := hO.2.1
  have hk2 : 2 ^ k ≤ 256 := Nat.pow_le_pow_right (n := 2) (by decide) hk8
  have hp : 0 < 2 ^ k := Nat.pow_pos (by decide)
  have loop : ∀ r set cnt N1, 2 ^ k = set + r → cnt ≤ set → frN N N1 → tbM L (vwM N) n N1 → lr_W tM sM w d jX7_reach 33 [some (vo 0 0), some (vi win), some (vi part), some (vl (lN cnt)), none, some (vi (nI set))] [] N1 (fun r' N' => frN N N' ∧ r' = some (vl (loV (cnN (reG L (vwM N) (N 4 0) O k win) r set cnt) (2 ^ k) part))) := by
    intro r
    induction r with
    | zero =>
      intro set cnt N1 hr hc hf ht
      have : 2 ^ k = set := hr
      subst this
      have e6 : N1 0 0 6 = nI k := by rw [hf 0 0 6 (by decide) (by omega)]; exact hO.1
      have hlo := @ok_X7_lowest tM sM w (d - 1) N1 cnt (2 ^ k) (by omega) hp (by omega) part
      have e1 : (1 : Int32) <<< (N1 0 0 6 &&& 31) = nI (2 ^ k) := by rw [e6]; exact shl_eq k hk8
      rw [← shlL_eq k hk8, ← e6] at hlo
      refine ri_ild a_X7_reach_33 rfl ?_
      refine ri_ic a_X7_reach_35 ?_
      refine ri_ald a_X7_reach_36 rfl ?_
      refine ri_getI a_X7_reach_37 fl_X7_100 kM_0_6 rfl iM_0 ?_
      refine ri_ishl a_X7_reach_40 ?_
      refine ri_icmp_ge a_X7_reach_41 (fun zc11 => ?_) (fun zc11 => ?_)
      · refine ri_lld a_X7_reach_72 rfl ?_
        refine ri_lc a_X7_reach_73 ?_
        refine ri_ald a_X7_reach_74 rfl ?_
        refine ri_getI a_X7_reach_75 fl_X7_100 kM_0_6 rfl iM_0 ?_
        refine ri_lshl a_X7_reach_78 ?_
        refine ri_ild a_X7_reach_79 rfl ?_
        refine ri_cSpl (as := [vl (lN cnt), vl (1 <<< ((N1 0 0 6).toInt64 &&& 63)), vi part]) (rest := []) (d' := d - 1) a_X7_reach_80 ms_X7_lowest ml_X7_245 (by omega) (hlo) (Nat.le_of_ble_eq_true rfl) rfl (fun zy12 ezy12 => ?_)
        refine ri_lreturn a_X7_reach_83 rfl ?_
        exact ⟨hf, by rw [ezy12]; rfl⟩
      · exact absurd (by rw [e1]; exact Int32.le_refl _) zc11
    | succ r ih =>
      intro set cnt N1 hr hc hf ht
      have e6 : N1 0 0 6 = nI k := by rw [hf 0 0 6 (by decide) (by omega)]; exact hO.1
      have e1 : (1 : Int32) <<< (N1 0 0 6 &&& 31) = nI (2 ^ k) := by rw [e6]; exact shl_eq k hk8
      rw [cnN]
      refine ri_ild a_X7_reach_33 rfl ?_
      refine ri_ic a_X7_reach_35 ?_
      refine ri_ald a_X7_reach_36 rfl ?_
      refine ri_getI a_X7_reach_37 fl_X7_100 kM_0_6 rfl iM_0 ?_
      refine ri_ishl a_X7_reach_40 ?_
      refine ri_icmp_ge a_X7_reach_41 (fun zc11 => ?_) (fun zc11 => ?_)
      · exact absurd zc11 (by rw [e1]; exact nI_ge (by omega) (by omega))
      · refine ri_ald a_X7_reach_44 rfl ?_
        refine ri_ild a_X7_reach_45 rfl ?_
        refine ri_cVxv (as := [vi (nI set)]) (rest := []) (d' := d - 1) a_X7_reach_47 mv_X7_rowOf ml_X7_249 (rcM_0 iM_0) (by omega) (ok_X7_rowOf (orN_N hf hO) hn8) (Nat.le_of_ble_eq_true rfl) rfl (fun zM12 hzM12 => ?_)
        obtain ⟨g1, g2⟩ := hzM12
        have ht2 := frRw_tb g1 ht
        have hf2 := frN_tr hf (frRw_N g1)
        have hre := ok_X7_doesReach (w := w) (d := d - 1) (by omega) ht2 g2 hn8 win
        rw [frN_t hf2 (t := 4) (by decide) (by decide)] at hre
        refine ri_lld a_X7_reach_50 rfl ?_
        refine ri_ald a_X7_reach_51 rfl ?_
        refine ri_ild a_X7_reach_52 rfl ?_
        refine ri_cVpb (as := [vi win]) (rest := [vl (lN cnt)]) (d' := d - 1) a_X7_reach_53 mv_X7_doesReach ml_X7_222 (rcM_0 iM_0) (by omega) (hre) (Nat.le_of_ble_eq_true rfl) rfl (fun zc21 => ?_) (fun zc21 => ?_)
        · refine ri_if_eq a_X7_reach_56 (fun q => absurd q (by decide)) (fun _ => ?_)
          refine ri_lc a_X7_reach_59 ?_
          refine ri_goto a_X7_reach_60 ?_
          refine ri_ladd a_X7_reach_64 ?_
          refine ri_lst (f := fun zx22 => [some (vo 0 0), some (vi win), some (vi part), some (vl zx22), none, some (vi (nI set))]) a_X7_reach_65 (fun _ => rfl) (fun zx22 ezx22 => ?_)
          refine ri_iinc (c0 := 1) (f := fun zx23 => [some (vo 0 0), some (vi win), some (vi part), some (vl zx22), none, some (vi zx23)]) a_X7_reach_66 rfl (by decide) (fun _ => rfl) (fun zx23 ezx23 => ?_)
          refine ri_goto a_X7_reach_69 ?_
          rw [if_pos zc21]
          rw [ezx23, ezx22, nI_1, lN_1]
          exact ih (set + 1) (cnt + 1) zM12 (by omega) (by omega) hf2 ht2
        · refine ri_if_eq a_X7_reach_56 (fun _ => ?_) (fun q => absurd q (by decide))
          refine ri_lc a_X7_reach_63 ?_
          refine ri_ladd a_X7_reach_64 ?_
          refine ri_lst (f := fun zx24 => [some (vo 0 0), some (vi win), some (vi part), some (vl zx24), none, some (vi (nI set))]) a_X7_reach_65 (fun _ => rfl) (fun zx24 ezx24 => ?_)
          refine ri_iinc (c0 := 1) (f := fun zx25 => [some (vo 0 0), some (vi win), some (vi part), some (vl zx24), none, some (vi zx25)]) a_X7_reach_66 rfl (by decide) (fun _ => rfl) (fun zx25 ezx25 => ?_)
          refine ri_goto a_X7_reach_69 ?_
          rw [if_neg zc21]
          rw [ezx25, ezx24, nI_1, Int64.add_zero]
          exact ih (set + 1) cnt zM12 (by omega) (by omega) hf2 ht2
  refine lr_ok (by decide +kernel) rfl ?_
  refine ri_ild a_X7_reach_0 rfl ?_
  refine ri_ic a_X7_reach_1 ?_
  refine ri_ic a_X7_reach_2 ?_
  refine ri_cSpb (as := [vi win, vi 0, vi 999]) (rest := []) (d' := d - 1) a_X7_reach_5 ms_X7_in ml_X7_96 (by omega) (ok_X7_in win 0 999) (Nat.le_of_ble_eq_true rfl) rfl (fun zc1 => ?_) (fun zc1 => ?_)
  · refine ri_if_eq a_X7_reach_8 (fun q => absurd q (by decide)) (fun _ => ?_)
    refine ri_ild a_X7_reach_11 rfl ?_
    refine ri_ic a_X7_reach_12 ?_
    refine ri_ic a_X7_reach_13 ?_
    refine ri_cSpb (as := [vi part, vi 0, vi 1]) (rest := []) (d' := d - 1) a_X7_reach_14 ms_X7_in ml_X7_96 (by omega) (ok_X7_in part 0 1) (Nat.le_of_ble_eq_true rfl) rfl (fun zc2 => ?_) (fun zc2 => ?_)
    · refine ri_if_ne a_X7_reach_17 (fun _ => ?_) (fun q => absurd q (by decide))
      refine ri_ald a_X7_reach_24 rfl ?_
      refine ri_cVxv (as := []) (rest := []) (d' := d - 1) a_X7_reach_25 mv_X7_tellsAll ml_X7_213 (rcM_0 iM_0) (by omega) (ok_X7_tellsAll (by omega) hL hn hn8) (Nat.le_of_ble_eq_true rfl) rfl (fun zM3 hzM3 => ?_)
      refine ri_lc a_X7_reach_28 ?_
      refine ri_lstk (ls' := [some (vo 0 0), some (vi win), some (vi part), some (vl 0), none, none]) a_X7_reach_29 rfl ?_
      refine ri_ic a_X7_reach_30 ?_
      refine ri_istk (ls' := [some (vo 0 0), some (vi win), some (vi part), some (vl 0), none, some (vi 0)]) a_X7_reach_31 rfl ?_
      rw [if_pos ⟨zc1, zc2⟩]
      exact loop (2 ^ k) 0 0 zM3 (by omega) (Nat.le_refl _) (frTb_N hzM3.1) hzM3.2
    · refine ri_if_ne a_X7_reach_17 (fun q => absurd q (by decide)) (fun _ => ?_)
      refine ri_lc a_X7_reach_20 ?_
      refine ri_lreturn a_X7_reach_23 rfl ?_
      exact ⟨frN_rf, by rw [if_neg (fun q => zc2 q.2)]⟩
  · refine ri_if_eq a_X7_reach_8 (fun _ => ?_) (fun q => absurd q (by decide))
    refine ri_lc a_X7_reach_20 ?_
    refine ri_lreturn a_X7_reach_23 rfl ?_
    exact ⟨frN_rf, by rw [if_neg (fun q => zc1 q.1)]⟩
/-- the first who isn't in R -/
def usF (R : Nat → Nat) (k : Nat) : Nat → Nat → Option Nat
  | 0, _ => none
  | r + 1, p => if fnd (fun i => nI (R i)) (nI p) k 0 = -1 then some p else usF R k r (p + 1)
theorem usF_some {R : Nat → Nat} {k z : Nat} : ∀ r p, usF R k r p = some z → p ≤ z ∧ z < p + r ∧ fnd (fun i => nI (R i)) (nI z) k 0 = -1 := by
  intro r
  induction r with
  | zero => intro p h; cases h
  | succ r ih =>
    intro p h
    rw [usF] at h
    by_cases hc : fnd (fun i => nI (R i)) (nI p) k 0 = -1
    · rw [if_pos hc] at h
      cases h
      exact ⟨Nat.le_refl _, by omega, hc⟩
    · rw [if_neg hc] at h
      obtain ⟨a, b, c⟩ := ih (p + 1) h
      exact ⟨by omega, by omega, c⟩
def chR (L : List (List Op)) (V : Vw) (F : Nat → Int32) (win : Int32) (n : Nat) : Nat → (Nat → Nat) → Nat → Int32 → Int32
  | 0, R, k, _ => bitsF (fun i => nI (R i)) k
  | f + 1, R, k, ru => match usF R k n 0 with
    | none => bitsF (fun i => nI (R i)) k
    | some p => if chG L V F win R k ru then chR L V F win n f (tpC R k p) (k + 1) 0 else bitsF (fun i => nI (R i)) k
def chJ (N N1 : Mem) (k0 : Nat) (R : Nat → Nat) (k n : Nat) (ru : Int32) : Prop := (∀ t i q, t < 16 → ¬ (t = 0 ∧ 21 ≤ q) → ¬ (t = 0 ∧ i = 0 ∧ (q = 6 ∨ q = 7)) → ¬ (t = 5 ∧ i = 0 ∧ k0 ≤ q) → N1 t i q = N t i q) ∧ orN N1 R k n ∧ N1 0 0 7 = ru ∧ k0 ≤ k
theorem ok_X7_chain {w : Wd} {d : Nat} (hd : 5 ≤ d) {N : Mem} {n k : Nat} {L : List (List Op)} {O : Nat → Nat} (hL : lawN N L) (hn : N 0 0 0 = nI n) (hn8 : n ≤ 8) (hO : orN N O k n) (hinj : injO O k) (win : Int32) : lr_Ok tM sM w d jX7_chain [vo 0 0, vi win] N (qX fun r N' => (∀ t i q, t < 16 → ¬ (t = 0 ∧ 21 ≤ q) → ¬ (t = 5 ∧ i = 0 ∧ k ≤ q) → N' t i q = N t i q) ∧ r = if 0 ≤ win ∧ win ≤ 999 then chR L (vwM N) (N 4 0) win n (9 - k) O k (N 0 0 7) else -2) := by
  have fin : ∀ set z6 z7 (N1 : Mem), (∀ t i q, t < 16 → ¬ (t = 0 ∧ 21 ≤ q) → ¬ (t = 0 ∧ i = 0 ∧ (q = 6 ∨ q = 7)) → ¬ (t = 5 ∧ i = 0 ∧ k ≤ q) → N1 t i q = N t i q) → lr_W tM sM w d jX7_chain 33 [some (vo 0 0), some (vi win), some (vi (nI k)), some (vi (N 0 0 7)), some (vi set), some (vi 0), z6, z7] [] N1 (qX fun r N' => (∀ t i q, t < 16 → ¬ (t = 0 ∧ 21 ≤ q) → ¬ (t = 5 ∧ i = 0 ∧ k ≤ q) → N' t i q = N t i q) ∧ r = set) := by
    intro set z6 z7 N1 hf
    refine ri_ild a_X7_chain_33 rfl ?_
    refine ri_if_eq a_X7_chain_35 (fun _ => ?_) (fun q => absurd q (by decide))
    refine ri_ald a_X7_chain_155 rfl ?_
    refine ri_ild a_X7_chain_156 rfl ?_
    refine ri_putI a_X7_chain_157 fp_X7_100 kM_0_6 rfl iM_0 (fun zM11 ezM11 => ?_)
    refine ri_ald a_X7_chain_160 rfl ?_
    refine ri_ild a_X7_chain_161 rfl ?_
    refine ri_putI a_X7_chain_162 fp_X7_103 kM_0_7 rfl iM_0 (fun zM12 ezM12 => ?_)
    refine ri_ild a_X7_chain_165 rfl ?_
    refine ri_ireturn a_X7_chain_167 rfl rfl ?_
    refine rX ⟨fun t i q a b c => ?_, rfl⟩
    rw [ezM12, ezM11, up_apply, up_apply]
    by_cases e7 : t = 0 ∧ i = 0 ∧ q = 7
    · rw [if_pos e7, e7.1, e7.2.1, e7.2.2]
    · rw [if_neg e7]
      by_cases e6 : t = 0 ∧ i = 0 ∧ q = 6
      · rw [if_pos e6, e6.1, e6.2.1, e6.2.2]
        exact hO.1.symm
      · rw [if_neg e6]
        exact hf t i q a b (fun z => by omega) c
  have loop : ∀ f R k1 ru j6 j7 N1, 9 = k1 + f → injO R k1 → chJ N N1 k R k1 n ru → lr_W tM sM w d jX7_chain 33 [some (vo 0 0), some (vi win), some (vi (nI k)), some (vi (N 0 0 7)), some (vi (bitsF (fun i => nI (R i)) k1)), some (vi 1), j6, j7] [] N1 (qX fun r N' => (∀ t i q, t < 16 → ¬ (t = 0 ∧ 21 ≤ q) → ¬ (t = 5 ∧ i = 0 ∧ k ≤ q) → N' t i q = N t i q) ∧ r = chR L (vwM N) (N 4 0) win n f R k1 ru) := by
    intro f
    induction f with
    | zero =>
      intro R k1 ru j6 j7 N1 hk1 hi hJ
      have := hJ.2.1.2.1
      omega
    | succ f ih =>
      intro R k1 ru j6 j7 N1 hk1 hi hJ
      obtain ⟨hf, hO1, hru, hkk⟩ := hJ
      have hk18 := hO1.2.1
      have e0 : N1 0 0 0 = nI n := by rw [hf 0 0 0 (by decide) (by omega) (by omega) (by omega)]; exact hn
      have eO : ∀ p, fnd (N1 5 0) p k1 0 = fnd (fun i => nI (R i)) p k1 0 := fun p => fnd_eq k1 0 (fun q hq => (hO1.2.2 q (by omega)).1)
      have hL1 : lawN N1 L := by
        obtain ⟨t, a, b, c⟩ := hL
        exact ⟨t, a, by rw [hf 0 0 13 (by decide) (by omega) (by omega) (by omega)]; exact b, txN_eq (funext fun i => funext fun q => hf 7 i q (by decide) (by omega) (by omega) (by omega)) (funext fun i => funext fun q => hf 8 i q (by decide) (by omega) (by omega) (by omega)) c⟩
      have eV : vwM N1 = chV (vwM N) k1 ru := by
        unfold vwM chV
        rw [show N1 1 = N 1 from funext fun i => funext fun q => hf 1 i q (by decide) (by omega) (by omega) (by omega), show N1 2 = N 2 from funext fun i => funext fun q => hf 2 i q (by decide) (by omega) (by omega) (by omega), show N1 3 = N 3 from funext fun i => funext fun q => hf 3 i q (by decide) (by omega) (by omega) (by omega), hru, hO1.1]
      have e4 : N1 4 0 = N 4 0 := funext fun q => hf 4 0 q (by decide) (by omega) (by omega) (by omega)
      rw [chR]
      generalize hbs : bitsF (fun i => nI (R i)) k1 = bs
      have inner : ∀ r p, n = p + r → ∀ (Q : RP), (∀ j7, lr_W tM sM w d jX7_chain 83 [some (vo 0 0), some (vi win), some (vi (nI k)), some (vi (N 0 0 7)), some (vi bs), some (vi 1), some (vi (ov (usF R k1 r p))), j7] [] N1 Q) → lr_W tM sM w d jX7_chain 44 [some (vo 0 0), some (vi win), some (vi (nI k)), some (vi (N 0 0 7)), some (vi bs), some (vi 1), some (vi (-1)), some (vi (nI p))] [] N1 Q := by
        intro r
        induction r with
        | zero =>
          intro p hp Q K
          have : n = p := hp
          subst this
          refine ri_ild a_X7_chain_44 rfl ?_
          refine ri_ald a_X7_chain_46 rfl ?_
          refine ri_getI a_X7_chain_47 fl_X7_93 kM_0_0 rfl iM_0 ?_
          refine ri_icmp_ge a_X7_chain_50 (fun zc11 => ?_) (fun zc11 => ?_)
          · exact K _
          · exact absurd (by rw [e0]; exact Int32.le_refl _) zc11
        | succ r ih2 =>
          intro p hp Q K
          have hah := ok_X7_aheadOf (w := w) (d := d - 1) (N := N1) (nI p) hO1.1 hk18
          rw [eO] at hah
          rw [usF] at K
          refine ri_ild a_X7_chain_44 rfl ?_
          refine ri_ald a_X7_chain_46 rfl ?_
          refine ri_getI a_X7_chain_47 fl_X7_93 kM_0_0 rfl iM_0 ?_
          refine ri_icmp_ge a_X7_chain_50 (fun zc11 => ?_) (fun zc11 => ?_)
          · exact absurd zc11 (by rw [e0]; exact nI_ge (by omega) (by omega))
          · refine ri_ild a_X7_chain_53 rfl ?_
            refine ri_ic a_X7_chain_55 ?_
            refine ri_icmp_ne a_X7_chain_56 (fun q => absurd q (by decide)) (fun _ => ?_)
            refine ri_ald a_X7_chain_59 rfl ?_
            refine ri_ild a_X7_chain_60 rfl ?_
            refine ri_cVpi (as := [vi (nI p)]) (rest := []) (d' := d - 1) a_X7_chain_62 mv_X7_aheadOf ml_X7_189 (rcM_0 iM_0) (by omega) (hah) (Nat.le_of_ble_eq_true rfl) rfl (fun zy12 ezy12 => ?_)
            refine ri_ic a_X7_chain_65 ?_
            refine ri_icmp_ne a_X7_chain_66 (fun zc13 => ?_) (fun zc13 => ?_)
            · refine ri_ic a_X7_chain_74 ?_
              refine ri_istk (ls' := [some (vo 0 0), some (vi win), some (vi (nI k)), some (vi (N 0 0 7)), some (vi bs), some (vi 1), some (vi (-1)), some (vi (nI p))]) a_X7_chain_75 rfl ?_
              refine ri_iinc (c0 := 1) (f := fun zx14 => [some (vo 0 0), some (vi win), some (vi (nI k)), some (vi (N 0 0 7)), some (vi bs), some (vi 1), some (vi (-1)), some (vi zx14)]) a_X7_chain_77 rfl (by decide) (fun _ => rfl) (fun zx14 ezx14 => ?_)
              refine ri_goto a_X7_chain_80 ?_
              rw [if_neg (fun q => zc13 (ezy12.trans q))] at K
              rw [ezx14, nI_1]
              exact ih2 (p + 1) (by omega) Q K
            · refine ri_ild a_X7_chain_69 rfl ?_
              refine ri_goto a_X7_chain_71 ?_
              refine ri_ist (f := fun zx15 => [some (vo 0 0), some (vi win), some (vi (nI k)), some (vi (N 0 0 7)), some (vi bs), some (vi 1), some (vi zx15), some (vi (nI p))]) a_X7_chain_75 (fun _ => rfl) (fun zx15 ezx15 => ?_)
              refine ri_iinc (c0 := 1) (f := fun zx16 => [some (vo 0 0), some (vi win), some (vi (nI k)), some (vi (N 0 0 7)), some (vi bs), some (vi 1), some (vi zx15), some (vi zx16)]) a_X7_chain_77 rfl (by decide) (fun _ => rfl) (fun zx16 ezx16 => ?_)
              refine ri_goto a_X7_chain_80 ?_
              rw [if_pos (ezy12.symm.trans zc13)] at K
              have hne : ¬ nI p = -1 := nI_m1n (by omega)
              rw [ezx15, ezx16, nI_1]
              refine ri_ild a_X7_chain_44 rfl ?_
              refine ri_ald a_X7_chain_46 rfl ?_
              refine ri_getI a_X7_chain_47 fl_X7_93 kM_0_0 rfl iM_0 ?_
              refine ri_icmp_ge a_X7_chain_50 (fun zc31 => ?_) (fun zc31 => ?_)
              · exact K _
              · refine ri_ild a_X7_chain_53 rfl ?_
                refine ri_ic a_X7_chain_55 ?_
                refine ri_icmp_ne a_X7_chain_56 (fun zc32 => ?_) (fun zc32 => ?_)
                · exact K _
                · exact absurd (by assumption) hne
      refine ri_ild a_X7_chain_33 rfl ?_
      refine ri_if_eq a_X7_chain_35 (fun q => absurd q (by decide)) (fun _ => ?_)
      refine ri_ic a_X7_chain_38 ?_
      refine ri_istk (ls' := [some (vo 0 0), some (vi win), some (vi (nI k)), some (vi (N 0 0 7)), some (vi bs), some (vi 1), some (vi (-1)), j7]) a_X7_chain_39 rfl ?_
      refine ri_ic a_X7_chain_41 ?_
      refine ri_istk (ls' := [some (vo 0 0), some (vi win), some (vi (nI k)), some (vi (N 0 0 7)), some (vi bs), some (vi 1), some (vi (-1)), some (vi 0)]) a_X7_chain_42 rfl ?_
      refine inner n 0 (by omega) _ (fun j7 => ?_)
      have hun := @usF_some R k1
      cases hz : usF R k1 n 0 with
      | none =>
        show lr_W tM sM w d jX7_chain 83 [some (vo 0 0), some (vi win), some (vi (nI k)), some (vi (N 0 0 7)), some (vi bs), some (vi 1), some (vi (-1)), j7] [] N1 _
        refine ri_ald a_X7_chain_83 rfl ?_
        refine ri_cVxv (as := []) (rest := []) (d' := d - 1) a_X7_chain_84 mv_X7_tellsAll ml_X7_213 (rcM_0 iM_0) (by omega) (ok_X7_tellsAll (by omega) hL1 e0 hn8) (Nat.le_of_ble_eq_true rfl) rfl (fun zM21 hzM21 => ?_)
        refine ri_ald a_X7_chain_87 rfl ?_
        refine ri_cVxv (as := []) (rest := []) (d' := d - 1) a_X7_chain_88 mv_X7_rowSaved ml_X7_216 (rcM_0 iM_0) (by omega) (ok_X7_rowSaved (orN_N (frTb_N hzM21.1) hO1) hn8) (Nat.le_of_ble_eq_true rfl) rfl (fun zM22 hzM22 => ?_)
        refine ri_ild a_X7_chain_91 rfl ?_
        refine ri_ic a_X7_chain_93 ?_
        refine ri_icmp_eq a_X7_chain_94 (fun _ => ?_) (fun q => absurd q (by decide))
        refine ri_ic a_X7_chain_109 ?_
        refine ri_istk (ls' := [some (vo 0 0), some (vi win), some (vi (nI k)), some (vi (N 0 0 7)), some (vi bs), some (vi 0), some (vi (-1)), j7]) a_X7_chain_110 rfl ?_
        refine ri_ild a_X7_chain_112 rfl ?_
        refine ri_if_eq a_X7_chain_114 (fun _ => ?_) (fun q => absurd q (by decide))
        refine ri_goto a_X7_chain_152 ?_
        obtain ⟨g1, g2, g3⟩ := tbRow hzM21 hzM22.1
        exact fin bs _ _ zM22 (fun t i q a b c e => (g1 t i q a b).trans (hf t i q a b c e))
      | some z =>
        obtain ⟨hz1, hz2, hz3⟩ := hun n 0 hz
        have hR8 : ∀ i, i < k1 → R i < n := fun i hi => (hO1.2.2 i hi).2
        have hinj2 := injO_tp hi (fndR_no hz3 hk18)
        have hk9 : k1 + 1 ≤ n := pigO n (k1 + 1) (tpC R k1 z) (tpC_lt hR8 (by omega)) hinj2
        have hne : ¬ nI z = -1 := nI_m1n (by omega)
        show lr_W tM sM w d jX7_chain 83 [some (vo 0 0), some (vi win), some (vi (nI k)), some (vi (N 0 0 7)), some (vi bs), some (vi 1), some (vi (nI z)), j7] [] N1 _
        refine ri_ald a_X7_chain_83 rfl ?_
        refine ri_cVxv (as := []) (rest := []) (d' := d - 1) a_X7_chain_84 mv_X7_tellsAll ml_X7_213 (rcM_0 iM_0) (by omega) (ok_X7_tellsAll (by omega) hL1 e0 hn8) (Nat.le_of_ble_eq_true rfl) rfl (fun zM21 hzM21 => ?_)
        refine ri_ald a_X7_chain_87 rfl ?_
        refine ri_cVxv (as := []) (rest := []) (d' := d - 1) a_X7_chain_88 mv_X7_rowSaved ml_X7_216 (rcM_0 iM_0) (by omega) (ok_X7_rowSaved (orN_N (frTb_N hzM21.1) hO1) hn8) (Nat.le_of_ble_eq_true rfl) rfl (fun zM22 hzM22 => ?_)
        refine ri_ild a_X7_chain_91 rfl ?_
        refine ri_ic a_X7_chain_93 ?_
        refine ri_icmp_eq a_X7_chain_94 (fun zc23 => ?_) (fun zc23 => ?_)
        · exact absurd (by assumption) hne
        · obtain ⟨g1, g2, g3⟩ := tbRow hzM21 hzM22.1
          have hre := ok_X7_doesReach (w := w) (d := d - 1) (by omega) g2 hzM22.2 hn8 win
          rw [g3, e4, eV] at hre
          have e6 : zM22 0 0 6 = nI k1 := by rw [g1 0 0 6 (by decide) (by omega)]; exact hO1.1
          refine ri_ald a_X7_chain_97 rfl ?_
          refine ri_ild a_X7_chain_98 rfl ?_
          refine ri_cVpb (as := [vi win]) (rest := []) (d' := d - 1) a_X7_chain_99 mv_X7_doesReach ml_X7_222 (rcM_0 iM_0) (by omega) (hre) (Nat.le_of_ble_eq_true rfl) rfl (fun zc31 => ?_) (fun zc31 => ?_)
          · refine ri_if_eq a_X7_chain_102 (fun q => absurd q (by decide)) (fun _ => ?_)
            refine ri_ic a_X7_chain_105 ?_
            refine ri_goto a_X7_chain_106 ?_
            refine ri_istk (ls' := [some (vo 0 0), some (vi win), some (vi (nI k)), some (vi (N 0 0 7)), some (vi bs), some (vi 1), some (vi (nI z)), j7]) a_X7_chain_110 rfl ?_
            refine ri_ild a_X7_chain_112 rfl ?_
            refine ri_if_eq a_X7_chain_114 (fun q => absurd q (by decide)) (fun _ => ?_)
            refine ri_ald a_X7_chain_117 rfl ?_
            refine ri_getR (t' := 5) (i' := 0) a_X7_chain_118 fl_X7_22 kM_0_5 rfl iM_0 (Or.inr ⟨rfl, rfl, rfl⟩) ?_
            refine ri_ald a_X7_chain_121 rfl ?_
            refine ri_getI a_X7_chain_122 fl_X7_100 kM_0_6 rfl iM_0 ?_
            refine ri_ild a_X7_chain_125 rfl ?_
            refine ri_iastore a_X7_chain_127 lM_5 rfl iM_5 (by rw [e6]; exact vp_in_nI (by omega) (by decide)) (fun zM32 ezM32 => ?_)
            refine ri_ald a_X7_chain_128 rfl ?_
            refine ri_dup a_X7_chain_129 (fun _ h => by cases h) ?_
            refine ri_getI a_X7_chain_130 fl_X7_100 kM_0_6 rfl iM_0 ?_
            refine ri_ic a_X7_chain_133 ?_
            refine ri_iadd a_X7_chain_134 ?_
            refine ri_putI a_X7_chain_135 fp_X7_100 kM_0_6 rfl iM_0 (fun zM33 ezM33 => ?_)
            refine ri_ald a_X7_chain_138 rfl ?_
            refine ri_ic a_X7_chain_139 ?_
            refine ri_putI a_X7_chain_140 fp_X7_103 kM_0_7 rfl iM_0 (fun zM34 ezM34 => ?_)
            refine ri_ild a_X7_chain_143 rfl ?_
            refine ri_ic a_X7_chain_145 ?_
            refine ri_ild a_X7_chain_146 rfl ?_
            refine ri_ishl a_X7_chain_148 ?_
            refine ri_ior a_X7_chain_149 ?_
            refine ri_ist (f := fun zx35 => [some (vo 0 0), some (vi win), some (vi (nI k)), some (vi (N 0 0 7)), some (vi zx35), some (vi 1), some (vi (nI z)), j7]) a_X7_chain_150 (fun _ => rfl) (fun zx35 ezx35 => ?_)
            refine ri_goto a_X7_chain_152 ?_
            rw [e6, nI_clamp (by omega)] at ezM32
            rw [show zM32 0 0 6 = nI k1 by rw [ezM32]; exact e6, nI_1] at ezM33
            have ebs : zx35 = bitsF (fun i => nI (tpC R k1 z i)) (k1 + 1) := by
              rw [ezx35, ← hbs, bitsF, bitsF_eq (f := fun i => nI (tpC R k1 z i)) (g := fun i => nI (R i)) k1 (fun q hq => by unfold tpC; rw [if_neg (by omega)])]
              unfold tpC
              rw [if_pos rfl]
            rw [ebs]
            refine lr_Wimp (ih (tpC R k1 z) (k1 + 1) 0 _ _ zM34 (by omega) hinj2 ⟨fun t i q a b c e => ?_, ⟨?_, by omega, fun i hi => ?_⟩, ?_, by omega⟩) ?_
            · rw [ezM34, ezM33, ezM32, up_apply, up_apply, up_apply, if_neg (fun y => c ⟨y.1, y.2.1, Or.inr y.2.2⟩), if_neg (fun y => c ⟨y.1, y.2.1, Or.inl y.2.2⟩), if_neg (fun y => e ⟨y.1, y.2.1, by omega⟩), g1 t i q a b]
              exact hf t i q a b c e
            · rw [ezM34, ezM33, up_apply, if_neg (by omega), up_same]
            · rw [ezM34, ezM33, ezM32, up_apply, up_apply, up_apply, if_neg (by omega), if_neg (by omega)]
              unfold tpC
              by_cases ei : i = k1
              · rw [if_pos ⟨rfl, rfl, ei⟩, if_pos ei]
                exact ⟨rfl, by omega⟩
              · rw [if_neg (fun y => ei y.2.2), if_neg ei, g1 5 0 i (by decide) (by omega)]
                exact hO1.2.2 i (by omega)
            · rw [ezM34, up_same]
            · rintro r M' ⟨y, h1, h2, h3⟩
              refine ⟨y, h1, h2, ?_⟩
              dsimp only
              rw [if_pos zc31]
              exact h3
          · refine ri_if_eq a_X7_chain_102 (fun _ => ?_) (fun q => absurd q (by decide))
            refine ri_ic a_X7_chain_109 ?_
            refine ri_istk (ls' := [some (vo 0 0), some (vi win), some (vi (nI k)), some (vi (N 0 0 7)), some (vi bs), some (vi 0), some (vi (nI z)), j7]) a_X7_chain_110 rfl ?_
            refine ri_ild a_X7_chain_112 rfl ?_
            refine ri_if_eq a_X7_chain_114 (fun _ => ?_) (fun q => absurd q (by decide))
            refine ri_goto a_X7_chain_152 ?_
            refine lr_Wimp (fin bs _ _ zM22 (fun t i q a b c e => (g1 t i q a b).trans (hf t i q a b c e))) ?_
            rintro r M' ⟨y, h1, h2, h3⟩
            refine ⟨y, h1, h2, ?_⟩
            dsimp only
            rw [if_neg zc31]
            exact h3
  refine lr_ok (by decide +kernel) rfl ?_
  refine ri_ild a_X7_chain_0 rfl ?_
  refine ri_ic a_X7_chain_1 ?_
  refine ri_ic a_X7_chain_2 ?_
  refine ri_cSpb (as := [vi win, vi 0, vi 999]) (rest := []) (d' := d - 1) a_X7_chain_5 ms_X7_in ml_X7_96 (by omega) (ok_X7_in win 0 999) (Nat.le_of_ble_eq_true rfl) rfl (fun zc1 => ?_) (fun zc1 => ?_)
  · refine ri_if_ne a_X7_chain_8 (fun _ => ?_) (fun q => absurd q (by decide))
    refine ri_ald a_X7_chain_14 rfl ?_
    refine ri_getI a_X7_chain_15 fl_X7_100 kM_0_6 rfl iM_0 ?_
    refine ri_ist (f := fun zx2 => [some (vo 0 0), some (vi win), some (vi zx2), none, none, none, none, none]) a_X7_chain_18 (fun _ => rfl) (fun zx2 ezx2 => ?_)
    refine ri_ald a_X7_chain_19 rfl ?_
    refine ri_getI a_X7_chain_20 fl_X7_103 kM_0_7 rfl iM_0 ?_
    refine ri_ist (f := fun zx3 => [some (vo 0 0), some (vi win), some (vi zx2), some (vi zx3), none, none, none, none]) a_X7_chain_23 (fun _ => rfl) (fun zx3 ezx3 => ?_)
    refine ri_ald a_X7_chain_24 rfl ?_
    refine ri_cVpi (as := []) (rest := []) (d' := d - 1) a_X7_chain_25 mv_X7_savedSet ml_X7_234 (rcM_0 iM_0) (by omega) (ok_X7_savedSet hO.1 hO.2.1) (Nat.le_of_ble_eq_true rfl) rfl (fun zy4 ezy4 => ?_)
    refine ri_istk (ls' := [some (vo 0 0), some (vi win), some (vi zx2), some (vi zx3), some (vi zy4), none, none, none]) a_X7_chain_28 rfl ?_
    refine ri_ic a_X7_chain_30 ?_
    refine ri_istk (ls' := [some (vo 0 0), some (vi win), some (vi zx2), some (vi zx3), some (vi zy4), some (vi 1), none, none]) a_X7_chain_31 rfl ?_
    rw [ezx2, ezx3, ezy4, hO.1, bitsF_eq (f := N 5 0) (g := fun i => nI (O i)) k (fun q hq => (hO.2.2 q hq).1)]
    refine lr_Wimp (loop (9 - k) O k (N 0 0 7) none none N (by have := hO.2.1; omega) hinj ⟨fun _ _ _ _ _ _ _ => rfl, hO, rfl, Nat.le_refl _⟩) ?_
    rintro r M' ⟨y, h1, h2, h3⟩
    exact ⟨y, h1, h2, by rw [if_pos zc1]; exact h3⟩
  · refine ri_if_ne a_X7_chain_8 (fun q => absurd q (by decide)) (fun _ => ?_)
    refine ri_ic a_X7_chain_11 ?_
    refine ri_ireturn a_X7_chain_13 rfl rfl ?_
    exact rX ⟨fun _ _ _ _ _ _ => rfl, by rw [if_neg zc1]⟩

