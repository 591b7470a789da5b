/-! reference: lots -/
def drV (L : List (List Op)) (V : Vw) (O : Nat → Nat) (k : Nat) (seed : Int32) : List Nat := drL L V O k 0 (seed.toInt64 + 1) []
theorem drL_len {L : List (List Op)} {V : Vw} {O : Nat → Nat} : ∀ r i x acc, (drL L V O r i x acc).length ≤ acc.length + r := by
  intro r
  induction r with
  | zero => intro i x acc; exact Nat.le_refl _
  | succ r ih =>
    intro i x acc
    rw [drL]
    split
    · have := ih (i + 1) (lotN x) (acc ++ [O i])
      simp at this
      omega
    · have := ih (i + 1) (lotN x) acc
      omega
def cmN (L : List (List Op)) (V : Vw) (O : Nat → Nat) (k : Nat) (N : Mem) : Prop := ∀ i, i < k → N 25 0 i = sayV L V 2 (O i) (nI i)
theorem ok_X7_tellsComes {w : Wd} {d : Nat} (hd : 5 ≤ d) {N : Mem} {n k : Nat} {L : List (List Op)} {O : Nat → Nat} (hL : lawN N L) (hn : N 0 0 0 = nI n) (hn8 : n ≤ 8) (hO : orN N O k n) : lr_Ok tM sM w d jX7_tellsComes [vo 0 0] N (qV fun N' => frN N N' ∧ tbM L (vwM N) n N' ∧ cmN L (vwM N) O k N') := by
  have hk8 := hO.2.1
  have loop : ∀ r i N1, k = i + r → frN N N1 → tbM L (vwM N) n N1 → (∀ j, j < i → N1 25 0 j = sayV L (vwM N) 2 (O j) (nI j)) → lr_W tM sM w d jX7_tellsComes 6 [some (vo 0 0), some (vi (nI i))] [] N1 (qV fun N' => frN N N' ∧ tbM L (vwM N) n N' ∧ cmN L (vwM N) O k N') := by
    intro r
    induction r with
    | zero =>
      intro i N1 hi hf ht hc
      have : k = i := hi
      subst this
      have e6 : N1 0 0 6 = nI k := by rw [hf 0 0 6 (by decide) (by omega)]; exact hO.1
      refine ri_ild a_X7_tellsComes_6 rfl ?_
      refine ri_ald a_X7_tellsComes_7 rfl ?_
      refine ri_getI a_X7_tellsComes_8 fl_X7_100 kM_0_6 rfl iM_0 ?_
      refine ri_icmp_ge a_X7_tellsComes_11 (fun zc1 => ?_) (fun zc1 => ?_)
      · refine ri_return a_X7_tellsComes_38 rfl ?_
        exact rV ⟨hf, ht, hc⟩
      · exact absurd (by rw [e6]; exact Int32.le_refl _) zc1
    | succ r ih =>
      intro i N1 hi hf ht hc
      have e6 : N1 0 0 6 = nI k := by rw [hf 0 0 6 (by decide) (by omega)]; exact hO.1
      obtain ⟨ho, hon⟩ := hO.2.2 i (by omega)
      have ei : N1 5 0 (nI i).toNatClampNeg = nI (O i) := by rw [hf 5 0 _ (by decide) (by omega), nI_clamp (by omega)]; exact ho
      have has := ok_X7_asksOf (w := w) (d := d - 1) (N := N1) (pt := 2) (q := O i) (by omega) (frN_law hf hL) (by omega) (by decide) (nI i)
      rw [← ei, frN_vw hf] at has
      rw [ei] at has
      have has2 : lr_Ok tM sM w (d - 1) jX7_asksOf [vo 0 0, vi 2, vi (N1 5 0 (nI i).toNatClampNeg), vi (nI i)] N1 (qI (sayV L (vwM N) 2 (O i) (nI i)) N1) := by rw [ei]; exact has
      refine ri_ild a_X7_tellsComes_6 rfl ?_
      refine ri_ald a_X7_tellsComes_7 rfl ?_
      refine ri_getI a_X7_tellsComes_8 fl_X7_100 kM_0_6 rfl iM_0 ?_
      refine ri_icmp_ge a_X7_tellsComes_11 (fun zc11 => ?_) (fun zc11 => ?_)
      · exact absurd zc11 (by rw [e6]; exact nI_ge (by omega) (by omega))
      · refine ri_ald a_X7_tellsComes_14 rfl ?_
        refine ri_getR (t' := 25) (i' := 0) a_X7_tellsComes_15 fl_X7_82 kM_0_41 rfl iM_0 (Or.inr ⟨rfl, rfl, rfl⟩) ?_
        refine ri_ild a_X7_tellsComes_18 rfl ?_
        refine ri_ald a_X7_tellsComes_19 rfl ?_
        refine ri_ic a_X7_tellsComes_20 ?_
        refine ri_ald a_X7_tellsComes_21 rfl ?_
        refine ri_getR (t' := 5) (i' := 0) a_X7_tellsComes_22 fl_X7_22 kM_0_5 rfl iM_0 (Or.inr ⟨rfl, rfl, rfl⟩) ?_
        refine ri_ild a_X7_tellsComes_25 rfl ?_
        refine ri_iaload a_X7_tellsComes_26 lM_5 rfl iM_5 (vp_in_nI (by omega) (by decide)) ?_
        refine ri_ild a_X7_tellsComes_27 rfl ?_
        refine ri_cVpi (as := [vi 2, vi (N1 5 0 (nI i).toNatClampNeg), vi (nI i)]) (rest := [vi (nI i), vo 25 0]) (d' := d - 1) a_X7_tellsComes_28 mv_X7_asksOf ml_X7_185 (rcM_0 iM_0) (by omega) (has2) (Nat.le_of_ble_eq_true rfl) rfl (fun zy12 ezy12 => ?_)
        refine ri_iastore a_X7_tellsComes_31 lM_25 rfl iM_25 (vp_in_nI (by omega) (by decide)) (fun zM13 ezM13 => ?_)
        refine ri_iinc (c0 := 1) (f := fun zx14 => [some (vo 0 0), some (vi zx14)]) a_X7_tellsComes_32 rfl (by decide) (fun _ => rfl) (fun zx14 ezx14 => ?_)
        refine ri_goto a_X7_tellsComes_35 ?_
        rw [nI_clamp (by omega)] at ezM13
        rw [ezx14, nI_1]
        refine ih (i + 1) zM13 (by omega) (by rw [ezM13]; exact frN_up hf (Or.inl (by decide))) (by rw [ezM13]; exact ht) (fun j hj => ?_)
        rw [ezM13, up_apply]
        by_cases e : j = i
        · rw [if_pos ⟨rfl, rfl, e⟩, ezy12, e]
        · rw [if_neg (fun z => e z.2.2)]; exact hc j (by omega)
  refine lr_ok (by decide +kernel) rfl ?_
  refine ri_ald a_X7_tellsComes_0 rfl ?_
  refine ri_cVxv (as := []) (rest := []) (d' := d - 1) a_X7_tellsComes_1 mv_X7_tellsAll ml_X7_213 (rcM_0 iM_0) (by omega) (ok_X7_tellsAll (by omega) hL hn hn8) (Nat.le_of_ble_eq_true rfl) rfl (fun zM1 hzM1 => ?_)
  refine ri_ic a_X7_tellsComes_4 ?_
  refine ri_istk (ls' := [some (vo 0 0), some (vi 0)]) a_X7_tellsComes_5 rfl ?_
  exact loop k 0 zM1 (by omega) (frTb_N hzM1.1) hzM1.2 (fun j hj => absurd hj (Nat.not_lt_zero _))
theorem ok_X7_firesBy {w : Wd} {d : Nat} {N : Mem} {n k : Nat} {L : List (List Op)} {V : Vw} {O : Nat → Nat} (hn8 : n ≤ 8) (hO : orN N O k n) (hc : cmN L V O k N) (seed : Int32) : lr_Ok tM sM w d jX7_firesBy [vo 0 0, vi seed] N (qV fun N' => frRw N N' ∧ rwN N' (fun j => (drV L V O k seed).getD j 0) (drV L V O k seed).length n) := by
  have hk8 := hO.2.1
  have hlen : (drV L V O k seed).length ≤ 8 := by
    have := drL_len (L := L) (V := V) (O := O) k 0 (seed.toInt64 + 1) []
    simp at this
    unfold drV
    omega
  generalize hres : drV L V O k seed = res at hlen
  have loop : ∀ r i x acc N1, k = i + r → acc.length ≤ i → drL L V O r i x acc = res → frRw N N1 → N1 0 0 36 = nI acc.length → (∀ j, j < acc.length → N1 22 0 j = nI (acc.getD j 0) ∧ acc.getD j 0 < n) → lr_W tM sM w d jX7_firesBy 13 [some (vo 0 0), some (vi seed), some (vl x), none, some (vi (nI i))] [] N1 (qV fun N' => frRw N N' ∧ rwN N' (fun j => res.getD j 0) res.length n) := by
    intro r
    induction r with
    | zero =>
      intro i x acc N1 hi ha hd0 hf h36 hrow
      have : k = i := hi
      subst this
      have hd0 : acc = res := hd0
      have e6 : N1 0 0 6 = nI k := by rw [hf 0 0 6 (by omega) (by omega)]; exact hO.1
      refine ri_ild a_X7_firesBy_13 rfl ?_
      refine ri_ald a_X7_firesBy_15 rfl ?_
      refine ri_getI a_X7_firesBy_16 fl_X7_100 kM_0_6 rfl iM_0 ?_
      refine ri_icmp_ge a_X7_firesBy_19 (fun zc1 => ?_) (fun zc1 => ?_)
      · refine ri_return a_X7_firesBy_81 rfl ?_
        exact rV ⟨hf, by rw [← hd0]; exact ⟨h36, by omega, hrow⟩⟩
      · exact absurd (by rw [e6]; exact Int32.le_refl _) zc1
    | succ r ih =>
      intro i x acc N1 hi ha hd0 hf h36 hrow
      have e6 : N1 0 0 6 = nI k := by rw [hf 0 0 6 (by omega) (by omega)]; exact hO.1
      obtain ⟨ho, hon⟩ := hO.2.2 i (by omega)
      have e5 : N1 5 0 (nI i).toNatClampNeg = nI (O i) := by rw [hf 5 0 _ (by omega) (by omega), nI_clamp (by omega)]; exact ho
      have e25 : N1 25 0 (nI i).toNatClampNeg = sayV L V 2 (O i) (nI i) := by rw [hf 25 0 _ (by omega) (by omega), nI_clamp (by omega)]; exact hc i (by omega)
      rw [drL] at hd0
      refine ri_ild a_X7_firesBy_13 rfl ?_
      refine ri_ald a_X7_firesBy_15 rfl ?_
      refine ri_getI a_X7_firesBy_16 fl_X7_100 kM_0_6 rfl iM_0 ?_
      refine ri_icmp_ge a_X7_firesBy_19 (fun zc11 => ?_) (fun zc11 => ?_)
      · exact absurd zc11 (by rw [e6]; exact nI_ge (by omega) (by omega))
      · refine ri_lld a_X7_firesBy_22 rfl ?_
        refine ri_lc a_X7_firesBy_23 ?_
        refine ri_lmul a_X7_firesBy_26 ?_
        refine ri_lc a_X7_firesBy_27 ?_
        refine ri_lrem a_X7_firesBy_30 (by decide) ?_
        refine ri_lst (f := fun zx12 => [some (vo 0 0), some (vi seed), some (vl zx12), none, some (vi (nI i))]) a_X7_firesBy_31 (fun _ => rfl) (fun zx12 ezx12 => ?_)
        refine ri_lld a_X7_firesBy_32 rfl ?_
        refine ri_lc a_X7_firesBy_33 ?_
        refine ri_lrem a_X7_firesBy_36 (by decide) ?_
        refine ri_ald a_X7_firesBy_37 rfl ?_
        refine ri_getR (t' := 25) (i' := 0) a_X7_firesBy_38 fl_X7_82 kM_0_41 rfl iM_0 (Or.inr ⟨rfl, rfl, rfl⟩) ?_
        refine ri_ild a_X7_firesBy_41 rfl ?_
        refine ri_iaload a_X7_firesBy_43 lM_25 rfl iM_25 ?_ ?_
        · exact vp_in_nI (by omega) (by decide)
        refine ri_i2l a_X7_firesBy_44 ?_
        refine ri_lcmp a_X7_firesBy_45 ?_
        refine ri_if_ge a_X7_firesBy_46 (fun zc13 => ?_) (fun zc13 => ?_)
        · refine ri_iinc (c0 := 1) (f := fun zx14 => [some (vo 0 0), some (vi seed), some (vl zx12), none, some (vi zx14)]) a_X7_firesBy_75 rfl (by decide) (fun _ => rfl) (fun zx14 ezx14 => ?_)
          refine ri_goto a_X7_firesBy_78 ?_
          have hx : zx12 = lotN x := ezx12
          rw [e25, hx] at zc13
          rw [if_neg (lgc_ge zc13)] at hd0
          rw [ezx14, nI_1, hx]
          exact ih (i + 1) (lotN x) acc N1 (by omega) (by omega) hd0 hf h36 hrow
        · refine ri_ald a_X7_firesBy_49 rfl ?_
          refine ri_getR (t' := 22) (i' := 0) a_X7_firesBy_50 fl_X7_73 kM_0_35 rfl iM_0 (Or.inr ⟨rfl, rfl, rfl⟩) ?_
          refine ri_ald a_X7_firesBy_53 rfl ?_
          refine ri_getI a_X7_firesBy_54 fl_X7_201 kM_0_36 rfl iM_0 ?_
          refine ri_ald a_X7_firesBy_57 rfl ?_
          refine ri_getR (t' := 5) (i' := 0) a_X7_firesBy_58 fl_X7_22 kM_0_5 rfl iM_0 (Or.inr ⟨rfl, rfl, rfl⟩) ?_
          refine ri_ild a_X7_firesBy_61 rfl ?_
          refine ri_iaload a_X7_firesBy_63 lM_5 rfl iM_5 ?_ ?_
          · exact vp_in_nI (by omega) (by decide)
          refine ri_iastore a_X7_firesBy_64 lM_22 rfl iM_22 ?_ (fun zM15 ezM15 => ?_)
          · rw [h36]; exact vp_in_nI (by omega) (by decide)
          refine ri_ald a_X7_firesBy_65 rfl ?_
          refine ri_dup a_X7_firesBy_66 (fun _ h => by cases h) ?_
          refine ri_getI a_X7_firesBy_67 fl_X7_201 kM_0_36 rfl iM_0 ?_
          refine ri_ic a_X7_firesBy_70 ?_
          refine ri_iadd a_X7_firesBy_71 ?_
          refine ri_putI a_X7_firesBy_72 fp_X7_201 kM_0_36 rfl iM_0 (fun zM16 ezM16 => ?_)
          refine ri_iinc (c0 := 1) (f := fun zx17 => [some (vo 0 0), some (vi seed), some (vl zx12), none, some (vi zx17)]) a_X7_firesBy_75 rfl (by decide) (fun _ => rfl) (fun zx17 ezx17 => ?_)
          refine ri_goto a_X7_firesBy_78 ?_
          have hx : zx12 = lotN x := ezx12
          rw [e25, hx] at zc13
          rw [if_pos (lgc_lt zc13)] at hd0
          rw [h36, e5, nI_clamp (by omega)] at ezM15
          rw [show zM15 0 0 36 = nI acc.length by rw [ezM15]; exact h36, nI_1] at ezM16
          rw [ezx17, nI_1, hx]
          have el : (acc ++ [O i]).length = acc.length + 1 := by simp
          refine ih (i + 1) (lotN x) (acc ++ [O i]) zM16 (by omega) (by omega) hd0 (fun t a b c e => ?_) (by rw [el, ezM16, up_same]) (fun j hj => ?_)
          · rw [ezM16, ezM15, up_apply, up_apply, if_neg (fun q => by omega), if_neg (fun q => by omega)]; exact hf t a b c e
          · rw [ezM16, ezM15, up_apply, up_apply, if_neg (by omega)]
            rw [el] at hj
            by_cases e : j = acc.length
            · rw [if_pos ⟨rfl, rfl, e⟩, e]
              refine ⟨?_, ?_⟩
              · simp
              · simpa using hon
            · rw [if_neg (fun q => e q.2.2)]
              have hj2 : j < acc.length := by omega
              have := hrow j hj2
              simp only [List.getD_eq_getElem?_getD] at this ⊢
              rw [List.getElem?_append_left hj2]
              exact this
  refine lr_ok (by decide +kernel) rfl ?_
  refine ri_ild a_X7_firesBy_0 rfl ?_
  refine ri_i2l a_X7_firesBy_1 ?_
  refine ri_lc a_X7_firesBy_2 ?_
  refine ri_ladd a_X7_firesBy_3 ?_
  refine ri_lst (f := fun zx1 => [some (vo 0 0), some (vi seed), some (vl zx1), none, none]) a_X7_firesBy_4 (fun _ => rfl) (fun zx1 ezx1 => ?_)
  refine ri_ald a_X7_firesBy_5 rfl ?_
  refine ri_ic a_X7_firesBy_6 ?_
  refine ri_putI a_X7_firesBy_7 fp_X7_201 kM_0_36 rfl iM_0 (fun zM2 ezM2 => ?_)
  refine ri_ic a_X7_firesBy_10 ?_
  refine ri_istk (ls' := [some (vo 0 0), some (vi seed), some (vl zx1), none, some (vi 0)]) a_X7_firesBy_11 rfl ?_
  rw [ezx1]
  exact loop k 0 (seed.toInt64 + 1) [] zM2 (by omega) (Nat.le_refl _) (by rw [← hres]; rfl) (fun t a b c e => by rw [ezM2, up_apply, if_neg (fun q => by omega)]) (by rw [ezM2, up_same]; rfl) (fun j hj => absurd hj (Nat.not_lt_zero _))
theorem cmN_fr {N N' : Mem} {L : List (List Op)} {V : Vw} {O : Nat → Nat} {k : Nat} (h : frRw N N') (hc : cmN L V O k N) : cmN L V O k N' := fun i hi => by rw [h 25 0 i (by omega) (by omega)]; exact hc i hi
theorem ok_X7_drawn {w : Wd} {d : Nat} (hd : 6 ≤ d) {N : Mem} {n k : Nat} {L : List (List Op)} {O : Nat → Nat} (hL : lawN N L) (hn : N 0 0 0 = nI n) (hn8 : n ≤ 8) (hO : orN N O k n) (seed x : Int32) : lr_Ok tM sM w d jX7_drawn [vo 0 0, vi seed, vi x] N (qX fun r N' => frN N N' ∧ r = if (0 ≤ seed ∧ seed ≤ 99999) ∧ 0 ≤ x ∧ x ≤ 2 then (if x = 2 then nI (drV L (vwM N) O k seed).length else meaV L (vwM N) (N 4 0) (fun j => (drV L (vwM N) O k seed).getD j 0) (drV L (vwM N) O k seed).length x) else -2) := by
  refine lr_ok (by decide +kernel) rfl ?_
  refine ri_ild a_X7_drawn_0 rfl ?_
  refine ri_ic a_X7_drawn_1 ?_
  refine ri_ic a_X7_drawn_2 ?_
  refine ri_cSpb (as := [vi seed, vi 0, vi 99999]) (rest := []) (d' := d - 1) a_X7_drawn_4 ms_X7_in ml_X7_96 (by omega) (ok_X7_in seed 0 99999) (Nat.le_of_ble_eq_true rfl) rfl (fun zc1 => ?_) (fun zc1 => ?_)
  · refine ri_if_eq a_X7_drawn_7 (fun q => absurd q (by decide)) (fun _ => ?_)
    refine ri_ild a_X7_drawn_10 rfl ?_
    refine ri_ic a_X7_drawn_11 ?_
    refine ri_ic a_X7_drawn_12 ?_
    refine ri_cSpb (as := [vi x, vi 0, vi 2]) (rest := []) (d' := d - 1) a_X7_drawn_13 ms_X7_in ml_X7_96 (by omega) (ok_X7_in x 0 2) (Nat.le_of_ble_eq_true rfl) rfl (fun zc2 => ?_) (fun zc2 => ?_)
    · refine ri_if_ne a_X7_drawn_16 (fun _ => ?_) (fun q => absurd q (by decide))
      refine ri_ald a_X7_drawn_22 rfl ?_
      refine ri_cVxv (as := []) (rest := []) (d' := d - 1) a_X7_drawn_23 mv_X7_tellsComes ml_X7_262 (rcM_0 iM_0) (by omega) (ok_X7_tellsComes (by omega) hL hn hn8 hO) (Nat.le_of_ble_eq_true rfl) rfl (fun zM3 hzM3 => ?_)
      obtain ⟨hf, ht, hc⟩ := hzM3
      refine ri_ald a_X7_drawn_26 rfl ?_
      refine ri_ild a_X7_drawn_27 rfl ?_
      refine ri_cVxv (as := [vi seed]) (rest := []) (d' := d - 1) a_X7_drawn_28 mv_X7_firesBy ml_X7_265 (rcM_0 iM_0) (by omega) (ok_X7_firesBy hn8 (orN_N hf hO) hc seed) (Nat.le_of_ble_eq_true rfl) rfl (fun zM11 hzM11 => ?_)
      obtain ⟨g1, g2⟩ := hzM11
      have ht2 := frRw_tb g1 ht
      have hf2 := frN_tr hf (frRw_N g1)
      have e4 : zM11 4 0 = N 4 0 := by rw [frN_t hf2 (t := 4) (by decide) (by decide)]
      have hlo := ok_X7_firstLoose (w := w) (d := d - 1) ht2 g2 hn8
      rw [e4] at hlo
      have hx2 : x = 0 ∨ x = 1 ∨ x = 2 := by
        obtain ⟨y, hy, rfl⟩ := nI_of2 (n := 2) (M := 2) (by decide) (Int32.not_lt.mpr zc2.1) zc2.2
        have : y = 0 ∨ y = 1 ∨ y = 2 := by omega
        rcases this with rfl | rfl | rfl
        · exact Or.inl rfl
        · exact Or.inr (Or.inl rfl)
        · exact Or.inr (Or.inr rfl)
      refine ri_ild a_X7_drawn_31 rfl ?_
      refine ri_if_ne a_X7_drawn_32 (fun zc21 => ?_) (fun zc21 => ?_)
      · refine ri_ild a_X7_drawn_42 rfl ?_
        refine ri_ic a_X7_drawn_43 ?_
        refine ri_icmp_ne a_X7_drawn_44 (fun zc22 => ?_) (fun zc22 => ?_)
        · refine ri_ald a_X7_drawn_54 rfl ?_
          refine ri_getI a_X7_drawn_55 fl_X7_201 kM_0_36 rfl iM_0 ?_
          refine ri_ireturn a_X7_drawn_58 rfl rfl ?_
          have : x = 2 := by
            rcases hx2 with h | h | h
            · exact absurd h zc21
            · exact absurd h zc22
            · exact h
          exact rX ⟨hf2, by rw [if_pos ⟨zc1, zc2⟩, if_pos this]; exact g2.1⟩
        · refine ri_ald a_X7_drawn_47 rfl ?_
          refine ri_cVpi (as := []) (rest := []) (d' := d - 1) a_X7_drawn_48 mv_X7_firstLoose ml_X7_207 (rcM_0 iM_0) (by omega) (hlo) (Nat.le_of_ble_eq_true rfl) rfl (fun zy23 ezy23 => ?_)
          refine ri_goto a_X7_drawn_51 ?_
          refine ri_ireturn a_X7_drawn_58 rfl rfl ?_
          exact rX ⟨hf2, by rw [if_pos ⟨zc1, zc2⟩, if_neg (by rw [zc22]; decide), ezy23]; unfold meaV; rw [if_neg zc21, if_pos zc22]⟩
      · refine ri_ald a_X7_drawn_35 rfl ?_
        refine ri_cVpi (as := []) (rest := []) (d' := d - 1) a_X7_drawn_36 mv_X7_highOf ml_X7_204 (rcM_0 iM_0) (by omega) (ok_X7_highOf ht2 g2 hn8) (Nat.le_of_ble_eq_true rfl) rfl (fun zy24 ezy24 => ?_)
        refine ri_goto a_X7_drawn_39 ?_
        refine ri_ireturn a_X7_drawn_58 rfl rfl ?_
        exact rX ⟨hf2, by rw [if_pos ⟨zc1, zc2⟩, if_neg (by rw [zc21]; decide)]; first | (rw [ezy24]; unfold meaV; rw [if_pos zc21]) | (rw [ezy25]; unfold meaV; rw [if_pos zc21])⟩
    · refine ri_if_ne a_X7_drawn_16 (fun q => absurd q (by decide)) (fun _ => ?_)
      refine ri_ic a_X7_drawn_19 ?_
      refine ri_ireturn a_X7_drawn_21 rfl rfl ?_
      exact rX ⟨frN_rf, by rw [if_neg (fun q => zc2 q.2)]⟩
  · refine ri_if_eq a_X7_drawn_7 (fun _ => ?_) (fun q => absurd q (by decide))
    refine ri_ic a_X7_drawn_19 ?_
    refine ri_ireturn a_X7_drawn_21 rfl rfl ?_
    exact rX ⟨frN_rf, by rw [if_neg (fun q => zc1 q.1)]⟩
abbrev ofG (L : List (List Op)) (V : Vw) (F : Nat → Int32) (O : Nat → Nat) (k : Nat) (seed win : Int32) (i : Nat) : Prop := win ≤ hiS L V (fun j => (drV L V O k (seed + nI i)).getD j 0) (drV L V O k (seed + nI i)).length ∧ wkV L V F (fun j => (drV L V O k (seed + nI i)).getD j 0) (drV L V O k (seed + nI i)).length = -1
theorem cnN_le {g : Nat → Prop} [DecidablePred g] : ∀ r t a, cnN g r t a ≤ a + r := by
  intro r
  induction r with
  | zero => intro t a; exact Nat.le_refl _
  | succ r ih =>
    intro t a
    rw [cnN]
    by_cases h : g t
    · rw [if_pos h]
      have := ih (t + 1) (a + 1)
      omega
    · rw [if_neg h]
      have := ih (t + 1) a
      omega
theorem ok_X7_odds {w : Wd} {d : Nat} (hd : 6 ≤ d) {N : Mem} {n k : Nat} {L : List (List Op)} {O : Nat → Nat} (hL : lawN N L) (hn : N 0 0 0 = nI n) (hn8 : n ≤ 8) (hO : orN N O k n) (seed ns win part : Int32) : lr_Ok tM sM w d jX7_odds [vo 0 0, vi seed, vi ns, vi win, vi part] N (fun r N' => frN N N' ∧ r = some (vl (if ((0 ≤ seed ∧ seed ≤ 99999) ∧ 1 ≤ ns ∧ ns ≤ 60) ∧ (0 ≤ win ∧ win ≤ 999) ∧ 0 ≤ part ∧ part ≤ 1 then loV (cnN (ofG L (vwM N) (N 4 0) O k seed win) ns.toNatClampNeg 0 0) ns.toNatClampNeg part else -4611686018427387904))) := by
  have loop : ∀ z, 0 < z → z ≤ 60 → ∀ r i a N1, z = i + r → a ≤ i → frN N N1 → tbM L (vwM N) n N1 → cmN L (vwM N) O k N1 → lr_W tM sM w d jX7_odds 55 [some (vo 0 0), some (vi seed), some (vi (nI z)), some (vi win), some (vi part), some (vl (lN a)), none, some (vi (nI i))] [] N1 (fun r' N' => frN N N' ∧ r' = some (vl (loV (cnN (ofG L (vwM N) (N 4 0) O k seed win) r i a) z part))) := by
    intro z hz0 hz r
    induction r with
    | zero =>
      intro i a N1 hi ha hf ht hc
      have : z = i := hi
      subst this
      have hlo := @ok_X7_lowest tM sM w (d - 1) N1 a z (by omega) hz0 (by omega) part
      rw [← nI_l (n := z) (by omega)] at hlo
      refine ri_ild a_X7_odds_55 rfl ?_
      refine ri_ild a_X7_odds_57 rfl ?_
      refine ri_icmp_ge a_X7_odds_58 (fun zc11 => ?_) (fun zc11 => ?_)
      · refine ri_lld a_X7_odds_93 rfl ?_
        refine ri_ild a_X7_odds_95 rfl ?_
        refine ri_i2l a_X7_odds_96 ?_
        refine ri_ild a_X7_odds_97 rfl ?_
        refine ri_cSpl (as := [vl (lN a), vl ((nI z).toInt64), vi part]) (rest := []) (d' := d - 1) a_X7_odds_99 ms_X7_lowest ml_X7_245 (by omega) (hlo) (Nat.le_of_ble_eq_true rfl) rfl (fun zy12 ezy12 => ?_)
        refine ri_lreturn a_X7_odds_102 rfl ?_
        exact ⟨hf, by rw [ezy12]; rfl⟩
      · exact absurd (Int32.le_refl _) zc11
    | succ r ih =>
      intro i a N1 hi ha hf ht hc
      rw [cnN]
      refine ri_ild a_X7_odds_55 rfl ?_
      refine ri_ild a_X7_odds_57 rfl ?_
      refine ri_icmp_ge a_X7_odds_58 (fun zc11 => ?_) (fun zc11 => ?_)
      · exact absurd zc11 (nI_ge (by omega) (by omega))
      · refine ri_ald a_X7_odds_61 rfl ?_
        refine ri_ild a_X7_odds_62 rfl ?_
        refine ri_ild a_X7_odds_63 rfl ?_
        refine ri_iadd a_X7_odds_65 ?_
        refine ri_cVxv (as := [vi (seed + (nI i))]) (rest := []) (d' := d - 1) a_X7_odds_66 mv_X7_firesBy ml_X7_265 (rcM_0 iM_0) (by omega) (ok_X7_firesBy hn8 (orN_N hf hO) hc (seed + nI i)) (Nat.le_of_ble_eq_true rfl) rfl (fun zM12 hzM12 => ?_)
        obtain ⟨g1, g2⟩ := hzM12
        have ht2 := frRw_tb g1 ht
        have hf2 := frN_tr hf (frRw_N g1)
        have hre := ok_X7_doesReach (w := w) (d := d - 1) (by omega) ht2 g2 hn8 win
        rw [frN_t hf2 (t := 4) (by decide) (by decide)] at hre
        refine ri_lld a_X7_odds_69 rfl ?_
        refine ri_ald a_X7_odds_71 rfl ?_
        refine ri_ild a_X7_odds_72 rfl ?_
        refine ri_cVpb (as := [vi win]) (rest := [vl (lN a)]) (d' := d - 1) a_X7_odds_73 mv_X7_doesReach ml_X7_222 (rcM_0 iM_0) (by omega) (hre) (Nat.le_of_ble_eq_true rfl) rfl (fun zc21 => ?_) (fun zc21 => ?_)
        · refine ri_if_eq a_X7_odds_76 (fun q => absurd q (by decide)) (fun _ => ?_)
          refine ri_lc a_X7_odds_79 ?_
          refine ri_goto a_X7_odds_80 ?_
          refine ri_ladd a_X7_odds_84 ?_
          refine ri_lst (f := fun zx22 => [some (vo 0 0), some (vi seed), some (vi (nI z)), some (vi win), some (vi part), some (vl zx22), none, some (vi (nI i))]) a_X7_odds_85 (fun _ => rfl) (fun zx22 ezx22 => ?_)
          refine ri_iinc (c0 := 1) (f := fun zx23 => [some (vo 0 0), some (vi seed), some (vi (nI z)), some (vi win), some (vi part), some (vl zx22), none, some (vi zx23)]) a_X7_odds_87 rfl (by decide) (fun _ => rfl) (fun zx23 ezx23 => ?_)
          refine ri_goto a_X7_odds_90 ?_
          rw [if_pos zc21, ezx23, ezx22, nI_1, lN_1]
          exact ih (i + 1) (a + 1) zM12 (by omega) (by omega) hf2 ht2 (cmN_fr g1 hc)
        · refine ri_if_eq a_X7_odds_76 (fun _ => ?_) (fun q => absurd q (by decide))
          refine ri_lc a_X7_odds_83 ?_
          refine ri_ladd a_X7_odds_84 ?_
          refine ri_lst (f := fun zx24 => [some (vo 0 0), some (vi seed), some (vi (nI z)), some (vi win), some (vi part), some (vl zx24), none, some (vi (nI i))]) a_X7_odds_85 (fun _ => rfl) (fun zx24 ezx24 => ?_)
          refine ri_iinc (c0 := 1) (f := fun zx25 => [some (vo 0 0), some (vi seed), some (vi (nI z)), some (vi win), some (vi part), some (vl zx24), none, some (vi zx25)]) a_X7_odds_87 rfl (by decide) (fun _ => rfl) (fun zx25 ezx25 => ?_)
          refine ri_goto a_X7_odds_90 ?_
          rw [if_neg zc21, ezx25, ezx24, nI_1, Int64.add_zero]
          exact ih (i + 1) a zM12 (by omega) (by omega) hf2 ht2 (cmN_fr g1 hc)
  refine lr_ok (by decide +kernel) rfl ?_
  refine ri_ild a_X7_odds_0 rfl ?_
  refine ri_ic a_X7_odds_1 ?_
  refine ri_ic a_X7_odds_2 ?_
  refine ri_cSpb (as := [vi seed, vi 0, vi 99999]) (rest := []) (d' := d - 1) a_X7_odds_4 ms_X7_in ml_X7_96 (by omega) (ok_X7_in seed 0 99999) (Nat.le_of_ble_eq_true rfl) rfl (fun zc1 => ?_) (fun zc1 => ?_)
  · refine ri_if_eq a_X7_odds_7 (fun q => absurd q (by decide)) (fun _ => ?_)
    refine ri_ild a_X7_odds_10 rfl ?_
    refine ri_ic a_X7_odds_11 ?_
    refine ri_ic a_X7_odds_12 ?_
    refine ri_cSpb (as := [vi ns, vi 1, vi 60]) (rest := []) (d' := d - 1) a_X7_odds_14 ms_X7_in ml_X7_96 (by omega) (ok_X7_in ns 1 60) (Nat.le_of_ble_eq_true rfl) rfl (fun zc2 => ?_) (fun zc2 => ?_)
    · refine ri_if_eq a_X7_odds_17 (fun q => absurd q (by decide)) (fun _ => ?_)
      refine ri_ild a_X7_odds_20 rfl ?_
      refine ri_ic a_X7_odds_21 ?_
      refine ri_ic a_X7_odds_22 ?_
      refine ri_cSpb (as := [vi win, vi 0, vi 999]) (rest := []) (d' := d - 1) a_X7_odds_25 ms_X7_in ml_X7_96 (by omega) (ok_X7_in win 0 999) (Nat.le_of_ble_eq_true rfl) rfl (fun zc3 => ?_) (fun zc3 => ?_)
      · refine ri_if_eq a_X7_odds_28 (fun q => absurd q (by decide)) (fun _ => ?_)
        refine ri_ild a_X7_odds_31 rfl ?_
        refine ri_ic a_X7_odds_33 ?_
        refine ri_ic a_X7_odds_34 ?_
        refine ri_cSpb (as := [vi part, vi 0, vi 1]) (rest := []) (d' := d - 1) a_X7_odds_35 ms_X7_in ml_X7_96 (by omega) (ok_X7_in part 0 1) (Nat.le_of_ble_eq_true rfl) rfl (fun zc4 => ?_) (fun zc4 => ?_)
        · refine ri_if_ne a_X7_odds_38 (fun _ => ?_) (fun q => absurd q (by decide))
          refine ri_ald a_X7_odds_45 rfl ?_
          refine ri_cVxv (as := []) (rest := []) (d' := d - 1) a_X7_odds_46 mv_X7_tellsComes ml_X7_262 (rcM_0 iM_0) (by omega) (ok_X7_tellsComes (by omega) hL hn hn8 hO) (Nat.le_of_ble_eq_true rfl) rfl (fun zM5 hzM5 => ?_)
          refine ri_lc a_X7_odds_49 ?_
          refine ri_lstk (ls' := [some (vo 0 0), some (vi seed), some (vi ns), some (vi win), some (vi part), some (vl 0), none, none]) a_X7_odds_50 rfl ?_
          refine ri_ic a_X7_odds_52 ?_
          refine ri_istk (ls' := [some (vo 0 0), some (vi seed), some (vi ns), some (vi win), some (vi part), some (vl 0), none, some (vi 0)]) a_X7_odds_53 rfl ?_
          obtain ⟨z, hz, rfl⟩ := nI_of2 (n := 60) (M := 60) (by decide) (fun q => Int32.not_le.mpr q (Int32.le_trans (by decide) zc2.1)) zc2.2
          have hz0 : 0 < z := Nat.pos_of_ne_zero (fun e => by rw [e] at zc2; exact absurd zc2.1 (by decide))
          rw [if_pos ⟨⟨zc1, zc2⟩, zc3, zc4⟩, nI_clamp (by omega)]
          exact loop z hz0 hz z 0 0 zM5 (by omega) (Nat.le_refl _) hzM5.1 hzM5.2.1 hzM5.2.2
        · refine ri_if_ne a_X7_odds_38 (fun q => absurd q (by decide)) (fun _ => ?_)
          refine ri_lc a_X7_odds_41 ?_
          refine ri_lreturn a_X7_odds_44 rfl ?_
          exact ⟨frN_rf, by rw [if_neg (fun q => zc4 q.2.2)]⟩
      · refine ri_if_eq a_X7_odds_28 (fun _ => ?_) (fun q => absurd q (by decide))
        refine ri_lc a_X7_odds_41 ?_
        refine ri_lreturn a_X7_odds_44 rfl ?_
        exact ⟨frN_rf, by rw [if_neg (fun q => zc3 q.2.1)]⟩
    · refine ri_if_eq a_X7_odds_17 (fun _ => ?_) (fun q => absurd q (by decide))
      refine ri_lc a_X7_odds_41 ?_
      refine ri_lreturn a_X7_odds_44 rfl ?_
      exact ⟨frN_rf, by rw [if_neg (fun q => zc2 q.1.2)]⟩
  · refine ri_if_eq a_X7_odds_7 (fun _ => ?_) (fun q => absurd q (by decide))
    refine ri_lc a_X7_odds_41 ?_
    refine ri_lreturn a_X7_odds_44 rfl ?_
    exact ⟨frN_rf, by rw [if_neg (fun q => zc1 q.1.1)]⟩

