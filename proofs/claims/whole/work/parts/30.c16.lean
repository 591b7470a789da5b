/-! class: rows -/
def frT (k : Nat) (M M' : Mem) : Prop := ∀ t, t ≠ k → M' t = M t
theorem frT_refl {k : Nat} {M : Mem} : frT k M M := fun _ _ => rfl
theorem frT_up {k i p : Nat} {x : Int32} {M M1 : Mem} (h : frT k M M1) : frT k M (up M1 k i p x) := fun t ht => by
  funext a b
  rw [up_apply, if_neg (fun q => ht q.1), h t ht]
/-- a sheet's numbers are people, no two the same -/
def tkr (g : Nat → Int32) (p : Int32) : Nat → Nat → Int32 → Bool
  | 0, _, _ => true
  | r + 1, i, st => if (0 ≤ g i ∧ g i < p) ∧ (st >>> (g i &&& 31)) &&& 1 = 0 then tkr g p r (i + 1) (st ||| (1 <<< (g i &&& 31))) else false
theorem ok_X6_takeRow {w : Wd} {d : Nat} (hd : 1 ≤ d) {M : Mem} {s n : Nat} (hs : s < 4) (hsz : M 19 s 2 = nI n) (hn : n ≤ 40) : lr_Ok tC sC w d jX6_takeRow [vo 0 0, vo 19 s] M (qX fun r M' => frT 23 M M' ∧ if n ≤ 8 ∧ tkr (M 20 s) (M 1 0 6) n 0 0 = true then r = nI n ∧ ∀ i, i < n → M' 23 0 i = M 20 s i else r = -1) := by
  have loop : ∀ r i st j4 M1, n = i + r → n ≤ 8 → frT 23 M M1 → (∀ k, k < i → M1 23 0 k = M 20 s k) → lr_W tC sC w d jX6_takeRow 15 [some (vo 0 0), some (vo 19 s), some (vi st), some (vi (nI i)), j4] [] M1 (qX fun r' M' => frT 23 M M' ∧ if tkr (M 20 s) (M 1 0 6) r i st = true then r' = nI n ∧ ∀ i, i < n → M' 23 0 i = M 20 s i else r' = -1) := by
    intro r
    induction r with
    | zero =>
      intro i st j4 M1 hr h8 hf hrow
      have : n = i := hr
      subst this
      have e2 : M1 19 s 2 = nI n := by rw [hf 19 (by decide), hsz]
      refine ri_ild a_X6_takeRow_15 rfl ?_
      refine ri_ald a_X6_takeRow_16 rfl ?_
      refine ri_getI a_X6_takeRow_17 fl_X6_256 kC_19_2 rfl (iC_19 (by assumption)) ?_
      refine ri_icmp_ge a_X6_takeRow_20 (fun zc1 => ?_) (fun zc1 => ?_)
      · refine ri_ald a_X6_takeRow_75 rfl ?_
        refine ri_getI a_X6_takeRow_76 fl_X6_256 kC_19_2 rfl (iC_19 (by assumption)) ?_
        refine ri_ireturn a_X6_takeRow_79 rfl rfl ?_
        exact rX ⟨hf, by rw [tkr, if_pos rfl]; exact ⟨e2, hrow⟩⟩
      · exact absurd (by rw [e2]; exact Int32.le_refl _) zc1
    | succ r ih =>
      intro i st j4 M1 hr h8 hf hrow
      have e2 : M1 19 s 2 = nI n := by rw [hf 19 (by decide), hsz]
      have eg : M1 20 s (nI i).toNatClampNeg = M 20 s i := by rw [hf 20 (by decide), nI_clamp (by omega)]
      have e6 : M1 1 0 6 = M 1 0 6 := by rw [hf 1 (by decide)]
      refine ri_ild a_X6_takeRow_15 rfl ?_
      refine ri_ald a_X6_takeRow_16 rfl ?_
      refine ri_getI a_X6_takeRow_17 fl_X6_256 kC_19_2 rfl (iC_19 (by assumption)) ?_
      refine ri_icmp_ge a_X6_takeRow_20 (fun zc11 => ?_) (fun zc11 => ?_)
      · refine ri_ald a_X6_takeRow_75 rfl ?_
        refine ri_getI a_X6_takeRow_76 fl_X6_256 kC_19_2 rfl (iC_19 (by assumption)) ?_
        refine ri_ireturn a_X6_takeRow_79 rfl rfl ?_
        exact absurd zc11 (by rw [e2]; exact nI_ge (by omega) (by omega))
      · refine ri_ald a_X6_takeRow_23 rfl ?_
        refine ri_getR (t' := 20) (i' := s) a_X6_takeRow_24 fl_X6_250 kC_19_0 rfl (iC_19 (by assumption)) (Or.inl ⟨rfl, rfl, rfl⟩) ?_
        refine ri_ild a_X6_takeRow_27 rfl ?_
        refine ri_iaload a_X6_takeRow_28 lC_20 rfl (iC_20 (by assumption)) ?_ ?_
        · exact vp_in_nI (by omega) (by decide)
        refine ri_ist (f := fun zx12 => [some (vo 0 0), some (vo 19 s), some (vi st), some (vi (nI i)), some (vi zx12)]) a_X6_takeRow_29 (fun _ => rfl) (fun zx12 ezx12 => ?_)
        refine ri_ald a_X6_takeRow_31 rfl ?_
        refine ri_getR (t' := 1) (i' := 0) a_X6_takeRow_32 fl_X6_10 kC_0_0 rfl iC_0 (Or.inr ⟨rfl, rfl, rfl⟩) ?_
        refine ri_ild a_X6_takeRow_35 rfl ?_
        refine ri_cVpb (as := [vi zx12]) (rest := []) (d' := d - 1) a_X6_takeRow_37 mv_X0_has ml_X6_106 (rcC_1 (iC_1 (by decide))) (by omega) (ok_X0_has (by decide) zx12) (Nat.le_of_ble_eq_true rfl) rfl (fun zc13 => ?_) (fun zc13 => ?_)
        · refine ri_if_eq a_X6_takeRow_40 (fun q => absurd q (by decide)) (fun _ => ?_)
          refine ri_ild a_X6_takeRow_43 rfl ?_
          refine ri_ild a_X6_takeRow_44 rfl ?_
          refine ri_ishr a_X6_takeRow_46 ?_
          refine ri_ic a_X6_takeRow_47 ?_
          refine ri_iand a_X6_takeRow_48 ?_
          refine ri_if_eq a_X6_takeRow_49 (fun zc14 => ?_) (fun zc14 => ?_)
          · refine ri_ild a_X6_takeRow_54 rfl ?_
            refine ri_ic a_X6_takeRow_55 ?_
            refine ri_ild a_X6_takeRow_56 rfl ?_
            refine ri_ishl a_X6_takeRow_58 ?_
            refine ri_ior a_X6_takeRow_59 ?_
            refine ri_ist (f := fun zx15 => [some (vo 0 0), some (vo 19 s), some (vi zx15), some (vi (nI i)), some (vi zx12)]) a_X6_takeRow_60 (fun _ => rfl) (fun zx15 ezx15 => ?_)
            refine ri_ald a_X6_takeRow_61 rfl ?_
            refine ri_getR (t' := 23) (i' := 0) a_X6_takeRow_62 fl_X6_49 kC_0_9 rfl iC_0 (Or.inr ⟨rfl, rfl, rfl⟩) ?_
            refine ri_ild a_X6_takeRow_65 rfl ?_
            refine ri_ild a_X6_takeRow_66 rfl ?_
            refine ri_iastore a_X6_takeRow_68 lC_23 rfl iC_23 ?_ (fun zM16 ezM16 => ?_)
            · exact vp_in_nI (by omega) (by decide)
            refine ri_iinc (c0 := 1) (f := fun zx17 => [some (vo 0 0), some (vo 19 s), some (vi zx15), some (vi zx17), some (vi zx12)]) a_X6_takeRow_69 rfl (by decide) (fun _ => rfl) (fun zx17 ezx17 => ?_)
            refine ri_goto a_X6_takeRow_72 ?_
            rw [eg] at ezx12
            rw [e6, ezx12] at zc13
            rw [ezx12] at zc14 ezM16 ezx15
            have hg : frT 23 M zM16 := by rw [ezM16]; exact frT_up hf
            have := ih (i + 1) zx15 (some (vi zx12)) zM16 (by omega) h8 hg (fun k hk => by
              rw [ezM16, nI_clamp (by omega)]
              by_cases e : k = i
              · rw [e, up_same]
              · rw [up_k e]; exact hrow k (by omega))
            rw [tkr, if_pos ⟨zc13, zc14⟩, ← ezx15]
            rw [ezx17, nI_1]
            exact this
          · refine ri_ic a_X6_takeRow_52 ?_
            refine ri_ireturn a_X6_takeRow_53 rfl rfl ?_
            rw [eg] at ezx12
            rw [ezx12] at zc14
            exact rX ⟨hf, by rw [if_neg (fun q => by rw [tkr, if_neg (fun q => zc14 q.2)] at q; cases q)]⟩
        · refine ri_if_eq a_X6_takeRow_40 (fun _ => ?_) (fun q => absurd q (by decide))
          refine ri_ic a_X6_takeRow_52 ?_
          refine ri_ireturn a_X6_takeRow_53 rfl rfl ?_
          rw [eg] at ezx12
          rw [e6, ezx12] at zc13
          exact rX ⟨hf, by rw [if_neg (fun q => by rw [tkr, if_neg (fun q => zc13 q.1)] at q; cases q)]⟩
  refine lr_ok (by decide +kernel) rfl ?_
  refine ri_ald a_X6_takeRow_0 rfl ?_
  refine ri_getI a_X6_takeRow_1 fl_X6_256 kC_19_2 rfl (iC_19 (by assumption)) ?_
  refine ri_ic a_X6_takeRow_4 ?_
  refine ri_icmp_le a_X6_takeRow_6 (fun zc1 => ?_) (fun zc1 => ?_)
  · refine ri_ic a_X6_takeRow_11 ?_
    refine ri_istk (ls' := [some (vo 0 0), some (vo 19 s), some (vi 0), none, none]) a_X6_takeRow_12 rfl ?_
    refine ri_ic a_X6_takeRow_13 ?_
    refine ri_istk (ls' := [some (vo 0 0), some (vo 19 s), some (vi 0), some (vi 0), none]) a_X6_takeRow_14 rfl ?_
    have h8 : n ≤ 8 := by
        rw [hsz] at zc1
        exact (nI_leI (b := 8) (by omega) (by decide)).1 zc1
    have := loop n 0 0 none M (by omega) h8 frT_refl (fun k hk => by omega)
    simp only [h8, true_and]
    exact this
  · refine ri_ic a_X6_takeRow_9 ?_
    refine ri_ireturn a_X6_takeRow_10 rfl rfl ?_
    have h8 : ¬ n ≤ 8 := fun q => zc1 (by rw [hsz]; exact nI_le (b := 8) q (by decide))
    exact rX ⟨frT_refl, by rw [if_neg (fun q => h8 q.1)]⟩
theorem lgc_ge {a b : Int64} (h : 0 ≤ lg_cmp a b) : ¬ a < b := Int64.not_lt.mpr ((lg_cmp_ge a b).1 h)
theorem lgc_lt {a b : Int64} (h : ¬ 0 ≤ lg_cmp a b) : a < b := Int64.not_le.mp (fun q => h ((lg_cmp_ge a b).2 q))
/-- the lots of a fire -/
def lotN (x : Int64) : Int64 := x * 48271 - x * 48271 / 2147483647 * 2147483647
def drL (L : List (List Op)) (V : Vw) (O : Nat → Nat) : Nat → Nat → Int64 → List Nat → List Nat
  | 0, _, _, acc => acc
  | r + 1, i, x, acc => if lotN x - lotN x / 100 * 100 < (sayV L V 2 (O i) (nI i)).toInt64 then drL L V O r (i + 1) (lotN x) (acc ++ [O i]) else drL L V O r (i + 1) (lotN x) acc
theorem ok_X6_draw {w : Wd} {d : Nat} (hd : 3 ≤ d) {M : Mem} {k : Nat} {L : List (List Op)} {O : Nat → Nat} (hL : lawC M 0 L) (hk : M 1 0 7 = nI k) (hk8 : k ≤ 8) (hO : rowA (M 7 0) O k) (seed : Int32) : lr_Ok tC sC w d jX6_draw [vo 0 0, vi seed] M (qX fun r M' => frT 23 M M' ∧ ∃ n, n ≤ 8 ∧ (drL L (vwC M 0) O k 0 (seed.toInt64 + 1) []).length = n ∧ r = nI n ∧ rowA (M' 23 0) (fun j => (drL L (vwC M 0) O k 0 (seed.toInt64 + 1) []).getD j 0) n) := by
  generalize hres : drL L (vwC M 0) O k 0 (seed.toInt64 + 1) [] = res
  have loop : ∀ r i x acc j6 M1, k = i + r → acc.length ≤ i → drL L (vwC M 0) O r i x acc = res → frT 23 M M1 → rowA (M1 23 0) (fun j => acc.getD j 0) acc.length → lr_W tC sC w d jX6_draw 11 [some (vo 0 0), some (vi seed), some (vl x), none, some (vi (nI acc.length)), some (vi (nI i)), j6] [] M1 (qX fun r M' => frT 23 M M' ∧ ∃ n, n ≤ 8 ∧ res.length = n ∧ r = nI n ∧ rowA (M' 23 0) (fun j => res.getD j 0) n) := by
    intro r
    induction r with
    | zero =>
      intro i x acc j6 M1 hr ha hd0 hf hrow
      have : k = i := hr
      subst this
      have e2 : M1 1 0 7 = nI k := by rw [hf 1 (by decide), hk]
      refine ri_ild a_X6_draw_11 rfl ?_
      refine ri_ald a_X6_draw_13 rfl ?_
      refine ri_getR (t' := 1) (i' := 0) a_X6_draw_14 fl_X6_10 kC_0_0 rfl iC_0 (Or.inr ⟨rfl, rfl, rfl⟩) ?_
      refine ri_getI a_X6_draw_17 fl_X6_90 kC_1_7 rfl (iC_1 (by decide)) ?_
      refine ri_icmp_ge a_X6_draw_20 (fun zc1 => ?_) (fun zc1 => ?_)
      · refine ri_ild a_X6_draw_86 rfl ?_
        refine ri_ireturn a_X6_draw_88 rfl rfl ?_
        exact rX ⟨hf, acc.length, by omega, by rw [← hd0]; rfl, rfl, by rw [← hd0]; exact hrow⟩
      · exact absurd (by rw [e2]; exact Int32.le_refl _) zc1
    | succ r ih =>
      intro i x acc j6 M1 hr ha hd0 hf hrow
      have e2 : M1 1 0 7 = nI k := by rw [hf 1 (by decide), hk]
      obtain ⟨hr0, h8⟩ := hO i (by omega)
      have eg : M1 7 0 (nI i).toNatClampNeg = nI (O i) := by rw [hf 7 (by decide), nI_clamp (by omega)]; exact hr0
      have hL1 : lawC M1 0 L := by
        unfold lawC tx txS at hL ⊢
        rw [hf 1 (by decide), hf 9 (by decide), hf 10 (by decide)]
        exact hL
      have eV : vwC M1 0 = vwC M 0 := by
        unfold vwC
        rw [hf 1 (by decide), hf 2 (by decide), hf 3 (by decide), hf 4 (by decide), hf 5 (by decide)]
      refine ri_ild a_X6_draw_11 rfl ?_
      refine ri_ald a_X6_draw_13 rfl ?_
      refine ri_getR (t' := 1) (i' := 0) a_X6_draw_14 fl_X6_10 kC_0_0 rfl iC_0 (Or.inr ⟨rfl, rfl, rfl⟩) ?_
      refine ri_getI a_X6_draw_17 fl_X6_90 kC_1_7 rfl (iC_1 (by decide)) ?_
      refine ri_icmp_ge a_X6_draw_20 (fun zc11 => ?_) (fun zc11 => ?_)
      · refine ri_ild a_X6_draw_86 rfl ?_
        refine ri_ireturn a_X6_draw_88 rfl rfl ?_
        exact absurd zc11 (by rw [e2]; exact nI_ge (by omega) (by omega))
      · refine ri_ald a_X6_draw_23 rfl ?_
        refine ri_getR (t' := 1) (i' := 0) a_X6_draw_24 fl_X6_10 kC_0_0 rfl iC_0 (Or.inr ⟨rfl, rfl, rfl⟩) ?_
        refine ri_getR (t' := 7) (i' := 0) a_X6_draw_27 fl_X6_144 kC_1_5 rfl (iC_1 (by decide)) (Or.inl ⟨rfl, rfl, rfl⟩) ?_
        refine ri_ild a_X6_draw_30 rfl ?_
        refine ri_iaload a_X6_draw_32 lC_7 rfl (iC_7 (by decide)) ?_ ?_
        · exact vp_in_nI (by omega) (by decide)
        rw [eg]
        refine ri_istk (ls' := [some (vo 0 0), some (vi seed), some (vl x), none, some (vi (nI acc.length)), some (vi (nI i)), some (vi (nI (O i)))]) a_X6_draw_33 rfl ?_
        refine ri_lld a_X6_draw_35 rfl ?_
        refine ri_lc a_X6_draw_36 ?_
        refine ri_lmul a_X6_draw_39 ?_
        refine ri_lc a_X6_draw_40 ?_
        refine ri_lrem a_X6_draw_43 (by decide) ?_
        refine ri_lst (f := fun zx21 => [some (vo 0 0), some (vi seed), some (vl zx21), none, some (vi (nI acc.length)), some (vi (nI i)), some (vi (nI (O i)))]) a_X6_draw_44 (fun _ => rfl) (fun zx21 ezx21 => ?_)
        refine ri_lld a_X6_draw_45 rfl ?_
        refine ri_lc a_X6_draw_46 ?_
        refine ri_lrem a_X6_draw_49 (by decide) ?_
        refine ri_ald a_X6_draw_50 rfl ?_
        refine ri_ald a_X6_draw_51 rfl ?_
        refine ri_getR (t' := 1) (i' := 0) a_X6_draw_52 fl_X6_10 kC_0_0 rfl iC_0 (Or.inr ⟨rfl, rfl, rfl⟩) ?_
        refine ri_ic a_X6_draw_55 ?_
        refine ri_ild a_X6_draw_56 rfl ?_
        refine ri_ild a_X6_draw_58 rfl ?_
        refine ri_cVpi (as := [vo 1 0, vi 2, vi (nI (O i)), vi (nI i)]) (rest := [vl (zx21 - zx21 / 100 * 100)]) (d' := d - 1) a_X6_draw_60 mv_X6_says ml_X6_110 (rcC_0 iC_0) (by omega) (ok_X6_says (pt := 2) (by omega) hL1 (by decide) h8 (by decide) (nI i)) (Nat.le_of_ble_eq_true rfl) rfl (fun zy22 ezy22 => ?_)
        refine ri_i2l a_X6_draw_63 ?_
        refine ri_lcmp a_X6_draw_64 ?_
        refine ri_if_ge a_X6_draw_65 (fun zc23 => ?_) (fun zc23 => ?_)
        · refine ri_iinc (c0 := 1) (f := fun zx24 => [some (vo 0 0), some (vi seed), some (vl zx21), none, some (vi (nI acc.length)), some (vi zx24), some (vi (nI (O i)))]) a_X6_draw_80 rfl (by decide) (fun _ => rfl) (fun zx24 ezx24 => ?_)
          refine ri_goto a_X6_draw_83 ?_
          rw [eV] at ezy22
          rw [ezy22, show zx21 = lotN x from ezx21] at zc23
          have hn : ¬ lotN x - lotN x / 100 * 100 < (sayV L (vwC M 0) 2 (O i) (nI i)).toInt64 := lgc_ge zc23
          rw [drL, if_neg hn] at hd0
          rw [ezx24, nI_1, show zx21 = lotN x from ezx21]
          exact ih (i + 1) (lotN x) acc _ M1 (by omega) (by omega) hd0 hf hrow
        · refine ri_ald a_X6_draw_68 rfl ?_
          refine ri_getR (t' := 23) (i' := 0) a_X6_draw_69 fl_X6_49 kC_0_9 rfl iC_0 (Or.inr ⟨rfl, rfl, rfl⟩) ?_
          refine ri_ild a_X6_draw_72 rfl ?_
          refine ri_ild a_X6_draw_74 rfl ?_
          refine ri_iastore a_X6_draw_76 lC_23 rfl iC_23 ?_ (fun zM25 ezM25 => ?_)
          · exact vp_in_nI (by omega) (by decide)
          refine ri_iinc (c0 := 1) (f := fun zx26 => [some (vo 0 0), some (vi seed), some (vl zx21), none, some (vi zx26), some (vi (nI i)), some (vi (nI (O i)))]) a_X6_draw_77 rfl (by decide) (fun _ => rfl) (fun zx26 ezx26 => ?_)
          refine ri_iinc (c0 := 1) (f := fun zx27 => [some (vo 0 0), some (vi seed), some (vl zx21), none, some (vi zx26), some (vi zx27), some (vi (nI (O i)))]) a_X6_draw_80 rfl (by decide) (fun _ => rfl) (fun zx27 ezx27 => ?_)
          refine ri_goto a_X6_draw_83 ?_
          rw [eV] at ezy22
          rw [ezy22, show zx21 = lotN x from ezx21] at zc23
          have hn : lotN x - lotN x / 100 * 100 < (sayV L (vwC M 0) 2 (O i) (nI i)).toInt64 := lgc_lt zc23
          rw [drL, if_pos hn] at hd0
          have hg : frT 23 M zM25 := by rw [ezM25]; exact frT_up hf
          have el : (acc ++ [O i]).length = acc.length + 1 := by simp
          have := ih (i + 1) (lotN x) (acc ++ [O i]) (some (vi (nI (O i)))) zM25 (by omega) (by omega) hd0 hg (by
            intro j hj
            rw [ezM25, nI_clamp (by omega)]
            by_cases e : j = acc.length
            · rw [e, up_same]
              refine ⟨?_, ?_⟩
              · simp
              · simpa using h8
            · rw [up_k e]
              have hj2 : j < acc.length := by omega
              have := hrow j hj2
              simp only [List.getD_eq_getElem?_getD] at this ⊢
              rw [List.getElem?_append_left hj2]
              exact this)
          rw [ezx27, nI_1, ezx26, nI_1, show zx21 = lotN x from ezx21, ← el]
          exact this
  refine lr_ok (by decide +kernel) rfl ?_
  refine ri_ild a_X6_draw_0 rfl ?_
  refine ri_i2l a_X6_draw_1 ?_
  refine ri_lc a_X6_draw_2 ?_
  refine ri_ladd a_X6_draw_3 ?_
  refine ri_lst (f := fun zx1 => [some (vo 0 0), some (vi seed), some (vl zx1), none, none, none, none]) a_X6_draw_4 (fun _ => rfl) (fun zx1 ezx1 => ?_)
  refine ri_ic a_X6_draw_5 ?_
  refine ri_istk (ls' := [some (vo 0 0), some (vi seed), some (vl zx1), none, some (vi 0), none, none]) a_X6_draw_6 rfl ?_
  refine ri_ic a_X6_draw_8 ?_
  refine ri_istk (ls' := [some (vo 0 0), some (vi seed), some (vl zx1), none, some (vi 0), some (vi 0), none]) a_X6_draw_9 rfl ?_
  exact loop k 0 zx1 [] none M (by omega) (Nat.le_refl _) (by rw [ezx1]; exact hres) frT_refl (fun j hj => absurd hj (by simp))

