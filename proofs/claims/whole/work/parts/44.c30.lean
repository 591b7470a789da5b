/-! class: years -/
theorem foF_eq {L : List (List Op)} {V V' : Vw} (h : veq V V') {O : Nat → Nat} {g : Nat → Int32} : ∀ r i x, (∀ j, j < i + r → O j < 8) → foF L V O g r i x = foF L V' O g r i x := by
  intro r
  induction r with
  | zero => intro i x _; rfl
  | succ r ih =>
    intro i x hO
    rw [foF, foF, risV_eq h (hO i (by omega)), ih (i + 1) _ (fun j hj => hO j (by omega))]
/-- how many of the first n fit, and the least that does: from the greatest down -/
def yeF (g : Nat → Prop) [DecidablePred g] : Nat → Int32 × Int32 → Int32 × Int32
  | 0, s => s
  | n + 1, s => yeF g n (if g n then (s.1 + 1, nI n) else s)
abbrev yrG (M : Mem) (L : List (List Op)) (O : Nat → Nat) (q mk : Nat) (n : Nat) : Prop := foF L (rsV (vwC M 0) (nI n)) O (M 20 q) mk 0 0 = -1
theorem ok_X6_years {w : Wd} {d : Nat} (hd : 5 ≤ d) {M : Mem} {q m k : Nat} {L : List (List Op)} {O : Nat → Nat} (hL : lawC M 0 L) (hq : q < 4) (hm : M 19 q 2 = nI m) (hm40 : m ≤ 40) (hk : M 1 0 7 = nI k) (hk8 : k ≤ 8) (hO : rowA (M 7 0) O k) (x : Int32) : lr_Ok tC sC w d jX6_years [vo 0 0, vi (nI q), vi x] M (qX fun r M' => frC M M' ∧ r = if M 19 q 1 = -1 then -11 else if M 19 q 2 ≤ M 1 0 7 then (if 0 ≤ x ∧ x ≤ 1 then (if x = 0 then (yeF (yrG M L O q (min m k)) 100 (0, -1)).1 else (yeF (yrG M L O q (min m k)) 100 (0, -1)).2) else -7) else -2) := by
  generalize hres : yeF (yrG M L O q (min m k)) 100 (0, -1) = res
  have loop : ∀ n z s M1, n ≤ 100 → tri M M1 → yeF (yrG M L O q (min m k)) n s = res → lr_W tC sC w d jX6_years 44 [some (vo 0 0), some (vi (nI q)), some (vi x), some (vi z), some (vi s.1), some (vi s.2), some (vi (nI n - 1))] [] M1 (qX fun r M' => frC M M' ∧ r = if x = 0 then res.1 else res.2) := by
    intro n
    induction n with
    | zero =>
      intro z s M1 hn ht hr
      have hs : s = res := hr
      subst hs
      refine ri_ild a_X6_years_44 rfl ?_
      refine ri_if_lt a_X6_years_46 (fun zc11 => ?_) (fun zc11 => ?_)
      · refine ri_ild a_X6_years_89 rfl ?_
        refine ri_if_ne a_X6_years_90 (fun zc12 => ?_) (fun zc12 => ?_)
        · refine ri_ild a_X6_years_98 rfl ?_
          refine ri_ireturn a_X6_years_100 rfl rfl ?_
          exact rX ⟨ht.1, by simp only [zc12, if_true, if_false]⟩
        · refine ri_ild a_X6_years_93 rfl ?_
          refine ri_goto a_X6_years_95 ?_
          refine ri_ireturn a_X6_years_100 rfl rfl ?_
          exact rX ⟨ht.1, by simp only [zc12, if_true, if_false]⟩
      · exact absurd (by decide) zc11
    | succ n ih =>
      intro z s M1 hn ht hr
      rw [nI_pred]
      refine ri_ild a_X6_years_44 rfl ?_
      refine ri_if_lt a_X6_years_46 (fun zc11 => ?_) (fun zc11 => ?_)
      · exact absurd zc11 (nI_pos (by omega))
      · refine ri_ald a_X6_years_49 rfl ?_
        refine ri_getR (t' := 1) (i' := 2) a_X6_years_50 fl_X6_19 kC_0_2 rfl iC_0 (Or.inr ⟨rfl, rfl, rfl⟩) ?_
        refine ri_ild a_X6_years_53 rfl ?_
        refine ri_putI a_X6_years_55 fp_X6_93 kC_1_8 rfl (iC_1 (by decide)) (fun zM12 ezM12 => ?_)
        have ht2 : tri M zM12 := by rw [ezM12]; exact tri_up ht
        have ek : zM12 1 2 7 = nI k := by rw [ht2.2.2.2.1, hk]
        have e20 : zM12 20 q = M 20 q := funext fun i => ht2.1 20 q i (by omega)
        have e19 : zM12 19 q 2 = nI m := by rw [ht2.1 19 q 2 (by omega), hm]
        have hh := ok_X6_firstOtherwise (w := w) (d := d - 1) (c := 2) (by omega) (tri_law ht2 hL) (by decide) hq e19 hm40 ek hk8 (tri_row ht2 hO hk8)
        rw [foF_eq (tri_veq ht2) _ _ _ (fun i hi => (hO i (by omega)).2), e20, show zM12 1 2 8 = nI n from by rw [ezM12]; rfl] at hh
        refine ri_ald a_X6_years_58 rfl ?_
        refine ri_ald a_X6_years_59 rfl ?_
        refine ri_getR (t' := 1) (i' := 2) a_X6_years_60 fl_X6_19 kC_0_2 rfl iC_0 (Or.inr ⟨rfl, rfl, rfl⟩) ?_
        refine ri_ald a_X6_years_63 rfl ?_
        refine ri_getR (t' := 22) (i' := 0) a_X6_years_64 fl_X6_38 kC_0_7 rfl iC_0 (Or.inr ⟨rfl, rfl, rfl⟩) ?_
        refine ri_ild a_X6_years_67 rfl ?_
        refine ri_aaloadE (k0 := q) a_X6_years_68 lC_22 (by decide) iC_22 (nI_clamp (by omega)) (vp_in_nI hq (by decide)) ?_
        refine ri_cVpi (as := [vo 1 2, vo 19 q]) (rest := []) (d' := d - 1) a_X6_years_69 mv_X6_firstOtherwise ml_X6_218 (rcC_0 iC_0) (by omega) (hh) (Nat.le_of_ble_eq_true rfl) rfl (fun zy21 ezy21 => ?_)
        refine ri_ic a_X6_years_72 ?_
        refine ri_icmp_ne a_X6_years_73 (fun zc22 => ?_) (fun zc22 => ?_)
        · refine ri_iinc (c0 := (-1)) (f := fun zx23 => [some (vo 0 0), some (vi (nI q)), some (vi x), some (vi z), some (vi s.1), some (vi s.2), some (vi zx23)]) a_X6_years_83 rfl (by decide) (fun _ => rfl) (fun zx23 ezx23 => ?_)
          refine ri_goto a_X6_years_86 ?_
          have hg : ¬ yrG M L O q (min m k) n := fun q => zc22 (by rw [ezy21]; exact q)
          rw [yeF, if_neg hg] at hr
          rw [ezx23, show nI n + (-1) = nI n - 1 from (Int32.sub_eq_add_neg _ _).symm]
          exact ih z s zM12 (by omega) ht2 hr
        · refine ri_iinc (c0 := 1) (f := fun zx24 => [some (vo 0 0), some (vi (nI q)), some (vi x), some (vi z), some (vi zx24), some (vi s.2), some (vi (nI n))]) a_X6_years_76 rfl (by decide) (fun _ => rfl) (fun zx24 ezx24 => ?_)
          refine ri_ild a_X6_years_79 rfl ?_
          refine ri_ist (f := fun zx25 => [some (vo 0 0), some (vi (nI q)), some (vi x), some (vi z), some (vi zx24), some (vi zx25), some (vi (nI n))]) a_X6_years_81 (fun _ => rfl) (fun zx25 ezx25 => ?_)
          refine ri_iinc (c0 := (-1)) (f := fun zx26 => [some (vo 0 0), some (vi (nI q)), some (vi x), some (vi z), some (vi zx24), some (vi zx25), some (vi zx26)]) a_X6_years_83 rfl (by decide) (fun _ => rfl) (fun zx26 ezx26 => ?_)
          refine ri_goto a_X6_years_86 ?_
          have hg : yrG M L O q (min m k) n := ezy21.symm.trans zc22
          rw [yeF, if_pos hg] at hr
          rw [ezx26, ezx25, ezx24, show nI n + (-1) = nI n - 1 from (Int32.sub_eq_add_neg _ _).symm]
          exact ih z (s.1 + 1, nI n) zM12 (by omega) ht2 hr
  refine lr_ok (by decide +kernel) rfl ?_
  refine ri_ald a_X6_years_0 rfl ?_
  refine ri_ild a_X6_years_1 rfl ?_
  refine ri_cVpi (as := [vi (nI q)]) (rest := []) (d' := d - 1) a_X6_years_2 mv_X6_nightRefusal ml_X6_215 (rcC_0 iC_0) (by omega) (ok_X6_nightRefusal (by omega) hq) (Nat.le_of_ble_eq_true rfl) rfl (fun zy1 ezy1 => ?_)
  refine ri_istk (ls' := [some (vo 0 0), some (vi (nI q)), some (vi x), some (vi zy1), none, none, none]) a_X6_years_5 rfl ?_
  refine ri_ild a_X6_years_6 rfl ?_
  refine ri_if_eq a_X6_years_7 (fun zc2 => ?_) (fun zc2 => ?_)
  · refine ri_ild a_X6_years_12 rfl ?_
    refine ri_ic a_X6_years_13 ?_
    refine ri_cSpb (as := [vi x, vi 1]) (rest := []) (d' := d - 1) a_X6_years_14 ms_X6_within ml_X6_102 (by omega) (ok_X6_within x 1) (Nat.le_of_ble_eq_true rfl) rfl (fun zc3 => ?_) (fun zc3 => ?_)
    · refine ri_if_ne a_X6_years_17 (fun _ => ?_) (fun q => absurd q (by decide))
      refine ri_ald a_X6_years_23 rfl ?_
      refine ri_getR (t' := 1) (i' := 2) a_X6_years_24 fl_X6_19 kC_0_2 rfl iC_0 (Or.inr ⟨rfl, rfl, rfl⟩) ?_
      refine ri_ald a_X6_years_27 rfl ?_
      refine ri_getR (t' := 1) (i' := 0) a_X6_years_28 fl_X6_10 kC_0_0 rfl iC_0 (Or.inr ⟨rfl, rfl, rfl⟩) ?_
      refine ri_cVxv (as := [vo 1 0]) (rest := []) (d' := d - 1) a_X6_years_31 mv_X0_becomeLike ml_X6_198 (rcC_1 (iC_1 (by decide))) (by omega) (ok_X0_becomeLike (by omega) (by decide) (by decide)) (Nat.le_of_ble_eq_true rfl) rfl (fun zM4 hzM4 => ?_)
      refine ri_ic a_X6_years_34 ?_
      refine ri_istk (ls' := [some (vo 0 0), some (vi (nI q)), some (vi x), some (vi zy1), some (vi 0), none, none]) a_X6_years_35 rfl ?_
      refine ri_ic a_X6_years_37 ?_
      refine ri_istk (ls' := [some (vo 0 0), some (vi (nI q)), some (vi x), some (vi zy1), some (vi 0), some (vi (-1)), none]) a_X6_years_38 rfl ?_
      refine ri_ic a_X6_years_40 ?_
      refine ri_istk (ls' := [some (vo 0 0), some (vi (nI q)), some (vi x), some (vi zy1), some (vi 0), some (vi (-1)), some (vi 99)]) a_X6_years_42 rfl ?_
      have h := nr0 (ezy1.symm.trans zc2)
      refine lr_Wimp (loop 100 zy1 (0, -1) zM4 (by decide) (hzM4 ▸ tri_blk) hres) ?_
      rintro r M' ⟨y, h1, h2, h3⟩
      exact ⟨y, h1, h2, by rw [if_neg h.1, if_pos h.2, if_pos zc3]; exact h3⟩
    · refine ri_if_ne a_X6_years_17 (fun q => absurd q (by decide)) (fun _ => ?_)
      refine ri_ic a_X6_years_20 ?_
      refine ri_ireturn a_X6_years_22 rfl rfl ?_
      have h := nr0 (ezy1.symm.trans zc2)
      exact rX ⟨fun _ _ _ _ => rfl, by rw [if_neg h.1, if_pos h.2, if_neg zc3]⟩
  · refine ri_ild a_X6_years_10 rfl ?_
    refine ri_ireturn a_X6_years_11 rfl rfl ?_
    rw [ezy1] at zc2 ⊢
    exact rX ⟨fun _ _ _ _ => rfl, nr1 zc2⟩

