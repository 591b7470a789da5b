/-! class: ladders: high, weak, weight on the lowest -/
def hiS (L : List (List Op)) (V : Vw) (R : Nat → Nat) : Nat → Int32
  | 0 => 0
  | k + 1 => hiS L V R k + risV L V (R k) (nI k)
/-- one rung of the search for the lowest weak one: s = (weak, above) -/
def wkT (L : List (List Op)) (V : Vw) (F : Nat → Int32) (R : Nat → Nat) (i : Nat) (s : Int32 × Int32) : Int32 × Int32 :=
  (if beaV L V (R i) (nI i) < s.2 ∨ (0 < i ∧ ¬ (F (R i) >>> (nI (R (i - 1)) &&& 31)) &&& 1 = 0) then nI i else s.1, s.2 + weiV V (R i))
def wkS (L : List (List Op)) (V : Vw) (F : Nat → Int32) (R : Nat → Nat) : Nat → Int32 × Int32 → Int32 × Int32
  | 0, s => s
  | i + 1, s => wkS L V F R i (wkT L V F R i s)
def wkV (L : List (List Op)) (V : Vw) (F : Nat → Int32) (R : Nat → Nat) (n : Nat) : Int32 := (wkS L V F R n (-1, 0)).1
def wlS (V : Vw) (R : Nat → Nat) : Nat → Int32
  | 0 => 0
  | k + 1 => if k = 0 then 0 else wlS V R k + weiV V (R k)
def rowA (f : Nat → Int32) (R : Nat → Nat) (n : Nat) : Prop := ∀ i, i < n → f i = nI (R i) ∧ R i < 8
def meaV (L : List (List Op)) (V : Vw) (F : Nat → Int32) (R : Nat → Nat) (n : Nat) (what : Int32) : Int32 := if what = 0 then hiS L V R n else if what = 1 then wkV L V F R n else wlS V R n
theorem ok_X6_highOf_o {w : Wd} {d : Nat} (hd : 4 ≤ d) {M : Mem} {c n : Nat} {L : List (List Op)} {R : Nat → Nat} (hL : lawC M c L) (hc : c < 3) (hn : n ≤ 8) (hR : rowA (M 7 c) R n) : lr_Ok tC sC w d jX6_highOf [vo 0 0, vo 1 c, vo 7 c, vi (nI n)] M (qI (hiS L (vwC M c) R n) M) := by
  have loop : ∀ k i x, n = i + k → x = hiS L (vwC M c) R i → lr_W tC sC w d jX6_highOf 6 [some (vo 0 0), some (vo 1 c), some (vo 7 c), some (vi (nI n)), some (vi x), some (vi (nI i))] [] M (qI (hiS L (vwC M c) R n) M) := by
    intro k
    induction k with
    | zero =>
      intro i x hk hx
      have : n = i := hk
      subst this
      refine ri_ild a_X6_highOf_6 rfl ?_
      refine ri_ild a_X6_highOf_8 rfl ?_
      refine ri_icmp_ge a_X6_highOf_9 (fun zc1 => ?_) (fun zc1 => ?_)
      · refine ri_ild a_X6_highOf_34 rfl ?_
        refine ri_ireturn a_X6_highOf_36 rfl rfl ?_
        exact rI hx rfl
      · exact absurd (Int32.le_refl _) zc1
    | succ k ih =>
      intro i x hk hx
      obtain ⟨hr, h8⟩ := hR i (by omega)
      have ei : M 7 c (nI i).toNatClampNeg = nI (R i) := by rw [nI_clamp (by omega)]; exact hr
      refine ri_ild a_X6_highOf_6 rfl ?_
      refine ri_ild a_X6_highOf_8 rfl ?_
      refine ri_icmp_ge a_X6_highOf_9 (fun zc1 => ?_) (fun zc1 => ?_)
      · refine ri_ild a_X6_highOf_34 rfl ?_
        refine ri_ireturn a_X6_highOf_36 rfl rfl ?_
        exact absurd zc1 (nI_ge (by omega) (by omega))
      · refine ri_ild a_X6_highOf_12 rfl ?_
        refine ri_ald a_X6_highOf_14 rfl ?_
        refine ri_ald a_X6_highOf_15 rfl ?_
        refine ri_ald a_X6_highOf_16 rfl ?_
        refine ri_ild a_X6_highOf_17 rfl ?_
        refine ri_iaload a_X6_highOf_19 lC_7 rfl (iC_7 (by assumption)) ?_ ?_
        · exact vp_in_nI (by omega) (by decide)
        refine ri_ild a_X6_highOf_20 rfl ?_
        rw [ei]
        refine ri_cVpi (as := [vo 1 c, vi (nI (R i)), vi (nI i)]) (rest := [vi x]) (d' := d - 1) a_X6_highOf_22 mv_X6_risesOf ml_X6_232 (rcC_0 iC_0) (by omega) (ok_X6_risesOf (by omega) hL hc h8 (nI i)) (Nat.le_of_ble_eq_true rfl) rfl (fun zy1 ezy1 => ?_)
        refine ri_iadd a_X6_highOf_25 ?_
        refine ri_ist (f := fun zx21 => [some (vo 0 0), some (vo 1 c), some (vo 7 c), some (vi (nI n)), some (vi zx21), some (vi (nI i))]) a_X6_highOf_26 (fun _ => rfl) (fun zx21 ezx21 => ?_)
        refine ri_iinc (c0 := 1) (f := fun zx22 => [some (vo 0 0), some (vo 1 c), some (vo 7 c), some (vi (nI n)), some (vi zx21), some (vi zx22)]) a_X6_highOf_28 rfl (by decide) (fun _ => rfl) (fun zx22 ezx22 => ?_)
        refine ri_goto a_X6_highOf_31 ?_
        rw [ezx22, nI_1]
        exact ih (i + 1) _ (by omega) (by rw [ezx21, hx, ezy1]; rfl)
  refine lr_ok (by decide +kernel) rfl ?_
  refine ri_ic a_X6_highOf_0 ?_
  refine ri_istk (ls' := [some (vo 0 0), some (vo 1 c), some (vo 7 c), some (vi (nI n)), some (vi 0), none]) a_X6_highOf_1 rfl ?_
  refine ri_ic a_X6_highOf_3 ?_
  refine ri_istk (ls' := [some (vo 0 0), some (vo 1 c), some (vo 7 c), some (vi (nI n)), some (vi 0), some (vi 0)]) a_X6_highOf_4 rfl ?_
  exact loop n 0 0 (by omega) rfl
theorem ok_X6_weightOnLowest_o {w : Wd} {d : Nat} (hd : 1 ≤ d) {M : Mem} {c n : Nat} {R : Nat → Nat} (hc : c < 3) (hn : n ≤ 8) (hR : rowA (M 7 c) R n) : lr_Ok tC sC w d jX6_weightOnLowest [vo 1 c, vo 7 c, vi (nI n)] M (qI (wlS (vwC M c) R n) M) := by
  have loop : ∀ k i x, n ≤ i + k → 0 < i → i ≤ 9 → (i ≤ n ∨ i = 1) → x = wlS (vwC M c) R (min i n) → lr_W tC sC w d jX6_weightOnLowest 5 [some (vo 1 c), some (vo 7 c), some (vi (nI n)), some (vi x), some (vi (nI i))] [] M (qI (wlS (vwC M c) R n) M) := by
    intro k
    induction k with
    | zero =>
      intro i x hk h0 h9 hin hx
      rw [Nat.min_eq_right (by omega)] at hx
      refine ri_ild a_X6_weightOnLowest_5 rfl ?_
      refine ri_ild a_X6_weightOnLowest_7 rfl ?_
      refine ri_icmp_ge a_X6_weightOnLowest_8 (fun zc1 => ?_) (fun zc1 => ?_)
      · refine ri_ild a_X6_weightOnLowest_28 rfl ?_
        refine ri_ireturn a_X6_weightOnLowest_29 rfl rfl ?_
        exact rI hx rfl
      · exact absurd (nI_le (by omega) (by omega)) zc1
    | succ k ih =>
      intro i x hk h0 h9 hin hx
      by_cases hlt : i < n
      · obtain ⟨hr, h8⟩ := hR i hlt
        have ei : M 7 c (nI i).toNatClampNeg = nI (R i) := by rw [nI_clamp (by omega)]; exact hr
        rw [Nat.min_eq_left (by omega)] at hx
        refine ri_ild a_X6_weightOnLowest_5 rfl ?_
        refine ri_ild a_X6_weightOnLowest_7 rfl ?_
        refine ri_icmp_ge a_X6_weightOnLowest_8 (fun zc1 => ?_) (fun zc1 => ?_)
        · refine ri_ild a_X6_weightOnLowest_28 rfl ?_
          refine ri_ireturn a_X6_weightOnLowest_29 rfl rfl ?_
          exact absurd zc1 (nI_ge hlt (by omega))
        · refine ri_ild a_X6_weightOnLowest_11 rfl ?_
          refine ri_ald a_X6_weightOnLowest_12 rfl ?_
          refine ri_ald a_X6_weightOnLowest_13 rfl ?_
          refine ri_ild a_X6_weightOnLowest_14 rfl ?_
          refine ri_iaload a_X6_weightOnLowest_16 lC_7 rfl (iC_7 (by assumption)) ?_ ?_
          · exact vp_in_nI (by omega) (by decide)
          rw [ei]
          refine ri_cSpi (as := [vo 1 c, vi (nI (R i))]) (rest := [vi x]) (d' := d - 1) a_X6_weightOnLowest_17 ms_X6_weighsOf ml_X6_270 (by omega) (ok_X6_weighsOf hc h8) (Nat.le_of_ble_eq_true rfl) rfl (fun zy1 ezy1 => ?_)
          refine ri_iadd a_X6_weightOnLowest_20 ?_
          refine ri_ist (f := fun zx21 => [some (vo 1 c), some (vo 7 c), some (vi (nI n)), some (vi zx21), some (vi (nI i))]) a_X6_weightOnLowest_21 (fun _ => rfl) (fun zx21 ezx21 => ?_)
          refine ri_iinc (c0 := 1) (f := fun zx22 => [some (vo 1 c), some (vo 7 c), some (vi (nI n)), some (vi zx21), some (vi zx22)]) a_X6_weightOnLowest_22 rfl (by decide) (fun _ => rfl) (fun zx22 ezx22 => ?_)
          refine ri_goto a_X6_weightOnLowest_25 ?_
          rw [ezx22, nI_1]
          exact ih (i + 1) _ (by omega) (by omega) (by omega) (by omega) (by rw [ezx21, hx, ezy1, Nat.min_eq_left (by omega), wlS, if_neg (by omega)])
      · rw [Nat.min_eq_right (by omega)] at hx
        refine ri_ild a_X6_weightOnLowest_5 rfl ?_
        refine ri_ild a_X6_weightOnLowest_7 rfl ?_
        refine ri_icmp_ge a_X6_weightOnLowest_8 (fun zc1 => ?_) (fun zc1 => ?_)
        · refine ri_ild a_X6_weightOnLowest_28 rfl ?_
          refine ri_ireturn a_X6_weightOnLowest_29 rfl rfl ?_
          exact rI hx rfl
        · exact absurd (nI_le (by omega) (by omega)) zc1
  refine lr_ok (by decide +kernel) rfl ?_
  refine ri_ic a_X6_weightOnLowest_0 ?_
  refine ri_istk (ls' := [some (vo 1 c), some (vo 7 c), some (vi (nI n)), some (vi 0), none]) a_X6_weightOnLowest_1 rfl ?_
  refine ri_ic a_X6_weightOnLowest_2 ?_
  refine ri_istk (ls' := [some (vo 1 c), some (vo 7 c), some (vi (nI n)), some (vi 0), some (vi 1)]) a_X6_weightOnLowest_3 rfl ?_
  exact loop n 1 0 (by omega) (by omega) (by omega) (Or.inr rfl) (by
  rcases Nat.eq_zero_or_pos n with h | h
  · rw [h]; rfl
  · rw [Nat.min_eq_left (by omega)]; rfl)
theorem ok_X6_firstWeak_o {w : Wd} {d : Nat} (hd : 4 ≤ d) {M : Mem} {c n : Nat} {L : List (List Op)} {R : Nat → Nat} (hL : lawC M c L) (hc : c < 3) (hn : n ≤ 8) (hR : rowA (M 7 c) R n) : lr_Ok tC sC w d jX6_firstWeak [vo 0 0, vo 1 c, vo 7 c, vi (nI n)] M (qI (wkV L (vwC M c) (M 6 c) R n) M) := by
  have loop : ∀ i s j7, i ≤ n → wkS L (vwC M c) (M 6 c) R i s = wkS L (vwC M c) (M 6 c) R n (-1, 0) → lr_W tC sC w d jX6_firstWeak 11 [some (vo 0 0), some (vo 1 c), some (vo 7 c), some (vi (nI n)), some (vi s.1), some (vi s.2), some (vi (nI i - 1)), j7] [] M (qI (wkV L (vwC M c) (M 6 c) R n) M) := by
    intro i
    induction i with
    | zero =>
      intro s j7 hin hs
      refine ri_ild a_X6_firstWeak_11 rfl ?_
      refine ri_if_lt a_X6_firstWeak_13 (fun zc1 => ?_) (fun zc1 => ?_)
      · refine ri_ild a_X6_firstWeak_77 rfl ?_
        refine ri_ireturn a_X6_firstWeak_79 rfl rfl ?_
        exact rI (congrArg Prod.fst hs) rfl
      · exact absurd (by decide) zc1
    | succ i ih =>
      intro s j7 hin hs
      obtain ⟨hr, h8⟩ := hR i (by omega)
      rw [nI_pred]
      have ei : M 7 c (nI i).toNatClampNeg = nI (R i) := by rw [nI_clamp (by omega)]; exact hr
      have e6 : (nI (R i)).toNatClampNeg = R i := nI_clamp (by omega)
      have hq : 0 < i → M 7 c (nI i - 1).toNatClampNeg = nI (R (i - 1)) := fun h => by
        obtain ⟨z, rfl⟩ : ∃ z, i = z + 1 := ⟨i - 1, by omega⟩
        rw [nI_pred, nI_clamp (by omega)]
        exact (hR z (by omega)).1
      have nxt : ∀ a, a = (wkT L (vwC M c) (M 6 c) R i s).1 → lr_W tC sC w d jX6_firstWeak 60 [some (vo 0 0), some (vo 1 c), some (vo 7 c), some (vi (nI n)), some (vi a), some (vi s.2), some (vi (nI i)), some (vi (nI (R i)))] [] M (qI (wkV L (vwC M c) (M 6 c) R n) M) := by
        intro a ha
        refine ri_ild a_X6_firstWeak_60 rfl ?_
        refine ri_ald a_X6_firstWeak_62 rfl ?_
        refine ri_ild a_X6_firstWeak_63 rfl ?_
        refine ri_cSpi (as := [vo 1 c, vi (nI (R i))]) (rest := [vi s.2]) (d' := d - 1) a_X6_firstWeak_65 ms_X6_weighsOf ml_X6_270 (by omega) (ok_X6_weighsOf hc h8) (Nat.le_of_ble_eq_true rfl) rfl (fun zy1 ezy1 => ?_)
        refine ri_iadd a_X6_firstWeak_68 ?_
        refine ri_ist (f := fun zx2 => [some (vo 0 0), some (vo 1 c), some (vo 7 c), some (vi (nI n)), some (vi a), some (vi zx2), some (vi (nI i)), some (vi (nI (R i)))]) a_X6_firstWeak_69 (fun _ => rfl) (fun zx2 ezx2 => ?_)
        refine ri_iinc (c0 := (-1)) (f := fun zx3 => [some (vo 0 0), some (vo 1 c), some (vo 7 c), some (vi (nI n)), some (vi a), some (vi zx2), some (vi zx3), some (vi (nI (R i)))]) a_X6_firstWeak_71 rfl (by decide) (fun _ => rfl) (fun zx3 ezx3 => ?_)
        refine ri_goto a_X6_firstWeak_74 ?_
        have := ih (wkT L (vwC M c) (M 6 c) R i s) (some (vi (nI (R i)))) (by omega) hs
        rw [← ha] at this
        rw [ezx3, ezx2, ezy1, show nI i + (-1) = nI i - 1 from (Int32.sub_eq_add_neg _ _).symm]
        exact this
      refine ri_ild a_X6_firstWeak_11 rfl ?_
      refine ri_if_lt a_X6_firstWeak_13 (fun zc11 => ?_) (fun zc11 => ?_)
      · refine ri_ild a_X6_firstWeak_77 rfl ?_
        refine ri_ireturn a_X6_firstWeak_79 rfl rfl ?_
        exact absurd zc11 (nI_pos (by omega))
      · refine ri_ald a_X6_firstWeak_16 rfl ?_
        refine ri_ild a_X6_firstWeak_17 rfl ?_
        refine ri_iaload a_X6_firstWeak_19 lC_7 rfl (iC_7 (by assumption)) ?_ ?_
        · exact vp_in_nI (by omega) (by decide)
        rw [ei]
        refine ri_istk (ls' := [some (vo 0 0), some (vo 1 c), some (vo 7 c), some (vi (nI n)), some (vi s.1), some (vi s.2), some (vi (nI i)), some (vi (nI (R i)))]) a_X6_firstWeak_20 rfl ?_
        refine ri_ald a_X6_firstWeak_22 rfl ?_
        refine ri_ald a_X6_firstWeak_23 rfl ?_
        refine ri_ild a_X6_firstWeak_24 rfl ?_
        refine ri_ild a_X6_firstWeak_26 rfl ?_
        refine ri_cVpi (as := [vo 1 c, vi (nI (R i)), vi (nI i)]) (rest := []) (d' := d - 1) a_X6_firstWeak_28 mv_X6_bearsOf ml_X6_267 (rcC_0 iC_0) (by omega) (ok_X6_bearsOf (by omega) hL hc h8 (nI i)) (Nat.le_of_ble_eq_true rfl) rfl (fun zy21 ezy21 => ?_)
        refine ri_ild a_X6_firstWeak_31 rfl ?_
        refine ri_icmp_lt a_X6_firstWeak_33 (fun zc22 => ?_) (fun zc22 => ?_)
        · refine ri_ild a_X6_firstWeak_56 rfl ?_
          refine ri_ist (f := fun zx23 => [some (vo 0 0), some (vo 1 c), some (vo 7 c), some (vi (nI n)), some (vi zx23), some (vi s.2), some (vi (nI i)), some (vi (nI (R i)))]) a_X6_firstWeak_58 (fun _ => rfl) (fun zx23 ezx23 => ?_)
          exact nxt _ (by rw [ezx23]; unfold wkT; rw [if_pos (Or.inl (ezy21 ▸ zc22))])
        · refine ri_ild a_X6_firstWeak_36 rfl ?_
          refine ri_if_le a_X6_firstWeak_38 (fun zc24 => ?_) (fun zc24 => ?_)
          · exact nxt _ (by
              have h0 : ¬ 0 < i := fun h => nI_nle h (by omega) zc24
              unfold wkT
              rw [if_neg (fun q => q.elim (ezy21 ▸ zc22) (fun q => h0 q.1))])
          · refine ri_ald a_X6_firstWeak_41 rfl ?_
            refine ri_ild a_X6_firstWeak_42 rfl ?_
            refine ri_ald a_X6_firstWeak_44 rfl ?_
            refine ri_ild a_X6_firstWeak_45 rfl ?_
            refine ri_ic a_X6_firstWeak_47 ?_
            refine ri_isub a_X6_firstWeak_48 ?_
            refine ri_iaload a_X6_firstWeak_49 lC_7 rfl (iC_7 (by assumption)) ?_ ?_
            · obtain ⟨z, rfl⟩ : ∃ z, i = z + 1 := ⟨i - 1, by
                have h0 : 0 < i := Nat.pos_of_ne_zero (fun h => zc24 (by rw [h]; decide))
                omega⟩
              rw [nI_pred]
              exact vp_in_nI (by omega) (by decide)
            refine ri_cVpb (as := [vi (nI (R i)), vi (M 7 c ((nI i) - 1).toNatClampNeg)]) (rest := []) (d' := d - 1) a_X6_firstWeak_50 mv_X0_quarrel ml_X6_124 (rcC_1 (iC_1 (by assumption))) (by omega) (ok_X0_quarrel hc (nI (R i)) _ (vp_in_nI h8 (by decide))) (Nat.le_of_ble_eq_true rfl) rfl (fun zc25 => ?_) (fun zc25 => ?_)
            · refine ri_if_eq a_X6_firstWeak_53 (fun q => absurd q (by decide)) (fun _ => ?_)
              refine ri_ild a_X6_firstWeak_56 rfl ?_
              refine ri_ist (f := fun zx26 => [some (vo 0 0), some (vo 1 c), some (vo 7 c), some (vi (nI n)), some (vi zx26), some (vi s.2), some (vi (nI i)), some (vi (nI (R i)))]) a_X6_firstWeak_58 (fun _ => rfl) (fun zx26 ezx26 => ?_)
              have h0 : 0 < i := Nat.pos_of_ne_zero (fun h => zc24 (by rw [h]; decide))
              rw [hq h0, e6] at zc25
              exact nxt _ (by rw [ezx26]; unfold wkT; rw [if_pos (Or.inr ⟨h0, zc25⟩)])
            · refine ri_if_eq a_X6_firstWeak_53 (fun _ => ?_) (fun q => absurd q (by decide))
              have h0 : 0 < i := Nat.pos_of_ne_zero (fun h => zc24 (by rw [h]; decide))
              rw [hq h0, e6] at zc25
              exact nxt _ (by unfold wkT; rw [if_neg (fun q => q.elim (ezy21 ▸ zc22) (fun q => zc25 q.2))])
  refine lr_ok (by decide +kernel) rfl ?_
  refine ri_ic a_X6_firstWeak_0 ?_
  refine ri_istk (ls' := [some (vo 0 0), some (vo 1 c), some (vo 7 c), some (vi (nI n)), some (vi (-1)), none, none, none]) a_X6_firstWeak_1 rfl ?_
  refine ri_ic a_X6_firstWeak_3 ?_
  refine ri_istk (ls' := [some (vo 0 0), some (vo 1 c), some (vo 7 c), some (vi (nI n)), some (vi (-1)), some (vi 0), none, none]) a_X6_firstWeak_4 rfl ?_
  refine ri_ild a_X6_firstWeak_6 rfl ?_
  refine ri_ic a_X6_firstWeak_7 ?_
  refine ri_isub a_X6_firstWeak_8 ?_
  refine ri_ist (f := fun zx1 => [some (vo 0 0), some (vo 1 c), some (vo 7 c), some (vi (nI n)), some (vi (-1)), some (vi 0), some (vi zx1), none]) a_X6_firstWeak_9 (fun _ => rfl) (fun zx1 ezx1 => ?_)
  rw [ezx1]; exact loop n (-1, 0) _ (by omega) rfl
theorem ok_X6_holds_o {w : Wd} {d : Nat} (hd : 5 ≤ d) {M : Mem} {c n : Nat} {L : List (List Op)} {R : Nat → Nat} (hL : lawC M c L) (hc : c < 3) (hn : n ≤ 8) (hR : rowA (M 7 c) R n) : lr_Ok tC sC w d jX6_holds [vo 0 0, vo 1 c, vo 7 c, vi (nI n)] M (qB (wkV L (vwC M c) (M 6 c) R n = -1) M) := by
  refine lr_ok (by decide +kernel) rfl ?_
  refine ri_ald a_X6_holds_0 rfl ?_
  refine ri_ald a_X6_holds_1 rfl ?_
  refine ri_ald a_X6_holds_2 rfl ?_
  refine ri_ild a_X6_holds_3 rfl ?_
  refine ri_cVpi (as := [vo 1 c, vo 7 c, vi (nI n)]) (rest := []) (d' := d - 1) a_X6_holds_4 mv_X6_firstWeak ml_X6_274 (rcC_0 iC_0) (by omega) (ok_X6_firstWeak_o (by omega) hL hc hn hR) (Nat.le_of_ble_eq_true rfl) rfl (fun zy1 ezy1 => ?_)
  refine ri_ic a_X6_holds_7 ?_
  refine ri_icmp_ne a_X6_holds_8 (fun zc2 => ?_) (fun zc2 => ?_)
  · refine ri_ic a_X6_holds_15 ?_
    refine ri_ireturn a_X6_holds_16 rfl (by decide) ?_
    exact rB0 (by rw [← ezy1]; exact zc2)
  · refine ri_ic a_X6_holds_11 ?_
    refine ri_goto a_X6_holds_12 ?_
    refine ri_ireturn a_X6_holds_16 rfl (by decide) ?_
    exact rB1 (by rw [← ezy1]; exact zc2)
theorem ok_X6_serves_o {w : Wd} {d : Nat} (hd : 6 ≤ d) {M : Mem} {c n : Nat} {L : List (List Op)} {R : Nat → Nat} (hL : lawC M c L) (hc : c < 3) (hn : n ≤ 8) (hR : rowA (M 7 c) R n) (win : Int32) : lr_Ok tC sC w d jX6_serves [vo 0 0, vo 1 c, vo 7 c, vi (nI n), vi win] M (qB (win ≤ hiS L (vwC M c) R n ∧ wkV L (vwC M c) (M 6 c) R n = -1) M) := by
  refine lr_ok (by decide +kernel) rfl ?_
  refine ri_ald a_X6_serves_0 rfl ?_
  refine ri_ald a_X6_serves_1 rfl ?_
  refine ri_ald a_X6_serves_2 rfl ?_
  refine ri_ild a_X6_serves_3 rfl ?_
  refine ri_cVpi (as := [vo 1 c, vo 7 c, vi (nI n)]) (rest := []) (d' := d - 1) a_X6_serves_4 mv_X6_highOf ml_X6_184 (rcC_0 iC_0) (by omega) (ok_X6_highOf_o (by omega) hL hc hn hR) (Nat.le_of_ble_eq_true rfl) rfl (fun zy1 ezy1 => ?_)
  refine ri_ild a_X6_serves_7 rfl ?_
  refine ri_icmp_lt a_X6_serves_9 (fun zc2 => ?_) (fun zc2 => ?_)
  · refine ri_ic a_X6_serves_26 ?_
    refine ri_ireturn a_X6_serves_27 rfl (by decide) ?_
    exact rB0 (fun q => Int32.not_le.mpr zc2 (ezy1 ▸ q.1))
  · refine ri_ald a_X6_serves_12 rfl ?_
    refine ri_ald a_X6_serves_13 rfl ?_
    refine ri_ald a_X6_serves_14 rfl ?_
    refine ri_ild a_X6_serves_15 rfl ?_
    refine ri_cVpb (as := [vo 1 c, vo 7 c, vi (nI n)]) (rest := []) (d' := d - 1) a_X6_serves_16 mv_X6_holds ml_X6_194 (rcC_0 iC_0) (by omega) (ok_X6_holds_o (by omega) hL hc hn hR) (Nat.le_of_ble_eq_true rfl) rfl (fun zc3 => ?_) (fun zc3 => ?_)
    · refine ri_if_eq a_X6_serves_19 (fun q => absurd q (by decide)) (fun _ => ?_)
      refine ri_ic a_X6_serves_22 ?_
      refine ri_goto a_X6_serves_23 ?_
      refine ri_ireturn a_X6_serves_27 rfl (by decide) ?_
      exact rB1 ⟨ezy1 ▸ Int32.not_lt.mp zc2, zc3⟩
    · refine ri_if_eq a_X6_serves_19 (fun _ => ?_) (fun q => absurd q (by decide))
      refine ri_ic a_X6_serves_26 ?_
      refine ri_ireturn a_X6_serves_27 rfl (by decide) ?_
      exact rB0 (fun q => zc3 q.2)
/-- what is asked of a ladder: 0 its height, 1 its lowest weak rung, else the weight on its lowest -/
theorem ok_X6_measure_o {w : Wd} {d : Nat} (hd : 5 ≤ d) {M : Mem} {c n : Nat} {L : List (List Op)} {R : Nat → Nat} (hL : lawC M c L) (hc : c < 3) (hn : n ≤ 8) (hR : rowA (M 7 c) R n) (what : Int32) : lr_Ok tC sC w d jX6_measure [vo 0 0, vo 1 c, vo 7 c, vi (nI n), vi what] M (qI (meaV L (vwC M c) (M 6 c) R n what) M) := by
  refine lr_ok (by decide +kernel) rfl ?_
  refine ri_ild a_X6_measure_0 rfl ?_
  refine ri_lsw a_X6_measure_2 ⟨fun zc1 => ?_, fun zc1 => ?_, trivial⟩ (fun zc1 => ?_)
  · replace zc1 : what = 0 := zc1.trans (by decide)
    refine ri_ald a_X6_measure_28 rfl ?_
    refine ri_ald a_X6_measure_29 rfl ?_
    refine ri_ald a_X6_measure_30 rfl ?_
    refine ri_ild a_X6_measure_31 rfl ?_
    refine ri_cVpi (as := [vo 1 c, vo 7 c, vi (nI n)]) (rest := []) (d' := d - 1) a_X6_measure_32 mv_X6_highOf ml_X6_184 (rcC_0 iC_0) (by omega) (ok_X6_highOf_o (by omega) hL hc hn hR) (Nat.le_of_ble_eq_true rfl) rfl (fun zy2 ezy2 => ?_)
    refine ri_ireturn a_X6_measure_35 rfl rfl ?_
    exact rI (by rw [ezy2]; unfold meaV; rw [if_pos zc1]) rfl
  · replace zc1 : what = 1 := zc1.trans (by decide)
    refine ri_ald a_X6_measure_36 rfl ?_
    refine ri_ald a_X6_measure_37 rfl ?_
    refine ri_ald a_X6_measure_38 rfl ?_
    refine ri_ild a_X6_measure_39 rfl ?_
    refine ri_cVpi (as := [vo 1 c, vo 7 c, vi (nI n)]) (rest := []) (d' := d - 1) a_X6_measure_40 mv_X6_firstWeak ml_X6_274 (rcC_0 iC_0) (by omega) (ok_X6_firstWeak_o (by omega) hL hc hn hR) (Nat.le_of_ble_eq_true rfl) rfl (fun zy3 ezy3 => ?_)
    refine ri_ireturn a_X6_measure_43 rfl rfl ?_
    exact rI (by rw [ezy3]; unfold meaV; rw [zc1, if_neg (by decide), if_pos rfl]) rfl
  · refine ri_ald a_X6_measure_44 rfl ?_
    refine ri_ald a_X6_measure_45 rfl ?_
    refine ri_ild a_X6_measure_46 rfl ?_
    refine ri_cSpi (as := [vo 1 c, vo 7 c, vi (nI n)]) (rest := []) (d' := d - 1) a_X6_measure_47 ms_X6_weightOnLowest ml_X6_277 (by omega) (ok_X6_weightOnLowest_o (by omega) hc hn hR) (Nat.le_of_ble_eq_true rfl) rfl (fun zy4 ezy4 => ?_)
    refine ri_ireturn a_X6_measure_50 rfl rfl ?_
    exact rI (by
    have n0 : ¬ what = 0 := fun q => by subst q; revert zc1; decide
    have n1 : ¬ what = 1 := fun q => by subst q; revert zc1; decide
    rw [ezy4]; unfold meaV; rw [if_neg n0, if_neg n1]) rfl
theorem ok_X6_highOf_r {w : Wd} {d : Nat} (hd : 4 ≤ d) {M : Mem} {c n : Nat} {L : List (List Op)} {R : Nat → Nat} (hL : lawC M c L) (hc : c < 3) (hn : n ≤ 8) (hR : rowA (M 23 0) R n) : lr_Ok tC sC w d jX6_highOf [vo 0 0, vo 1 c, vo 23 0, vi (nI n)] M (qI (hiS L (vwC M c) R n) M) := by
  have loop : ∀ k i x, n = i + k → x = hiS L (vwC M c) R i → lr_W tC sC w d jX6_highOf 6 [some (vo 0 0), some (vo 1 c), some (vo 23 0), some (vi (nI n)), some (vi x), some (vi (nI i))] [] M (qI (hiS L (vwC M c) R n) M) := by
    intro k
    induction k with
    | zero =>
      intro i x hk hx
      have : n = i := hk
      subst this
      refine ri_ild a_X6_highOf_6 rfl ?_
      refine ri_ild a_X6_highOf_8 rfl ?_
      refine ri_icmp_ge a_X6_highOf_9 (fun zc1 => ?_) (fun zc1 => ?_)
      · refine ri_ild a_X6_highOf_34 rfl ?_
        refine ri_ireturn a_X6_highOf_36 rfl rfl ?_
        exact rI hx rfl
      · exact absurd (Int32.le_refl _) zc1
    | succ k ih =>
      intro i x hk hx
      obtain ⟨hr, h8⟩ := hR i (by omega)
      have ei : M 23 0 (nI i).toNatClampNeg = nI (R i) := by rw [nI_clamp (by omega)]; exact hr
      refine ri_ild a_X6_highOf_6 rfl ?_
      refine ri_ild a_X6_highOf_8 rfl ?_
      refine ri_icmp_ge a_X6_highOf_9 (fun zc1 => ?_) (fun zc1 => ?_)
      · refine ri_ild a_X6_highOf_34 rfl ?_
        refine ri_ireturn a_X6_highOf_36 rfl rfl ?_
        exact absurd zc1 (nI_ge (by omega) (by omega))
      · refine ri_ild a_X6_highOf_12 rfl ?_
        refine ri_ald a_X6_highOf_14 rfl ?_
        refine ri_ald a_X6_highOf_15 rfl ?_
        refine ri_ald a_X6_highOf_16 rfl ?_
        refine ri_ild a_X6_highOf_17 rfl ?_
        refine ri_iaload a_X6_highOf_19 lC_23 rfl iC_23 ?_ ?_
        · exact vp_in_nI (by omega) (by decide)
        refine ri_ild a_X6_highOf_20 rfl ?_
        rw [ei]
        refine ri_cVpi (as := [vo 1 c, vi (nI (R i)), vi (nI i)]) (rest := [vi x]) (d' := d - 1) a_X6_highOf_22 mv_X6_risesOf ml_X6_232 (rcC_0 iC_0) (by omega) (ok_X6_risesOf (by omega) hL hc h8 (nI i)) (Nat.le_of_ble_eq_true rfl) rfl (fun zy1 ezy1 => ?_)
        refine ri_iadd a_X6_highOf_25 ?_
        refine ri_ist (f := fun zx21 => [some (vo 0 0), some (vo 1 c), some (vo 23 0), some (vi (nI n)), some (vi zx21), some (vi (nI i))]) a_X6_highOf_26 (fun _ => rfl) (fun zx21 ezx21 => ?_)
        refine ri_iinc (c0 := 1) (f := fun zx22 => [some (vo 0 0), some (vo 1 c), some (vo 23 0), some (vi (nI n)), some (vi zx21), some (vi zx22)]) a_X6_highOf_28 rfl (by decide) (fun _ => rfl) (fun zx22 ezx22 => ?_)
        refine ri_goto a_X6_highOf_31 ?_
        rw [ezx22, nI_1]
        exact ih (i + 1) _ (by omega) (by rw [ezx21, hx, ezy1]; rfl)
  refine lr_ok (by decide +kernel) rfl ?_
  refine ri_ic a_X6_highOf_0 ?_
  refine ri_istk (ls' := [some (vo 0 0), some (vo 1 c), some (vo 23 0), some (vi (nI n)), some (vi 0), none]) a_X6_highOf_1 rfl ?_
  refine ri_ic a_X6_highOf_3 ?_
  refine ri_istk (ls' := [some (vo 0 0), some (vo 1 c), some (vo 23 0), some (vi (nI n)), some (vi 0), some (vi 0)]) a_X6_highOf_4 rfl ?_
  exact loop n 0 0 (by omega) rfl
theorem ok_X6_weightOnLowest_r {w : Wd} {d : Nat} (hd : 1 ≤ d) {M : Mem} {c n : Nat} {R : Nat → Nat} (hc : c < 3) (hn : n ≤ 8) (hR : rowA (M 23 0) R n) : lr_Ok tC sC w d jX6_weightOnLowest [vo 1 c, vo 23 0, vi (nI n)] M (qI (wlS (vwC M c) R n) M) := by
  have loop : ∀ k i x, n ≤ i + k → 0 < i → i ≤ 9 → (i ≤ n ∨ i = 1) → x = wlS (vwC M c) R (min i n) → lr_W tC sC w d jX6_weightOnLowest 5 [some (vo 1 c), some (vo 23 0), some (vi (nI n)), some (vi x), some (vi (nI i))] [] M (qI (wlS (vwC M c) R n) M) := by
    intro k
    induction k with
    | zero =>
      intro i x hk h0 h9 hin hx
      rw [Nat.min_eq_right (by omega)] at hx
      refine ri_ild a_X6_weightOnLowest_5 rfl ?_
      refine ri_ild a_X6_weightOnLowest_7 rfl ?_
      refine ri_icmp_ge a_X6_weightOnLowest_8 (fun zc1 => ?_) (fun zc1 => ?_)
      · refine ri_ild a_X6_weightOnLowest_28 rfl ?_
        refine ri_ireturn a_X6_weightOnLowest_29 rfl rfl ?_
        exact rI hx rfl
      · exact absurd (nI_le (by omega) (by omega)) zc1
    | succ k ih =>
      intro i x hk h0 h9 hin hx
      by_cases hlt : i < n
      · obtain ⟨hr, h8⟩ := hR i hlt
        have ei : M 23 0 (nI i).toNatClampNeg = nI (R i) := by rw [nI_clamp (by omega)]; exact hr
        rw [Nat.min_eq_left (by omega)] at hx
        refine ri_ild a_X6_weightOnLowest_5 rfl ?_
        refine ri_ild a_X6_weightOnLowest_7 rfl ?_
        refine ri_icmp_ge a_X6_weightOnLowest_8 (fun zc1 => ?_) (fun zc1 => ?_)
        · refine ri_ild a_X6_weightOnLowest_28 rfl ?_
          refine ri_ireturn a_X6_weightOnLowest_29 rfl rfl ?_
          exact absurd zc1 (nI_ge hlt (by omega))
        · refine ri_ild a_X6_weightOnLowest_11 rfl ?_
          refine ri_ald a_X6_weightOnLowest_12 rfl ?_
          refine ri_ald a_X6_weightOnLowest_13 rfl ?_
          refine ri_ild a_X6_weightOnLowest_14 rfl ?_
          refine ri_iaload a_X6_weightOnLowest_16 lC_23 rfl iC_23 ?_ ?_
          · exact vp_in_nI (by omega) (by decide)
          rw [ei]
          refine ri_cSpi (as := [vo 1 c, vi (nI (R i))]) (rest := [vi x]) (d' := d - 1) a_X6_weightOnLowest_17 ms_X6_weighsOf ml_X6_270 (by omega) (ok_X6_weighsOf hc h8) (Nat.le_of_ble_eq_true rfl) rfl (fun zy1 ezy1 => ?_)
          refine ri_iadd a_X6_weightOnLowest_20 ?_
          refine ri_ist (f := fun zx21 => [some (vo 1 c), some (vo 23 0), some (vi (nI n)), some (vi zx21), some (vi (nI i))]) a_X6_weightOnLowest_21 (fun _ => rfl) (fun zx21 ezx21 => ?_)
          refine ri_iinc (c0 := 1) (f := fun zx22 => [some (vo 1 c), some (vo 23 0), some (vi (nI n)), some (vi zx21), some (vi zx22)]) a_X6_weightOnLowest_22 rfl (by decide) (fun _ => rfl) (fun zx22 ezx22 => ?_)
          refine ri_goto a_X6_weightOnLowest_25 ?_
          rw [ezx22, nI_1]
          exact ih (i + 1) _ (by omega) (by omega) (by omega) (by omega) (by rw [ezx21, hx, ezy1, Nat.min_eq_left (by omega), wlS, if_neg (by omega)])
      · rw [Nat.min_eq_right (by omega)] at hx
        refine ri_ild a_X6_weightOnLowest_5 rfl ?_
        refine ri_ild a_X6_weightOnLowest_7 rfl ?_
        refine ri_icmp_ge a_X6_weightOnLowest_8 (fun zc1 => ?_) (fun zc1 => ?_)
        · refine ri_ild a_X6_weightOnLowest_28 rfl ?_
          refine ri_ireturn a_X6_weightOnLowest_29 rfl rfl ?_
          exact rI hx rfl
        · exact absurd (nI_le (by omega) (by omega)) zc1
  refine lr_ok (by decide +kernel) rfl ?_
  refine ri_ic a_X6_weightOnLowest_0 ?_
  refine ri_istk (ls' := [some (vo 1 c), some (vo 23 0), some (vi (nI n)), some (vi 0), none]) a_X6_weightOnLowest_1 rfl ?_
  refine ri_ic a_X6_weightOnLowest_2 ?_
  refine ri_istk (ls' := [some (vo 1 c), some (vo 23 0), some (vi (nI n)), some (vi 0), some (vi 1)]) a_X6_weightOnLowest_3 rfl ?_
  exact loop n 1 0 (by omega) (by omega) (by omega) (Or.inr rfl) (by
  rcases Nat.eq_zero_or_pos n with h | h
  · rw [h]; rfl
  · rw [Nat.min_eq_left (by omega)]; rfl)
theorem ok_X6_firstWeak_r {w : Wd} {d : Nat} (hd : 4 ≤ d) {M : Mem} {c n : Nat} {L : List (List Op)} {R : Nat → Nat} (hL : lawC M c L) (hc : c < 3) (hn : n ≤ 8) (hR : rowA (M 23 0) R n) : lr_Ok tC sC w d jX6_firstWeak [vo 0 0, vo 1 c, vo 23 0, vi (nI n)] M (qI (wkV L (vwC M c) (M 6 c) R n) M) := by
  have loop : ∀ i s j7, i ≤ n → wkS L (vwC M c) (M 6 c) R i s = wkS L (vwC M c) (M 6 c) R n (-1, 0) → lr_W tC sC w d jX6_firstWeak 11 [some (vo 0 0), some (vo 1 c), some (vo 23 0), some (vi (nI n)), some (vi s.1), some (vi s.2), some (vi (nI i - 1)), j7] [] M (qI (wkV L (vwC M c) (M 6 c) R n) M) := by
    intro i
    induction i with
    | zero =>
      intro s j7 hin hs
      refine ri_ild a_X6_firstWeak_11 rfl ?_
      refine ri_if_lt a_X6_firstWeak_13 (fun zc1 => ?_) (fun zc1 => ?_)
      · refine ri_ild a_X6_firstWeak_77 rfl ?_
        refine ri_ireturn a_X6_firstWeak_79 rfl rfl ?_
        exact rI (congrArg Prod.fst hs) rfl
      · exact absurd (by decide) zc1
    | succ i ih =>
      intro s j7 hin hs
      obtain ⟨hr, h8⟩ := hR i (by omega)
      rw [nI_pred]
      have ei : M 23 0 (nI i).toNatClampNeg = nI (R i) := by rw [nI_clamp (by omega)]; exact hr
      have e6 : (nI (R i)).toNatClampNeg = R i := nI_clamp (by omega)
      have hq : 0 < i → M 23 0 (nI i - 1).toNatClampNeg = nI (R (i - 1)) := fun h => by
        obtain ⟨z, rfl⟩ : ∃ z, i = z + 1 := ⟨i - 1, by omega⟩
        rw [nI_pred, nI_clamp (by omega)]
        exact (hR z (by omega)).1
      have nxt : ∀ a, a = (wkT L (vwC M c) (M 6 c) R i s).1 → lr_W tC sC w d jX6_firstWeak 60 [some (vo 0 0), some (vo 1 c), some (vo 23 0), some (vi (nI n)), some (vi a), some (vi s.2), some (vi (nI i)), some (vi (nI (R i)))] [] M (qI (wkV L (vwC M c) (M 6 c) R n) M) := by
        intro a ha
        refine ri_ild a_X6_firstWeak_60 rfl ?_
        refine ri_ald a_X6_firstWeak_62 rfl ?_
        refine ri_ild a_X6_firstWeak_63 rfl ?_
        refine ri_cSpi (as := [vo 1 c, vi (nI (R i))]) (rest := [vi s.2]) (d' := d - 1) a_X6_firstWeak_65 ms_X6_weighsOf ml_X6_270 (by omega) (ok_X6_weighsOf hc h8) (Nat.le_of_ble_eq_true rfl) rfl (fun zy1 ezy1 => ?_)
        refine ri_iadd a_X6_firstWeak_68 ?_
        refine ri_ist (f := fun zx2 => [some (vo 0 0), some (vo 1 c), some (vo 23 0), some (vi (nI n)), some (vi a), some (vi zx2), some (vi (nI i)), some (vi (nI (R i)))]) a_X6_firstWeak_69 (fun _ => rfl) (fun zx2 ezx2 => ?_)
        refine ri_iinc (c0 := (-1)) (f := fun zx3 => [some (vo 0 0), some (vo 1 c), some (vo 23 0), some (vi (nI n)), some (vi a), some (vi zx2), some (vi zx3), some (vi (nI (R i)))]) a_X6_firstWeak_71 rfl (by decide) (fun _ => rfl) (fun zx3 ezx3 => ?_)
        refine ri_goto a_X6_firstWeak_74 ?_
        have := ih (wkT L (vwC M c) (M 6 c) R i s) (some (vi (nI (R i)))) (by omega) hs
        rw [← ha] at this
        rw [ezx3, ezx2, ezy1, show nI i + (-1) = nI i - 1 from (Int32.sub_eq_add_neg _ _).symm]
        exact this
      refine ri_ild a_X6_firstWeak_11 rfl ?_
      refine ri_if_lt a_X6_firstWeak_13 (fun zc11 => ?_) (fun zc11 => ?_)
      · refine ri_ild a_X6_firstWeak_77 rfl ?_
        refine ri_ireturn a_X6_firstWeak_79 rfl rfl ?_
        exact absurd zc11 (nI_pos (by omega))
      · refine ri_ald a_X6_firstWeak_16 rfl ?_
        refine ri_ild a_X6_firstWeak_17 rfl ?_
        refine ri_iaload a_X6_firstWeak_19 lC_23 rfl iC_23 ?_ ?_
        · exact vp_in_nI (by omega) (by decide)
        rw [ei]
        refine ri_istk (ls' := [some (vo 0 0), some (vo 1 c), some (vo 23 0), some (vi (nI n)), some (vi s.1), some (vi s.2), some (vi (nI i)), some (vi (nI (R i)))]) a_X6_firstWeak_20 rfl ?_
        refine ri_ald a_X6_firstWeak_22 rfl ?_
        refine ri_ald a_X6_firstWeak_23 rfl ?_
        refine ri_ild a_X6_firstWeak_24 rfl ?_
        refine ri_ild a_X6_firstWeak_26 rfl ?_
        refine ri_cVpi (as := [vo 1 c, vi (nI (R i)), vi (nI i)]) (rest := []) (d' := d - 1) a_X6_firstWeak_28 mv_X6_bearsOf ml_X6_267 (rcC_0 iC_0) (by omega) (ok_X6_bearsOf (by omega) hL hc h8 (nI i)) (Nat.le_of_ble_eq_true rfl) rfl (fun zy21 ezy21 => ?_)
        refine ri_ild a_X6_firstWeak_31 rfl ?_
        refine ri_icmp_lt a_X6_firstWeak_33 (fun zc22 => ?_) (fun zc22 => ?_)
        · refine ri_ild a_X6_firstWeak_56 rfl ?_
          refine ri_ist (f := fun zx23 => [some (vo 0 0), some (vo 1 c), some (vo 23 0), some (vi (nI n)), some (vi zx23), some (vi s.2), some (vi (nI i)), some (vi (nI (R i)))]) a_X6_firstWeak_58 (fun _ => rfl) (fun zx23 ezx23 => ?_)
          exact nxt _ (by rw [ezx23]; unfold wkT; rw [if_pos (Or.inl (ezy21 ▸ zc22))])
        · refine ri_ild a_X6_firstWeak_36 rfl ?_
          refine ri_if_le a_X6_firstWeak_38 (fun zc24 => ?_) (fun zc24 => ?_)
          · exact nxt _ (by
              have h0 : ¬ 0 < i := fun h => nI_nle h (by omega) zc24
              unfold wkT
              rw [if_neg (fun q => q.elim (ezy21 ▸ zc22) (fun q => h0 q.1))])
          · refine ri_ald a_X6_firstWeak_41 rfl ?_
            refine ri_ild a_X6_firstWeak_42 rfl ?_
            refine ri_ald a_X6_firstWeak_44 rfl ?_
            refine ri_ild a_X6_firstWeak_45 rfl ?_
            refine ri_ic a_X6_firstWeak_47 ?_
            refine ri_isub a_X6_firstWeak_48 ?_
            refine ri_iaload a_X6_firstWeak_49 lC_23 rfl iC_23 ?_ ?_
            · obtain ⟨z, rfl⟩ : ∃ z, i = z + 1 := ⟨i - 1, by
                have h0 : 0 < i := Nat.pos_of_ne_zero (fun h => zc24 (by rw [h]; decide))
                omega⟩
              rw [nI_pred]
              exact vp_in_nI (by omega) (by decide)
            refine ri_cVpb (as := [vi (nI (R i)), vi (M 23 0 ((nI i) - 1).toNatClampNeg)]) (rest := []) (d' := d - 1) a_X6_firstWeak_50 mv_X0_quarrel ml_X6_124 (rcC_1 (iC_1 (by assumption))) (by omega) (ok_X0_quarrel hc (nI (R i)) _ (vp_in_nI h8 (by decide))) (Nat.le_of_ble_eq_true rfl) rfl (fun zc25 => ?_) (fun zc25 => ?_)
            · refine ri_if_eq a_X6_firstWeak_53 (fun q => absurd q (by decide)) (fun _ => ?_)
              refine ri_ild a_X6_firstWeak_56 rfl ?_
              refine ri_ist (f := fun zx26 => [some (vo 0 0), some (vo 1 c), some (vo 23 0), some (vi (nI n)), some (vi zx26), some (vi s.2), some (vi (nI i)), some (vi (nI (R i)))]) a_X6_firstWeak_58 (fun _ => rfl) (fun zx26 ezx26 => ?_)
              have h0 : 0 < i := Nat.pos_of_ne_zero (fun h => zc24 (by rw [h]; decide))
              rw [hq h0, e6] at zc25
              exact nxt _ (by rw [ezx26]; unfold wkT; rw [if_pos (Or.inr ⟨h0, zc25⟩)])
            · refine ri_if_eq a_X6_firstWeak_53 (fun _ => ?_) (fun q => absurd q (by decide))
              have h0 : 0 < i := Nat.pos_of_ne_zero (fun h => zc24 (by rw [h]; decide))
              rw [hq h0, e6] at zc25
              exact nxt _ (by unfold wkT; rw [if_neg (fun q => q.elim (ezy21 ▸ zc22) (fun q => zc25 q.2))])
  refine lr_ok (by decide +kernel) rfl ?_
  refine ri_ic a_X6_firstWeak_0 ?_
  refine ri_istk (ls' := [some (vo 0 0), some (vo 1 c), some (vo 23 0), some (vi (nI n)), some (vi (-1)), none, none, none]) a_X6_firstWeak_1 rfl ?_
  refine ri_ic a_X6_firstWeak_3 ?_
  refine ri_istk (ls' := [some (vo 0 0), some (vo 1 c), some (vo 23 0), some (vi (nI n)), some (vi (-1)), some (vi 0), none, none]) a_X6_firstWeak_4 rfl ?_
  refine ri_ild a_X6_firstWeak_6 rfl ?_
  refine ri_ic a_X6_firstWeak_7 ?_
  refine ri_isub a_X6_firstWeak_8 ?_
  refine ri_ist (f := fun zx1 => [some (vo 0 0), some (vo 1 c), some (vo 23 0), some (vi (nI n)), some (vi (-1)), some (vi 0), some (vi zx1), none]) a_X6_firstWeak_9 (fun _ => rfl) (fun zx1 ezx1 => ?_)
  rw [ezx1]; exact loop n (-1, 0) _ (by omega) rfl
theorem ok_X6_holds_r {w : Wd} {d : Nat} (hd : 5 ≤ d) {M : Mem} {c n : Nat} {L : List (List Op)} {R : Nat → Nat} (hL : lawC M c L) (hc : c < 3) (hn : n ≤ 8) (hR : rowA (M 23 0) R n) : lr_Ok tC sC w d jX6_holds [vo 0 0, vo 1 c, vo 23 0, vi (nI n)] M (qB (wkV L (vwC M c) (M 6 c) R n = -1) M) := by
  refine lr_ok (by decide +kernel) rfl ?_
  refine ri_ald a_X6_holds_0 rfl ?_
  refine ri_ald a_X6_holds_1 rfl ?_
  refine ri_ald a_X6_holds_2 rfl ?_
  refine ri_ild a_X6_holds_3 rfl ?_
  refine ri_cVpi (as := [vo 1 c, vo 23 0, vi (nI n)]) (rest := []) (d' := d - 1) a_X6_holds_4 mv_X6_firstWeak ml_X6_274 (rcC_0 iC_0) (by omega) (ok_X6_firstWeak_r (by omega) hL hc hn hR) (Nat.le_of_ble_eq_true rfl) rfl (fun zy1 ezy1 => ?_)
  refine ri_ic a_X6_holds_7 ?_
  refine ri_icmp_ne a_X6_holds_8 (fun zc2 => ?_) (fun zc2 => ?_)
  · refine ri_ic a_X6_holds_15 ?_
    refine ri_ireturn a_X6_holds_16 rfl (by decide) ?_
    exact rB0 (by rw [← ezy1]; exact zc2)
  · refine ri_ic a_X6_holds_11 ?_
    refine ri_goto a_X6_holds_12 ?_
    refine ri_ireturn a_X6_holds_16 rfl (by decide) ?_
    exact rB1 (by rw [← ezy1]; exact zc2)
theorem ok_X6_serves_r {w : Wd} {d : Nat} (hd : 6 ≤ d) {M : Mem} {c n : Nat} {L : List (List Op)} {R : Nat → Nat} (hL : lawC M c L) (hc : c < 3) (hn : n ≤ 8) (hR : rowA (M 23 0) R n) (win : Int32) : lr_Ok tC sC w d jX6_serves [vo 0 0, vo 1 c, vo 23 0, vi (nI n), vi win] M (qB (win ≤ hiS L (vwC M c) R n ∧ wkV L (vwC M c) (M 6 c) R n = -1) M) := by
  refine lr_ok (by decide +kernel) rfl ?_
  refine ri_ald a_X6_serves_0 rfl ?_
  refine ri_ald a_X6_serves_1 rfl ?_
  refine ri_ald a_X6_serves_2 rfl ?_
  refine ri_ild a_X6_serves_3 rfl ?_
  refine ri_cVpi (as := [vo 1 c, vo 23 0, vi (nI n)]) (rest := []) (d' := d - 1) a_X6_serves_4 mv_X6_highOf ml_X6_184 (rcC_0 iC_0) (by omega) (ok_X6_highOf_r (by omega) hL hc hn hR) (Nat.le_of_ble_eq_true rfl) rfl (fun zy1 ezy1 => ?_)
  refine ri_ild a_X6_serves_7 rfl ?_
  refine ri_icmp_lt a_X6_serves_9 (fun zc2 => ?_) (fun zc2 => ?_)
  · refine ri_ic a_X6_serves_26 ?_
    refine ri_ireturn a_X6_serves_27 rfl (by decide) ?_
    exact rB0 (fun q => Int32.not_le.mpr zc2 (ezy1 ▸ q.1))
  · refine ri_ald a_X6_serves_12 rfl ?_
    refine ri_ald a_X6_serves_13 rfl ?_
    refine ri_ald a_X6_serves_14 rfl ?_
    refine ri_ild a_X6_serves_15 rfl ?_
    refine ri_cVpb (as := [vo 1 c, vo 23 0, vi (nI n)]) (rest := []) (d' := d - 1) a_X6_serves_16 mv_X6_holds ml_X6_194 (rcC_0 iC_0) (by omega) (ok_X6_holds_r (by omega) hL hc hn hR) (Nat.le_of_ble_eq_true rfl) rfl (fun zc3 => ?_) (fun zc3 => ?_)
    · refine ri_if_eq a_X6_serves_19 (fun q => absurd q (by decide)) (fun _ => ?_)
      refine ri_ic a_X6_serves_22 ?_
      refine ri_goto a_X6_serves_23 ?_
      refine ri_ireturn a_X6_serves_27 rfl (by decide) ?_
      exact rB1 ⟨ezy1 ▸ Int32.not_lt.mp zc2, zc3⟩
    · refine ri_if_eq a_X6_serves_19 (fun _ => ?_) (fun q => absurd q (by decide))
      refine ri_ic a_X6_serves_26 ?_
      refine ri_ireturn a_X6_serves_27 rfl (by decide) ?_
      exact rB0 (fun q => zc3 q.2)
/-- what is asked of a ladder: 0 its height, 1 its lowest weak rung, else the weight on its lowest -/
theorem ok_X6_measure_r {w : Wd} {d : Nat} (hd : 5 ≤ d) {M : Mem} {c n : Nat} {L : List (List Op)} {R : Nat → Nat} (hL : lawC M c L) (hc : c < 3) (hn : n ≤ 8) (hR : rowA (M 23 0) R n) (what : Int32) : lr_Ok tC sC w d jX6_measure [vo 0 0, vo 1 c, vo 23 0, vi (nI n), vi what] M (qI (meaV L (vwC M c) (M 6 c) R n what) M) := by
  refine lr_ok (by decide +kernel) rfl ?_
  refine ri_ild a_X6_measure_0 rfl ?_
  refine ri_lsw a_X6_measure_2 ⟨fun zc1 => ?_, fun zc1 => ?_, trivial⟩ (fun zc1 => ?_)
  · replace zc1 : what = 0 := zc1.trans (by decide)
    refine ri_ald a_X6_measure_28 rfl ?_
    refine ri_ald a_X6_measure_29 rfl ?_
    refine ri_ald a_X6_measure_30 rfl ?_
    refine ri_ild a_X6_measure_31 rfl ?_
    refine ri_cVpi (as := [vo 1 c, vo 23 0, vi (nI n)]) (rest := []) (d' := d - 1) a_X6_measure_32 mv_X6_highOf ml_X6_184 (rcC_0 iC_0) (by omega) (ok_X6_highOf_r (by omega) hL hc hn hR) (Nat.le_of_ble_eq_true rfl) rfl (fun zy2 ezy2 => ?_)
    refine ri_ireturn a_X6_measure_35 rfl rfl ?_
    exact rI (by rw [ezy2]; unfold meaV; rw [if_pos zc1]) rfl
  · replace zc1 : what = 1 := zc1.trans (by decide)
    refine ri_ald a_X6_measure_36 rfl ?_
    refine ri_ald a_X6_measure_37 rfl ?_
    refine ri_ald a_X6_measure_38 rfl ?_
    refine ri_ild a_X6_measure_39 rfl ?_
    refine ri_cVpi (as := [vo 1 c, vo 23 0, vi (nI n)]) (rest := []) (d' := d - 1) a_X6_measure_40 mv_X6_firstWeak ml_X6_274 (rcC_0 iC_0) (by omega) (ok_X6_firstWeak_r (by omega) hL hc hn hR) (Nat.le_of_ble_eq_true rfl) rfl (fun zy3 ezy3 => ?_)
    refine ri_ireturn a_X6_measure_43 rfl rfl ?_
    exact rI (by rw [ezy3]; unfold meaV; rw [zc1, if_neg (by decide), if_pos rfl]) rfl
  · refine ri_ald a_X6_measure_44 rfl ?_
    refine ri_ald a_X6_measure_45 rfl ?_
    refine ri_ild a_X6_measure_46 rfl ?_
    refine ri_cSpi (as := [vo 1 c, vo 23 0, vi (nI n)]) (rest := []) (d' := d - 1) a_X6_measure_47 ms_X6_weightOnLowest ml_X6_277 (by omega) (ok_X6_weightOnLowest_r (by omega) hc hn hR) (Nat.le_of_ble_eq_true rfl) rfl (fun zy4 ezy4 => ?_)
    refine ri_ireturn a_X6_measure_50 rfl rfl ?_
    exact rI (by
    have n0 : ¬ what = 0 := fun q => by subst q; revert zc1; decide
    have n1 : ¬ what = 1 := fun q => by subst q; revert zc1; decide
    rw [ezy4]; unfold meaV; rw [if_neg n0, if_neg n1]) rfl

