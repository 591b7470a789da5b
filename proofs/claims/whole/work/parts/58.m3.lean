/-! reference: tables, rows, ladders -/
theorem and1 (x : Int32) : x &&& 1 = 0 ∨ x &&& 1 = 1 := by
  have h : (x &&& 1).toBitVec = BitVec.setWidth 32 (BitVec.ofBool (x.toBitVec.getLsbD 0)) := by
    rw [Int32.toBitVec_and]
    exact BitVec.and_one_eq_setWidth_ofBool_getLsbD
  cases hb : x.toBitVec.getLsbD 0 with
  | false => exact Or.inl (Int32.toBitVec_inj.mp (by rw [h, hb]; rfl))
  | true => exact Or.inr (Int32.toBitVec_inj.mp (by rw [h, hb]; rfl))
theorem and1n {x : Int32} : x &&& 1 = 1 ↔ ¬ x &&& 1 = 0 := by
  rcases and1 x with h | h <;> rw [h] <;> decide
/-- what lasts in the reference is as it was -/
def frN (N N' : Mem) : Prop := ∀ t i k, t < 16 → ¬ (t = 0 ∧ 21 ≤ k) → N' t i k = N t i k
theorem frN_rf {N : Mem} : frN N N := fun _ _ _ _ _ => rfl
theorem frN_tr {N N1 N2 : Mem} (h : frN N N1) (h2 : frN N1 N2) : frN N N2 := fun t i k a b => (h2 t i k a b).trans (h t i k a b)
theorem frN_t {N N' : Mem} (h : frN N N') {t : Nat} (ht : t < 16) (h0 : t ≠ 0) : N' t = N t := funext fun i => funext fun k => h t i k ht (fun q => h0 q.1)
theorem frN_law {N N' : Mem} {L : List (List Op)} (h : frN N N') (hL : lawN N L) : lawN N' L := by
  obtain ⟨t, ht, hr, hx⟩ := hL
  exact ⟨t, ht, by rw [h 0 0 13 (by decide) (by omega)]; exact hr, txN_eq (frN_t h (by decide) (by decide)) (frN_t h (by decide) (by decide)) hx⟩
theorem frN_vw {N N' : Mem} (h : frN N N') : vwM N' = vwM N := by
  unfold vwM
  rw [frN_t h (t := 1) (by decide) (by decide), frN_t h (t := 2) (by decide) (by decide), frN_t h (t := 3) (by decide) (by decide), h 0 0 7 (by decide) (by omega), h 0 0 6 (by decide) (by omega)]
theorem frN_up {N N1 : Mem} {t i k : Nat} {x : Int32} (h : frN N N1) (ht : 16 ≤ t ∨ (t = 0 ∧ 21 ≤ k)) : frN N (up N1 t i k x) := fun t' i' k' a b => by
  rw [up_apply, if_neg (fun q => by omega)]
  exact h t' i' k' a b
def frTb (N N' : Mem) : Prop := ∀ t, t ≠ 19 → t ≠ 20 → t ≠ 21 → N' t = N t
theorem frTb_N {N N' : Mem} (h : frTb N N') : frN N N' := fun t i k a _ => by rw [h t (by omega) (by omega) (by omega)]
theorem frTb_up {N N1 : Mem} {t i k : Nat} {x : Int32} (h : frTb N N1) (ht : t = 19 ∨ t = 20 ∨ t = 21) : frTb N (up N1 t i k x) := fun t' a b c => by
  funext i' k'
  rw [up_apply, if_neg (fun q => by omega), h t' a b c]
/-- the tables hold what each is at each rung -/
def tbM (L : List (List Op)) (V : Vw) (n : Nat) (N : Mem) : Prop := ∀ p, p < n → N 21 0 p = weiV V p ∧ ∀ r, r < 8 → N 19 0 (8 * p + r) = risV L V p (nI r) ∧ N 20 0 (8 * p + r) = beaV L V p (nI r)
def tbI (L : List (List Op)) (V : Vw) (p k : Nat) (N : Mem) : Prop := tbM L V p N ∧ N 21 0 p = weiV V p ∧ ∀ r, r < k → N 19 0 (8 * p + r) = risV L V p (nI r) ∧ N 20 0 (8 * p + r) = beaV L V p (nI r)
theorem nI_8a (q y : Nat) : 8 * nI q + nI y = nI (8 * q + y) := by rw [show (8 : Int32) = nI 8 from rfl, nI_mul, nI_add]
theorem ok_X7_tellsAll {w : Wd} {d : Nat} (hd : 4 ≤ d) {N : Mem} {n : Nat} {L : List (List Op)} (hL : lawN N L) (hn : N 0 0 0 = nI n) (hn8 : n ≤ 8) : lr_Ok tM sM w d jX7_tellsAll [vo 0 0] N (qV fun N' => frTb N N' ∧ tbM L (vwM N) n N') := by
  have outer : ∀ r p j2 N1, n = p + r → frTb N N1 → tbM L (vwM N) p N1 → lr_W tM sM w d jX7_tellsAll 2 [some (vo 0 0), some (vi (nI p)), j2] [] N1 (qV fun N' => frTb N N' ∧ tbM L (vwM N) n N') := by
    intro r
    induction r with
    | zero =>
      intro p j2 N1 hr hf hm
      have : n = p := hr
      subst this
      have e0 : N1 0 0 0 = nI n := by rw [hf 0 (by decide) (by decide) (by decide)]; exact hn
      refine ri_ild a_X7_tellsAll_2 rfl ?_
      refine ri_ald a_X7_tellsAll_3 rfl ?_
      refine ri_getI a_X7_tellsAll_4 fl_X7_93 kM_0_0 rfl iM_0 ?_
      refine ri_icmp_ge a_X7_tellsAll_7 (fun zc1 => ?_) (fun zc1 => ?_)
      · refine ri_return a_X7_tellsAll_75 rfl ?_
        exact rV ⟨hf, hm⟩
      · exact absurd (by rw [e0]; exact Int32.le_refl _) zc1
    | succ r ih =>
      intro p j2 N1 hr hf hm
      have e0 : N1 0 0 0 = nI n := by rw [hf 0 (by decide) (by decide) (by decide)]; exact hn
      have inner : ∀ r2 k N2, 8 = k + r2 → frTb N N2 → tbI L (vwM N) p k N2 → lr_W tM sM w d jX7_tellsAll 23 [some (vo 0 0), some (vi (nI p)), some (vi (nI k))] [] N2 (qV fun N' => frTb N N' ∧ tbM L (vwM N) n N') := by
        intro r2
        induction r2 with
        | zero =>
          intro k N2 hk hf2 hi
          have : k = 8 := by omega
          subst this
          refine ri_ild a_X7_tellsAll_23 rfl ?_
          refine ri_ic a_X7_tellsAll_24 ?_
          refine ri_icmp_ge a_X7_tellsAll_26 (fun zc1 => ?_) (fun zc1 => ?_)
          · refine ri_iinc (c0 := 1) (f := fun zx2 => [some (vo 0 0), some (vi zx2), some (vi (nI 8))]) a_X7_tellsAll_69 rfl (by decide) (fun _ => rfl) (fun zx2 ezx2 => ?_)
            refine ri_goto a_X7_tellsAll_72 ?_
            rw [ezx2, nI_1]
            exact ih (p + 1) _ N2 (by omega) hf2 (fun q hq => by
              rcases Nat.lt_or_ge q p with h | h
              · exact hi.1 q h
              · have : q = p := by omega
                subst this
                exact hi.2)
          · exact absurd (by decide) zc1
        | succ r2 ih2 =>
          intro k N2 hk hf2 hi
          have ip : vp_in (8 * nI p + nI k) 64 := by rw [nI_8a]; exact vp_in_nI (by omega) (by decide)
          have ec : (8 * nI p + nI k).toNatClampNeg = 8 * p + k := by rw [nI_8a, nI_clamp (by omega)]
          refine ri_ild a_X7_tellsAll_23 rfl ?_
          refine ri_ic a_X7_tellsAll_24 ?_
          refine ri_icmp_ge a_X7_tellsAll_26 (fun zc21 => ?_) (fun zc21 => ?_)
          · exact absurd zc21 (nI_ge (b := 8) (by omega) (by decide))
          · refine ri_ald a_X7_tellsAll_29 rfl ?_
            refine ri_getR (t' := 19) (i' := 0) a_X7_tellsAll_30 fl_X7_64 kM_0_32 rfl iM_0 (Or.inr ⟨rfl, rfl, rfl⟩) ?_
            refine ri_ic a_X7_tellsAll_33 ?_
            refine ri_ild a_X7_tellsAll_35 rfl ?_
            refine ri_imul a_X7_tellsAll_36 ?_
            refine ri_ild a_X7_tellsAll_37 rfl ?_
            refine ri_iadd a_X7_tellsAll_38 ?_
            refine ri_ald a_X7_tellsAll_39 rfl ?_
            refine ri_ild a_X7_tellsAll_40 rfl ?_
            refine ri_ild a_X7_tellsAll_41 rfl ?_
            refine ri_cVpi (as := [vi (nI p), vi (nI k)]) (rest := [vi ((8 * (nI p)) + (nI k)), vo 19 0]) (d' := d - 1) a_X7_tellsAll_42 mv_X7_risesOf ml_X7_195 (rcM_0 iM_0) (by omega) (ok_X7_risesOf (by omega) (frN_law (frTb_N hf2) hL) (by omega) (nI k)) (Nat.le_of_ble_eq_true rfl) rfl (fun zy22 ezy22 => ?_)
            refine ri_iastore a_X7_tellsAll_45 lM_19 rfl iM_19 ip (fun zM23 ezM23 => ?_)
            refine ri_ald a_X7_tellsAll_46 rfl ?_
            refine ri_getR (t' := 20) (i' := 0) a_X7_tellsAll_47 fl_X7_67 kM_0_33 rfl iM_0 (Or.inr ⟨rfl, rfl, rfl⟩) ?_
            refine ri_ic a_X7_tellsAll_50 ?_
            refine ri_ild a_X7_tellsAll_52 rfl ?_
            refine ri_imul a_X7_tellsAll_53 ?_
            refine ri_ild a_X7_tellsAll_54 rfl ?_
            refine ri_iadd a_X7_tellsAll_55 ?_
            refine ri_ald a_X7_tellsAll_56 rfl ?_
            refine ri_ild a_X7_tellsAll_57 rfl ?_
            refine ri_ild a_X7_tellsAll_58 rfl ?_
            refine ri_cVpi (as := [vi (nI p), vi (nI k)]) (rest := [vi ((8 * (nI p)) + (nI k)), vo 20 0]) (d' := d - 1) a_X7_tellsAll_59 mv_X7_bearsOf ml_X7_198 (rcM_0 iM_0) (by omega) (ok_X7_bearsOf (by omega) (frN_law (frTb_N (show frTb N zM23 by rw [ezM23]; exact frTb_up hf2 (Or.inl rfl))) hL) (by omega) (nI k)) (Nat.le_of_ble_eq_true rfl) rfl (fun zy24 ezy24 => ?_)
            refine ri_iastore a_X7_tellsAll_62 lM_20 rfl iM_20 ip (fun zM25 ezM25 => ?_)
            refine ri_iinc (c0 := 1) (f := fun zx26 => [some (vo 0 0), some (vi (nI p)), some (vi zx26)]) a_X7_tellsAll_63 rfl (by decide) (fun _ => rfl) (fun zx26 ezx26 => ?_)
            refine ri_goto a_X7_tellsAll_66 ?_
            have hf3 : frTb N zM23 := by rw [ezM23]; exact frTb_up hf2 (Or.inl rfl)
            have hf4 : frTb N zM25 := by rw [ezM25]; exact frTb_up hf3 (Or.inr (Or.inl rfl))
            rw [frN_vw (frTb_N hf2)] at ezy22
            rw [frN_vw (frTb_N hf3)] at ezy24
            rw [ec] at ezM23 ezM25
            rw [ezx26, nI_1]
            refine ih2 (k + 1) zM25 (by omega) hf4 ⟨fun q hq => ⟨?_, fun r hr => ⟨?_, ?_⟩⟩, ?_, fun r hr => ⟨?_, ?_⟩⟩
            · rw [ezM25, ezM23, up_apply, up_apply, if_neg (by omega), if_neg (by omega)]
              exact (hi.1 q hq).1
            · rw [ezM25, ezM23, up_apply, up_apply, if_neg (by omega), if_neg (by omega)]
              exact ((hi.1 q hq).2 r hr).1
            · rw [ezM25, ezM23, up_apply, up_apply, if_neg (by omega), if_neg (by omega)]
              exact ((hi.1 q hq).2 r hr).2
            · rw [ezM25, ezM23, up_apply, up_apply, if_neg (by omega), if_neg (by omega)]
              exact hi.2.1
            · rw [ezM25, ezM23, up_apply, up_apply, if_neg (by omega)]
              by_cases e : r = k
              · rw [if_pos (by omega), ezy22, e]
              · rw [if_neg (by omega)]
                exact (hi.2.2 r (by omega)).1
            · rw [ezM25, ezM23, up_apply, up_apply]
              by_cases e : r = k
              · rw [if_pos (by omega), ezy24, e]
              · rw [if_neg (by omega), if_neg (by omega)]
                exact (hi.2.2 r (by omega)).2
      refine ri_ild a_X7_tellsAll_2 rfl ?_
      refine ri_ald a_X7_tellsAll_3 rfl ?_
      refine ri_getI a_X7_tellsAll_4 fl_X7_93 kM_0_0 rfl iM_0 ?_
      refine ri_icmp_ge a_X7_tellsAll_7 (fun zc11 => ?_) (fun zc11 => ?_)
      · exact absurd zc11 (by rw [e0]; exact nI_ge (by omega) (by omega))
      · refine ri_ald a_X7_tellsAll_10 rfl ?_
        refine ri_getR (t' := 21) (i' := 0) a_X7_tellsAll_11 fl_X7_70 kM_0_34 rfl iM_0 (Or.inr ⟨rfl, rfl, rfl⟩) ?_
        refine ri_ild a_X7_tellsAll_14 rfl ?_
        refine ri_ald a_X7_tellsAll_15 rfl ?_
        refine ri_ild a_X7_tellsAll_16 rfl ?_
        refine ri_cVpi (as := [vi (nI p)]) (rest := [vi (nI p), vo 21 0]) (d' := d - 1) a_X7_tellsAll_17 mv_X7_weighsOf ml_X7_192 (rcM_0 iM_0) (by omega) (ok_X7_weighsOf (by omega)) (Nat.le_of_ble_eq_true rfl) rfl (fun zy12 ezy12 => ?_)
        refine ri_iastore a_X7_tellsAll_20 lM_21 rfl iM_21 (vp_in_nI (by omega) (by decide)) (fun zM13 ezM13 => ?_)
        refine ri_ic a_X7_tellsAll_21 ?_
        refine ri_istk (ls' := [some (vo 0 0), some (vi (nI p)), some (vi 0)]) a_X7_tellsAll_22 rfl ?_
        rw [nI_clamp (by omega)] at ezM13
        rw [frN_vw (frTb_N hf)] at ezy12
        refine inner 8 0 zM13 (by omega) (by rw [ezM13]; exact frTb_up hf (Or.inr (Or.inr rfl))) ⟨fun q hq => ⟨?_, fun r hr => ⟨?_, ?_⟩⟩, ?_, fun r hr => by omega⟩
        · rw [ezM13, up_apply, if_neg (by omega)]; exact (hm q hq).1
        · rw [ezM13, up_apply, if_neg (by omega)]; exact ((hm q hq).2 r hr).1
        · rw [ezM13, up_apply, if_neg (by omega)]; exact ((hm q hq).2 r hr).2
        · rw [ezM13, up_same, ezy12]
  refine lr_ok (by decide +kernel) rfl ?_
  refine ri_ic a_X7_tellsAll_0 ?_
  refine ri_istk (ls' := [some (vo 0 0), some (vi 0), none]) a_X7_tellsAll_1 rfl ?_
  exact outer n 0 none N (by omega) (fun _ _ _ _ => rfl) (fun p hp => absurd hp (Nat.not_lt_zero _))
/-- a row of m, each of the first n people -/
def rwN (N : Mem) (R : Nat → Nat) (m n : Nat) : Prop := N 0 0 36 = nI m ∧ m ≤ 8 ∧ ∀ i, i < m → N 22 0 i = nI (R i) ∧ R i < n
theorem ok_X7_highOf {w : Wd} {d : Nat} {N : Mem} {m n : Nat} {L : List (List Op)} {V : Vw} {R : Nat → Nat} (ht : tbM L V n N) (hR : rwN N R m n) (hn8 : n ≤ 8) : lr_Ok tM sM w d jX7_highOf [vo 0 0] N (qI (hiS L V R m) N) := by
  obtain ⟨h36, hm8, hR⟩ := hR
  have loop : ∀ r i, m = i + r → lr_W tM sM w d jX7_highOf 4 [some (vo 0 0), some (vi (hiS L V R i)), some (vi (nI i))] [] N (qI (hiS L V R m) N) := by
    intro r
    induction r with
    | zero =>
      intro i hi
      have : m = i := hi
      subst this
      refine ri_ild a_X7_highOf_4 rfl ?_
      refine ri_ald a_X7_highOf_5 rfl ?_
      refine ri_getI a_X7_highOf_6 fl_X7_201 kM_0_36 rfl iM_0 ?_
      refine ri_icmp_ge a_X7_highOf_9 (fun zc1 => ?_) (fun zc1 => ?_)
      · refine ri_ild a_X7_highOf_37 rfl ?_
        refine ri_ireturn a_X7_highOf_38 rfl rfl ?_
        exact rI rfl rfl
      · exact absurd (by rw [h36]; exact Int32.le_refl _) zc1
    | succ r ih =>
      intro i hi
      obtain ⟨hr, hrn⟩ := hR i (by omega)
      have ei : N 22 0 (nI i).toNatClampNeg = nI (R i) := by rw [nI_clamp (by omega)]; exact hr
      have i8 : vp_in (nI i) 8 := vp_in_nI (by omega) (by decide)
      have ip : vp_in (8 * N 22 0 (nI i).toNatClampNeg + nI i) 64 := by rw [ei, nI_8a]; exact vp_in_nI (by omega) (by decide)
      have ec : N 19 0 (8 * N 22 0 (nI i).toNatClampNeg + nI i).toNatClampNeg = risV L V (R i) (nI i) := by rw [ei, nI_8a, nI_clamp (by omega)]; exact ((ht _ hrn).2 i (by omega)).1
      refine ri_ild a_X7_highOf_4 rfl ?_
      refine ri_ald a_X7_highOf_5 rfl ?_
      refine ri_getI a_X7_highOf_6 fl_X7_201 kM_0_36 rfl iM_0 ?_
      refine ri_icmp_ge a_X7_highOf_9 (fun zc11 => ?_) (fun zc11 => ?_)
      · exact absurd zc11 (by rw [h36]; exact nI_ge (by omega) (by omega))
      · refine ri_ild a_X7_highOf_12 rfl ?_
        refine ri_ald a_X7_highOf_13 rfl ?_
        refine ri_getR (t' := 19) (i' := 0) a_X7_highOf_14 fl_X7_64 kM_0_32 rfl iM_0 (Or.inr ⟨rfl, rfl, rfl⟩) ?_
        refine ri_ic a_X7_highOf_17 ?_
        refine ri_ald a_X7_highOf_19 rfl ?_
        refine ri_getR (t' := 22) (i' := 0) a_X7_highOf_20 fl_X7_73 kM_0_35 rfl iM_0 (Or.inr ⟨rfl, rfl, rfl⟩) ?_
        refine ri_ild a_X7_highOf_23 rfl ?_
        refine ri_iaload a_X7_highOf_24 lM_22 rfl iM_22 i8 ?_
        refine ri_imul a_X7_highOf_25 ?_
        refine ri_ild a_X7_highOf_26 rfl ?_
        refine ri_iadd a_X7_highOf_27 ?_
        refine ri_iaload a_X7_highOf_28 lM_19 rfl iM_19 ip ?_
        refine ri_iadd a_X7_highOf_29 ?_
        refine ri_ist (f := fun zx12 => [some (vo 0 0), some (vi zx12), some (vi (nI i))]) a_X7_highOf_30 (fun _ => rfl) (fun zx12 ezx12 => ?_)
        refine ri_iinc (c0 := 1) (f := fun zx13 => [some (vo 0 0), some (vi zx12), some (vi zx13)]) a_X7_highOf_31 rfl (by decide) (fun _ => rfl) (fun zx13 ezx13 => ?_)
        refine ri_goto a_X7_highOf_34 ?_
        rw [ezx12, ezx13, nI_1, ec]
        exact ih (i + 1) (by omega)
  refine lr_ok (by decide +kernel) rfl ?_
  refine ri_ic a_X7_highOf_0 ?_
  refine ri_istk (ls' := [some (vo 0 0), some (vi 0), none]) a_X7_highOf_1 rfl ?_
  refine ri_ic a_X7_highOf_2 ?_
  refine ri_istk (ls' := [some (vo 0 0), some (vi 0), some (vi 0)]) a_X7_highOf_3 rfl ?_
  exact loop m 0 (by omega)
theorem ok_X7_weighAbove {w : Wd} {d : Nat} {N : Mem} {m n : Nat} {L : List (List Op)} {V : Vw} {R : Nat → Nat} (ht : tbM L V n N) (hR : rwN N R m n) (hn8 : n ≤ 8) : lr_Ok tM sM w d jX7_weighAbove [vo 0 0] N (qI (wlS V R m) N) := by
  obtain ⟨h36, hm8, hR⟩ := hR
  have loop : ∀ k i x, m ≤ i + k → 0 < i → i ≤ 9 → (i ≤ m ∨ i = 1) → x = wlS V R (min i m) → lr_W tM sM w d jX7_weighAbove 4 [some (vo 0 0), some (vi x), some (vi (nI i))] [] N (qI (wlS V R m) N) := by
    intro k
    induction k with
    | zero =>
      intro i x hk h0 h9 hin hx
      rw [Nat.min_eq_right (by omega)] at hx
      refine ri_ild a_X7_weighAbove_4 rfl ?_
      refine ri_ald a_X7_weighAbove_5 rfl ?_
      refine ri_getI a_X7_weighAbove_6 fl_X7_201 kM_0_36 rfl iM_0 ?_
      refine ri_icmp_ge a_X7_weighAbove_9 (fun zc1 => ?_) (fun zc1 => ?_)
      · refine ri_ild a_X7_weighAbove_32 rfl ?_
        refine ri_ireturn a_X7_weighAbove_33 rfl rfl ?_
        exact rI hx rfl
      · exact absurd (by rw [h36]; exact nI_le (by omega) (by omega)) zc1
    | succ k ih =>
      intro i x hk h0 h9 hin hx
      by_cases hlt : i < m
      · obtain ⟨hr, hrn⟩ := hR i hlt
        have ei : N 22 0 (nI i).toNatClampNeg = nI (R i) := by rw [nI_clamp (by omega)]; exact hr
        have ew : N 21 0 (N 22 0 (nI i).toNatClampNeg).toNatClampNeg = weiV V (R i) := by rw [ei, nI_clamp (by omega)]; exact (ht _ hrn).1
        have iw : vp_in (N 22 0 (nI i).toNatClampNeg) 8 := by rw [ei]; exact vp_in_nI (by omega) (by decide)
        rw [Nat.min_eq_left (by omega)] at hx
        refine ri_ild a_X7_weighAbove_4 rfl ?_
        refine ri_ald a_X7_weighAbove_5 rfl ?_
        refine ri_getI a_X7_weighAbove_6 fl_X7_201 kM_0_36 rfl iM_0 ?_
        refine ri_icmp_ge a_X7_weighAbove_9 (fun zc11 => ?_) (fun zc11 => ?_)
        · exact absurd zc11 (by rw [h36]; exact nI_ge hlt (by omega))
        · refine ri_ild a_X7_weighAbove_12 rfl ?_
          refine ri_ald a_X7_weighAbove_13 rfl ?_
          refine ri_getR (t' := 21) (i' := 0) a_X7_weighAbove_14 fl_X7_70 kM_0_34 rfl iM_0 (Or.inr ⟨rfl, rfl, rfl⟩) ?_
          refine ri_ald a_X7_weighAbove_17 rfl ?_
          refine ri_getR (t' := 22) (i' := 0) a_X7_weighAbove_18 fl_X7_73 kM_0_35 rfl iM_0 (Or.inr ⟨rfl, rfl, rfl⟩) ?_
          refine ri_ild a_X7_weighAbove_21 rfl ?_
          refine ri_iaload a_X7_weighAbove_22 lM_22 rfl iM_22 (vp_in_nI (by omega) (by decide)) ?_
          refine ri_iaload a_X7_weighAbove_23 lM_21 rfl iM_21 iw ?_
          refine ri_iadd a_X7_weighAbove_24 ?_
          refine ri_ist (f := fun zx12 => [some (vo 0 0), some (vi zx12), some (vi (nI i))]) a_X7_weighAbove_25 (fun _ => rfl) (fun zx12 ezx12 => ?_)
          refine ri_iinc (c0 := 1) (f := fun zx13 => [some (vo 0 0), some (vi zx12), some (vi zx13)]) a_X7_weighAbove_26 rfl (by decide) (fun _ => rfl) (fun zx13 ezx13 => ?_)
          refine ri_goto a_X7_weighAbove_29 ?_
          rw [ezx13, nI_1]
          exact ih (i + 1) _ (by omega) (by omega) (by omega) (by omega) (by rw [ezx12, ew, hx, Nat.min_eq_left (by omega), wlS, if_neg (by omega)])
      · rw [Nat.min_eq_right (by omega)] at hx
        refine ri_ild a_X7_weighAbove_4 rfl ?_
        refine ri_ald a_X7_weighAbove_5 rfl ?_
        refine ri_getI a_X7_weighAbove_6 fl_X7_201 kM_0_36 rfl iM_0 ?_
        refine ri_icmp_ge a_X7_weighAbove_9 (fun zc1 => ?_) (fun zc1 => ?_)
        · refine ri_ild a_X7_weighAbove_32 rfl ?_
          refine ri_ireturn a_X7_weighAbove_33 rfl rfl ?_
          exact rI hx rfl
        · exact absurd (by rw [h36]; exact nI_le (by omega) (by omega)) zc1
  refine lr_ok (by decide +kernel) rfl ?_
  refine ri_ic a_X7_weighAbove_0 ?_
  refine ri_istk (ls' := [some (vo 0 0), some (vi 0), none]) a_X7_weighAbove_1 rfl ?_
  refine ri_ic a_X7_weighAbove_2 ?_
  refine ri_istk (ls' := [some (vo 0 0), some (vi 0), some (vi 1)]) a_X7_weighAbove_3 rfl ?_
  exact loop m 1 0 (by omega) (by omega) (by omega) (Or.inr rfl) (by
  rcases Nat.eq_zero_or_pos m with h | h
  · rw [h]; rfl
  · rw [Nat.min_eq_left (by omega)]; rfl)
theorem ok_X7_firstLoose {w : Wd} {d : Nat} {N : Mem} {m n : Nat} {L : List (List Op)} {V : Vw} {R : Nat → Nat} (ht : tbM L V n N) (hR : rwN N R m n) (hn8 : n ≤ 8) : lr_Ok tM sM w d jX7_firstLoose [vo 0 0] N (qI (wkV L V (N 4 0) R m) N) := by
  obtain ⟨h36, hm8, hR⟩ := hR
  have loop : ∀ i s j4, i ≤ m → wkS L V (N 4 0) R i s = wkS L V (N 4 0) R m (-1, 0) → lr_W tM sM w d jX7_firstLoose 11 [some (vo 0 0), some (vi s.2), some (vi s.1), some (vi (nI i - 1)), j4] [] N (qI (wkV L V (N 4 0) R m) N) := by
    intro i
    induction i with
    | zero =>
      intro s j4 hin hs
      refine ri_ild a_X7_firstLoose_11 rfl ?_
      refine ri_if_lt a_X7_firstLoose_12 (fun zc1 => ?_) (fun zc1 => ?_)
      · refine ri_ild a_X7_firstLoose_113 rfl ?_
        refine ri_ireturn a_X7_firstLoose_114 rfl rfl ?_
        exact rI (congrArg Prod.fst hs) rfl
      · exact absurd (by decide) zc1
    | succ i ih =>
      intro s j4 hin hs
      obtain ⟨hr, hrn⟩ := hR i (by omega)
      rw [nI_pred]
      have ei : N 22 0 (nI i).toNatClampNeg = nI (R i) := by rw [nI_clamp (by omega)]; exact hr
      have i8 : vp_in (nI i) 8 := vp_in_nI (by omega) (by decide)
      have ip : vp_in (8 * N 22 0 (nI i).toNatClampNeg + nI i) 64 := by rw [ei, nI_8a]; exact vp_in_nI (by omega) (by decide)
      have ec : N 20 0 (8 * N 22 0 (nI i).toNatClampNeg + nI i).toNatClampNeg = beaV L V (R i) (nI i) := by rw [ei, nI_8a, nI_clamp (by omega)]; exact ((ht _ hrn).2 i (by omega)).2
      have ew : N 21 0 (N 22 0 (nI i).toNatClampNeg).toNatClampNeg = weiV V (R i) := by rw [ei, nI_clamp (by omega)]; exact (ht _ hrn).1
      have iw : vp_in (N 22 0 (nI i).toNatClampNeg) 8 := by rw [ei]; exact vp_in_nI (by omega) (by decide)
      have hpos : 0 < i → N 22 0 (nI i - 1).toNatClampNeg = nI (R (i - 1)) := fun h => by
        obtain ⟨z, rfl⟩ : ∃ z, i = z + 1 := ⟨i - 1, by omega⟩
        rw [nI_pred, nI_clamp (by omega)]
        exact (hR z (by omega)).1
      have nxt : ∀ a j4, a = (wkT L V (N 4 0) R i s).1 → lr_W tM sM w d jX7_firstLoose 92 [some (vo 0 0), some (vi s.2), some (vi s.1), some (vi (nI i)), j4] [vi a] N (qI (wkV L V (N 4 0) R m) N) := by
        intro a j4 ha
        refine ri_istk (ls' := [some (vo 0 0), some (vi s.2), some (vi a), some (vi (nI i)), j4]) a_X7_firstLoose_92 rfl ?_
        refine ri_ild a_X7_firstLoose_93 rfl ?_
        refine ri_ald a_X7_firstLoose_94 rfl ?_
        refine ri_getR (t' := 21) (i' := 0) a_X7_firstLoose_95 fl_X7_70 kM_0_34 rfl iM_0 (Or.inr ⟨rfl, rfl, rfl⟩) ?_
        refine ri_ald a_X7_firstLoose_98 rfl ?_
        refine ri_getR (t' := 22) (i' := 0) a_X7_firstLoose_99 fl_X7_73 kM_0_35 rfl iM_0 (Or.inr ⟨rfl, rfl, rfl⟩) ?_
        refine ri_ild a_X7_firstLoose_102 rfl ?_
        refine ri_iaload a_X7_firstLoose_103 lM_22 rfl iM_22 i8 ?_
        refine ri_iaload a_X7_firstLoose_104 lM_21 rfl iM_21 iw ?_
        refine ri_iadd a_X7_firstLoose_105 ?_
        refine ri_ist (f := fun zx1 => [some (vo 0 0), some (vi zx1), some (vi a), some (vi (nI i)), j4]) a_X7_firstLoose_106 (fun _ => rfl) (fun zx1 ezx1 => ?_)
        refine ri_iinc (c0 := (-1)) (f := fun zx2 => [some (vo 0 0), some (vi zx1), some (vi a), some (vi zx2), j4]) a_X7_firstLoose_107 rfl (by decide) (fun _ => rfl) (fun zx2 ezx2 => ?_)
        refine ri_goto a_X7_firstLoose_110 ?_
        have := ih (wkT L V (N 4 0) R i s) j4 (by omega) hs
        rw [← ha] at this
        rw [ezx2, ezx1, ew, show nI i + (-1) = nI i - 1 from (Int32.sub_eq_add_neg _ _).symm]
        exact this
      refine ri_ild a_X7_firstLoose_11 rfl ?_
      refine ri_if_lt a_X7_firstLoose_12 (fun zc11 => ?_) (fun zc11 => ?_)
      · exact absurd zc11 (nI_pos (by omega))
      · refine ri_ald a_X7_firstLoose_15 rfl ?_
        refine ri_getR (t' := 20) (i' := 0) a_X7_firstLoose_16 fl_X7_67 kM_0_33 rfl iM_0 (Or.inr ⟨rfl, rfl, rfl⟩) ?_
        refine ri_ic a_X7_firstLoose_19 ?_
        refine ri_ald a_X7_firstLoose_21 rfl ?_
        refine ri_getR (t' := 22) (i' := 0) a_X7_firstLoose_22 fl_X7_73 kM_0_35 rfl iM_0 (Or.inr ⟨rfl, rfl, rfl⟩) ?_
        refine ri_ild a_X7_firstLoose_25 rfl ?_
        refine ri_iaload a_X7_firstLoose_26 lM_22 rfl iM_22 i8 ?_
        refine ri_imul a_X7_firstLoose_27 ?_
        refine ri_ild a_X7_firstLoose_28 rfl ?_
        refine ri_iadd a_X7_firstLoose_29 ?_
        refine ri_iaload a_X7_firstLoose_30 lM_20 rfl iM_20 ip ?_
        refine ri_ild a_X7_firstLoose_31 rfl ?_
        refine ri_icmp_ge a_X7_firstLoose_32 (fun zc12 => ?_) (fun zc12 => ?_)
        · refine ri_ic a_X7_firstLoose_39 ?_
          refine ri_istk (ls' := [some (vo 0 0), some (vi s.2), some (vi s.1), some (vi (nI i)), some (vi 0)]) a_X7_firstLoose_40 rfl ?_
          refine ri_ild a_X7_firstLoose_42 rfl ?_
          refine ri_if_le a_X7_firstLoose_43 (fun zc13 => ?_) (fun zc13 => ?_)
          · refine ri_ild a_X7_firstLoose_82 rfl ?_
            refine ri_if_eq a_X7_firstLoose_84 (fun _ => ?_) (fun q => absurd q (by decide))
            refine ri_ild a_X7_firstLoose_91 rfl ?_
            rw [ec] at zc12
            have h0 : ¬ 0 < i := fun h => nI_nle h (by omega) zc13
            exact nxt _ _ (by unfold wkT; rw [if_neg (fun q => q.elim (Int32.not_lt.mpr zc12) (fun q => h0 q.1))])
          · refine ri_ild a_X7_firstLoose_46 rfl ?_
            refine ri_ald a_X7_firstLoose_48 rfl ?_
            refine ri_getR (t' := 4) (i' := 0) a_X7_firstLoose_49 fl_X7_19 kM_0_4 rfl iM_0 (Or.inr ⟨rfl, rfl, rfl⟩) ?_
            refine ri_ald a_X7_firstLoose_52 rfl ?_
            refine ri_getR (t' := 22) (i' := 0) a_X7_firstLoose_53 fl_X7_73 kM_0_35 rfl iM_0 (Or.inr ⟨rfl, rfl, rfl⟩) ?_
            refine ri_ild a_X7_firstLoose_56 rfl ?_
            refine ri_iaload a_X7_firstLoose_57 lM_22 rfl iM_22 i8 ?_
            refine ri_iaload a_X7_firstLoose_58 lM_4 rfl iM_4 iw ?_
            refine ri_ald a_X7_firstLoose_59 rfl ?_
            refine ri_getR (t' := 22) (i' := 0) a_X7_firstLoose_60 fl_X7_73 kM_0_35 rfl iM_0 (Or.inr ⟨rfl, rfl, rfl⟩) ?_
            refine ri_ild a_X7_firstLoose_63 rfl ?_
            refine ri_ic a_X7_firstLoose_64 ?_
            refine ri_isub a_X7_firstLoose_65 ?_
            refine ri_iaload a_X7_firstLoose_66 lM_22 rfl iM_22 ?_ ?_
            · have h0 : 0 < i := Nat.pos_of_ne_zero (fun h => absurd (show nI i ≤ 0 by rw [h]; decide) (by assumption))
              obtain ⟨z, rfl⟩ : ∃ z, i = z + 1 := ⟨i - 1, by omega⟩
              rw [nI_pred]
              exact vp_in_nI (by omega) (by decide)
            refine ri_ishr a_X7_firstLoose_67 ?_
            refine ri_ic a_X7_firstLoose_68 ?_
            refine ri_iand a_X7_firstLoose_69 ?_
            refine ri_ic a_X7_firstLoose_70 ?_
            refine ri_icmp_ne a_X7_firstLoose_71 (fun zc14 => ?_) (fun zc14 => ?_)
            · refine ri_ic a_X7_firstLoose_78 ?_
              refine ri_ior a_X7_firstLoose_79 ?_
              refine ri_ist (f := fun zx15 => [some (vo 0 0), some (vi s.2), some (vi s.1), some (vi (nI i)), some (vi zx15)]) a_X7_firstLoose_80 (fun _ => rfl) (fun zx15 ezx15 => ?_)
              refine ri_ild a_X7_firstLoose_82 rfl ?_
              refine ri_if_eq a_X7_firstLoose_84 (fun zc16 => ?_) (fun zc16 => ?_)
              · refine ri_ild a_X7_firstLoose_91 rfl ?_
                rw [ec] at zc12
                have h0 : 0 < i := Nat.pos_of_ne_zero (fun h => zc13 (by rw [h]; decide))
                rw [ei, nI_clamp (by omega), hpos h0, and1n] at zc14
                exact nxt _ _ (by unfold wkT; rw [if_neg (fun q => q.elim (Int32.not_lt.mpr zc12) (fun q => zc14 q.2))])
              · refine ri_ild a_X7_firstLoose_87 rfl ?_
                refine ri_goto a_X7_firstLoose_88 ?_
                exact absurd (by rw [ezx15]; decide) zc16
            · refine ri_ic a_X7_firstLoose_74 ?_
              refine ri_goto a_X7_firstLoose_75 ?_
              refine ri_ior a_X7_firstLoose_79 ?_
              refine ri_ist (f := fun zx17 => [some (vo 0 0), some (vi s.2), some (vi s.1), some (vi (nI i)), some (vi zx17)]) a_X7_firstLoose_80 (fun _ => rfl) (fun zx17 ezx17 => ?_)
              refine ri_ild a_X7_firstLoose_82 rfl ?_
              refine ri_if_eq a_X7_firstLoose_84 (fun zc18 => ?_) (fun zc18 => ?_)
              · refine ri_ild a_X7_firstLoose_91 rfl ?_
                exact absurd (ezx17.symm.trans zc18) (by decide)
              · refine ri_ild a_X7_firstLoose_87 rfl ?_
                refine ri_goto a_X7_firstLoose_88 ?_
                have h0 : 0 < i := Nat.pos_of_ne_zero (fun h => zc13 (by rw [h]; decide))
                rw [ei, nI_clamp (by omega), hpos h0, and1n] at zc14
                exact nxt _ _ (by unfold wkT; rw [if_pos (Or.inr ⟨h0, zc14⟩)])
        · refine ri_ic a_X7_firstLoose_35 ?_
          refine ri_goto a_X7_firstLoose_36 ?_
          refine ri_istk (ls' := [some (vo 0 0), some (vi s.2), some (vi s.1), some (vi (nI i)), some (vi 1)]) a_X7_firstLoose_40 rfl ?_
          refine ri_ild a_X7_firstLoose_42 rfl ?_
          refine ri_if_le a_X7_firstLoose_43 (fun zc19 => ?_) (fun zc19 => ?_)
          · refine ri_ild a_X7_firstLoose_82 rfl ?_
            refine ri_if_eq a_X7_firstLoose_84 (fun q => absurd q (by decide)) (fun _ => ?_)
            refine ri_ild a_X7_firstLoose_87 rfl ?_
            refine ri_goto a_X7_firstLoose_88 ?_
            rw [ec] at zc12
            exact nxt _ _ (by unfold wkT; rw [if_pos (Or.inl (Int32.not_le.mp zc12))])
          · refine ri_ild a_X7_firstLoose_46 rfl ?_
            refine ri_ald a_X7_firstLoose_48 rfl ?_
            refine ri_getR (t' := 4) (i' := 0) a_X7_firstLoose_49 fl_X7_19 kM_0_4 rfl iM_0 (Or.inr ⟨rfl, rfl, rfl⟩) ?_
            refine ri_ald a_X7_firstLoose_52 rfl ?_
            refine ri_getR (t' := 22) (i' := 0) a_X7_firstLoose_53 fl_X7_73 kM_0_35 rfl iM_0 (Or.inr ⟨rfl, rfl, rfl⟩) ?_
            refine ri_ild a_X7_firstLoose_56 rfl ?_
            refine ri_iaload a_X7_firstLoose_57 lM_22 rfl iM_22 i8 ?_
            refine ri_iaload a_X7_firstLoose_58 lM_4 rfl iM_4 iw ?_
            refine ri_ald a_X7_firstLoose_59 rfl ?_
            refine ri_getR (t' := 22) (i' := 0) a_X7_firstLoose_60 fl_X7_73 kM_0_35 rfl iM_0 (Or.inr ⟨rfl, rfl, rfl⟩) ?_
            refine ri_ild a_X7_firstLoose_63 rfl ?_
            refine ri_ic a_X7_firstLoose_64 ?_
            refine ri_isub a_X7_firstLoose_65 ?_
            refine ri_iaload a_X7_firstLoose_66 lM_22 rfl iM_22 ?_ ?_
            · have h0 : 0 < i := Nat.pos_of_ne_zero (fun h => absurd (show nI i ≤ 0 by rw [h]; decide) (by assumption))
              obtain ⟨z, rfl⟩ : ∃ z, i = z + 1 := ⟨i - 1, by omega⟩
              rw [nI_pred]
              exact vp_in_nI (by omega) (by decide)
            refine ri_ishr a_X7_firstLoose_67 ?_
            refine ri_ic a_X7_firstLoose_68 ?_
            refine ri_iand a_X7_firstLoose_69 ?_
            refine ri_ic a_X7_firstLoose_70 ?_
            refine ri_icmp_ne a_X7_firstLoose_71 (fun zc20 => ?_) (fun zc20 => ?_)
            · refine ri_ic a_X7_firstLoose_78 ?_
              refine ri_ior a_X7_firstLoose_79 ?_
              refine ri_ist (f := fun zx21 => [some (vo 0 0), some (vi s.2), some (vi s.1), some (vi (nI i)), some (vi zx21)]) a_X7_firstLoose_80 (fun _ => rfl) (fun zx21 ezx21 => ?_)
              refine ri_ild a_X7_firstLoose_82 rfl ?_
              refine ri_if_eq a_X7_firstLoose_84 (fun zc22 => ?_) (fun zc22 => ?_)
              · refine ri_ild a_X7_firstLoose_91 rfl ?_
                exact absurd (ezx21.symm.trans zc22) (by decide)
              · refine ri_ild a_X7_firstLoose_87 rfl ?_
                refine ri_goto a_X7_firstLoose_88 ?_
                rw [ec] at zc12
                exact nxt _ _ (by unfold wkT; rw [if_pos (Or.inl (Int32.not_le.mp zc12))])
            · refine ri_ic a_X7_firstLoose_74 ?_
              refine ri_goto a_X7_firstLoose_75 ?_
              refine ri_ior a_X7_firstLoose_79 ?_
              refine ri_ist (f := fun zx23 => [some (vo 0 0), some (vi s.2), some (vi s.1), some (vi (nI i)), some (vi zx23)]) a_X7_firstLoose_80 (fun _ => rfl) (fun zx23 ezx23 => ?_)
              refine ri_ild a_X7_firstLoose_82 rfl ?_
              refine ri_if_eq a_X7_firstLoose_84 (fun zc24 => ?_) (fun zc24 => ?_)
              · refine ri_ild a_X7_firstLoose_91 rfl ?_
                exact absurd (ezx23.symm.trans zc24) (by decide)
              · refine ri_ild a_X7_firstLoose_87 rfl ?_
                refine ri_goto a_X7_firstLoose_88 ?_
                rw [ec] at zc12
                exact nxt _ _ (by unfold wkT; rw [if_pos (Or.inl (Int32.not_le.mp zc12))])
  refine lr_ok (by decide +kernel) rfl ?_
  refine ri_ic a_X7_firstLoose_0 ?_
  refine ri_istk (ls' := [some (vo 0 0), some (vi 0), none, none, none]) a_X7_firstLoose_1 rfl ?_
  refine ri_ic a_X7_firstLoose_2 ?_
  refine ri_istk (ls' := [some (vo 0 0), some (vi 0), some (vi (-1)), none, none]) a_X7_firstLoose_3 rfl ?_
  refine ri_ald a_X7_firstLoose_4 rfl ?_
  refine ri_getI a_X7_firstLoose_5 fl_X7_201 kM_0_36 rfl iM_0 ?_
  refine ri_ic a_X7_firstLoose_8 ?_
  refine ri_isub a_X7_firstLoose_9 ?_
  refine ri_ist (f := fun zx1 => [some (vo 0 0), some (vi 0), some (vi (-1)), some (vi zx1), none]) a_X7_firstLoose_10 (fun _ => rfl) (fun zx1 ezx1 => ?_)
  rw [ezx1, h36]; exact loop m (-1, 0) _ (by omega) rfl
theorem ok_X7_toldOf {w : Wd} {d : Nat} (hd : 1 ≤ d) {N : Mem} {m n : Nat} {L : List (List Op)} {V : Vw} {R : Nat → Nat} (ht : tbM L V n N) (hR : rwN N R m n) (hn8 : n ≤ 8) (x : Int32) : lr_Ok tM sM w d jX7_toldOf [vo 0 0, vi x] N (qI (meaV L V (N 4 0) R m x) N) := by
  refine lr_ok (by decide +kernel) rfl ?_
  refine ri_ild a_X7_toldOf_0 rfl ?_
  refine ri_if_ne a_X7_toldOf_1 (fun zc1 => ?_) (fun zc1 => ?_)
  · refine ri_ild a_X7_toldOf_11 rfl ?_
    refine ri_ic a_X7_toldOf_12 ?_
    refine ri_icmp_ne a_X7_toldOf_13 (fun zc2 => ?_) (fun zc2 => ?_)
    · refine ri_ald a_X7_toldOf_23 rfl ?_
      refine ri_cVpi (as := []) (rest := []) (d' := d - 1) a_X7_toldOf_24 mv_X7_weighAbove ml_X7_210 (rcM_0 iM_0) (by omega) (ok_X7_weighAbove ht hR hn8) (Nat.le_of_ble_eq_true rfl) rfl (fun zy3 ezy3 => ?_)
      refine ri_ireturn a_X7_toldOf_27 rfl rfl ?_
      exact rI (by unfold meaV; simp only [*, if_true, if_false]; try rw [if_neg (by decide)]) rfl
    · refine ri_ald a_X7_toldOf_16 rfl ?_
      refine ri_cVpi (as := []) (rest := []) (d' := d - 1) a_X7_toldOf_17 mv_X7_firstLoose ml_X7_207 (rcM_0 iM_0) (by omega) (ok_X7_firstLoose ht hR hn8) (Nat.le_of_ble_eq_true rfl) rfl (fun zy4 ezy4 => ?_)
      refine ri_goto a_X7_toldOf_20 ?_
      refine ri_ireturn a_X7_toldOf_27 rfl rfl ?_
      exact rI (by unfold meaV; simp only [*, if_true, if_false]; try rw [if_neg (by decide)]) rfl
  · refine ri_ald a_X7_toldOf_4 rfl ?_
    refine ri_cVpi (as := []) (rest := []) (d' := d - 1) a_X7_toldOf_5 mv_X7_highOf ml_X7_204 (rcM_0 iM_0) (by omega) (ok_X7_highOf ht hR hn8) (Nat.le_of_ble_eq_true rfl) rfl (fun zy5 ezy5 => ?_)
    refine ri_goto a_X7_toldOf_8 ?_
    refine ri_ireturn a_X7_toldOf_27 rfl rfl ?_
    exact rI (by unfold meaV; simp only [*, if_true, if_false]; try rw [if_neg (by decide)]) rfl
theorem ok_X7_doesReach {w : Wd} {d : Nat} (hd : 1 ≤ d) {N : Mem} {m n : Nat} {L : List (List Op)} {V : Vw} {R : Nat → Nat} (ht : tbM L V n N) (hR : rwN N R m n) (hn8 : n ≤ 8) (win : Int32) : lr_Ok tM sM w d jX7_doesReach [vo 0 0, vi win] N (qB (win ≤ hiS L V R m ∧ wkV L V (N 4 0) R m = -1) N) := by
  refine lr_ok (by decide +kernel) rfl ?_
  refine ri_ald a_X7_doesReach_0 rfl ?_
  refine ri_cVpi (as := []) (rest := []) (d' := d - 1) a_X7_doesReach_1 mv_X7_highOf ml_X7_204 (rcM_0 iM_0) (by omega) (ok_X7_highOf ht hR hn8) (Nat.le_of_ble_eq_true rfl) rfl (fun zy1 ezy1 => ?_)
  refine ri_ild a_X7_doesReach_4 rfl ?_
  refine ri_icmp_lt a_X7_doesReach_5 (fun zc2 => ?_) (fun zc2 => ?_)
  · refine ri_ic a_X7_doesReach_20 ?_
    refine ri_ireturn a_X7_doesReach_21 rfl (by decide) ?_
    exact rB0 (fun q => Int32.not_le.mpr (ezy1 ▸ zc2) q.1)
  · refine ri_ald a_X7_doesReach_8 rfl ?_
    refine ri_cVpi (as := []) (rest := []) (d' := d - 1) a_X7_doesReach_9 mv_X7_firstLoose ml_X7_207 (rcM_0 iM_0) (by omega) (ok_X7_firstLoose ht hR hn8) (Nat.le_of_ble_eq_true rfl) rfl (fun zy3 ezy3 => ?_)
    refine ri_ic a_X7_doesReach_12 ?_
    refine ri_icmp_ne a_X7_doesReach_13 (fun zc4 => ?_) (fun zc4 => ?_)
    · refine ri_ic a_X7_doesReach_20 ?_
      refine ri_ireturn a_X7_doesReach_21 rfl (by decide) ?_
      exact rB0 (fun q => zc4 (ezy3.trans q.2))
    · refine ri_ic a_X7_doesReach_16 ?_
      refine ri_goto a_X7_doesReach_17 ?_
      refine ri_ireturn a_X7_doesReach_21 rfl (by decide) ?_
      exact rB1 ⟨Int32.not_lt.mp (ezy1 ▸ zc2), ezy3.symm.trans zc4⟩
def frRw (N N' : Mem) : Prop := ∀ t i k, ¬ (t = 22 ∧ i = 0) → ¬ (t = 0 ∧ i = 0 ∧ k = 36) → N' t i k = N t i k
theorem frRw_N {N N' : Mem} (h : frRw N N') : frN N N' := fun t i k a b => h t i k (fun q => by omega) (fun q => b ⟨q.1, by omega⟩)
theorem frRw_tb {N N' : Mem} (h : frRw N N') {L : List (List Op)} {V : Vw} {n : Nat} (ht : tbM L V n N) : tbM L V n N' := fun p hp => ⟨by rw [h 21 0 p (by omega) (by omega)]; exact (ht p hp).1, fun r hr => ⟨by rw [h 19 0 _ (by omega) (by omega)]; exact ((ht p hp).2 r hr).1, by rw [h 20 0 _ (by omega) (by omega)]; exact ((ht p hp).2 r hr).2⟩⟩
/-- the order, as the reference keeps it -/
def orN (N : Mem) (O : Nat → Nat) (k n : Nat) : Prop := N 0 0 6 = nI k ∧ k ≤ 8 ∧ ∀ i, i < k → N 5 0 i = nI (O i) ∧ O i < n
theorem ok_X7_rowSaved {w : Wd} {d : Nat} {N : Mem} {k n : Nat} {O : Nat → Nat} (hO : orN N O k n) (hn8 : n ≤ 8) : lr_Ok tM sM w d jX7_rowSaved [vo 0 0] N (qV fun N' => frRw N N' ∧ rwN N' O k n) := by
  obtain ⟨h6, hk8, hO⟩ := hO
  have loop : ∀ r i N1, k = i + r → frRw N N1 → N1 0 0 36 = nI k → (∀ j, j < i → N1 22 0 j = nI (O j)) → lr_W tM sM w d jX7_rowSaved 10 [some (vo 0 0), some (vi (nI i))] [] N1 (qV fun N' => frRw N N' ∧ rwN N' O k n) := by
    intro r
    induction r with
    | zero =>
      intro i N1 hi hf h36 hrow
      have : k = i := hi
      subst this
      have e6 : N1 0 0 6 = nI k := by rw [hf 0 0 6 (by omega) (by omega)]; exact h6
      refine ri_ild a_X7_rowSaved_10 rfl ?_
      refine ri_ald a_X7_rowSaved_11 rfl ?_
      refine ri_getI a_X7_rowSaved_12 fl_X7_100 kM_0_6 rfl iM_0 ?_
      refine ri_icmp_ge a_X7_rowSaved_15 (fun zc1 => ?_) (fun zc1 => ?_)
      · refine ri_return a_X7_rowSaved_36 rfl ?_
        exact rV ⟨hf, h36, hk8, fun j hj => ⟨hrow j hj, (hO j hj).2⟩⟩
      · exact absurd (by rw [e6]; exact Int32.le_refl _) zc1
    | succ r ih =>
      intro i N1 hi hf h36 hrow
      have e6 : N1 0 0 6 = nI k := by rw [hf 0 0 6 (by omega) (by omega)]; exact h6
      have e5 : N1 5 0 i = nI (O i) := by rw [hf 5 0 i (by omega) (by omega)]; exact (hO i (by omega)).1
      refine ri_ild a_X7_rowSaved_10 rfl ?_
      refine ri_ald a_X7_rowSaved_11 rfl ?_
      refine ri_getI a_X7_rowSaved_12 fl_X7_100 kM_0_6 rfl iM_0 ?_
      refine ri_icmp_ge a_X7_rowSaved_15 (fun zc11 => ?_) (fun zc11 => ?_)
      · exact absurd zc11 (by rw [e6]; exact nI_ge (by omega) (by omega))
      · refine ri_ald a_X7_rowSaved_18 rfl ?_
        refine ri_getR (t' := 22) (i' := 0) a_X7_rowSaved_19 fl_X7_73 kM_0_35 rfl iM_0 (Or.inr ⟨rfl, rfl, rfl⟩) ?_
        refine ri_ild a_X7_rowSaved_22 rfl ?_
        refine ri_ald a_X7_rowSaved_23 rfl ?_
        refine ri_getR (t' := 5) (i' := 0) a_X7_rowSaved_24 fl_X7_22 kM_0_5 rfl iM_0 (Or.inr ⟨rfl, rfl, rfl⟩) ?_
        refine ri_ild a_X7_rowSaved_27 rfl ?_
        refine ri_iaload a_X7_rowSaved_28 lM_5 rfl iM_5 (vp_in_nI (by omega) (by decide)) ?_
        refine ri_iastore a_X7_rowSaved_29 lM_22 rfl iM_22 (vp_in_nI (by omega) (by decide)) (fun zM12 ezM12 => ?_)
        refine ri_iinc (c0 := 1) (f := fun zx13 => [some (vo 0 0), some (vi zx13)]) a_X7_rowSaved_30 rfl (by decide) (fun _ => rfl) (fun zx13 ezx13 => ?_)
        refine ri_goto a_X7_rowSaved_33 ?_
        rw [nI_clamp (by omega), e5] at ezM12
        rw [ezx13, nI_1]
        refine ih (i + 1) zM12 (by omega) (fun t a b c e => ?_) ?_ (fun j hj => ?_)
        · rw [ezM12, up_apply, if_neg (fun q => by omega)]; exact hf t a b c e
        · rw [ezM12, up_apply, if_neg (by omega)]; exact h36
        · rw [ezM12, up_apply]
          by_cases e : j = i
          · rw [if_pos ⟨rfl, rfl, e⟩, e]
          · rw [if_neg (fun q => e q.2.2)]; exact hrow j (by omega)
  refine lr_ok (by decide +kernel) rfl ?_
  refine ri_ald a_X7_rowSaved_0 rfl ?_
  refine ri_ald a_X7_rowSaved_1 rfl ?_
  refine ri_getI a_X7_rowSaved_2 fl_X7_100 kM_0_6 rfl iM_0 ?_
  refine ri_putI a_X7_rowSaved_5 fp_X7_201 kM_0_36 rfl iM_0 (fun zM1 ezM1 => ?_)
  refine ri_ic a_X7_rowSaved_8 ?_
  refine ri_istk (ls' := [some (vo 0 0), some (vi 0)]) a_X7_rowSaved_9 rfl ?_
  rw [h6] at ezM1
  refine loop k 0 zM1 (by omega) (fun t a b c e => ?_) ?_ (fun j hj => absurd hj (Nat.not_lt_zero _))
  · rw [ezM1, up_apply, if_neg (fun q => by omega)]
  · rw [ezM1, up_same]
theorem orN_N {N N' : Mem} (h : frN N N') {O : Nat → Nat} {k n : Nat} (hO : orN N O k n) : orN N' O k n := ⟨by rw [h 0 0 6 (by decide) (by omega)]; exact hO.1, hO.2.1, fun i hi => by rw [h 5 0 i (by decide) (by omega)]; exact hO.2.2 i hi⟩
/-- tables and the saved ones' row -/
theorem tbRow {N N1 N2 : Mem} {L : List (List Op)} {n : Nat} (h1 : frTb N N1 ∧ tbM L (vwM N) n N1) (h2 : frRw N1 N2) : frN N N2 ∧ tbM L (vwM N) n N2 ∧ N2 4 0 = N 4 0 := ⟨frN_tr (frTb_N h1.1) (frRw_N h2), frRw_tb h2 h1.2, by rw [frN_t (frRw_N h2) (t := 4) (by decide) (by decide), frN_t (frTb_N h1.1) (t := 4) (by decide) (by decide)]⟩
theorem ok_X7_ladder {w : Wd} {d : Nat} (hd : 5 ≤ d) {N : Mem} {n k : Nat} {L : List (List Op)} {O : Nat → Nat} (hL : lawN N L) (hn : N 0 0 0 = nI n) (hn8 : n ≤ 8) (hO : orN N O k n) (x : Int32) : lr_Ok tM sM w d jX7_ladder [vo 0 0, vi x] N (qX fun r N' => frN N N' ∧ r = if 0 ≤ x ∧ x ≤ 2 then meaV L (vwM N) (N 4 0) O k x else -2) := by
  refine lr_ok (by decide +kernel) rfl ?_
  refine ri_ild a_X7_ladder_0 rfl ?_
  refine ri_ic a_X7_ladder_1 ?_
  refine ri_ic a_X7_ladder_2 ?_
  refine ri_cSpb (as := [vi x, vi 0, vi 2]) (rest := []) (d' := d - 1) a_X7_ladder_3 ms_X7_in ml_X7_96 (by omega) (ok_X7_in x 0 2) (Nat.le_of_ble_eq_true rfl) rfl (fun zc1 => ?_) (fun zc1 => ?_)
  · refine ri_if_ne a_X7_ladder_6 (fun _ => ?_) (fun q => absurd q (by decide))
    refine ri_ald a_X7_ladder_12 rfl ?_
    refine ri_cVxv (as := []) (rest := []) (d' := d - 1) a_X7_ladder_13 mv_X7_tellsAll ml_X7_213 (rcM_0 iM_0) (by omega) (ok_X7_tellsAll (by omega) hL hn hn8) (Nat.le_of_ble_eq_true rfl) rfl (fun zM2 hzM2 => ?_)
    refine ri_ald a_X7_ladder_16 rfl ?_
    refine ri_cVxv (as := []) (rest := []) (d' := d - 1) a_X7_ladder_17 mv_X7_rowSaved ml_X7_216 (rcM_0 iM_0) (by omega) (ok_X7_rowSaved (orN_N (frTb_N hzM2.1) hO) hn8) (Nat.le_of_ble_eq_true rfl) rfl (fun zM3 hzM3 => ?_)
    obtain ⟨g1, g2, g3⟩ := tbRow hzM2 hzM3.1
    refine ri_ald a_X7_ladder_20 rfl ?_
    refine ri_ild a_X7_ladder_21 rfl ?_
    refine ri_cVpi (as := [vi x]) (rest := []) (d' := d - 1) a_X7_ladder_22 mv_X7_toldOf ml_X7_219 (rcM_0 iM_0) (by omega) (ok_X7_toldOf (by omega) g2 hzM3.2 hn8 x) (Nat.le_of_ble_eq_true rfl) rfl (fun zy11 ezy11 => ?_)
    refine ri_ireturn a_X7_ladder_25 rfl rfl ?_
    exact rX ⟨g1, by rw [if_pos zc1, ezy11, g3]⟩
  · refine ri_if_ne a_X7_ladder_6 (fun q => absurd q (by decide)) (fun _ => ?_)
    refine ri_ic a_X7_ladder_9 ?_
    refine ri_ireturn a_X7_ladder_11 rfl rfl ?_
    exact rX ⟨frN_rf, by rw [if_neg zc1]⟩

