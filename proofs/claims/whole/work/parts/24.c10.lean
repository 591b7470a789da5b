/-! class: Reader's levels -/
theorem fl_bad2 {t n p : Nat} {M : Mem} (hn : n ≤ 160) (h : bR t n M p) : fl M = M := by
  have hne : ¬ M 12 0 6 = -1 := by rw [h.2.1]; exact nI_m1n (by have := h.2.2.1; omega)
  unfold fl
  rw [if_neg hne]
  funext t' i k
  rw [up_apply]
  split
  · rename_i q
    obtain ⟨rfl, rfl, rfl⟩ := q
    exact h.2.2.2.1.symm
  · rfl
/-- at the end of a run that goes on: what was read first, then what follows -/
theorem pst_app {t n z : Nat} {M M1 M2 : Mem} {s : PS} {acc o2 : List Op} {x : Int32} {op : Op} (h0 : frP t M M1) (h1 : ∀ k, k < z → M1 9 t k = M 9 t k) (h2 : ∀ k o, acc[k]? = some o → M1 9 t (z + k) = encC o)
    (g0 : frP t M1 M2) (g1 : ∀ k, k < z + acc.length → M2 9 t k = M1 9 t k) (g2 : ∀ k o, o2[k]? = some o → M2 9 t (z + acc.length + k) = encC o) (hg : gR t n M2 s (z + acc.length + o2.length)) (hz : z + acc.length + o2.length < 160) (hz2 : z + acc.length + o2.length + 1 ≤ s.2.2) (hx : x = encC op) :
    frP t M (app M2 t (z + acc.length + o2.length) x) ∧ gR t n (app M2 t (z + acc.length + o2.length) x) s (z + (acc ++ o2 ++ [op]).length) ∧ (∀ k, k < z → app M2 t (z + acc.length + o2.length) x 9 t k = M 9 t k) ∧ ∀ k o, (acc ++ o2 ++ [op])[k]? = some o → app M2 t (z + acc.length + o2.length) x 9 t (z + k) = encC o := by
  obtain ⟨a1, a2, a3⟩ := app_good hg hz hz2 (x := x)
  have hlen : z + (acc ++ o2 ++ [op]).length = z + acc.length + o2.length + 1 := by simp; omega
  refine ⟨frP_tr (frP_tr h0 g0) app_frP, by rw [hlen]; exact a1, fun k hk => by rw [a2 k (by omega), g1 k (by omega), h1 k hk], fun k o hk => ?_⟩
  rw [List.getElem?_append] at hk
  split at hk
  · rename_i hlt
    simp only [List.length_append] at hlt
    rw [List.getElem?_append] at hk
    split at hk
    · rename_i hlt2
      rw [a2 _ (by omega), g1 _ (by omega)]
      exact h2 k o hk
    · rename_i hlt2
      rw [a2 _ (by omega)]
      have := g2 (k - acc.length) o hk
      rwa [show z + acc.length + (k - acc.length) = z + k by omega] at this
  · rename_i hlt
    simp only [List.length_append] at hlt hk
    have hk0 : k - (acc.length + o2.length) = 0 := by
      cases hq : k - (acc.length + o2.length) with
      | zero => rfl
      | succ m => rw [hq] at hk; simp at hk
    rw [hk0] at hk
    simp at hk
    subst hk
    rw [show z + k = z + acc.length + o2.length by omega, a3, hx]
/-- a level that reads well, and stays where it is behind a fault -/
def LvG (w : Wd) (t n d b : Nat) (j : MI) (tp : Nat → Int32) (sub : PS → PR) : Prop := ∀ (d' : Nat) (M : Mem) (s : PS) (z : Nat) (a : Int32), a = nI (5 - b) → d ≤ d' → M 13 0 = tp → gR t n M s z → z ≤ s.2.1 → lr_Ok tC sC w d' j [vo 12 0, vi a] M (qV (pst t n M z (sub s)))
def LvB (w : Wd) (t n d b : Nat) (j : MI) : Prop := ∀ (d' : Nat) (M : Mem) (p : Nat) (a : Int32), a = nI (5 - b) → d ≤ d' → bR t n M p → lr_Ok tC sC w d' j [vo 12 0, vi a] M (qV fun M' => frP t M M' ∧ bR t n M' p)

theorem lr_Wimp {T : Tb} {S : Nat → Bool} {w : Wd} {d : Nat} {j : MI} {pc : Nat} {ls : List (Option AV)} {st : List AV} {M : Mem} {Q Q' : RP} (h : lr_W T S w d j pc ls st M Q) (hq : ∀ r M', Q r M' → Q' r M') : lr_W T S w d j pc ls st M Q' := by
  intro p e s m args below meth c H locs A X hP hS hL T0 hT0 X0
  obtain ⟨t, a1, o, b1, b2, ⟨⟨r, M', c1, c2, c3⟩, hF⟩, L⟩ := h p e s m args below meth c H locs A X hP hS hL T0 hT0 X0
  exact ⟨t, a1, o, b1, b2, ⟨⟨r, M', c1, hq r M' c2, c3⟩, hF⟩, L⟩


theorem lv_either {w : Wd} {t n D b : Nat} {tp : Nat → Int32} {sub : PS → PR} (ht : t < 6) (hn : n ≤ 160) (hD : 7 ≤ D) (hG : LvG w t n D b jX2_both tp sub) (hB : LvB w t n D b jX2_both) (hgd : ∃ e, Gd n e sub) : LvG w t n (D + 1) b jX2_either tp (pB tp n oOr sub) ∧ LvB w t n (D + 1) b jX2_either := by
  obtain ⟨dp, hgd⟩ := hgd
  have loopB : ∀ (d : Nat) (M M1 : Mem) (p i : Nat) , D + 1 ≤ d → i ≤ 160 → frP t M M1 → bR t n M1 p → lr_W tC sC w d jX2_either 7 [some (vo 12 0), some (vi (nI (5 - b))), some (vi (nI i))] [] M1 (qV fun M' => frP t M M' ∧ bR t n M' p) := by
    intro d M M1 p i  hd hi hf hb
    have h3 := hb.2.2.2.1
    refine ri_ild a_X2_either_7 rfl ?_
    refine ri_ic a_X2_either_8 ?_
    refine ri_icmp_ge a_X2_either_11 (fun zc11 => ?_) (fun zc11 => ?_)
    · refine ri_return a_X2_either_47 rfl ?_
      exact rV ⟨hf, hb⟩
    · refine ri_ald a_X2_either_14 rfl ?_
      refine ri_getI a_X2_either_15 fl_X2_24 kC_12_3 rfl iC_12 ?_
      refine ri_ic a_X2_either_18 ?_
      refine ri_icmp_ne a_X2_either_20 (fun zc12 => ?_) (fun zc12 => ?_)
      · refine ri_return a_X2_either_47 rfl ?_
        exact rV ⟨hf, hb⟩
      · exact absurd (h3.symm.trans zc12) (by decide)
  constructor
  · intro d M s z _ rfl hd htp hg hz
    have htp0 := htp
    have loopG : ∀ L i (x : PS) (acc : List Op) M1 , i + L = 160 → frP t M M1 → gR t n M1 x (z + acc.length) → z + acc.length ≤ x.2.1 → (∀ k, k < z → M1 9 t k = M 9 t k) → (∀ k o, acc[k]? = some o → M1 9 t (z + k) = encC o) →
        lr_W tC sC w d jX2_either 7 [some (vo 12 0), some (vi (nI (5 - b))), some (vi (nI i))] [] M1 (qV (pst t n M z (pL tp n oOr sub L x acc))) := by
      intro L
      induction L with
      | zero =>
        intro i x acc M1  hiL hf hgx hzx hp ha
        have hi160 : i = 160 := by omega
        subst hi160
        refine ri_ild a_X2_either_7 rfl ?_
        refine ri_ic a_X2_either_8 ?_
        refine ri_icmp_ge a_X2_either_11 (fun zc11 => ?_) (fun zc11 => ?_)
        · refine ri_return a_X2_either_47 rfl ?_
          exact rV ⟨hf, hgx, hzx, hp, ha⟩
        · exact absurd (Int32.le_refl _) zc11
      | succ L ih =>
        intro i x acc M1  hiL hf hgx hzx hp ha
        have htok : M1 12 0 3 = tkc x.1 := hgx.2.2.1.2.1
        have htp1 : M1 13 0 = tp := (frP_tp hf).trans htp
        have hi160 : ¬ (160 : Int32) ≤ nI i := by rw [show (160 : Int32) = nI 160 from rfl, nI_leI (by omega) (by omega)]; omega
        rw [pL]
        cases hiso : oOr x.1 with
        | none =>
          have hne : ¬ tkc x.1 = 7 := by
            intro q
            rw [show (7 : Int32) = tkc (3, 3) from rfl, tkc_is hgx.2.2.2.2.1 (by decide)] at q
            rw [q] at hiso
            exact absurd hiso (by decide)
          refine ri_ild a_X2_either_7 rfl ?_
          refine ri_ic a_X2_either_8 ?_
          refine ri_icmp_ge a_X2_either_11 (fun zc11 => ?_) (fun zc11 => ?_)
          · refine ri_return a_X2_either_47 rfl ?_
            exact absurd zc11 hi160
          · refine ri_ald a_X2_either_14 rfl ?_
            refine ri_getI a_X2_either_15 fl_X2_24 kC_12_3 rfl iC_12 ?_
            refine ri_ic a_X2_either_18 ?_
            refine ri_icmp_ne a_X2_either_20 (fun zc12 => ?_) (fun zc12 => ?_)
            · refine ri_return a_X2_either_47 rfl ?_
              exact rV ⟨hf, hgx, hzx, hp, ha⟩
            · exact absurd (htok.symm.trans zc12) hne
        | some op =>
          dsimp only
          have ht1 : x.1 = (3, 3) := by
            unfold oOr at hiso
            split at hiso
            · assumption
            · cases hiso
          have hop : op = (3, 0) := by
            rw [ht1] at hiso
            cases hiso
            rfl
          have htk : tkc x.1 = 7 := by rw [ht1]; rfl
          have hxl := hgx.2.2.2.1.2.2.2 (by rw [ht1]; decide)
          have hxn := hgx.2.2.2.1.2.1
          -- behind the sign
          have tail : ∀ (_ : True), lr_W tC sC w d jX2_either 23 [some (vo 12 0), some (vi (nI (5 - b))), some (vi (nI i))] [] M1 (qV (pst t n M z (match sub (pnx tp n x) with
            | .inl p => .inl p
            | .inr y => pL tp n oOr sub L y.1 (acc ++ y.2 ++ [op])))) := by
            intro _
            refine ri_ald a_X2_either_23 rfl ?_
            refine ri_cVxv (as := []) (rest := []) (d' := d - 1) a_X2_either_24 mv_X2_advance ml_X2_45 (rcC_12 iC_12) (by omega) (ok_adv (by omega) hn hgx) (Nat.le_of_ble_eq_true rfl) rfl (fun zM21 hzM21 => ?_)
            rw [htp1] at hzM21
            obtain ⟨a1, a2, a3⟩ := hzM21
            have htp2 : zM21 13 0 = tp := (frP_tp (frm_P (t := t) a1)).trans htp1
            refine ri_ald a_X2_either_27 rfl ?_
            refine ri_ild a_X2_either_28 rfl ?_
            refine ri_cVxv (as := [vi (nI (5 - b))]) (rest := []) (d' := d - 1) a_X2_either_29 mv_X2_both ml_X2_58 (rcC_12 iC_12) (by omega) (hG (d - 1) zM21 (pnx tp n x) (z + acc.length) _ rfl (by omega) htp2 a2 a3) (Nat.le_of_ble_eq_true rfl) rfl (fun zM31 hzM31 => ?_)
            obtain ⟨b1, b2⟩ := hzM31
            cases hres : sub (pnx tp n x) with
            | inl p =>
              rw [hres] at b2
              have b2 : bR t n zM31 p := b2
              have hl7 := b2.1.2
              obtain ⟨zz, hz1, hz2⟩ := b2.2.2.2.2
              refine ri_ald a_X2_either_32 rfl ?_
              refine ri_getVe (t0 := t) a_X2_either_33 fl_X2_36 kC_12_7 rfl iC_12 (by assumption) (by omega) ?_
              refine ri_ic a_X2_either_36 ?_
              refine ri_cVxv (as := [vi (-7)]) (rest := []) (d' := d - 1) a_X2_either_38 mv_X1_append ml_X2_61 (rcC_8 (iC_8 (by assumption))) (by omega) (ok_app ht (-7) hz2 hz1) (Nat.le_of_ble_eq_true rfl) rfl (fun zM41 hzM41 => ?_)
              refine ri_iinc (c0 := 1) (f := fun zx42 => [some (vo 12 0), some (vi (nI (5 - b))), some (vi zx42)]) a_X2_either_41 rfl (by decide) (fun _ => rfl) (fun zx42 ezx42 => ?_)
              refine ri_goto a_X2_either_44 ?_
              rw [ezx42, nI_1]
              refine lr_Wimp (loopB d M zM41 p (i + 1)  (by omega) (by omega) ?_ ?_) ?_
              · rw [hzM41]; exact frP_tr (frP_tr (frP_tr hf (frm_P a1)) b1) app_frP
              · rw [hzM41]; exact app_bad b2 hz1 hz2
              · rintro r M' ⟨rfl, h1, h2⟩; exact ⟨rfl, h1, h2⟩
            | inr y =>
              rw [hres] at b2
              obtain ⟨b2, b3, b4, b5⟩ := b2
              have hl7 := b2.1.2
              have hl8 := b2.2.2.2.2.2.1
              obtain ⟨q1, q2, q3, q4⟩ := hgd _ _ a2.2.2.2.1 a2.2.2.2.2.1 hres
              have hyn := q1.1
              have hyl := q1.2.2.1
              obtain ⟨_, hnx⟩ := pnx_ok tp hgx.2.2.2.1
              have hsz : z + acc.length + y.2.length < 160 := by omega
              refine ri_ald a_X2_either_32 rfl ?_
              refine ri_getVe (t0 := t) a_X2_either_33 fl_X2_36 kC_12_7 rfl iC_12 (by assumption) (by omega) ?_
              refine ri_ic a_X2_either_36 ?_
              refine ri_cVxv (as := [vi (-7)]) (rest := []) (d' := d - 1) a_X2_either_38 mv_X1_append ml_X2_61 (rcC_8 (iC_8 (by assumption))) (by omega) (ok_app ht (-7) hl8 (by omega)) (Nat.le_of_ble_eq_true rfl) rfl (fun zM41 hzM41 => ?_)
              refine ri_iinc (c0 := 1) (f := fun zx42 => [some (vo 12 0), some (vi (nI (5 - b))), some (vi zx42)]) a_X2_either_41 rfl (by decide) (fun _ => rfl) (fun zx42 ezx42 => ?_)
              refine ri_goto a_X2_either_44 ?_
              rw [ezx42, nI_1]
              rw [hzM41]
              have fr1 : frP t M1 zM31 := frP_tr (frm_P a1) b1
              obtain ⟨e1, e2, e3, e4⟩ := pst_app (x := -7) (op := op) hf hp ha fr1 (fun k hk => (b4 k hk).trans (a1 9 t k (fun q => absurd q.1 (by decide)))) b5 b2 hsz (by omega) (by rw [hop]; decide)
              exact ih (i + 1) y.1 (acc ++ y.2 ++ [op]) _  (by omega) e1 e2 (by simp only [List.length_append, List.length_cons, List.length_nil]; omega) e3 e4
          refine ri_ild a_X2_either_7 rfl ?_
          refine ri_ic a_X2_either_8 ?_
          refine ri_icmp_ge a_X2_either_11 (fun zc11 => ?_) (fun zc11 => ?_)
          · refine ri_return a_X2_either_47 rfl ?_
            exact absurd zc11 hi160
          · refine ri_ald a_X2_either_14 rfl ?_
            refine ri_getI a_X2_either_15 fl_X2_24 kC_12_3 rfl iC_12 ?_
            refine ri_ic a_X2_either_18 ?_
            refine ri_icmp_ne a_X2_either_20 (fun zc12 => ?_) (fun zc12 => ?_)
            · refine ri_return a_X2_either_47 rfl ?_
              exact absurd (htok.trans htk) zc12
            · exact tail trivial
    refine lr_ok (ls := [some (vo 12 0), some (vi (nI (5 - b))), none]) (by decide +kernel) rfl ?_
    refine ri_ald a_X2_either_0 rfl ?_
    refine ri_ild a_X2_either_1 rfl ?_
    refine ri_cVxv (as := [vi (nI (5 - b))]) (rest := []) (d' := d - 1) a_X2_either_2 mv_X2_both ml_X2_58 (rcC_12 iC_12) (by omega) (hG (d - 1) M s z _ rfl (by omega) htp hg hz) (Nat.le_of_ble_eq_true rfl) rfl (fun zM1 hzM1 => ?_)
    refine ri_ic a_X2_either_5 ?_
    refine ri_istk (ls' := [some (vo 12 0), some (vi (nI (5 - b))), some (vi 0)]) a_X2_either_6 rfl ?_
    obtain ⟨b1, b2⟩ := hzM1
    unfold pB
    cases hres : sub s with
    | inl p =>
      rw [hres] at b2
      refine lr_Wimp (loopB d M zM1 p 0  (by omega) (by omega) b1 b2) ?_
      rintro r M' ⟨rfl, h1, h2⟩; exact ⟨rfl, h1, h2⟩
    | inr y =>
      rw [hres] at b2
      obtain ⟨b2, b3, b4, b5⟩ := b2
      exact loopG 160 0 y.1 y.2 zM1  rfl b1 b2 b3 b4 b5
  · intro d M p _ rfl hd hb
    refine lr_ok (ls := [some (vo 12 0), some (vi (nI (5 - b))), none]) (by decide +kernel) rfl ?_
    refine ri_ald a_X2_either_0 rfl ?_
    refine ri_ild a_X2_either_1 rfl ?_
    refine ri_cVxv (as := [vi (nI (5 - b))]) (rest := []) (d' := d - 1) a_X2_either_2 mv_X2_both ml_X2_58 (rcC_12 iC_12) (by omega) (hB (d - 1) M p _ rfl (by omega) hb) (Nat.le_of_ble_eq_true rfl) rfl (fun zM1 hzM1 => ?_)
    refine ri_ic a_X2_either_5 ?_
    refine ri_istk (ls' := [some (vo 12 0), some (vi (nI (5 - b))), some (vi 0)]) a_X2_either_6 rfl ?_
    exact loopB d M zM1 p 0  (by omega) (by omega) hzM1.1 hzM1.2


theorem lv_both {w : Wd} {t n D b : Nat} {tp : Nat → Int32} {sub : PS → PR} (ht : t < 6) (hn : n ≤ 160) (hD : 7 ≤ D) (hG : LvG w t n D b jX2_perhapsNot tp sub) (hB : LvB w t n D b jX2_perhapsNot) (hgd : ∃ e, Gd n e sub) : LvG w t n (D + 1) b jX2_both tp (pB tp n oAnd sub) ∧ LvB w t n (D + 1) b jX2_both := by
  obtain ⟨dp, hgd⟩ := hgd
  have loopB : ∀ (d : Nat) (M M1 : Mem) (p i : Nat) , D + 1 ≤ d → i ≤ 160 → frP t M M1 → bR t n M1 p → lr_W tC sC w d jX2_both 7 [some (vo 12 0), some (vi (nI (5 - b))), some (vi (nI i))] [] M1 (qV fun M' => frP t M M' ∧ bR t n M' p) := by
    intro d M M1 p i  hd hi hf hb
    have h3 := hb.2.2.2.1
    refine ri_ild a_X2_both_7 rfl ?_
    refine ri_ic a_X2_both_8 ?_
    refine ri_icmp_ge a_X2_both_11 (fun zc11 => ?_) (fun zc11 => ?_)
    · refine ri_return a_X2_both_47 rfl ?_
      exact rV ⟨hf, hb⟩
    · refine ri_ald a_X2_both_14 rfl ?_
      refine ri_getI a_X2_both_15 fl_X2_24 kC_12_3 rfl iC_12 ?_
      refine ri_ic a_X2_both_18 ?_
      refine ri_icmp_ne a_X2_both_20 (fun zc12 => ?_) (fun zc12 => ?_)
      · refine ri_return a_X2_both_47 rfl ?_
        exact rV ⟨hf, hb⟩
      · exact absurd (h3.symm.trans zc12) (by decide)
  constructor
  · intro d M s z _ rfl hd htp hg hz
    have htp0 := htp
    have loopG : ∀ L i (x : PS) (acc : List Op) M1 , i + L = 160 → frP t M M1 → gR t n M1 x (z + acc.length) → z + acc.length ≤ x.2.1 → (∀ k, k < z → M1 9 t k = M 9 t k) → (∀ k o, acc[k]? = some o → M1 9 t (z + k) = encC o) →
        lr_W tC sC w d jX2_both 7 [some (vo 12 0), some (vi (nI (5 - b))), some (vi (nI i))] [] M1 (qV (pst t n M z (pL tp n oAnd sub L x acc))) := by
      intro L
      induction L with
      | zero =>
        intro i x acc M1  hiL hf hgx hzx hp ha
        have hi160 : i = 160 := by omega
        subst hi160
        refine ri_ild a_X2_both_7 rfl ?_
        refine ri_ic a_X2_both_8 ?_
        refine ri_icmp_ge a_X2_both_11 (fun zc11 => ?_) (fun zc11 => ?_)
        · refine ri_return a_X2_both_47 rfl ?_
          exact rV ⟨hf, hgx, hzx, hp, ha⟩
        · exact absurd (Int32.le_refl _) zc11
      | succ L ih =>
        intro i x acc M1  hiL hf hgx hzx hp ha
        have htok : M1 12 0 3 = tkc x.1 := hgx.2.2.1.2.1
        have htp1 : M1 13 0 = tp := (frP_tp hf).trans htp
        have hi160 : ¬ (160 : Int32) ≤ nI i := by rw [show (160 : Int32) = nI 160 from rfl, nI_leI (by omega) (by omega)]; omega
        rw [pL]
        cases hiso : oAnd x.1 with
        | none =>
          have hne : ¬ tkc x.1 = 8 := by
            intro q
            rw [show (8 : Int32) = tkc (3, 4) from rfl, tkc_is hgx.2.2.2.2.1 (by decide)] at q
            rw [q] at hiso
            exact absurd hiso (by decide)
          refine ri_ild a_X2_both_7 rfl ?_
          refine ri_ic a_X2_both_8 ?_
          refine ri_icmp_ge a_X2_both_11 (fun zc11 => ?_) (fun zc11 => ?_)
          · refine ri_return a_X2_both_47 rfl ?_
            exact absurd zc11 hi160
          · refine ri_ald a_X2_both_14 rfl ?_
            refine ri_getI a_X2_both_15 fl_X2_24 kC_12_3 rfl iC_12 ?_
            refine ri_ic a_X2_both_18 ?_
            refine ri_icmp_ne a_X2_both_20 (fun zc12 => ?_) (fun zc12 => ?_)
            · refine ri_return a_X2_both_47 rfl ?_
              exact rV ⟨hf, hgx, hzx, hp, ha⟩
            · exact absurd (htok.symm.trans zc12) hne
        | some op =>
          dsimp only
          have ht1 : x.1 = (3, 4) := by
            unfold oAnd at hiso
            split at hiso
            · assumption
            · cases hiso
          have hop : op = (3, 1) := by
            rw [ht1] at hiso
            cases hiso
            rfl
          have htk : tkc x.1 = 8 := by rw [ht1]; rfl
          have hxl := hgx.2.2.2.1.2.2.2 (by rw [ht1]; decide)
          have hxn := hgx.2.2.2.1.2.1
          -- behind the sign
          have tail : ∀ (_ : True), lr_W tC sC w d jX2_both 23 [some (vo 12 0), some (vi (nI (5 - b))), some (vi (nI i))] [] M1 (qV (pst t n M z (match sub (pnx tp n x) with
            | .inl p => .inl p
            | .inr y => pL tp n oAnd sub L y.1 (acc ++ y.2 ++ [op])))) := by
            intro _
            refine ri_ald a_X2_both_23 rfl ?_
            refine ri_cVxv (as := []) (rest := []) (d' := d - 1) a_X2_both_24 mv_X2_advance ml_X2_45 (rcC_12 iC_12) (by omega) (ok_adv (by omega) hn hgx) (Nat.le_of_ble_eq_true rfl) rfl (fun zM21 hzM21 => ?_)
            rw [htp1] at hzM21
            obtain ⟨a1, a2, a3⟩ := hzM21
            have htp2 : zM21 13 0 = tp := (frP_tp (frm_P (t := t) a1)).trans htp1
            refine ri_ald a_X2_both_27 rfl ?_
            refine ri_ild a_X2_both_28 rfl ?_
            refine ri_cVxv (as := [vi (nI (5 - b))]) (rest := []) (d' := d - 1) a_X2_both_29 mv_X2_perhapsNot ml_X2_64 (rcC_12 iC_12) (by omega) (hG (d - 1) zM21 (pnx tp n x) (z + acc.length) _ rfl (by omega) htp2 a2 a3) (Nat.le_of_ble_eq_true rfl) rfl (fun zM31 hzM31 => ?_)
            obtain ⟨b1, b2⟩ := hzM31
            cases hres : sub (pnx tp n x) with
            | inl p =>
              rw [hres] at b2
              have b2 : bR t n zM31 p := b2
              have hl7 := b2.1.2
              obtain ⟨zz, hz1, hz2⟩ := b2.2.2.2.2
              refine ri_ald a_X2_both_32 rfl ?_
              refine ri_getVe (t0 := t) a_X2_both_33 fl_X2_36 kC_12_7 rfl iC_12 (by assumption) (by omega) ?_
              refine ri_ic a_X2_both_36 ?_
              refine ri_cVxv (as := [vi (-8)]) (rest := []) (d' := d - 1) a_X2_both_38 mv_X1_append ml_X2_61 (rcC_8 (iC_8 (by assumption))) (by omega) (ok_app ht (-8) hz2 hz1) (Nat.le_of_ble_eq_true rfl) rfl (fun zM41 hzM41 => ?_)
              refine ri_iinc (c0 := 1) (f := fun zx42 => [some (vo 12 0), some (vi (nI (5 - b))), some (vi zx42)]) a_X2_both_41 rfl (by decide) (fun _ => rfl) (fun zx42 ezx42 => ?_)
              refine ri_goto a_X2_both_44 ?_
              rw [ezx42, nI_1]
              refine lr_Wimp (loopB d M zM41 p (i + 1)  (by omega) (by omega) ?_ ?_) ?_
              · rw [hzM41]; exact frP_tr (frP_tr (frP_tr hf (frm_P a1)) b1) app_frP
              · rw [hzM41]; exact app_bad b2 hz1 hz2
              · rintro r M' ⟨rfl, h1, h2⟩; exact ⟨rfl, h1, h2⟩
            | inr y =>
              rw [hres] at b2
              obtain ⟨b2, b3, b4, b5⟩ := b2
              have hl7 := b2.1.2
              have hl8 := b2.2.2.2.2.2.1
              obtain ⟨q1, q2, q3, q4⟩ := hgd _ _ a2.2.2.2.1 a2.2.2.2.2.1 hres
              have hyn := q1.1
              have hyl := q1.2.2.1
              obtain ⟨_, hnx⟩ := pnx_ok tp hgx.2.2.2.1
              have hsz : z + acc.length + y.2.length < 160 := by omega
              refine ri_ald a_X2_both_32 rfl ?_
              refine ri_getVe (t0 := t) a_X2_both_33 fl_X2_36 kC_12_7 rfl iC_12 (by assumption) (by omega) ?_
              refine ri_ic a_X2_both_36 ?_
              refine ri_cVxv (as := [vi (-8)]) (rest := []) (d' := d - 1) a_X2_both_38 mv_X1_append ml_X2_61 (rcC_8 (iC_8 (by assumption))) (by omega) (ok_app ht (-8) hl8 (by omega)) (Nat.le_of_ble_eq_true rfl) rfl (fun zM41 hzM41 => ?_)
              refine ri_iinc (c0 := 1) (f := fun zx42 => [some (vo 12 0), some (vi (nI (5 - b))), some (vi zx42)]) a_X2_both_41 rfl (by decide) (fun _ => rfl) (fun zx42 ezx42 => ?_)
              refine ri_goto a_X2_both_44 ?_
              rw [ezx42, nI_1]
              rw [hzM41]
              have fr1 : frP t M1 zM31 := frP_tr (frm_P a1) b1
              obtain ⟨e1, e2, e3, e4⟩ := pst_app (x := -8) (op := op) hf hp ha fr1 (fun k hk => (b4 k hk).trans (a1 9 t k (fun q => absurd q.1 (by decide)))) b5 b2 hsz (by omega) (by rw [hop]; decide)
              exact ih (i + 1) y.1 (acc ++ y.2 ++ [op]) _  (by omega) e1 e2 (by simp only [List.length_append, List.length_cons, List.length_nil]; omega) e3 e4
          refine ri_ild a_X2_both_7 rfl ?_
          refine ri_ic a_X2_both_8 ?_
          refine ri_icmp_ge a_X2_both_11 (fun zc11 => ?_) (fun zc11 => ?_)
          · refine ri_return a_X2_both_47 rfl ?_
            exact absurd zc11 hi160
          · refine ri_ald a_X2_both_14 rfl ?_
            refine ri_getI a_X2_both_15 fl_X2_24 kC_12_3 rfl iC_12 ?_
            refine ri_ic a_X2_both_18 ?_
            refine ri_icmp_ne a_X2_both_20 (fun zc12 => ?_) (fun zc12 => ?_)
            · refine ri_return a_X2_both_47 rfl ?_
              exact absurd (htok.trans htk) zc12
            · exact tail trivial
    refine lr_ok (ls := [some (vo 12 0), some (vi (nI (5 - b))), none]) (by decide +kernel) rfl ?_
    refine ri_ald a_X2_both_0 rfl ?_
    refine ri_ild a_X2_both_1 rfl ?_
    refine ri_cVxv (as := [vi (nI (5 - b))]) (rest := []) (d' := d - 1) a_X2_both_2 mv_X2_perhapsNot ml_X2_64 (rcC_12 iC_12) (by omega) (hG (d - 1) M s z _ rfl (by omega) htp hg hz) (Nat.le_of_ble_eq_true rfl) rfl (fun zM1 hzM1 => ?_)
    refine ri_ic a_X2_both_5 ?_
    refine ri_istk (ls' := [some (vo 12 0), some (vi (nI (5 - b))), some (vi 0)]) a_X2_both_6 rfl ?_
    obtain ⟨b1, b2⟩ := hzM1
    unfold pB
    cases hres : sub s with
    | inl p =>
      rw [hres] at b2
      refine lr_Wimp (loopB d M zM1 p 0  (by omega) (by omega) b1 b2) ?_
      rintro r M' ⟨rfl, h1, h2⟩; exact ⟨rfl, h1, h2⟩
    | inr y =>
      rw [hres] at b2
      obtain ⟨b2, b3, b4, b5⟩ := b2
      exact loopG 160 0 y.1 y.2 zM1  rfl b1 b2 b3 b4 b5
  · intro d M p _ rfl hd hb
    refine lr_ok (ls := [some (vo 12 0), some (vi (nI (5 - b))), none]) (by decide +kernel) rfl ?_
    refine ri_ald a_X2_both_0 rfl ?_
    refine ri_ild a_X2_both_1 rfl ?_
    refine ri_cVxv (as := [vi (nI (5 - b))]) (rest := []) (d' := d - 1) a_X2_both_2 mv_X2_perhapsNot ml_X2_64 (rcC_12 iC_12) (by omega) (hB (d - 1) M p _ rfl (by omega) hb) (Nat.le_of_ble_eq_true rfl) rfl (fun zM1 hzM1 => ?_)
    refine ri_ic a_X2_both_5 ?_
    refine ri_istk (ls' := [some (vo 12 0), some (vi (nI (5 - b))), some (vi 0)]) a_X2_both_6 rfl ?_
    exact loopB d M zM1 p 0  (by omega) (by omega) hzM1.1 hzM1.2


theorem lv_term {w : Wd} {t n D b : Nat} {tp : Nat → Int32} {sub : PS → PR} (ht : t < 6) (hn : n ≤ 160) (hD : 7 ≤ D) (hG : LvG w t n D b jX2_one tp sub) (hB : LvB w t n D b jX2_one) (hgd : ∃ e, Gd n e sub) : LvG w t n (D + 1) b jX2_term tp (pB tp n oMul sub) ∧ LvB w t n (D + 1) b jX2_term := by
  obtain ⟨dp, hgd⟩ := hgd
  have loopB : ∀ (d : Nat) (M M1 : Mem) (p i : Nat) , D + 1 ≤ d → i ≤ 160 → frP t M M1 → bR t n M1 p → lr_W tC sC w d jX2_term 7 [some (vo 12 0), some (vi (nI (5 - b))), some (vi (nI i))] [] M1 (qV fun M' => frP t M M' ∧ bR t n M' p) := by
    intro d M M1 p i  hd hi hf hb
    have h3 := hb.2.2.2.1
    refine ri_ild a_X2_term_7 rfl ?_
    refine ri_ic a_X2_term_8 ?_
    refine ri_icmp_ge a_X2_term_11 (fun zc11 => ?_) (fun zc11 => ?_)
    · refine ri_return a_X2_term_47 rfl ?_
      exact rV ⟨hf, hb⟩
    · refine ri_ald a_X2_term_14 rfl ?_
      refine ri_getI a_X2_term_15 fl_X2_24 kC_12_3 rfl iC_12 ?_
      refine ri_ic a_X2_term_18 ?_
      refine ri_icmp_ne a_X2_term_20 (fun zc12 => ?_) (fun zc12 => ?_)
      · refine ri_return a_X2_term_47 rfl ?_
        exact rV ⟨hf, hb⟩
      · exact absurd (h3.symm.trans zc12) (by decide)
  constructor
  · intro d M s z _ rfl hd htp hg hz
    have htp0 := htp
    have loopG : ∀ L i (x : PS) (acc : List Op) M1 , i + L = 160 → frP t M M1 → gR t n M1 x (z + acc.length) → z + acc.length ≤ x.2.1 → (∀ k, k < z → M1 9 t k = M 9 t k) → (∀ k o, acc[k]? = some o → M1 9 t (z + k) = encC o) →
        lr_W tC sC w d jX2_term 7 [some (vo 12 0), some (vi (nI (5 - b))), some (vi (nI i))] [] M1 (qV (pst t n M z (pL tp n oMul sub L x acc))) := by
      intro L
      induction L with
      | zero =>
        intro i x acc M1  hiL hf hgx hzx hp ha
        have hi160 : i = 160 := by omega
        subst hi160
        refine ri_ild a_X2_term_7 rfl ?_
        refine ri_ic a_X2_term_8 ?_
        refine ri_icmp_ge a_X2_term_11 (fun zc11 => ?_) (fun zc11 => ?_)
        · refine ri_return a_X2_term_47 rfl ?_
          exact rV ⟨hf, hgx, hzx, hp, ha⟩
        · exact absurd (Int32.le_refl _) zc11
      | succ L ih =>
        intro i x acc M1  hiL hf hgx hzx hp ha
        have htok : M1 12 0 3 = tkc x.1 := hgx.2.2.1.2.1
        have htp1 : M1 13 0 = tp := (frP_tp hf).trans htp
        have hi160 : ¬ (160 : Int32) ≤ nI i := by rw [show (160 : Int32) = nI 160 from rfl, nI_leI (by omega) (by omega)]; omega
        rw [pL]
        cases hiso : oMul x.1 with
        | none =>
          have hne : ¬ tkc x.1 = 42 := by
            intro q
            rw [show (42 : Int32) = tkc (4, 42) from rfl, tkc_is hgx.2.2.2.2.1 (by decide)] at q
            rw [q] at hiso
            exact absurd hiso (by decide)
          refine ri_ild a_X2_term_7 rfl ?_
          refine ri_ic a_X2_term_8 ?_
          refine ri_icmp_ge a_X2_term_11 (fun zc11 => ?_) (fun zc11 => ?_)
          · refine ri_return a_X2_term_47 rfl ?_
            exact absurd zc11 hi160
          · refine ri_ald a_X2_term_14 rfl ?_
            refine ri_getI a_X2_term_15 fl_X2_24 kC_12_3 rfl iC_12 ?_
            refine ri_ic a_X2_term_18 ?_
            refine ri_icmp_ne a_X2_term_20 (fun zc12 => ?_) (fun zc12 => ?_)
            · refine ri_return a_X2_term_47 rfl ?_
              exact rV ⟨hf, hgx, hzx, hp, ha⟩
            · exact absurd (htok.symm.trans zc12) hne
        | some op =>
          dsimp only
          have ht1 : x.1 = (4, 42) := by
            unfold oMul at hiso
            split at hiso
            · assumption
            · cases hiso
          have hop : op = (3, 6) := by
            rw [ht1] at hiso
            cases hiso
            rfl
          have htk : tkc x.1 = 42 := by rw [ht1]; rfl
          have hxl := hgx.2.2.2.1.2.2.2 (by rw [ht1]; decide)
          have hxn := hgx.2.2.2.1.2.1
          -- behind the sign
          have tail : ∀ (_ : True), lr_W tC sC w d jX2_term 23 [some (vo 12 0), some (vi (nI (5 - b))), some (vi (nI i))] [] M1 (qV (pst t n M z (match sub (pnx tp n x) with
            | .inl p => .inl p
            | .inr y => pL tp n oMul sub L y.1 (acc ++ y.2 ++ [op])))) := by
            intro _
            refine ri_ald a_X2_term_23 rfl ?_
            refine ri_cVxv (as := []) (rest := []) (d' := d - 1) a_X2_term_24 mv_X2_advance ml_X2_45 (rcC_12 iC_12) (by omega) (ok_adv (by omega) hn hgx) (Nat.le_of_ble_eq_true rfl) rfl (fun zM21 hzM21 => ?_)
            rw [htp1] at hzM21
            obtain ⟨a1, a2, a3⟩ := hzM21
            have htp2 : zM21 13 0 = tp := (frP_tp (frm_P (t := t) a1)).trans htp1
            refine ri_ald a_X2_term_27 rfl ?_
            refine ri_ild a_X2_term_28 rfl ?_
            refine ri_cVxv (as := [vi (nI (5 - b))]) (rest := []) (d' := d - 1) a_X2_term_29 mv_X2_one ml_X2_83 (rcC_12 iC_12) (by omega) (hG (d - 1) zM21 (pnx tp n x) (z + acc.length) _ rfl (by omega) htp2 a2 a3) (Nat.le_of_ble_eq_true rfl) rfl (fun zM31 hzM31 => ?_)
            obtain ⟨b1, b2⟩ := hzM31
            cases hres : sub (pnx tp n x) with
            | inl p =>
              rw [hres] at b2
              have b2 : bR t n zM31 p := b2
              have hl7 := b2.1.2
              obtain ⟨zz, hz1, hz2⟩ := b2.2.2.2.2
              refine ri_ald a_X2_term_32 rfl ?_
              refine ri_getVe (t0 := t) a_X2_term_33 fl_X2_36 kC_12_7 rfl iC_12 (by assumption) (by omega) ?_
              refine ri_ic a_X2_term_36 ?_
              refine ri_cVxv (as := [vi (-42)]) (rest := []) (d' := d - 1) a_X2_term_38 mv_X1_append ml_X2_61 (rcC_8 (iC_8 (by assumption))) (by omega) (ok_app ht (-42) hz2 hz1) (Nat.le_of_ble_eq_true rfl) rfl (fun zM41 hzM41 => ?_)
              refine ri_iinc (c0 := 1) (f := fun zx42 => [some (vo 12 0), some (vi (nI (5 - b))), some (vi zx42)]) a_X2_term_41 rfl (by decide) (fun _ => rfl) (fun zx42 ezx42 => ?_)
              refine ri_goto a_X2_term_44 ?_
              rw [ezx42, nI_1]
              refine lr_Wimp (loopB d M zM41 p (i + 1)  (by omega) (by omega) ?_ ?_) ?_
              · rw [hzM41]; exact frP_tr (frP_tr (frP_tr hf (frm_P a1)) b1) app_frP
              · rw [hzM41]; exact app_bad b2 hz1 hz2
              · rintro r M' ⟨rfl, h1, h2⟩; exact ⟨rfl, h1, h2⟩
            | inr y =>
              rw [hres] at b2
              obtain ⟨b2, b3, b4, b5⟩ := b2
              have hl7 := b2.1.2
              have hl8 := b2.2.2.2.2.2.1
              obtain ⟨q1, q2, q3, q4⟩ := hgd _ _ a2.2.2.2.1 a2.2.2.2.2.1 hres
              have hyn := q1.1
              have hyl := q1.2.2.1
              obtain ⟨_, hnx⟩ := pnx_ok tp hgx.2.2.2.1
              have hsz : z + acc.length + y.2.length < 160 := by omega
              refine ri_ald a_X2_term_32 rfl ?_
              refine ri_getVe (t0 := t) a_X2_term_33 fl_X2_36 kC_12_7 rfl iC_12 (by assumption) (by omega) ?_
              refine ri_ic a_X2_term_36 ?_
              refine ri_cVxv (as := [vi (-42)]) (rest := []) (d' := d - 1) a_X2_term_38 mv_X1_append ml_X2_61 (rcC_8 (iC_8 (by assumption))) (by omega) (ok_app ht (-42) hl8 (by omega)) (Nat.le_of_ble_eq_true rfl) rfl (fun zM41 hzM41 => ?_)
              refine ri_iinc (c0 := 1) (f := fun zx42 => [some (vo 12 0), some (vi (nI (5 - b))), some (vi zx42)]) a_X2_term_41 rfl (by decide) (fun _ => rfl) (fun zx42 ezx42 => ?_)
              refine ri_goto a_X2_term_44 ?_
              rw [ezx42, nI_1]
              rw [hzM41]
              have fr1 : frP t M1 zM31 := frP_tr (frm_P a1) b1
              obtain ⟨e1, e2, e3, e4⟩ := pst_app (x := -42) (op := op) hf hp ha fr1 (fun k hk => (b4 k hk).trans (a1 9 t k (fun q => absurd q.1 (by decide)))) b5 b2 hsz (by omega) (by rw [hop]; decide)
              exact ih (i + 1) y.1 (acc ++ y.2 ++ [op]) _  (by omega) e1 e2 (by simp only [List.length_append, List.length_cons, List.length_nil]; omega) e3 e4
          refine ri_ild a_X2_term_7 rfl ?_
          refine ri_ic a_X2_term_8 ?_
          refine ri_icmp_ge a_X2_term_11 (fun zc11 => ?_) (fun zc11 => ?_)
          · refine ri_return a_X2_term_47 rfl ?_
            exact absurd zc11 hi160
          · refine ri_ald a_X2_term_14 rfl ?_
            refine ri_getI a_X2_term_15 fl_X2_24 kC_12_3 rfl iC_12 ?_
            refine ri_ic a_X2_term_18 ?_
            refine ri_icmp_ne a_X2_term_20 (fun zc12 => ?_) (fun zc12 => ?_)
            · refine ri_return a_X2_term_47 rfl ?_
              exact absurd (htok.trans htk) zc12
            · exact tail trivial
    refine lr_ok (ls := [some (vo 12 0), some (vi (nI (5 - b))), none]) (by decide +kernel) rfl ?_
    refine ri_ald a_X2_term_0 rfl ?_
    refine ri_ild a_X2_term_1 rfl ?_
    refine ri_cVxv (as := [vi (nI (5 - b))]) (rest := []) (d' := d - 1) a_X2_term_2 mv_X2_one ml_X2_83 (rcC_12 iC_12) (by omega) (hG (d - 1) M s z _ rfl (by omega) htp hg hz) (Nat.le_of_ble_eq_true rfl) rfl (fun zM1 hzM1 => ?_)
    refine ri_ic a_X2_term_5 ?_
    refine ri_istk (ls' := [some (vo 12 0), some (vi (nI (5 - b))), some (vi 0)]) a_X2_term_6 rfl ?_
    obtain ⟨b1, b2⟩ := hzM1
    unfold pB
    cases hres : sub s with
    | inl p =>
      rw [hres] at b2
      refine lr_Wimp (loopB d M zM1 p 0  (by omega) (by omega) b1 b2) ?_
      rintro r M' ⟨rfl, h1, h2⟩; exact ⟨rfl, h1, h2⟩
    | inr y =>
      rw [hres] at b2
      obtain ⟨b2, b3, b4, b5⟩ := b2
      exact loopG 160 0 y.1 y.2 zM1  rfl b1 b2 b3 b4 b5
  · intro d M p _ rfl hd hb
    refine lr_ok (ls := [some (vo 12 0), some (vi (nI (5 - b))), none]) (by decide +kernel) rfl ?_
    refine ri_ald a_X2_term_0 rfl ?_
    refine ri_ild a_X2_term_1 rfl ?_
    refine ri_cVxv (as := [vi (nI (5 - b))]) (rest := []) (d' := d - 1) a_X2_term_2 mv_X2_one ml_X2_83 (rcC_12 iC_12) (by omega) (hB (d - 1) M p _ rfl (by omega) hb) (Nat.le_of_ble_eq_true rfl) rfl (fun zM1 hzM1 => ?_)
    refine ri_ic a_X2_term_5 ?_
    refine ri_istk (ls' := [some (vo 12 0), some (vi (nI (5 - b))), some (vi 0)]) a_X2_term_6 rfl ?_
    exact loopB d M zM1 p 0  (by omega) (by omega) hzM1.1 hzM1.2


theorem lv_sum {w : Wd} {t n D b : Nat} {tp : Nat → Int32} {sub : PS → PR} (ht : t < 6) (hn : n ≤ 160) (hD : 7 ≤ D) (hG : LvG w t n D b jX2_term tp sub) (hB : LvB w t n D b jX2_term) (hgd : ∃ e, Gd n e sub) : LvG w t n (D + 1) b jX2_sum tp (pB tp n oSum sub) ∧ LvB w t n (D + 1) b jX2_sum := by
  obtain ⟨dp, hgd⟩ := hgd
  have loopB : ∀ (d : Nat) (M M1 : Mem) (p i : Nat) (j3 : Option AV), D + 1 ≤ d → i ≤ 160 → frP t M M1 → bR t n M1 p → lr_W tC sC w d jX2_sum 7 [some (vo 12 0), some (vi (nI (5 - b))), some (vi (nI i)), j3] [] M1 (qV fun M' => frP t M M' ∧ bR t n M' p) := by
    intro d M M1 p i j3 hd hi hf hb
    have h3 := hb.2.2.2.1
    refine ri_ild a_X2_sum_7 rfl ?_
    refine ri_ic a_X2_sum_8 ?_
    refine ri_icmp_ge a_X2_sum_11 (fun zc11 => ?_) (fun zc11 => ?_)
    · refine ri_return a_X2_sum_61 rfl ?_
      exact rV ⟨hf, hb⟩
    · refine ri_ald a_X2_sum_14 rfl ?_
      refine ri_getI a_X2_sum_15 fl_X2_24 kC_12_3 rfl iC_12 ?_
      refine ri_ic a_X2_sum_18 ?_
      refine ri_icmp_eq a_X2_sum_20 (fun zc12 => ?_) (fun zc12 => ?_)
      · first | exact absurd (h3.symm.trans zc12) (by decide) | exact absurd (h3.symm.trans zc13) (by decide)
      · refine ri_ald a_X2_sum_23 rfl ?_
        refine ri_getI a_X2_sum_24 fl_X2_24 kC_12_3 rfl iC_12 ?_
        refine ri_ic a_X2_sum_27 ?_
        refine ri_icmp_ne a_X2_sum_29 (fun zc13 => ?_) (fun zc13 => ?_)
        · refine ri_return a_X2_sum_61 rfl ?_
          exact rV ⟨hf, hb⟩
        · first | exact absurd (h3.symm.trans zc12) (by decide) | exact absurd (h3.symm.trans zc13) (by decide)
  constructor
  · intro d M s z _ rfl hd htp hg hz
    have htp0 := htp
    have loopG : ∀ L i (x : PS) (acc : List Op) M1 (j3 : Option AV), i + L = 160 → frP t M M1 → gR t n M1 x (z + acc.length) → z + acc.length ≤ x.2.1 → (∀ k, k < z → M1 9 t k = M 9 t k) → (∀ k o, acc[k]? = some o → M1 9 t (z + k) = encC o) →
        lr_W tC sC w d jX2_sum 7 [some (vo 12 0), some (vi (nI (5 - b))), some (vi (nI i)), j3] [] M1 (qV (pst t n M z (pL tp n oSum sub L x acc))) := by
      intro L
      induction L with
      | zero =>
        intro i x acc M1 j3 hiL hf hgx hzx hp ha
        have hi160 : i = 160 := by omega
        subst hi160
        refine ri_ild a_X2_sum_7 rfl ?_
        refine ri_ic a_X2_sum_8 ?_
        refine ri_icmp_ge a_X2_sum_11 (fun zc11 => ?_) (fun zc11 => ?_)
        · refine ri_return a_X2_sum_61 rfl ?_
          exact rV ⟨hf, hgx, hzx, hp, ha⟩
        · exact absurd (Int32.le_refl _) zc11
      | succ L ih =>
        intro i x acc M1 j3 hiL hf hgx hzx hp ha
        have htok : M1 12 0 3 = tkc x.1 := hgx.2.2.1.2.1
        have htp1 : M1 13 0 = tp := (frP_tp hf).trans htp
        have hi160 : ¬ (160 : Int32) ≤ nI i := by rw [show (160 : Int32) = nI 160 from rfl, nI_leI (by omega) (by omega)]; omega
        rw [pL]
        cases hiso : oSum x.1 with
        | none =>
          have hne43 : ¬ tkc x.1 = 43 := by
            intro q
            rw [show (43 : Int32) = tkc (4, 43) from rfl, tkc_is hgx.2.2.2.2.1 (by decide)] at q
            rw [q] at hiso
            exact absurd hiso (by decide)
          have hne45 : ¬ tkc x.1 = 45 := by
            intro q
            rw [show (45 : Int32) = tkc (4, 45) from rfl, tkc_is hgx.2.2.2.2.1 (by decide)] at q
            rw [q] at hiso
            exact absurd hiso (by decide)
          refine ri_ild a_X2_sum_7 rfl ?_
          refine ri_ic a_X2_sum_8 ?_
          refine ri_icmp_ge a_X2_sum_11 (fun zc11 => ?_) (fun zc11 => ?_)
          · refine ri_return a_X2_sum_61 rfl ?_
            exact absurd zc11 hi160
          · refine ri_ald a_X2_sum_14 rfl ?_
            refine ri_getI a_X2_sum_15 fl_X2_24 kC_12_3 rfl iC_12 ?_
            refine ri_ic a_X2_sum_18 ?_
            refine ri_icmp_eq a_X2_sum_20 (fun zc12 => ?_) (fun zc12 => ?_)
            · first | exact absurd (htok.symm.trans zc12) hne43 | exact absurd (htok.symm.trans zc13) hne45
            · refine ri_ald a_X2_sum_23 rfl ?_
              refine ri_getI a_X2_sum_24 fl_X2_24 kC_12_3 rfl iC_12 ?_
              refine ri_ic a_X2_sum_27 ?_
              refine ri_icmp_ne a_X2_sum_29 (fun zc13 => ?_) (fun zc13 => ?_)
              · refine ri_return a_X2_sum_61 rfl ?_
                exact rV ⟨hf, hgx, hzx, hp, ha⟩
              · first | exact absurd (htok.symm.trans zc12) hne43 | exact absurd (htok.symm.trans zc13) hne45
        | some op =>
          dsimp only
          have ht1 : (x.1 = (4, 43) ∧ op = (3, 4)) ∨ (x.1 = (4, 45) ∧ op = (3, 5)) := by
            unfold oSum at hiso
            split at hiso
            · cases hiso; exact Or.inl ⟨by assumption, rfl⟩
            · split at hiso
              · cases hiso; exact Or.inr ⟨by assumption, rfl⟩
              · cases hiso
          have hneg : - tkc x.1 = encC op := by
            rcases ht1 with ⟨q1, q2⟩ | ⟨q1, q2⟩ <;> rw [q1, q2] <;> decide
          have htk : tkc x.1 = 43 ∨ tkc x.1 = 45 := by
            rcases ht1 with ⟨q1, q2⟩ | ⟨q1, q2⟩
            · exact Or.inl (by rw [q1]; rfl)
            · exact Or.inr (by rw [q1]; rfl)
          have hxl := hgx.2.2.2.1.2.2.2 (by rcases ht1 with q | q <;> rw [q.1] <;> decide)
          have hxn := hgx.2.2.2.1.2.1
          -- behind the sign
          have tail : ∀ (j3 : Option AV), lr_W tC sC w d jX2_sum 32 [some (vo 12 0), some (vi (nI (5 - b))), some (vi (nI i)), j3] [] M1 (qV (pst t n M z (match sub (pnx tp n x) with
            | .inl p => .inl p
            | .inr y => pL tp n oSum sub L y.1 (acc ++ y.2 ++ [op])))) := by
            intro j3
            refine ri_ald a_X2_sum_32 rfl ?_
            refine ri_getI a_X2_sum_33 fl_X2_24 kC_12_3 rfl iC_12 ?_
            refine ri_ist (f := fun zx21 => [some (vo 12 0), some (vi (nI (5 - b))), some (vi (nI i)), some (vi zx21)]) a_X2_sum_36 (fun _ => rfl) (fun zx21 ezx21 => ?_)
            refine ri_ald a_X2_sum_37 rfl ?_
            refine ri_cVxv (as := []) (rest := []) (d' := d - 1) a_X2_sum_38 mv_X2_advance ml_X2_45 (rcC_12 iC_12) (by omega) (ok_adv (by omega) hn hgx) (Nat.le_of_ble_eq_true rfl) rfl (fun zM22 hzM22 => ?_)
            rw [htp1] at hzM22
            obtain ⟨a1, a2, a3⟩ := hzM22
            have htp2 : zM22 13 0 = tp := (frP_tp (frm_P (t := t) a1)).trans htp1
            refine ri_ald a_X2_sum_41 rfl ?_
            refine ri_ild a_X2_sum_42 rfl ?_
            refine ri_cVxv (as := [vi (nI (5 - b))]) (rest := []) (d' := d - 1) a_X2_sum_43 mv_X2_term ml_X2_80 (rcC_12 iC_12) (by omega) (hG (d - 1) zM22 (pnx tp n x) (z + acc.length) _ rfl (by omega) htp2 a2 a3) (Nat.le_of_ble_eq_true rfl) rfl (fun zM31 hzM31 => ?_)
            obtain ⟨b1, b2⟩ := hzM31
            cases hres : sub (pnx tp n x) with
            | inl p =>
              rw [hres] at b2
              have b2 : bR t n zM31 p := b2
              have hl7 := b2.1.2
              obtain ⟨zz, hz1, hz2⟩ := b2.2.2.2.2
              refine ri_ald a_X2_sum_46 rfl ?_
              refine ri_getVe (t0 := t) a_X2_sum_47 fl_X2_36 kC_12_7 rfl iC_12 (by assumption) (by omega) ?_
              refine ri_ild a_X2_sum_50 rfl ?_
              refine ri_ineg a_X2_sum_51 ?_
              refine ri_cVxv (as := [vi (-zx21)]) (rest := []) (d' := d - 1) a_X2_sum_52 mv_X1_append ml_X2_61 (rcC_8 (iC_8 (by assumption))) (by omega) (ok_app ht (-zx21) hz2 hz1) (Nat.le_of_ble_eq_true rfl) rfl (fun zM41 hzM41 => ?_)
              refine ri_iinc (c0 := 1) (f := fun zx42 => [some (vo 12 0), some (vi (nI (5 - b))), some (vi zx42), some (vi zx21)]) a_X2_sum_55 rfl (by decide) (fun _ => rfl) (fun zx42 ezx42 => ?_)
              refine ri_goto a_X2_sum_58 ?_
              rw [ezx42, nI_1]
              refine lr_Wimp (loopB d M zM41 p (i + 1) (some (vi zx21)) (by omega) (by omega) ?_ ?_) ?_
              · rw [hzM41]; exact frP_tr (frP_tr (frP_tr hf (frm_P a1)) b1) app_frP
              · rw [hzM41]; exact app_bad b2 hz1 hz2
              · rintro r M' ⟨rfl, h1, h2⟩; exact ⟨rfl, h1, h2⟩
            | inr y =>
              rw [hres] at b2
              obtain ⟨b2, b3, b4, b5⟩ := b2
              have hl7 := b2.1.2
              have hl8 := b2.2.2.2.2.2.1
              obtain ⟨q1, q2, q3, q4⟩ := hgd _ _ a2.2.2.2.1 a2.2.2.2.2.1 hres
              have hyn := q1.1
              have hyl := q1.2.2.1
              obtain ⟨_, hnx⟩ := pnx_ok tp hgx.2.2.2.1
              have hsz : z + acc.length + y.2.length < 160 := by omega
              refine ri_ald a_X2_sum_46 rfl ?_
              refine ri_getVe (t0 := t) a_X2_sum_47 fl_X2_36 kC_12_7 rfl iC_12 (by assumption) (by omega) ?_
              refine ri_ild a_X2_sum_50 rfl ?_
              refine ri_ineg a_X2_sum_51 ?_
              refine ri_cVxv (as := [vi (-zx21)]) (rest := []) (d' := d - 1) a_X2_sum_52 mv_X1_append ml_X2_61 (rcC_8 (iC_8 (by assumption))) (by omega) (ok_app ht (-zx21) hl8 (by omega)) (Nat.le_of_ble_eq_true rfl) rfl (fun zM41 hzM41 => ?_)
              refine ri_iinc (c0 := 1) (f := fun zx42 => [some (vo 12 0), some (vi (nI (5 - b))), some (vi zx42), some (vi zx21)]) a_X2_sum_55 rfl (by decide) (fun _ => rfl) (fun zx42 ezx42 => ?_)
              refine ri_goto a_X2_sum_58 ?_
              rw [ezx42, nI_1]
              rw [hzM41]
              have fr1 : frP t M1 zM31 := frP_tr (frm_P a1) b1
              obtain ⟨e1, e2, e3, e4⟩ := pst_app (x := -zx21) (op := op) hf hp ha fr1 (fun k hk => (b4 k hk).trans (a1 9 t k (fun q => absurd q.1 (by decide)))) b5 b2 hsz (by omega) (by rw [ezx21, htok]; exact hneg)
              exact ih (i + 1) y.1 (acc ++ y.2 ++ [op]) _ (some (vi zx21)) (by omega) e1 e2 (by simp only [List.length_append, List.length_cons, List.length_nil]; omega) e3 e4
          refine ri_ild a_X2_sum_7 rfl ?_
          refine ri_ic a_X2_sum_8 ?_
          refine ri_icmp_ge a_X2_sum_11 (fun zc11 => ?_) (fun zc11 => ?_)
          · refine ri_return a_X2_sum_61 rfl ?_
            exact absurd zc11 hi160
          · refine ri_ald a_X2_sum_14 rfl ?_
            refine ri_getI a_X2_sum_15 fl_X2_24 kC_12_3 rfl iC_12 ?_
            refine ri_ic a_X2_sum_18 ?_
            refine ri_icmp_eq a_X2_sum_20 (fun zc12 => ?_) (fun zc12 => ?_)
            · exact tail j3
            · refine ri_ald a_X2_sum_23 rfl ?_
              refine ri_getI a_X2_sum_24 fl_X2_24 kC_12_3 rfl iC_12 ?_
              refine ri_ic a_X2_sum_27 ?_
              refine ri_icmp_ne a_X2_sum_29 (fun zc13 => ?_) (fun zc13 => ?_)
              · refine ri_return a_X2_sum_61 rfl ?_
                exact htk.elim (fun q => absurd (htok.trans q) zc12) (fun q => absurd (htok.trans q) zc13)
              · exact tail j3
    refine lr_ok (ls := [some (vo 12 0), some (vi (nI (5 - b))), none, none]) (by decide +kernel) rfl ?_
    refine ri_ald a_X2_sum_0 rfl ?_
    refine ri_ild a_X2_sum_1 rfl ?_
    refine ri_cVxv (as := [vi (nI (5 - b))]) (rest := []) (d' := d - 1) a_X2_sum_2 mv_X2_term ml_X2_80 (rcC_12 iC_12) (by omega) (hG (d - 1) M s z _ rfl (by omega) htp hg hz) (Nat.le_of_ble_eq_true rfl) rfl (fun zM1 hzM1 => ?_)
    refine ri_ic a_X2_sum_5 ?_
    refine ri_istk (ls' := [some (vo 12 0), some (vi (nI (5 - b))), some (vi 0), none]) a_X2_sum_6 rfl ?_
    obtain ⟨b1, b2⟩ := hzM1
    unfold pB
    cases hres : sub s with
    | inl p =>
      rw [hres] at b2
      refine lr_Wimp (loopB d M zM1 p 0 none (by omega) (by omega) b1 b2) ?_
      rintro r M' ⟨rfl, h1, h2⟩; exact ⟨rfl, h1, h2⟩
    | inr y =>
      rw [hres] at b2
      obtain ⟨b2, b3, b4, b5⟩ := b2
      exact loopG 160 0 y.1 y.2 zM1 none rfl b1 b2 b3 b4 b5
  · intro d M p _ rfl hd hb
    refine lr_ok (ls := [some (vo 12 0), some (vi (nI (5 - b))), none, none]) (by decide +kernel) rfl ?_
    refine ri_ald a_X2_sum_0 rfl ?_
    refine ri_ild a_X2_sum_1 rfl ?_
    refine ri_cVxv (as := [vi (nI (5 - b))]) (rest := []) (d' := d - 1) a_X2_sum_2 mv_X2_term ml_X2_80 (rcC_12 iC_12) (by omega) (hB (d - 1) M p _ rfl (by omega) hb) (Nat.le_of_ble_eq_true rfl) rfl (fun zM1 hzM1 => ?_)
    refine ri_ic a_X2_sum_5 ?_
    refine ri_istk (ls' := [some (vo 12 0), some (vi (nI (5 - b))), some (vi 0), none]) a_X2_sum_6 rfl ?_
    exact loopB d M zM1 p 0 none (by omega) (by omega) hzM1.1 hzM1.2

