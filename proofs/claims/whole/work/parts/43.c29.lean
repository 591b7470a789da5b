/-! class: rusts -/
/-- alike as far as the person q -/
def veq (V V' : Vw) : Prop := (∀ q, q < 8 → V.1 q = V'.1 q ∧ V.2.1 q = V'.2.1 q ∧ V.2.2.1 q = V'.2.2.1 q ∧ V.2.2.2.1 q = V'.2.2.2.1 q) ∧ V.2.2.2.2 = V'.2.2.2.2
theorem nmV_eq {V V' : Vw} (h : veq V V') {q : Nat} (hq : q < 8) (rung : Int32) : nmV V q rung = nmV V' q rung := by
  obtain ⟨h1, h2⟩ := h
  obtain ⟨a, b, c, d⟩ := h1 q hq
  funext k
  match k with
  | 0 => exact c
  | 1 => exact d
  | 2 => exact congrArg Prod.fst h2
  | 3 => rfl
  | 4 => exact congrArg Prod.snd h2
  | _ + 5 => exact b
theorem sayV_eq {L : List (List Op)} {V V' : Vw} (h : veq V V') {q : Nat} (hq : q < 8) (pt : Nat) (rung : Int32) : sayV L V pt q rung = sayV L V' pt q rung := by
  unfold sayV
  rw [nmV_eq h hq]
theorem risV_eq {L : List (List Op)} {V V' : Vw} (h : veq V V') {q : Nat} (hq : q < 8) (rung : Int32) : risV L V q rung = risV L V' q rung := by
  obtain ⟨a, b, c, d⟩ := h.1 q hq
  unfold risV
  rw [sayV_eq h hq, a, b, h.2]
theorem beaV_eq {L : List (List Op)} {V V' : Vw} (h : veq V V') {q : Nat} (hq : q < 8) (rung : Int32) : beaV L V q rung = beaV L V' q rung := by
  obtain ⟨a, b, c, d⟩ := h.1 q hq
  unfold beaV
  rw [sayV_eq h hq, a, b]
theorem weiV_eq {V V' : Vw} (h : veq V V') {q : Nat} (hq : q < 8) : weiV V q = weiV V' q := by
  obtain ⟨a, b, c, d⟩ := h.1 q hq
  unfold weiV
  rw [a, c]
theorem hiS_eq {L : List (List Op)} {V V' : Vw} (h : veq V V') {R : Nat → Nat} : ∀ n, (∀ i, i < n → R i < 8) → hiS L V R n = hiS L V' R n := by
  intro n
  induction n with
  | zero => intro _; rfl
  | succ n ih =>
    intro hR
    rw [hiS, hiS, ih (fun i hi => hR i (by omega)), risV_eq h (hR n (by omega))]
/-- only the crew for trials has changed -/
def frC (M M' : Mem) : Prop := ∀ t i k, ¬ (i = 2 ∧ 1 ≤ t ∧ t ≤ 7) → M' t i k = M t i k
theorem frC_blk {M : Mem} : frC M (blk M 2 0) := fun t i k h => by
  unfold blk
  rw [if_neg (by omega)]
theorem frC_tr {M M1 M2 : Mem} (h : frC M M1) (h2 : frC M1 M2) : frC M M2 := fun t i k a => (h2 t i k a).trans (h t i k a)
theorem frC_up {M : Mem} {t k : Nat} {x : Int32} (ht : 1 ≤ t ∧ t ≤ 7) : frC M (up M t 2 k x) := fun t' i k' a => by
  rw [up_apply, if_neg]
  rintro ⟨q1, q2, q3⟩
  exact a ⟨q2, q1 ▸ ht⟩
def rsV (V : Vw) (x : Int32) : Vw := (V.1, V.2.1, V.2.2.1, V.2.2.2.1, x, V.2.2.2.2.2)
def rsF (g : Nat → Int32) (win : Int32) : Nat → Nat → Int32
  | 0, _ => -1
  | r + 1, n => if g n < win then nI n else rsF g win r (n + 1)
/-- the trial's crew is the true one, with another rust -/
def tri (M M1 : Mem) : Prop := frC M M1 ∧ (∀ t k, 2 ≤ t → t ≤ 7 → k < 8 → M1 t 2 k = M t 0 k) ∧ M1 1 2 6 = M 1 0 6 ∧ M1 1 2 7 = M 1 0 7 ∧ M1 1 2 9 = M 1 0 9
theorem tri_up {M M1 : Mem} {x : Int32} (h : tri M M1) : tri M (up M1 1 2 8 x) := by
  obtain ⟨h1, h2, h3, h4, h5⟩ := h
  exact ⟨frC_tr h1 (frC_up (by decide)), fun t k a b c => by rw [up_apply, if_neg (by omega)]; exact h2 t k a b c, h3, h4, h5⟩
theorem tri_blk {M : Mem} : tri M (blk M 2 0) := ⟨frC_blk, fun t k a b c => by unfold blk; rw [if_pos (by omega)], rfl, rfl, rfl⟩
theorem tri_law {M M1 : Mem} {L : List (List Op)} (h : tri M M1) (hL : lawC M 0 L) : lawC M1 2 L := by
  obtain ⟨t, ht, h9, hx⟩ := hL
  refine ⟨t, ht, by rw [h.2.2.2.2, h9], ?_⟩
  unfold tx txS at hx ⊢
  rw [show M1 9 = M 9 from funext fun i => funext fun k => h.1 9 i k (by omega), show M1 10 = M 10 from funext fun i => funext fun k => h.1 10 i k (by omega)]
  exact hx
theorem tri_veq {M M1 : Mem} (h : tri M M1) : veq (vwC M1 2) (rsV (vwC M 0) (M1 1 2 8)) := ⟨fun q hq => ⟨h.2.1 2 q (by decide) (by decide) hq, h.2.1 3 q (by decide) (by decide) hq, h.2.1 4 q (by decide) (by decide) hq, h.2.1 5 q (by decide) (by decide) hq⟩, by show (M1 1 2 8, M1 1 2 7) = (M1 1 2 8, M 1 0 7); rw [h.2.2.2.1]⟩
theorem tri_row {M M1 : Mem} {O : Nat → Nat} {k : Nat} (h : tri M M1) (hO : rowA (M 7 0) O k) (hk : k ≤ 8) : rowA (M1 7 2) O k := fun i hi => by
  rw [h.2.1 7 i (by decide) (by decide) (by omega)]
  exact hO i hi
theorem ok_X6_rusts {w : Wd} {d : Nat} (hd : 5 ≤ d) {M : Mem} {k : Nat} {L : List (List Op)} {O : Nat → Nat} (hL : lawC M 0 L) (hk : M 1 0 7 = nI k) (hk8 : k ≤ 8) (hO : rowA (M 7 0) O k) (win : Int32) : lr_Ok tC sC w d jX6_rusts [vo 0 0, vi win] M (qX fun r M' => frC M M' ∧ r = if 0 ≤ win ∧ win ≤ 999 then rsF (fun m => hiS L (rsV (vwC M 0) (miF 999 (M 1 0 8 + nI m))) O k) win 100 0 else -2) := by
  have loop : ∀ r m M1, 100 = m + r → tri M M1 → lr_W tC sC w d jX6_rusts 26 [some (vo 0 0), some (vi win), some (vi (nI m))] [] M1 (qX fun r' M' => frC M M' ∧ r' = rsF (fun m => hiS L (rsV (vwC M 0) (miF 999 (M 1 0 8 + nI m))) O k) win r m) := by
    intro r
    induction r with
    | zero =>
      intro m M1 hr ht
      have : m = 100 := by omega
      subst this
      refine ri_ild a_X6_rusts_26 rfl ?_
      refine ri_ic a_X6_rusts_27 ?_
      refine ri_icmp_ge a_X6_rusts_29 (fun zc11 => ?_) (fun zc11 => ?_)
      · refine ri_ic a_X6_rusts_88 ?_
        refine ri_ireturn a_X6_rusts_89 rfl rfl ?_
        exact rX ⟨ht.1, rfl⟩
      · exact absurd (by decide) zc11
    | succ r ih =>
      intro m M1 hr ht
      refine ri_ild a_X6_rusts_26 rfl ?_
      refine ri_ic a_X6_rusts_27 ?_
      refine ri_icmp_ge a_X6_rusts_29 (fun zc11 => ?_) (fun zc11 => ?_)
      · refine ri_ic a_X6_rusts_88 ?_
        refine ri_ireturn a_X6_rusts_89 rfl rfl ?_
        exact absurd zc11 (nI_ge (b := 100) (by omega) (by decide))
      · refine ri_ald a_X6_rusts_32 rfl ?_
        refine ri_getR (t' := 1) (i' := 2) a_X6_rusts_33 fl_X6_19 kC_0_2 rfl iC_0 (Or.inr ⟨rfl, rfl, rfl⟩) ?_
        refine ri_ic a_X6_rusts_36 ?_
        refine ri_ald a_X6_rusts_39 rfl ?_
        refine ri_getR (t' := 1) (i' := 0) a_X6_rusts_40 fl_X6_10 kC_0_0 rfl iC_0 (Or.inr ⟨rfl, rfl, rfl⟩) ?_
        refine ri_getI a_X6_rusts_43 fl_X6_93 kC_1_8 rfl (iC_1 (by decide)) ?_
        refine ri_ild a_X6_rusts_46 rfl ?_
        refine ri_iadd a_X6_rusts_47 ?_
        refine ri_min a_X6_rusts_48 mx_X6_202 mx_min (by omega) (Nat.le_of_ble_eq_true rfl) ?_
        refine ri_putI a_X6_rusts_51 fp_X6_93 kC_1_8 rfl (iC_1 (by decide)) (fun zM12 ezM12 => ?_)
        rw [ht.1 1 0 8 (by omega)] at ezM12
        have ht2 : tri M zM12 := by rw [ezM12]; exact tri_up ht
        have ek : zM12 1 2 7 = nI k := by rw [ht2.2.2.2.1, hk]
        have hh := ok_X6_highOf_o (w := w) (d := d - 1) (c := 2) (by omega) (tri_law ht2 hL) (by decide) hk8 (tri_row ht2 hO hk8)
        rw [hiS_eq (tri_veq ht2) k (fun i hi => (hO i hi).2), show zM12 1 2 8 = miF 999 (M 1 0 8 + nI m) from by rw [ezM12]; rfl] at hh
        rw [← ek] at hh
        refine ri_ald a_X6_rusts_54 rfl ?_
        refine ri_ald a_X6_rusts_55 rfl ?_
        refine ri_getR (t' := 1) (i' := 2) a_X6_rusts_56 fl_X6_19 kC_0_2 rfl iC_0 (Or.inr ⟨rfl, rfl, rfl⟩) ?_
        refine ri_ald a_X6_rusts_59 rfl ?_
        refine ri_getR (t' := 1) (i' := 2) a_X6_rusts_60 fl_X6_19 kC_0_2 rfl iC_0 (Or.inr ⟨rfl, rfl, rfl⟩) ?_
        refine ri_getR (t' := 7) (i' := 2) a_X6_rusts_63 fl_X6_144 kC_1_5 rfl (iC_1 (by decide)) (Or.inl ⟨rfl, rfl, rfl⟩) ?_
        refine ri_ald a_X6_rusts_66 rfl ?_
        refine ri_getR (t' := 1) (i' := 2) a_X6_rusts_67 fl_X6_19 kC_0_2 rfl iC_0 (Or.inr ⟨rfl, rfl, rfl⟩) ?_
        refine ri_getI a_X6_rusts_70 fl_X6_90 kC_1_7 rfl (iC_1 (by decide)) ?_
        refine ri_cVpi (as := [vo 1 2, vo 7 2, vi (zM12 1 2 7)]) (rest := []) (d' := d - 1) a_X6_rusts_73 mv_X6_highOf ml_X6_184 (rcC_0 iC_0) (by omega) (hh) (Nat.le_of_ble_eq_true rfl) rfl (fun zy21 ezy21 => ?_)
        refine ri_ild a_X6_rusts_76 rfl ?_
        refine ri_icmp_ge a_X6_rusts_77 (fun zc22 => ?_) (fun zc22 => ?_)
        · refine ri_iinc (c0 := 1) (f := fun zx23 => [some (vo 0 0), some (vi win), some (vi zx23)]) a_X6_rusts_82 rfl (by decide) (fun _ => rfl) (fun zx23 ezx23 => ?_)
          refine ri_goto a_X6_rusts_85 ?_
          rw [rsF, if_neg (show ¬ hiS L (rsV (vwC M 0) (miF 999 (M 1 0 8 + nI m))) O k < win from by rw [← ezy21]; exact Int32.not_lt.mpr zc22), ezx23, nI_1]
          exact ih (m + 1) zM12 (by omega) ht2
        · refine ri_ild a_X6_rusts_80 rfl ?_
          refine ri_ireturn a_X6_rusts_81 rfl rfl ?_
          exact rX ⟨ht2.1, by rw [rsF, if_pos (show hiS L (rsV (vwC M 0) (miF 999 (M 1 0 8 + nI m))) O k < win from by rw [← ezy21]; exact Int32.not_le.mp zc22)]⟩
  refine lr_ok (by decide +kernel) rfl ?_
  refine ri_ild a_X6_rusts_0 rfl ?_
  refine ri_ic a_X6_rusts_1 ?_
  refine ri_cSpb (as := [vi win, vi 999]) (rest := []) (d' := d - 1) a_X6_rusts_4 ms_X6_within ml_X6_102 (by omega) (ok_X6_within win 999) (Nat.le_of_ble_eq_true rfl) rfl (fun zc1 => ?_) (fun zc1 => ?_)
  · refine ri_if_ne a_X6_rusts_7 (fun _ => ?_) (fun q => absurd q (by decide))
    refine ri_ald a_X6_rusts_13 rfl ?_
    refine ri_getR (t' := 1) (i' := 2) a_X6_rusts_14 fl_X6_19 kC_0_2 rfl iC_0 (Or.inr ⟨rfl, rfl, rfl⟩) ?_
    refine ri_ald a_X6_rusts_17 rfl ?_
    refine ri_getR (t' := 1) (i' := 0) a_X6_rusts_18 fl_X6_10 kC_0_0 rfl iC_0 (Or.inr ⟨rfl, rfl, rfl⟩) ?_
    refine ri_cVxv (as := [vo 1 0]) (rest := []) (d' := d - 1) a_X6_rusts_21 mv_X0_becomeLike ml_X6_198 (rcC_1 (iC_1 (by decide))) (by omega) (ok_X0_becomeLike (by omega) (by decide) (by decide)) (Nat.le_of_ble_eq_true rfl) rfl (fun zM2 hzM2 => ?_)
    refine ri_ic a_X6_rusts_24 ?_
    refine ri_istk (ls' := [some (vo 0 0), some (vi win), some (vi 0)]) a_X6_rusts_25 rfl ?_
    refine lr_Wimp (loop 100 0 zM2 rfl (hzM2 ▸ tri_blk)) ?_
    rintro r M' ⟨y, h1, h2, h3⟩
    exact ⟨y, h1, h2, by rw [if_pos zc1]; exact h3⟩
  · refine ri_if_ne a_X6_rusts_7 (fun q => absurd q (by decide)) (fun _ => ?_)
    refine ri_ic a_X6_rusts_10 ?_
    refine ri_ireturn a_X6_rusts_12 rfl rfl ?_
    exact rX ⟨fun _ _ _ _ => rfl, by rw [if_neg zc1]⟩

