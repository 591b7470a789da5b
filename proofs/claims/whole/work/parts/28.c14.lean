/-! class: says, rises, bears, weighs -/
theorem ri_aaloadE {T : Tb} {S : Nat → Bool} {w : Wd} {d : Nat} {j : MI} {pc n : Nat} {ls : List (Option AV)} {st : List AV} {M : Mem} {Q : RP} {t i len t' c0 k0 : Nat} {x : Int32} (hd : lr_F j pc .aaload 1 n) (hsh : lr_rl T t = some (len, t', c0)) (hc : c0 = 1 ∨ c0 = 2) (hi : i < lr_cnt T t) (hk : x.toNatClampNeg = k0) (hin : vp_in x len) (nx : lr_W T S w d j n ls (vo t' k0 :: st) M Q) : lr_W T S w d j pc ls (vi x :: vo t i :: st) M Q := by
  subst hk
  exact ri_aaload hd hsh hc hi hin nx
theorem tx_v {M : Mem} {t pt : Nat} {L : List (List Op)} (h : tx M t L) (hpt : pt < 3) : ∃ lo hi, ((pt = 0 ∧ lo = 0) ∨ (0 < pt ∧ M 10 t (pt - 1) = nI lo)) ∧ M 10 t pt = nI hi ∧ hi ≤ 160 ∧ lo + (L.getD pt []).length = hi ∧ (∀ k o, (L.getD pt [])[k]? = some o → M 9 t (lo + k) = encC o) ∧ wfd 32 (L.getD pt []) 0 := by
  obtain ⟨h3, ⟨hc, he⟩, h160, hw⟩ := h
  match L, h3 with
  | [a, b, c], _ =>
  have e0 := he 0 (by simp)
  have e1 := he 1 (by simp)
  have e2 := he 2 (by simp)
  simp only [List.take_succ_cons, List.take_zero, List.flatten_cons, List.flatten_nil, List.append_nil, List.length_append] at e0 e1 e2 h160 hc
  match pt, hpt with
  | 0, _ => exact ⟨0, a.length, Or.inl ⟨rfl, rfl⟩, e0, by omega, by simp, fun k o hk => by rw [Nat.zero_add]; exact hc k o (by rw [List.getElem?_append_left]; exact hk; exact (List.getElem?_eq_some_iff.1 hk).1), hw a (by simp)⟩
  | 1, _ => exact ⟨a.length, a.length + b.length, Or.inr ⟨by decide, e0⟩, e1, by omega, by simp, fun k o hk => hc _ o (by rw [List.getElem?_append_right (by omega), Nat.add_sub_cancel_left, List.getElem?_append_left]; exact hk; exact (List.getElem?_eq_some_iff.1 hk).1), hw b (by simp)⟩
  | 2, _ => exact ⟨a.length + b.length, a.length + (b.length + c.length), Or.inr ⟨by decide, e1⟩, e2, by omega, by simp [Nat.add_assoc], fun k o hk => hc _ o (by rw [List.getElem?_append_right (by omega), List.getElem?_append_right (by omega), show a.length + b.length + k - a.length - b.length = k by omega]; exact hk), hw c (by simp)⟩
theorem ok_X1_value {w : Wd} {d : Nat} (hd : 1 ≤ d) {M : Mem} {t c q pt : Nat} {L : List (List Op)} (ht : t < 6) (hc : c < 3) (hq : q < 8) (hpt : pt < 3) (rung : Int32) (hL : tx M t L) :
    lr_Ok tC sC w d jX1_value [vo 8 t, vi (nI pt), vo 1 c, vi (nI q), vi rung] M (qI (evA (nmV (vwC M c) q rung) (L.getD pt []) []) M) := by
  refine lr_hide (fun M0 h0 => ?_)
  have hL0 : tx M0 t L := by
    unfold tx txS at hL ⊢
    rw [h0 9 rfl, h0 10 rfl]
    exact hL
  obtain ⟨lo, hi, a1, a2, a3, a4, a5, a6⟩ := tx_v hL0 hpt
  have := ok_X1_value0 (w := w) hd ht hc hq hpt rung _ a1 a2 a3 a4 a5 a6
  have ev : vwC M0 c = vwC M c := by
    unfold vwC
    rw [h0 2 rfl, h0 3 rfl, h0 4 rfl, h0 5 rfl, h0 1 rfl]
  rw [ev] at this
  exact this
/-- the word of a text, held within its bounds -/
def clp (hi v : Int32) : Int32 := if 0 < (if hi > v then v else hi) then (if hi > v then v else hi) else 0
def mxV : Nat → Int32
  | 0 => 99
  | 1 => 999
  | _ => 100
def sayV (L : List (List Op)) (V : Vw) (pt q : Nat) (rung : Int32) : Int32 := clp (mxV pt) (evA (nmV V q rung) (L.getD pt []) [])
/-- what one adds to the height, bears and weighs -/
def risV (L : List (List Op)) (V : Vw) (q : Nat) (rung : Int32) : Int32 :=
  if V.1 q = 2 then sayV L V 0 q rung + V.2.1 q
  else if V.1 q = 4 then sayV L V 0 q rung / 2
  else if V.1 q = 5 then if V.2.2.2.2.1 ≤ V.2.1 q then sayV L V 0 q rung else if 0 < sayV L V 0 q rung - 3 then sayV L V 0 q rung - 3 else 0
  else sayV L V 0 q rung
def beaV (L : List (List Op)) (V : Vw) (q : Nat) (rung : Int32) : Int32 :=
  if V.1 q = 1 then sayV L V 1 q rung + 10 * V.2.1 q
  else if V.1 q = 2 then sayV L V 1 q rung / 2
  else if V.1 q = 3 then 2 * (sayV L V 1 q rung + 10 * V.2.1 q)
  else if V.1 q = 4 then sayV L V 1 q rung / 2
  else sayV L V 1 q rung
def weiV (V : Vw) (q : Nat) : Int32 :=
  if V.1 q = 3 then V.2.2.1 q / 2 + 9
  else if V.1 q = 4 then V.2.2.1 q / 2 / 2
  else if V.1 q = 5 then V.2.2.1 q
  else V.2.2.1 q / 2
/-- the law of a crew, as its parts -/
def lawC (M : Mem) (c : Nat) (L : List (List Op)) : Prop := ∃ t, t < 6 ∧ M 1 c 9 = nI t ∧ tx M t L
theorem ok_X6_says {w : Wd} {d : Nat} (hd : 2 ≤ d) {M : Mem} {c q pt : Nat} {L : List (List Op)} (hL : lawC M c L) (hc : c < 3) (hq : q < 8) (hpt : pt < 3) (rung : Int32) : lr_Ok tC sC w d jX6_says [vo 0 0, vo 1 c, vi (nI pt), vi (nI q), vi rung] M (qI (sayV L (vwC M c) pt q rung) M) := by
  obtain ⟨t, ht, h9, hL⟩ := hL
  have e9 : (M 1 c 9).toNatClampNeg = t := by rw [h9, nI_clamp (by omega)]
  have i9 : vp_in (M 1 c 9) 6 := by rw [h9]; exact vp_in_nI ht (by decide)
  have hp : pt = 0 ∨ pt = 1 ∨ pt = 2 := by omega
  refine lr_ok (by decide +kernel) rfl ?_
  refine ri_ild a_X6_says_0 rfl ?_
  refine ri_if_ne a_X6_says_1 (fun zc1 => ?_) (fun zc1 => ?_)
  · refine ri_ild a_X6_says_9 rfl ?_
    refine ri_ic a_X6_says_10 ?_
    refine ri_icmp_ne a_X6_says_11 (fun zc2 => ?_) (fun zc2 => ?_)
    · refine ri_ic a_X6_says_20 ?_
      refine ri_istk (ls' := [some (vo 0 0), some (vo 1 c), some (vi (nI pt)), some (vi (nI q)), some (vi rung), some (vi 100), none]) a_X6_says_22 rfl ?_
      refine ri_ald a_X6_says_24 rfl ?_
      refine ri_getR (t' := 21) (i' := 0) a_X6_says_25 fl_X6_28 kC_0_5 rfl iC_0 (Or.inr ⟨rfl, rfl, rfl⟩) ?_
      refine ri_ald a_X6_says_28 rfl ?_
      refine ri_getI a_X6_says_29 fl_X6_96 kC_1_9 rfl (iC_1 (by assumption)) ?_
      refine ri_aaloadE (k0 := t) a_X6_says_32 lC_21 (by decide) iC_21 e9 i9 ?_
      refine ri_ild a_X6_says_33 rfl ?_
      refine ri_ald a_X6_says_34 rfl ?_
      refine ri_ild a_X6_says_35 rfl ?_
      refine ri_ild a_X6_says_36 rfl ?_
      refine ri_cVpi (as := [vi (nI pt), vo 1 c, vi (nI q), vi rung]) (rest := []) (d' := d - 1) a_X6_says_38 mv_X1_value ml_X6_260 (rcC_8 (iC_8 (by assumption))) (by omega) (ok_X1_value (by omega) ht hc hq hpt rung hL) (Nat.le_of_ble_eq_true rfl) rfl (fun zy3 ezy3 => ?_)
      refine ri_istk (ls' := [some (vo 0 0), some (vo 1 c), some (vi (nI pt)), some (vi (nI q)), some (vi rung), some (vi 100), some (vi zy3)]) a_X6_says_41 rfl ?_
      refine ri_ic a_X6_says_43 ?_
      refine ri_ild a_X6_says_44 rfl ?_
      refine ri_ild a_X6_says_46 rfl ?_
      refine ri_min a_X6_says_48 mx_X6_202 mx_min (by omega) (Nat.le_of_ble_eq_true rfl) ?_
      refine ri_max a_X6_says_51 mx_X6_264 mx_max (by omega) (Nat.le_of_ble_eq_true rfl) ?_
      refine ri_ireturn a_X6_says_54 rfl rfl ?_
      exact rI (by
      rcases hp with rfl | rfl | rfl
      all_goals first | (exact absurd rfl zc1) | (exact absurd rfl zc2) | (exact absurd zc1 (by decide)) | (exact absurd zc2 (by decide)) | (subst_vars; rfl)) rfl
    · refine ri_ic a_X6_says_14 ?_
      refine ri_goto a_X6_says_17 ?_
      refine ri_istk (ls' := [some (vo 0 0), some (vo 1 c), some (vi (nI pt)), some (vi (nI q)), some (vi rung), some (vi 999), none]) a_X6_says_22 rfl ?_
      refine ri_ald a_X6_says_24 rfl ?_
      refine ri_getR (t' := 21) (i' := 0) a_X6_says_25 fl_X6_28 kC_0_5 rfl iC_0 (Or.inr ⟨rfl, rfl, rfl⟩) ?_
      refine ri_ald a_X6_says_28 rfl ?_
      refine ri_getI a_X6_says_29 fl_X6_96 kC_1_9 rfl (iC_1 (by assumption)) ?_
      refine ri_aaloadE (k0 := t) a_X6_says_32 lC_21 (by decide) iC_21 e9 i9 ?_
      refine ri_ild a_X6_says_33 rfl ?_
      refine ri_ald a_X6_says_34 rfl ?_
      refine ri_ild a_X6_says_35 rfl ?_
      refine ri_ild a_X6_says_36 rfl ?_
      refine ri_cVpi (as := [vi (nI pt), vo 1 c, vi (nI q), vi rung]) (rest := []) (d' := d - 1) a_X6_says_38 mv_X1_value ml_X6_260 (rcC_8 (iC_8 (by assumption))) (by omega) (ok_X1_value (by omega) ht hc hq hpt rung hL) (Nat.le_of_ble_eq_true rfl) rfl (fun zy4 ezy4 => ?_)
      refine ri_istk (ls' := [some (vo 0 0), some (vo 1 c), some (vi (nI pt)), some (vi (nI q)), some (vi rung), some (vi 999), some (vi zy4)]) a_X6_says_41 rfl ?_
      refine ri_ic a_X6_says_43 ?_
      refine ri_ild a_X6_says_44 rfl ?_
      refine ri_ild a_X6_says_46 rfl ?_
      refine ri_min a_X6_says_48 mx_X6_202 mx_min (by omega) (Nat.le_of_ble_eq_true rfl) ?_
      refine ri_max a_X6_says_51 mx_X6_264 mx_max (by omega) (Nat.le_of_ble_eq_true rfl) ?_
      refine ri_ireturn a_X6_says_54 rfl rfl ?_
      exact rI (by
      rcases hp with rfl | rfl | rfl
      all_goals first | (exact absurd rfl zc1) | (exact absurd rfl zc2) | (exact absurd zc1 (by decide)) | (exact absurd zc2 (by decide)) | (subst_vars; rfl)) rfl
  · refine ri_ic a_X6_says_4 ?_
    refine ri_goto a_X6_says_6 ?_
    refine ri_istk (ls' := [some (vo 0 0), some (vo 1 c), some (vi (nI pt)), some (vi (nI q)), some (vi rung), some (vi 99), none]) a_X6_says_22 rfl ?_
    refine ri_ald a_X6_says_24 rfl ?_
    refine ri_getR (t' := 21) (i' := 0) a_X6_says_25 fl_X6_28 kC_0_5 rfl iC_0 (Or.inr ⟨rfl, rfl, rfl⟩) ?_
    refine ri_ald a_X6_says_28 rfl ?_
    refine ri_getI a_X6_says_29 fl_X6_96 kC_1_9 rfl (iC_1 (by assumption)) ?_
    refine ri_aaloadE (k0 := t) a_X6_says_32 lC_21 (by decide) iC_21 e9 i9 ?_
    refine ri_ild a_X6_says_33 rfl ?_
    refine ri_ald a_X6_says_34 rfl ?_
    refine ri_ild a_X6_says_35 rfl ?_
    refine ri_ild a_X6_says_36 rfl ?_
    refine ri_cVpi (as := [vi (nI pt), vo 1 c, vi (nI q), vi rung]) (rest := []) (d' := d - 1) a_X6_says_38 mv_X1_value ml_X6_260 (rcC_8 (iC_8 (by assumption))) (by omega) (ok_X1_value (by omega) ht hc hq hpt rung hL) (Nat.le_of_ble_eq_true rfl) rfl (fun zy5 ezy5 => ?_)
    refine ri_istk (ls' := [some (vo 0 0), some (vo 1 c), some (vi (nI pt)), some (vi (nI q)), some (vi rung), some (vi 99), some (vi zy5)]) a_X6_says_41 rfl ?_
    refine ri_ic a_X6_says_43 ?_
    refine ri_ild a_X6_says_44 rfl ?_
    refine ri_ild a_X6_says_46 rfl ?_
    refine ri_min a_X6_says_48 mx_X6_202 mx_min (by omega) (Nat.le_of_ble_eq_true rfl) ?_
    refine ri_max a_X6_says_51 mx_X6_264 mx_max (by omega) (Nat.le_of_ble_eq_true rfl) ?_
    refine ri_ireturn a_X6_says_54 rfl rfl ?_
    exact rI (by
    rcases hp with rfl | rfl | rfl
    all_goals first | (exact absurd rfl zc1) | (exact absurd rfl zc2) | (exact absurd zc1 (by decide)) | (exact absurd zc2 (by decide)) | (subst_vars; rfl)) rfl
theorem ok_X6_risesOf {w : Wd} {d : Nat} (hd : 3 ≤ d) {M : Mem} {c q : Nat} {L : List (List Op)} (hL : lawC M c L) (hc : c < 3) (hq : q < 8) (rung : Int32) : lr_Ok tC sC w d jX6_risesOf [vo 0 0, vo 1 c, vi (nI q), vi rung] M (qI (risV L (vwC M c) q rung) M) := by
  have e8 : (nI q).toNatClampNeg = q := nI_clamp (by omega)
  have i8 : vp_in (nI q) 8 := vp_in_nI hq (by decide)
  refine lr_ok (by decide +kernel) rfl ?_
  refine ri_ald a_X6_risesOf_0 rfl ?_
  refine ri_ald a_X6_risesOf_1 rfl ?_
  refine ri_ic a_X6_risesOf_2 ?_
  refine ri_ild a_X6_risesOf_3 rfl ?_
  refine ri_ild a_X6_risesOf_4 rfl ?_
  refine ri_cVpi (as := [vo 1 c, vi 0, vi (nI q), vi rung]) (rest := []) (d' := d - 1) a_X6_risesOf_5 mv_X6_says ml_X6_110 (rcC_0 iC_0) (by omega) (ok_X6_says (pt := 0) (by omega) hL hc hq (by decide) rung) (Nat.le_of_ble_eq_true rfl) rfl (fun zy1 ezy1 => ?_)
  refine ri_istk (ls' := [some (vo 0 0), some (vo 1 c), some (vi (nI q)), some (vi rung), some (vi zy1)]) a_X6_risesOf_8 rfl ?_
  refine ri_ald a_X6_risesOf_10 rfl ?_
  refine ri_getR (t' := 2) (i' := c) a_X6_risesOf_11 fl_X6_131 kC_1_0 rfl (iC_1 (by assumption)) (Or.inl ⟨rfl, rfl, rfl⟩) ?_
  refine ri_ild a_X6_risesOf_14 rfl ?_
  refine ri_iaload a_X6_risesOf_15 lC_2 rfl (iC_2 (by assumption)) i8 ?_
  refine ri_tsw a_X6_risesOf_16 ⟨fun zc2 => ?_, fun zc2 => ?_, fun zc2 => ?_, fun zc2 => ?_, trivial⟩ (fun zc2 => ?_)
  · replace zc2 : (M 2 c (nI q).toNatClampNeg) = 2 := zc2.trans (by decide)
    refine ri_ild a_X6_risesOf_48 rfl ?_
    refine ri_ald a_X6_risesOf_50 rfl ?_
    refine ri_getR (t' := 3) (i' := c) a_X6_risesOf_51 fl_X6_134 kC_1_1 rfl (iC_1 (by assumption)) (Or.inl ⟨rfl, rfl, rfl⟩) ?_
    refine ri_ild a_X6_risesOf_54 rfl ?_
    refine ri_iaload a_X6_risesOf_55 lC_3 rfl (iC_3 (by assumption)) i8 ?_
    refine ri_iadd a_X6_risesOf_56 ?_
    refine ri_ireturn a_X6_risesOf_57 rfl rfl ?_
    exact rI (by
    simp only [e8] at *
    try subst ezy1
    first
    | (have n2 : ∀ y : Int32, 2 ≤ y.toInt → y.toInt < 6 → M 2 c q ≠ y := fun y a b e => by rw [e] at zc2; simp only [List.length_cons, List.length_nil] at zc2; omega
       simp [risV, vwC, n2 2 (by decide) (by decide), n2 3 (by decide) (by decide), n2 4 (by decide) (by decide), n2 5 (by decide) (by decide), *]; done)
    | simp [risV, vwC, *]) rfl
  · replace zc2 : (M 2 c (nI q).toNatClampNeg) = 3 := zc2.trans (by decide)
    refine ri_ild a_X6_risesOf_90 rfl ?_
    refine ri_ireturn a_X6_risesOf_92 rfl rfl ?_
    exact rI (by
    simp only [e8] at *
    try subst ezy1
    first
    | (have n2 : ∀ y : Int32, 2 ≤ y.toInt → y.toInt < 6 → M 2 c q ≠ y := fun y a b e => by rw [e] at zc2; simp only [List.length_cons, List.length_nil] at zc2; omega
       simp [risV, vwC, n2 2 (by decide) (by decide), n2 3 (by decide) (by decide), n2 4 (by decide) (by decide), n2 5 (by decide) (by decide), *]; done)
    | simp [risV, vwC, *]) rfl
  · replace zc2 : (M 2 c (nI q).toNatClampNeg) = 4 := zc2.trans (by decide)
    refine ri_ild a_X6_risesOf_58 rfl ?_
    refine ri_ic a_X6_risesOf_60 ?_
    refine ri_idiv a_X6_risesOf_61 (by decide) ?_
    refine ri_ireturn a_X6_risesOf_62 rfl rfl ?_
    exact rI (by
    simp only [e8] at *
    try subst ezy1
    first
    | (have n2 : ∀ y : Int32, 2 ≤ y.toInt → y.toInt < 6 → M 2 c q ≠ y := fun y a b e => by rw [e] at zc2; simp only [List.length_cons, List.length_nil] at zc2; omega
       simp [risV, vwC, n2 2 (by decide) (by decide), n2 3 (by decide) (by decide), n2 4 (by decide) (by decide), n2 5 (by decide) (by decide), *]; done)
    | simp [risV, vwC, *]) rfl
  · replace zc2 : (M 2 c (nI q).toNatClampNeg) = 5 := zc2.trans (by decide)
    refine ri_ald a_X6_risesOf_63 rfl ?_
    refine ri_getI a_X6_risesOf_64 fl_X6_93 kC_1_8 rfl (iC_1 (by assumption)) ?_
    refine ri_ald a_X6_risesOf_67 rfl ?_
    refine ri_getR (t' := 3) (i' := c) a_X6_risesOf_68 fl_X6_134 kC_1_1 rfl (iC_1 (by assumption)) (Or.inl ⟨rfl, rfl, rfl⟩) ?_
    refine ri_ild a_X6_risesOf_71 rfl ?_
    refine ri_iaload a_X6_risesOf_72 lC_3 rfl (iC_3 (by assumption)) i8 ?_
    refine ri_icmp_le a_X6_risesOf_73 (fun zc3 => ?_) (fun zc3 => ?_)
    · refine ri_ild a_X6_risesOf_87 rfl ?_
      refine ri_ireturn a_X6_risesOf_89 rfl rfl ?_
      exact rI (by
      simp only [e8] at *
      try subst ezy1
      first
      | (have n2 : ∀ y : Int32, 2 ≤ y.toInt → y.toInt < 6 → M 2 c q ≠ y := fun y a b e => by rw [e] at zc2; simp only [List.length_cons, List.length_nil] at zc2; omega
         simp [risV, vwC, n2 2 (by decide) (by decide), n2 3 (by decide) (by decide), n2 4 (by decide) (by decide), n2 5 (by decide) (by decide), *]; done)
      | simp [risV, vwC, *]) rfl
    · refine ri_ic a_X6_risesOf_76 ?_
      refine ri_ild a_X6_risesOf_77 rfl ?_
      refine ri_ic a_X6_risesOf_79 ?_
      refine ri_isub a_X6_risesOf_80 ?_
      refine ri_max a_X6_risesOf_81 mx_X6_264 mx_max (by omega) (Nat.le_of_ble_eq_true rfl) ?_
      refine ri_goto a_X6_risesOf_84 ?_
      refine ri_ireturn a_X6_risesOf_89 rfl rfl ?_
      exact rI (by
      simp only [e8] at *
      try subst ezy1
      first
      | (have n2 : ∀ y : Int32, 2 ≤ y.toInt → y.toInt < 6 → M 2 c q ≠ y := fun y a b e => by rw [e] at zc2; simp only [List.length_cons, List.length_nil] at zc2; omega
         simp [risV, vwC, n2 2 (by decide) (by decide), n2 3 (by decide) (by decide), n2 4 (by decide) (by decide), n2 5 (by decide) (by decide), *]; done)
      | simp [risV, vwC, *]) rfl
  · refine ri_ild a_X6_risesOf_90 rfl ?_
    refine ri_ireturn a_X6_risesOf_92 rfl rfl ?_
    exact rI (by
    simp only [e8] at *
    try subst ezy1
    first
    | (have n2 : ∀ y : Int32, 2 ≤ y.toInt → y.toInt < 6 → M 2 c q ≠ y := fun y a b e => by rw [e] at zc2; simp only [List.length_cons, List.length_nil] at zc2; omega
       simp [risV, vwC, n2 2 (by decide) (by decide), n2 3 (by decide) (by decide), n2 4 (by decide) (by decide), n2 5 (by decide) (by decide), *]; done)
    | simp [risV, vwC, *]) rfl
theorem ok_X6_bearsOf {w : Wd} {d : Nat} (hd : 3 ≤ d) {M : Mem} {c q : Nat} {L : List (List Op)} (hL : lawC M c L) (hc : c < 3) (hq : q < 8) (rung : Int32) : lr_Ok tC sC w d jX6_bearsOf [vo 0 0, vo 1 c, vi (nI q), vi rung] M (qI (beaV L (vwC M c) q rung) M) := by
  have e8 : (nI q).toNatClampNeg = q := nI_clamp (by omega)
  have i8 : vp_in (nI q) 8 := vp_in_nI hq (by decide)
  refine lr_ok (by decide +kernel) rfl ?_
  refine ri_ald a_X6_bearsOf_0 rfl ?_
  refine ri_ald a_X6_bearsOf_1 rfl ?_
  refine ri_ic a_X6_bearsOf_2 ?_
  refine ri_ild a_X6_bearsOf_3 rfl ?_
  refine ri_ild a_X6_bearsOf_4 rfl ?_
  refine ri_cVpi (as := [vo 1 c, vi 1, vi (nI q), vi rung]) (rest := []) (d' := d - 1) a_X6_bearsOf_5 mv_X6_says ml_X6_110 (rcC_0 iC_0) (by omega) (ok_X6_says (pt := 1) (by omega) hL hc hq (by decide) rung) (Nat.le_of_ble_eq_true rfl) rfl (fun zy1 ezy1 => ?_)
  refine ri_istk (ls' := [some (vo 0 0), some (vo 1 c), some (vi (nI q)), some (vi rung), some (vi zy1)]) a_X6_bearsOf_8 rfl ?_
  refine ri_ald a_X6_bearsOf_10 rfl ?_
  refine ri_getR (t' := 2) (i' := c) a_X6_bearsOf_11 fl_X6_131 kC_1_0 rfl (iC_1 (by assumption)) (Or.inl ⟨rfl, rfl, rfl⟩) ?_
  refine ri_ild a_X6_bearsOf_14 rfl ?_
  refine ri_iaload a_X6_bearsOf_15 lC_2 rfl (iC_2 (by assumption)) i8 ?_
  refine ri_tsw a_X6_bearsOf_16 ⟨fun zc2 => ?_, fun zc2 => ?_, fun zc2 => ?_, fun zc2 => ?_, trivial⟩ (fun zc2 => ?_)
  · replace zc2 : (M 2 c (nI q).toNatClampNeg) = 1 := zc2.trans (by decide)
    refine ri_ild a_X6_bearsOf_48 rfl ?_
    refine ri_ic a_X6_bearsOf_50 ?_
    refine ri_ald a_X6_bearsOf_52 rfl ?_
    refine ri_getR (t' := 3) (i' := c) a_X6_bearsOf_53 fl_X6_134 kC_1_1 rfl (iC_1 (by assumption)) (Or.inl ⟨rfl, rfl, rfl⟩) ?_
    refine ri_ild a_X6_bearsOf_56 rfl ?_
    refine ri_iaload a_X6_bearsOf_57 lC_3 rfl (iC_3 (by assumption)) i8 ?_
    refine ri_imul a_X6_bearsOf_58 ?_
    refine ri_iadd a_X6_bearsOf_59 ?_
    refine ri_ireturn a_X6_bearsOf_60 rfl rfl ?_
    exact rI (by
    simp only [e8] at *
    try subst ezy1
    first
    | (have n2 : ∀ y : Int32, 1 ≤ y.toInt → y.toInt < 5 → M 2 c q ≠ y := fun y a b e => by rw [e] at zc2; simp only [List.length_cons, List.length_nil] at zc2; omega
       simp [beaV, vwC, n2 1 (by decide) (by decide), n2 2 (by decide) (by decide), n2 3 (by decide) (by decide), n2 4 (by decide) (by decide), *]; done)
    | simp [beaV, vwC, *]) rfl
  · replace zc2 : (M 2 c (nI q).toNatClampNeg) = 2 := zc2.trans (by decide)
    refine ri_ild a_X6_bearsOf_76 rfl ?_
    refine ri_ic a_X6_bearsOf_78 ?_
    refine ri_idiv a_X6_bearsOf_79 (by decide) ?_
    refine ri_ireturn a_X6_bearsOf_80 rfl rfl ?_
    exact rI (by
    simp only [e8] at *
    try subst ezy1
    first
    | (have n2 : ∀ y : Int32, 1 ≤ y.toInt → y.toInt < 5 → M 2 c q ≠ y := fun y a b e => by rw [e] at zc2; simp only [List.length_cons, List.length_nil] at zc2; omega
       simp [beaV, vwC, n2 1 (by decide) (by decide), n2 2 (by decide) (by decide), n2 3 (by decide) (by decide), n2 4 (by decide) (by decide), *]; done)
    | simp [beaV, vwC, *]) rfl
  · replace zc2 : (M 2 c (nI q).toNatClampNeg) = 3 := zc2.trans (by decide)
    refine ri_ic a_X6_bearsOf_61 ?_
    refine ri_ild a_X6_bearsOf_62 rfl ?_
    refine ri_ic a_X6_bearsOf_64 ?_
    refine ri_ald a_X6_bearsOf_66 rfl ?_
    refine ri_getR (t' := 3) (i' := c) a_X6_bearsOf_67 fl_X6_134 kC_1_1 rfl (iC_1 (by assumption)) (Or.inl ⟨rfl, rfl, rfl⟩) ?_
    refine ri_ild a_X6_bearsOf_70 rfl ?_
    refine ri_iaload a_X6_bearsOf_71 lC_3 rfl (iC_3 (by assumption)) i8 ?_
    refine ri_imul a_X6_bearsOf_72 ?_
    refine ri_iadd a_X6_bearsOf_73 ?_
    refine ri_imul a_X6_bearsOf_74 ?_
    refine ri_ireturn a_X6_bearsOf_75 rfl rfl ?_
    exact rI (by
    simp only [e8] at *
    try subst ezy1
    first
    | (have n2 : ∀ y : Int32, 1 ≤ y.toInt → y.toInt < 5 → M 2 c q ≠ y := fun y a b e => by rw [e] at zc2; simp only [List.length_cons, List.length_nil] at zc2; omega
       simp [beaV, vwC, n2 1 (by decide) (by decide), n2 2 (by decide) (by decide), n2 3 (by decide) (by decide), n2 4 (by decide) (by decide), *]; done)
    | simp [beaV, vwC, *]) rfl
  · replace zc2 : (M 2 c (nI q).toNatClampNeg) = 4 := zc2.trans (by decide)
    refine ri_ild a_X6_bearsOf_76 rfl ?_
    refine ri_ic a_X6_bearsOf_78 ?_
    refine ri_idiv a_X6_bearsOf_79 (by decide) ?_
    refine ri_ireturn a_X6_bearsOf_80 rfl rfl ?_
    exact rI (by
    simp only [e8] at *
    try subst ezy1
    first
    | (have n2 : ∀ y : Int32, 1 ≤ y.toInt → y.toInt < 5 → M 2 c q ≠ y := fun y a b e => by rw [e] at zc2; simp only [List.length_cons, List.length_nil] at zc2; omega
       simp [beaV, vwC, n2 1 (by decide) (by decide), n2 2 (by decide) (by decide), n2 3 (by decide) (by decide), n2 4 (by decide) (by decide), *]; done)
    | simp [beaV, vwC, *]) rfl
  · refine ri_ild a_X6_bearsOf_81 rfl ?_
    refine ri_ireturn a_X6_bearsOf_83 rfl rfl ?_
    exact rI (by
    simp only [e8] at *
    try subst ezy1
    first
    | (have n2 : ∀ y : Int32, 1 ≤ y.toInt → y.toInt < 5 → M 2 c q ≠ y := fun y a b e => by rw [e] at zc2; simp only [List.length_cons, List.length_nil] at zc2; omega
       simp [beaV, vwC, n2 1 (by decide) (by decide), n2 2 (by decide) (by decide), n2 3 (by decide) (by decide), n2 4 (by decide) (by decide), *]; done)
    | simp [beaV, vwC, *]) rfl
theorem ok_X6_weighsOf {w : Wd} {d : Nat} {M : Mem} {c q : Nat} (hc : c < 3) (hq : q < 8) : lr_Ok tC sC w d jX6_weighsOf [vo 1 c, vi (nI q)] M (qI (weiV (vwC M c) q) M) := by
  have e8 : (nI q).toNatClampNeg = q := nI_clamp (by omega)
  have i8 : vp_in (nI q) 8 := vp_in_nI hq (by decide)
  refine lr_ok (by decide +kernel) rfl ?_
  refine ri_ald a_X6_weighsOf_0 rfl ?_
  refine ri_getR (t' := 4) (i' := c) a_X6_weighsOf_1 fl_X6_118 kC_1_2 rfl (iC_1 (by assumption)) (Or.inl ⟨rfl, rfl, rfl⟩) ?_
  refine ri_ild a_X6_weighsOf_4 rfl ?_
  refine ri_iaload a_X6_weighsOf_5 lC_4 rfl (iC_4 (by assumption)) i8 ?_
  refine ri_ic a_X6_weighsOf_6 ?_
  refine ri_idiv a_X6_weighsOf_7 (by decide) ?_
  refine ri_ist (f := fun zx1 => [some (vo 1 c), some (vi (nI q)), some (vi zx1)]) a_X6_weighsOf_8 (fun _ => rfl) (fun zx1 ezx1 => ?_)
  refine ri_ald a_X6_weighsOf_9 rfl ?_
  refine ri_getR (t' := 2) (i' := c) a_X6_weighsOf_10 fl_X6_131 kC_1_0 rfl (iC_1 (by assumption)) (Or.inl ⟨rfl, rfl, rfl⟩) ?_
  refine ri_ild a_X6_weighsOf_13 rfl ?_
  refine ri_iaload a_X6_weighsOf_14 lC_2 rfl (iC_2 (by assumption)) i8 ?_
  refine ri_tsw a_X6_weighsOf_15 ⟨fun zc2 => ?_, fun zc2 => ?_, fun zc2 => ?_, trivial⟩ (fun zc2 => ?_)
  · replace zc2 : (M 2 c (nI q).toNatClampNeg) = 3 := zc2.trans (by decide)
    refine ri_ild a_X6_weighsOf_40 rfl ?_
    refine ri_ic a_X6_weighsOf_41 ?_
    refine ri_iadd a_X6_weighsOf_43 ?_
    refine ri_ireturn a_X6_weighsOf_44 rfl rfl ?_
    exact rI (by
    simp only [e8] at *
    first
    | (have n2 : ∀ y : Int32, 3 ≤ y.toInt → y.toInt < 6 → M 2 c q ≠ y := fun y a b e => by rw [e] at zc2; simp only [List.length_cons, List.length_nil] at zc2; omega
       simp [weiV, vwC, n2 3 (by decide) (by decide), n2 4 (by decide) (by decide), n2 5 (by decide) (by decide), *]; done)
    | simp [weiV, vwC, *]) rfl
  · replace zc2 : (M 2 c (nI q).toNatClampNeg) = 4 := zc2.trans (by decide)
    refine ri_ild a_X6_weighsOf_45 rfl ?_
    refine ri_ic a_X6_weighsOf_46 ?_
    refine ri_idiv a_X6_weighsOf_47 (by decide) ?_
    refine ri_ireturn a_X6_weighsOf_48 rfl rfl ?_
    exact rI (by
    simp only [e8] at *
    first
    | (have n2 : ∀ y : Int32, 3 ≤ y.toInt → y.toInt < 6 → M 2 c q ≠ y := fun y a b e => by rw [e] at zc2; simp only [List.length_cons, List.length_nil] at zc2; omega
       simp [weiV, vwC, n2 3 (by decide) (by decide), n2 4 (by decide) (by decide), n2 5 (by decide) (by decide), *]; done)
    | simp [weiV, vwC, *]) rfl
  · replace zc2 : (M 2 c (nI q).toNatClampNeg) = 5 := zc2.trans (by decide)
    refine ri_ald a_X6_weighsOf_49 rfl ?_
    refine ri_getR (t' := 4) (i' := c) a_X6_weighsOf_50 fl_X6_118 kC_1_2 rfl (iC_1 (by assumption)) (Or.inl ⟨rfl, rfl, rfl⟩) ?_
    refine ri_ild a_X6_weighsOf_53 rfl ?_
    refine ri_iaload a_X6_weighsOf_54 lC_4 rfl (iC_4 (by assumption)) i8 ?_
    refine ri_ireturn a_X6_weighsOf_55 rfl rfl ?_
    exact rI (by
    simp only [e8] at *
    first
    | (have n2 : ∀ y : Int32, 3 ≤ y.toInt → y.toInt < 6 → M 2 c q ≠ y := fun y a b e => by rw [e] at zc2; simp only [List.length_cons, List.length_nil] at zc2; omega
       simp [weiV, vwC, n2 3 (by decide) (by decide), n2 4 (by decide) (by decide), n2 5 (by decide) (by decide), *]; done)
    | simp [weiV, vwC, *]) rfl
  · refine ri_ild a_X6_weighsOf_56 rfl ?_
    refine ri_ireturn a_X6_weighsOf_57 rfl rfl ?_
    exact rI (by
    simp only [e8] at *
    first
    | (have n2 : ∀ y : Int32, 3 ≤ y.toInt → y.toInt < 6 → M 2 c q ≠ y := fun y a b e => by rw [e] at zc2; simp only [List.length_cons, List.length_nil] at zc2; omega
       simp [weiV, vwC, n2 3 (by decide) (by decide), n2 4 (by decide) (by decide), n2 5 (by decide) (by decide), *]; done)
    | simp [weiV, vwC, *]) rfl

