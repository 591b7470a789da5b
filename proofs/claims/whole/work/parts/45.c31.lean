/-! class: heights -/
/-- the trial's crew has the true one's order and law, and looks like V -/
def tr2 (M M1 : Mem) (V : Vw) : Prop := frC M M1 ∧ (∀ k, k < 8 → M1 7 2 k = M 7 0 k) ∧ M1 1 2 7 = M 1 0 7 ∧ M1 1 2 9 = M 1 0 9 ∧ veq (vwC M1 2) V
theorem tr2_law {M M1 : Mem} {V : Vw} {L : List (List Op)} (h : tr2 M M1 V) (hL : lawC M 0 L) : lawC M1 2 L := by
  obtain ⟨t, ht, h9, hx⟩ := hL
  refine ⟨t, ht, by rw [h.2.2.2.1, h9], ?_⟩
  unfold tx txS at hx ⊢
  rw [show M1 9 = M 9 from funext fun i => funext fun k => h.1 9 i k (by omega), show M1 10 = M 10 from funext fun i => funext fun k => h.1 10 i k (by omega)]
  exact hx
theorem tr2_row {M M1 : Mem} {V : Vw} {O : Nat → Nat} {k : Nat} (h : tr2 M M1 V) (hO : rowA (M 7 0) O k) (hk : k ≤ 8) : rowA (M1 7 2) O k := fun i hi => by
  rw [h.2.1 i (by omega)]
  exact hO i hi
theorem tr2_blk {M : Mem} : tr2 M (blk M 2 0) (vwC M 0) := ⟨frC_blk, fun k a => by unfold blk; rw [if_pos (by omega)], rfl, rfl, fun q hq => ⟨tri_blk.2.1 2 q (by decide) (by decide) hq, tri_blk.2.1 3 q (by decide) (by decide) hq, tri_blk.2.1 4 q (by decide) (by decide) hq, tri_blk.2.1 5 q (by decide) (by decide) hq⟩, rfl⟩
/-- what the told night says of it -/
theorem tr2_otherwise {w : Wd} {d : Nat} (hd : 4 ≤ d) {M M1 : Mem} {V : Vw} {q m k : Nat} {L : List (List Op)} {O : Nat → Nat} (ht : tr2 M M1 V) (hL : lawC M 0 L) (hq : q < 4) (hm : M 19 q 2 = nI m) (hm40 : m ≤ 40) (hk : M 1 0 7 = nI k) (hk8 : k ≤ 8) (hO : rowA (M 7 0) O k) : lr_Ok tC sC w d jX6_firstOtherwise [vo 0 0, vo 1 2, vo 19 q] M1 (qI (foF L V O (M 20 q) (min m k) 0 0) M1) := by
  have ek : M1 1 2 7 = nI k := by rw [ht.2.2.1, hk]
  have e20 : M1 20 q = M 20 q := funext fun i => ht.1 20 q i (by omega)
  have e19 : M1 19 q 2 = nI m := by rw [ht.1 19 q 2 (by omega), hm]
  have hh := ok_X6_firstOtherwise (w := w) (d := d) (c := 2) hd (tr2_law ht hL) (by decide) hq e19 hm40 ek hk8 (tr2_row ht hO hk8)
  rw [foF_eq ht.2.2.2.2 _ _ _ (fun i hi => (hO i (by omega)).2), e20] at hh
  exact hh
def hgV (V : Vw) (p : Nat) (h : Int32) : Vw := (V.1, V.2.1, fun i => if i = p then h else V.2.2.1 i, V.2.2.2)
theorem tr2_hg {M M1 : Mem} {V : Vw} {p : Nat} {x y : Int32} (ht : tr2 M M1 (hgV V p x) ∨ tr2 M M1 V) : tr2 M (up M1 4 2 p y) (hgV V p y) := by
  have key : ∀ W, tr2 M M1 W → (∀ q, q ≠ p → W.2.2.1 q = V.2.2.1 q) → W.1 = V.1 → W.2.1 = V.2.1 → W.2.2.2 = V.2.2.2 → tr2 M (up M1 4 2 p y) (hgV V p y) := by
    intro W hW h3 h1 h2 h4
    obtain ⟨a1, a2, a3, a4, a5, a6⟩ := hW
    refine ⟨frC_tr a1 (frC_up (by decide)), fun k hk => a2 k hk, a3, a4, fun q hq => ?_, ?_⟩
    · obtain ⟨b1, b2, b3, b4⟩ := a5 q hq
      refine ⟨b1.trans (congrFun h1 q), b2.trans (congrFun h2 q), ?_, b4.trans (congrFun (congrArg Prod.fst h4) q)⟩
      by_cases e : q = p
      · subst e
        show up M1 4 2 q y 4 2 q = if q = q then y else _
        rw [up_same, if_pos rfl]
      · show up M1 4 2 p y 4 2 q = if q = p then y else V.2.2.1 q
        rw [if_neg e, up_k e, ← h3 q e]
        exact b3
    · show _ = V.2.2.2.2
      rw [← h4]
      exact a6
  rcases ht with h | h
  · exact key _ h (fun q e => if_neg e) rfl rfl rfl
  · exact key _ h (fun _ _ => rfl) rfl rfl rfl
abbrev hgG (M : Mem) (L : List (List Op)) (O : Nat → Nat) (q mk p : Nat) (n : Nat) : Prop := foF L (hgV (vwC M 0) p (nI n)) O (M 20 q) mk 0 0 = -1
theorem ok_X6_heights {w : Wd} {d : Nat} (hd : 5 ≤ d) {M : Mem} {q m k n : Nat} {L : List (List Op)} {O : Nat → Nat} (hL : lawC M 0 L) (hq : q < 4) (hm : M 19 q 2 = nI m) (hm40 : m ≤ 40) (hn : M 1 0 6 = nI n) (hn8 : n ≤ 8) (hk : M 1 0 7 = nI k) (hk8 : k ≤ 8) (hO : rowA (M 7 0) O k) (p x : Int32) : lr_Ok tC sC w d jX6_heights [vo 0 0, vi (nI q), vi p, vi x] M (qX fun r M' => frC M M' ∧ r = if M 19 q 1 = -1 then -11 else if M 19 q 2 ≤ M 1 0 7 then (if 0 ≤ p ∧ p < M 1 0 6 then (if 0 ≤ x ∧ x ≤ 1 then (if x = 0 then (yeF (hgG M L O q (min m k) p.toNatClampNeg) 100 (0, -1)).1 else (yeF (hgG M L O q (min m k) p.toNatClampNeg) 100 (0, -1)).2) else -7) else -5) else -2) := by
  have loop : ∀ p, p < 8 → ∀ res n z s M1, n ≤ 100 → (∃ y, tr2 M M1 (hgV (vwC M 0) p y) ∨ tr2 M M1 (vwC M 0)) → yeF (hgG M L O q (min m k) p) n s = res → lr_W tC sC w d jX6_heights 61 [some (vo 0 0), some (vi (nI q)), some (vi (nI p)), some (vi x), some (vi z), some (vi s.1), some (vi s.2), some (vi (nI n - 1))] [] M1 (qX fun r M' => frC M M' ∧ r = if x = 0 then res.1 else res.2) := by
    intro p hp res n
    induction n with
    | zero =>
      intro z s M1 hn ht hr
      have hs : s = res := hr
      subst hs
      have hf : frC M M1 := by
        obtain ⟨y, h | h⟩ := ht
        · exact h.1
        · exact h.1
      refine ri_ild a_X6_heights_61 rfl ?_
      refine ri_if_lt a_X6_heights_63 (fun zc11 => ?_) (fun zc11 => ?_)
      · refine ri_ild a_X6_heights_108 rfl ?_
        refine ri_if_ne a_X6_heights_109 (fun zc12 => ?_) (fun zc12 => ?_)
        · refine ri_ild a_X6_heights_117 rfl ?_
          refine ri_ireturn a_X6_heights_119 rfl rfl ?_
          exact rX ⟨hf, by simp only [zc12, if_true, if_false]⟩
        · refine ri_ild a_X6_heights_112 rfl ?_
          refine ri_goto a_X6_heights_114 ?_
          refine ri_ireturn a_X6_heights_119 rfl rfl ?_
          exact rX ⟨hf, by simp only [zc12, if_true, if_false]⟩
      · exact absurd (by decide) zc11
    | succ n ih =>
      intro z s M1 hn ht hr
      rw [nI_pred]
      have ip : vp_in (nI p) 8 := vp_in_nI hp (by decide)
      refine ri_ild a_X6_heights_61 rfl ?_
      refine ri_if_lt a_X6_heights_63 (fun zc11 => ?_) (fun zc11 => ?_)
      · exact absurd zc11 (nI_pos (by omega))
      · refine ri_ald a_X6_heights_66 rfl ?_
        refine ri_getR (t' := 1) (i' := 2) a_X6_heights_67 fl_X6_19 kC_0_2 rfl iC_0 (Or.inr ⟨rfl, rfl, rfl⟩) ?_
        refine ri_getR (t' := 4) (i' := 2) a_X6_heights_70 fl_X6_118 kC_1_2 rfl (iC_1 (by decide)) (Or.inl ⟨rfl, rfl, rfl⟩) ?_
        refine ri_ild a_X6_heights_73 rfl ?_
        refine ri_ild a_X6_heights_74 rfl ?_
        refine ri_iastore a_X6_heights_76 lC_4 rfl (iC_4 (by decide)) ip (fun zM12 ezM12 => ?_)
        rw [nI_clamp (by omega)] at ezM12
        have ht2 : tr2 M zM12 (hgV (vwC M 0) p (nI n)) := by
          obtain ⟨y, h⟩ := ht
          rw [ezM12]; exact tr2_hg h
        have hh := tr2_otherwise (w := w) (d := d - 1) (by omega) ht2 hL hq hm hm40 hk hk8 hO
        refine ri_ald a_X6_heights_77 rfl ?_
        refine ri_ald a_X6_heights_78 rfl ?_
        refine ri_getR (t' := 1) (i' := 2) a_X6_heights_79 fl_X6_19 kC_0_2 rfl iC_0 (Or.inr ⟨rfl, rfl, rfl⟩) ?_
        refine ri_ald a_X6_heights_82 rfl ?_
        refine ri_getR (t' := 22) (i' := 0) a_X6_heights_83 fl_X6_38 kC_0_7 rfl iC_0 (Or.inr ⟨rfl, rfl, rfl⟩) ?_
        refine ri_ild a_X6_heights_86 rfl ?_
        refine ri_aaloadE (k0 := q) a_X6_heights_87 lC_22 (by decide) iC_22 (nI_clamp (by omega)) (vp_in_nI hq (by decide)) ?_
        refine ri_cVpi (as := [vo 1 2, vo 19 q]) (rest := []) (d' := d - 1) a_X6_heights_88 mv_X6_firstOtherwise ml_X6_218 (rcC_0 iC_0) (by omega) (hh) (Nat.le_of_ble_eq_true rfl) rfl (fun zy21 ezy21 => ?_)
        refine ri_ic a_X6_heights_91 ?_
        refine ri_icmp_ne a_X6_heights_92 (fun zc22 => ?_) (fun zc22 => ?_)
        · refine ri_iinc (c0 := (-1)) (f := fun zx23 => [some (vo 0 0), some (vi (nI q)), some (vi (nI p)), some (vi x), some (vi z), some (vi s.1), some (vi s.2), some (vi zx23)]) a_X6_heights_102 rfl (by decide) (fun _ => rfl) (fun zx23 ezx23 => ?_)
          refine ri_goto a_X6_heights_105 ?_
          have hg : ¬ hgG M L O q (min m k) p n := fun q => zc22 (by rw [ezy21]; exact q)
          rw [yeF, if_neg hg] at hr
          rw [ezx23, show nI n + (-1) = nI n - 1 from (Int32.sub_eq_add_neg _ _).symm]
          exact ih z s zM12 (by omega) ⟨_, Or.inl ht2⟩ hr
        · refine ri_iinc (c0 := 1) (f := fun zx24 => [some (vo 0 0), some (vi (nI q)), some (vi (nI p)), some (vi x), some (vi z), some (vi zx24), some (vi s.2), some (vi (nI n))]) a_X6_heights_95 rfl (by decide) (fun _ => rfl) (fun zx24 ezx24 => ?_)
          refine ri_ild a_X6_heights_98 rfl ?_
          refine ri_ist (f := fun zx25 => [some (vo 0 0), some (vi (nI q)), some (vi (nI p)), some (vi x), some (vi z), some (vi zx24), some (vi zx25), some (vi (nI n))]) a_X6_heights_100 (fun _ => rfl) (fun zx25 ezx25 => ?_)
          refine ri_iinc (c0 := (-1)) (f := fun zx26 => [some (vo 0 0), some (vi (nI q)), some (vi (nI p)), some (vi x), some (vi z), some (vi zx24), some (vi zx25), some (vi zx26)]) a_X6_heights_102 rfl (by decide) (fun _ => rfl) (fun zx26 ezx26 => ?_)
          refine ri_goto a_X6_heights_105 ?_
          have hg : hgG M L O q (min m k) p n := ezy21.symm.trans zc22
          rw [yeF, if_pos hg] at hr
          rw [ezx26, ezx25, ezx24, show nI n + (-1) = nI n - 1 from (Int32.sub_eq_add_neg _ _).symm]
          exact ih z (s.1 + 1, nI n) zM12 (by omega) ⟨_, Or.inl ht2⟩ hr
  refine lr_ok (by decide +kernel) rfl ?_
  refine ri_ald a_X6_heights_0 rfl ?_
  refine ri_ild a_X6_heights_1 rfl ?_
  refine ri_cVpi (as := [vi (nI q)]) (rest := []) (d' := d - 1) a_X6_heights_2 mv_X6_nightRefusal ml_X6_215 (rcC_0 iC_0) (by omega) (ok_X6_nightRefusal (by omega) hq) (Nat.le_of_ble_eq_true rfl) rfl (fun zy1 ezy1 => ?_)
  refine ri_istk (ls' := [some (vo 0 0), some (vi (nI q)), some (vi p), some (vi x), some (vi zy1), none, none, none]) a_X6_heights_5 rfl ?_
  refine ri_ild a_X6_heights_7 rfl ?_
  refine ri_if_eq a_X6_heights_9 (fun zc2 => ?_) (fun zc2 => ?_)
  · refine ri_ald a_X6_heights_15 rfl ?_
    refine ri_getR (t' := 1) (i' := 0) a_X6_heights_16 fl_X6_10 kC_0_0 rfl iC_0 (Or.inr ⟨rfl, rfl, rfl⟩) ?_
    refine ri_ild a_X6_heights_19 rfl ?_
    refine ri_cVpb (as := [vi p]) (rest := []) (d' := d - 1) a_X6_heights_20 mv_X0_has ml_X6_106 (rcC_1 (iC_1 (by decide))) (by omega) (ok_X0_has (by decide) p) (Nat.le_of_ble_eq_true rfl) rfl (fun zc3 => ?_) (fun zc3 => ?_)
    · refine ri_if_ne a_X6_heights_23 (fun _ => ?_) (fun q => absurd q (by decide))
      refine ri_ild a_X6_heights_29 rfl ?_
      refine ri_ic a_X6_heights_30 ?_
      refine ri_cSpb (as := [vi x, vi 1]) (rest := []) (d' := d - 1) a_X6_heights_31 ms_X6_within ml_X6_102 (by omega) (ok_X6_within x 1) (Nat.le_of_ble_eq_true rfl) rfl (fun zc4 => ?_) (fun zc4 => ?_)
      · refine ri_if_ne a_X6_heights_34 (fun _ => ?_) (fun q => absurd q (by decide))
        refine ri_ald a_X6_heights_40 rfl ?_
        refine ri_getR (t' := 1) (i' := 2) a_X6_heights_41 fl_X6_19 kC_0_2 rfl iC_0 (Or.inr ⟨rfl, rfl, rfl⟩) ?_
        refine ri_ald a_X6_heights_44 rfl ?_
        refine ri_getR (t' := 1) (i' := 0) a_X6_heights_45 fl_X6_10 kC_0_0 rfl iC_0 (Or.inr ⟨rfl, rfl, rfl⟩) ?_
        refine ri_cVxv (as := [vo 1 0]) (rest := []) (d' := d - 1) a_X6_heights_48 mv_X0_becomeLike ml_X6_198 (rcC_1 (iC_1 (by decide))) (by omega) (ok_X0_becomeLike (by omega) (by decide) (by decide)) (Nat.le_of_ble_eq_true rfl) rfl (fun zM5 hzM5 => ?_)
        refine ri_ic a_X6_heights_51 ?_
        refine ri_istk (ls' := [some (vo 0 0), some (vi (nI q)), some (vi p), some (vi x), some (vi zy1), some (vi 0), none, none]) a_X6_heights_52 rfl ?_
        refine ri_ic a_X6_heights_54 ?_
        refine ri_istk (ls' := [some (vo 0 0), some (vi (nI q)), some (vi p), some (vi x), some (vi zy1), some (vi 0), some (vi (-1)), none]) a_X6_heights_55 rfl ?_
        refine ri_ic a_X6_heights_57 ?_
        refine ri_istk (ls' := [some (vo 0 0), some (vi (nI q)), some (vi p), some (vi x), some (vi zy1), some (vi 0), some (vi (-1)), some (vi 99)]) a_X6_heights_59 rfl ?_
        have h := nr0 (ezy1.symm.trans zc2)
        obtain ⟨r, rfl, hr⟩ := inP zc3 hn hn8
        refine lr_Wimp (loop r (by omega) _ 100 zy1 (0, -1) zM5 (by decide) ⟨0, Or.inr (hzM5 ▸ tr2_blk)⟩ rfl) ?_
        rintro r' M' ⟨y, h1, h2, h3⟩
        exact ⟨y, h1, h2, by rw [if_neg h.1, if_pos h.2, if_pos zc3, if_pos zc4, nI_clamp (by omega)]; exact h3⟩
      · refine ri_if_ne a_X6_heights_34 (fun q => absurd q (by decide)) (fun _ => ?_)
        refine ri_ic a_X6_heights_37 ?_
        refine ri_ireturn a_X6_heights_39 rfl rfl ?_
        have h := nr0 (ezy1.symm.trans zc2)
        exact rX ⟨fun _ _ _ _ => rfl, by rw [if_neg h.1, if_pos h.2, if_pos zc3, if_neg zc4]⟩
    · refine ri_if_ne a_X6_heights_23 (fun q => absurd q (by decide)) (fun _ => ?_)
      refine ri_ic a_X6_heights_26 ?_
      refine ri_ireturn a_X6_heights_28 rfl rfl ?_
      have h := nr0 (ezy1.symm.trans zc2)
      exact rX ⟨fun _ _ _ _ => rfl, by rw [if_neg h.1, if_pos h.2, if_neg zc3]⟩
  · refine ri_ild a_X6_heights_12 rfl ?_
    refine ri_ireturn a_X6_heights_14 rfl rfl ?_
    rw [ezy1] at zc2 ⊢
    exact rX ⟨fun _ _ _ _ => rfl, nr1 zc2⟩

