/-! class: kinds -/
def kdV (V : Vw) (p : Nat) (h : Int32) : Vw := (fun i => if i = p then h else V.1 i, V.2)
def moV (V : Vw) (p : Nat) (h : Int32) : Vw := (V.1, fun i => if i = p then h else V.2.1 i, V.2.2)
theorem tr2_kd {M M1 : Mem} {V : Vw} {p : Nat} {x y : Int32} (ht : tr2 M M1 (kdV V p x) ∨ tr2 M M1 V) : tr2 M (up M1 2 2 p y) (kdV V p y) := by
  have key : ∀ W, tr2 M M1 W → (∀ q, q ≠ p → W.1 q = V.1 q) → W.2 = V.2 → tr2 M (up M1 2 2 p y) (kdV V p y) := by
    intro W hW h3 h4
    obtain ⟨a1, a2, a3, a4, a5, a6⟩ := hW
    refine ⟨frC_tr a1 (frC_up (by decide)), fun k hk => a2 k hk, a3, a4, fun q hq => ?_, ?_⟩
    · obtain ⟨b1, b2, b3, b4⟩ := a5 q hq
      rw [h4] at b2 b3 b4
      refine ⟨?_, b2, b3, b4⟩
      by_cases e : q = p
      · subst e
        show up M1 2 2 q y 2 2 q = if q = q then y else _
        rw [up_same, if_pos rfl]
      · show up M1 2 2 p y 2 2 q = if q = p then y else V.1 q
        rw [if_neg e, up_k e, ← h3 q e]
        exact b1
    · rw [h4] at a6
      exact a6
  rcases ht with h | h
  · exact key _ h (fun q e => if_neg e) rfl
  · exact key _ h (fun _ _ => rfl) rfl
theorem tr2_mo {M M1 : Mem} {V : Vw} {p : Nat} {x y : Int32} (ht : tr2 M M1 (moV V p x) ∨ tr2 M M1 V) : tr2 M (up M1 3 2 p y) (moV V p y) := by
  have key : ∀ W, tr2 M M1 W → (∀ q, q ≠ p → W.2.1 q = V.2.1 q) → W.1 = V.1 → W.2.2 = V.2.2 → tr2 M (up M1 3 2 p y) (moV V p y) := by
    intro W hW h3 h1 h4
    obtain ⟨a1, a2, a3, a4, a5, a6⟩ := hW
    refine ⟨frC_tr a1 (frC_up (by decide)), fun k hk => a2 k hk, a3, a4, fun q hq => ?_, ?_⟩
    · obtain ⟨b1, b2, b3, b4⟩ := a5 q hq
      rw [h4] at b3 b4
      refine ⟨b1.trans (congrFun h1 q), ?_, b3, b4⟩
      by_cases e : q = p
      · subst e
        show up M1 3 2 q y 3 2 q = if q = q then y else _
        rw [up_same, if_pos rfl]
      · show up M1 3 2 p y 3 2 q = if q = p then y else V.2.1 q
        rw [if_neg e, up_k e, ← h3 q e]
        exact b2
    · rw [h4] at a6
      exact a6
  rcases ht with h | h
  · exact key _ h (fun q e => if_neg e) rfl rfl
  · exact key _ h (fun _ _ => rfl) rfl rfl
abbrev kdG (M : Mem) (L : List (List Op)) (O : Nat → Nat) (q mk p : Nat) (n : Nat) : Prop := foF L (kdV (vwC M 0) p (nI n)) O (M 20 q) mk 0 0 = -1
theorem lp_kinds_kd {w : Wd} {d : Nat} (hd : 5 ≤ d) {M : Mem} {q m k : Nat} {L : List (List Op)} {O : Nat → Nat} (hL : lawC M 0 L) (hq : q < 4) (hm : M 19 q 2 = nI m) (hm40 : m ≤ 40) (hk : M 1 0 7 = nI k) (hk8 : k ≤ 8) (hO : rowA (M 7 0) O k) (x : Int32) {p : Nat} (hp : p < 8) : ∀ r n z a M1, 6 = n + r → (∃ y, tr2 M M1 (kdV (vwC M 0) p y) ∨ tr2 M M1 (vwC M 0)) → lr_W tC sC w d jX6_kinds 92 [some (vo 0 0), some (vi (nI q)), some (vi (nI p)), some (vi x), some (vi z), some (vo 2 2), some (vi 5), some (vi a), some (vi (nI n))] [] M1 (qX fun r' M' => frC M M' ∧ r' = bitA (kdG M L O q (min m k) p) r n a) := by
  intro r
  induction r with
  | zero =>
    intro n z a M1 hr ht
    have : n = 6 := by omega
    subst this
    have hf : frC M M1 := by
      obtain ⟨y, h | h⟩ := ht
      · exact h.1
      · exact h.1
    refine ri_ild a_X6_kinds_92 rfl ?_
    refine ri_ild a_X6_kinds_94 rfl ?_
    refine ri_icmp_gt a_X6_kinds_96 (fun zc11 => ?_) (fun zc11 => ?_)
    · refine ri_ild a_X6_kinds_138 rfl ?_
      refine ri_ireturn a_X6_kinds_140 rfl rfl ?_
      exact rX ⟨hf, rfl⟩
    · exact absurd (by decide) zc11
  | succ r ih =>
    intro n z a M1 hr ht
    have ip : vp_in (nI p) 8 := vp_in_nI hp (by decide)
    refine ri_ild a_X6_kinds_92 rfl ?_
    refine ri_ild a_X6_kinds_94 rfl ?_
    refine ri_icmp_gt a_X6_kinds_96 (fun zc11 => ?_) (fun zc11 => ?_)
    · exact absurd (nI_le (b := 5) (by omega) (by decide)) (Int32.not_le.mpr zc11)
    · refine ri_ald a_X6_kinds_99 rfl ?_
      refine ri_ild a_X6_kinds_101 rfl ?_
      refine ri_ild a_X6_kinds_102 rfl ?_
      refine ri_iastore a_X6_kinds_104 lC_2 rfl (iC_2 (by decide)) ip (fun zM12 ezM12 => ?_)
      rw [nI_clamp (by omega)] at ezM12
      have ht2 : tr2 M zM12 (kdV (vwC M 0) p (nI n)) := by
        obtain ⟨y, h⟩ := ht
        rw [ezM12]; exact tr2_kd h
      have hh := tr2_otherwise (w := w) (d := d - 1) (by omega) ht2 hL hq hm hm40 hk hk8 hO
      refine ri_ald a_X6_kinds_105 rfl ?_
      refine ri_ald a_X6_kinds_106 rfl ?_
      refine ri_getR (t' := 1) (i' := 2) a_X6_kinds_107 fl_X6_19 kC_0_2 rfl iC_0 (Or.inr ⟨rfl, rfl, rfl⟩) ?_
      refine ri_ald a_X6_kinds_110 rfl ?_
      refine ri_getR (t' := 22) (i' := 0) a_X6_kinds_111 fl_X6_38 kC_0_7 rfl iC_0 (Or.inr ⟨rfl, rfl, rfl⟩) ?_
      refine ri_ild a_X6_kinds_114 rfl ?_
      refine ri_aaloadE (k0 := q) a_X6_kinds_115 lC_22 (by decide) iC_22 (nI_clamp (by omega)) (vp_in_nI hq (by decide)) ?_
      refine ri_cVpi (as := [vo 1 2, vo 19 q]) (rest := []) (d' := d - 1) a_X6_kinds_116 mv_X6_firstOtherwise ml_X6_218 (rcC_0 iC_0) (by omega) (hh) (Nat.le_of_ble_eq_true rfl) rfl (fun zy21 ezy21 => ?_)
      refine ri_ic a_X6_kinds_119 ?_
      refine ri_icmp_ne a_X6_kinds_120 (fun zc22 => ?_) (fun zc22 => ?_)
      · refine ri_iinc (c0 := 1) (f := fun zx23 => [some (vo 0 0), some (vi (nI q)), some (vi (nI p)), some (vi x), some (vi z), some (vo 2 2), some (vi 5), some (vi a), some (vi zx23)]) a_X6_kinds_132 rfl (by decide) (fun _ => rfl) (fun zx23 ezx23 => ?_)
        refine ri_goto a_X6_kinds_135 ?_
        have hg : ¬ kdG M L O q (min m k) p n := fun q => zc22 (by rw [ezy21]; exact q)
        rw [bitA, if_neg hg, ezx23, nI_1]
        exact ih (n + 1) z a zM12 (by omega) ⟨_, Or.inl ht2⟩
      · refine ri_ild a_X6_kinds_123 rfl ?_
        refine ri_ic a_X6_kinds_125 ?_
        refine ri_ild a_X6_kinds_126 rfl ?_
        refine ri_ishl a_X6_kinds_128 ?_
        refine ri_ior a_X6_kinds_129 ?_
        refine ri_ist (f := fun zx24 => [some (vo 0 0), some (vi (nI q)), some (vi (nI p)), some (vi x), some (vi z), some (vo 2 2), some (vi 5), some (vi zx24), some (vi (nI n))]) a_X6_kinds_130 (fun _ => rfl) (fun zx24 ezx24 => ?_)
        refine ri_iinc (c0 := 1) (f := fun zx25 => [some (vo 0 0), some (vi (nI q)), some (vi (nI p)), some (vi x), some (vi z), some (vo 2 2), some (vi 5), some (vi zx24), some (vi zx25)]) a_X6_kinds_132 rfl (by decide) (fun _ => rfl) (fun zx25 ezx25 => ?_)
        refine ri_goto a_X6_kinds_135 ?_
        have hg : kdG M L O q (min m k) p n := ezy21.symm.trans zc22
        rw [bitA, if_pos hg, ezx25, ezx24, nI_1]
        exact ih (n + 1) z _ zM12 (by omega) ⟨_, Or.inl ht2⟩
abbrev moG (M : Mem) (L : List (List Op)) (O : Nat → Nat) (q mk p : Nat) (n : Nat) : Prop := foF L (moV (vwC M 0) p (nI n)) O (M 20 q) mk 0 0 = -1
theorem lp_kinds_mo {w : Wd} {d : Nat} (hd : 5 ≤ d) {M : Mem} {q m k : Nat} {L : List (List Op)} {O : Nat → Nat} (hL : lawC M 0 L) (hq : q < 4) (hm : M 19 q 2 = nI m) (hm40 : m ≤ 40) (hk : M 1 0 7 = nI k) (hk8 : k ≤ 8) (hO : rowA (M 7 0) O k) (x : Int32) {p : Nat} (hp : p < 8) : ∀ r n z a M1, 10 = n + r → (∃ y, tr2 M M1 (moV (vwC M 0) p y) ∨ tr2 M M1 (vwC M 0)) → lr_W tC sC w d jX6_kinds 92 [some (vo 0 0), some (vi (nI q)), some (vi (nI p)), some (vi x), some (vi z), some (vo 3 2), some (vi 9), some (vi a), some (vi (nI n))] [] M1 (qX fun r' M' => frC M M' ∧ r' = bitA (moG M L O q (min m k) p) r n a) := by
  intro r
  induction r with
  | zero =>
    intro n z a M1 hr ht
    have : n = 10 := by omega
    subst this
    have hf : frC M M1 := by
      obtain ⟨y, h | h⟩ := ht
      · exact h.1
      · exact h.1
    refine ri_ild a_X6_kinds_92 rfl ?_
    refine ri_ild a_X6_kinds_94 rfl ?_
    refine ri_icmp_gt a_X6_kinds_96 (fun zc11 => ?_) (fun zc11 => ?_)
    · refine ri_ild a_X6_kinds_138 rfl ?_
      refine ri_ireturn a_X6_kinds_140 rfl rfl ?_
      exact rX ⟨hf, rfl⟩
    · exact absurd (by decide) zc11
  | succ r ih =>
    intro n z a M1 hr ht
    have ip : vp_in (nI p) 8 := vp_in_nI hp (by decide)
    refine ri_ild a_X6_kinds_92 rfl ?_
    refine ri_ild a_X6_kinds_94 rfl ?_
    refine ri_icmp_gt a_X6_kinds_96 (fun zc11 => ?_) (fun zc11 => ?_)
    · exact absurd (nI_le (b := 9) (by omega) (by decide)) (Int32.not_le.mpr zc11)
    · refine ri_ald a_X6_kinds_99 rfl ?_
      refine ri_ild a_X6_kinds_101 rfl ?_
      refine ri_ild a_X6_kinds_102 rfl ?_
      refine ri_iastore a_X6_kinds_104 lC_3 rfl (iC_3 (by decide)) ip (fun zM12 ezM12 => ?_)
      rw [nI_clamp (by omega)] at ezM12
      have ht2 : tr2 M zM12 (moV (vwC M 0) p (nI n)) := by
        obtain ⟨y, h⟩ := ht
        rw [ezM12]; exact tr2_mo h
      have hh := tr2_otherwise (w := w) (d := d - 1) (by omega) ht2 hL hq hm hm40 hk hk8 hO
      refine ri_ald a_X6_kinds_105 rfl ?_
      refine ri_ald a_X6_kinds_106 rfl ?_
      refine ri_getR (t' := 1) (i' := 2) a_X6_kinds_107 fl_X6_19 kC_0_2 rfl iC_0 (Or.inr ⟨rfl, rfl, rfl⟩) ?_
      refine ri_ald a_X6_kinds_110 rfl ?_
      refine ri_getR (t' := 22) (i' := 0) a_X6_kinds_111 fl_X6_38 kC_0_7 rfl iC_0 (Or.inr ⟨rfl, rfl, rfl⟩) ?_
      refine ri_ild a_X6_kinds_114 rfl ?_
      refine ri_aaloadE (k0 := q) a_X6_kinds_115 lC_22 (by decide) iC_22 (nI_clamp (by omega)) (vp_in_nI hq (by decide)) ?_
      refine ri_cVpi (as := [vo 1 2, vo 19 q]) (rest := []) (d' := d - 1) a_X6_kinds_116 mv_X6_firstOtherwise ml_X6_218 (rcC_0 iC_0) (by omega) (hh) (Nat.le_of_ble_eq_true rfl) rfl (fun zy21 ezy21 => ?_)
      refine ri_ic a_X6_kinds_119 ?_
      refine ri_icmp_ne a_X6_kinds_120 (fun zc22 => ?_) (fun zc22 => ?_)
      · refine ri_iinc (c0 := 1) (f := fun zx23 => [some (vo 0 0), some (vi (nI q)), some (vi (nI p)), some (vi x), some (vi z), some (vo 3 2), some (vi 9), some (vi a), some (vi zx23)]) a_X6_kinds_132 rfl (by decide) (fun _ => rfl) (fun zx23 ezx23 => ?_)
        refine ri_goto a_X6_kinds_135 ?_
        have hg : ¬ moG M L O q (min m k) p n := fun q => zc22 (by rw [ezy21]; exact q)
        rw [bitA, if_neg hg, ezx23, nI_1]
        exact ih (n + 1) z a zM12 (by omega) ⟨_, Or.inl ht2⟩
      · refine ri_ild a_X6_kinds_123 rfl ?_
        refine ri_ic a_X6_kinds_125 ?_
        refine ri_ild a_X6_kinds_126 rfl ?_
        refine ri_ishl a_X6_kinds_128 ?_
        refine ri_ior a_X6_kinds_129 ?_
        refine ri_ist (f := fun zx24 => [some (vo 0 0), some (vi (nI q)), some (vi (nI p)), some (vi x), some (vi z), some (vo 3 2), some (vi 9), some (vi zx24), some (vi (nI n))]) a_X6_kinds_130 (fun _ => rfl) (fun zx24 ezx24 => ?_)
        refine ri_iinc (c0 := 1) (f := fun zx25 => [some (vo 0 0), some (vi (nI q)), some (vi (nI p)), some (vi x), some (vi z), some (vo 3 2), some (vi 9), some (vi zx24), some (vi zx25)]) a_X6_kinds_132 rfl (by decide) (fun _ => rfl) (fun zx25 ezx25 => ?_)
        refine ri_goto a_X6_kinds_135 ?_
        have hg : moG M L O q (min m k) p n := ezy21.symm.trans zc22
        rw [bitA, if_pos hg, ezx25, ezx24, nI_1]
        exact ih (n + 1) z _ zM12 (by omega) ⟨_, Or.inl ht2⟩
theorem ok_X6_kinds {w : Wd} {d : Nat} (hd : 5 ≤ d) {M : Mem} {q m k n : Nat} {L : List (List Op)} {O : Nat → Nat} (hL : lawC M 0 L) (hq : q < 4) (hm : M 19 q 2 = nI m) (hm40 : m ≤ 40) (hn : M 1 0 6 = nI n) (hn8 : n ≤ 8) (hk : M 1 0 7 = nI k) (hk8 : k ≤ 8) (hO : rowA (M 7 0) O k) (p x : Int32) : lr_Ok tC sC w d jX6_kinds [vo 0 0, vi (nI q), vi p, vi x] M (qX fun r M' => frC M M' ∧ r = if M 19 q 1 = -1 then -11 else if M 19 q 2 ≤ M 1 0 7 then (if 0 ≤ p ∧ p < M 1 0 6 then (if 0 ≤ x ∧ x ≤ 1 then (if x = 0 then bitA (kdG M L O q (min m k) p.toNatClampNeg) 6 0 0 else bitA (moG M L O q (min m k) p.toNatClampNeg) 10 0 0) else -7) else -5) else -2) := by
  refine lr_ok (by decide +kernel) rfl ?_
  refine ri_ald a_X6_kinds_0 rfl ?_
  refine ri_ild a_X6_kinds_1 rfl ?_
  refine ri_cVpi (as := [vi (nI q)]) (rest := []) (d' := d - 1) a_X6_kinds_2 mv_X6_nightRefusal ml_X6_215 (rcC_0 iC_0) (by omega) (ok_X6_nightRefusal (by omega) hq) (Nat.le_of_ble_eq_true rfl) rfl (fun zy1 ezy1 => ?_)
  refine ri_istk (ls' := [some (vo 0 0), some (vi (nI q)), some (vi p), some (vi x), some (vi zy1), none, none, none, none]) a_X6_kinds_5 rfl ?_
  refine ri_ild a_X6_kinds_7 rfl ?_
  refine ri_if_eq a_X6_kinds_9 (fun zc2 => ?_) (fun zc2 => ?_)
  · refine ri_ald a_X6_kinds_15 rfl ?_
    refine ri_getR (t' := 1) (i' := 0) a_X6_kinds_16 fl_X6_10 kC_0_0 rfl iC_0 (Or.inr ⟨rfl, rfl, rfl⟩) ?_
    refine ri_ild a_X6_kinds_19 rfl ?_
    refine ri_cVpb (as := [vi p]) (rest := []) (d' := d - 1) a_X6_kinds_20 mv_X0_has ml_X6_106 (rcC_1 (iC_1 (by decide))) (by omega) (ok_X0_has (by decide) p) (Nat.le_of_ble_eq_true rfl) rfl (fun zc3 => ?_) (fun zc3 => ?_)
    · refine ri_if_ne a_X6_kinds_23 (fun _ => ?_) (fun q => absurd q (by decide))
      refine ri_ild a_X6_kinds_29 rfl ?_
      refine ri_ic a_X6_kinds_30 ?_
      refine ri_cSpb (as := [vi x, vi 1]) (rest := []) (d' := d - 1) a_X6_kinds_31 ms_X6_within ml_X6_102 (by omega) (ok_X6_within x 1) (Nat.le_of_ble_eq_true rfl) rfl (fun zc4 => ?_) (fun zc4 => ?_)
      · refine ri_if_ne a_X6_kinds_34 (fun _ => ?_) (fun q => absurd q (by decide))
        refine ri_ald a_X6_kinds_40 rfl ?_
        refine ri_getR (t' := 1) (i' := 2) a_X6_kinds_41 fl_X6_19 kC_0_2 rfl iC_0 (Or.inr ⟨rfl, rfl, rfl⟩) ?_
        refine ri_ald a_X6_kinds_44 rfl ?_
        refine ri_getR (t' := 1) (i' := 0) a_X6_kinds_45 fl_X6_10 kC_0_0 rfl iC_0 (Or.inr ⟨rfl, rfl, rfl⟩) ?_
        refine ri_cVxv (as := [vo 1 0]) (rest := []) (d' := d - 1) a_X6_kinds_48 mv_X0_becomeLike ml_X6_198 (rcC_1 (iC_1 (by decide))) (by omega) (ok_X0_becomeLike (by omega) (by decide) (by decide)) (Nat.le_of_ble_eq_true rfl) rfl (fun zM5 hzM5 => ?_)
        refine ri_ild a_X6_kinds_51 rfl ?_
        refine ri_if_ne a_X6_kinds_52 (fun zc6 => ?_) (fun zc6 => ?_)
        · refine ri_ald a_X6_kinds_65 rfl ?_
          refine ri_getR (t' := 1) (i' := 2) a_X6_kinds_66 fl_X6_19 kC_0_2 rfl iC_0 (Or.inr ⟨rfl, rfl, rfl⟩) ?_
          refine ri_getR (t' := 3) (i' := 2) a_X6_kinds_69 fl_X6_134 kC_1_1 rfl (iC_1 (by decide)) (Or.inl ⟨rfl, rfl, rfl⟩) ?_
          refine ri_ast (ls' := [some (vo 0 0), some (vi (nI q)), some (vi p), some (vi x), some (vi zy1), some (vo 3 2), none, none, none]) a_X6_kinds_72 rfl ?_
          refine ri_ild a_X6_kinds_74 rfl ?_
          refine ri_if_ne a_X6_kinds_75 (fun zc7 => ?_) (fun zc7 => ?_)
          · refine ri_ic a_X6_kinds_82 ?_
            refine ri_istk (ls' := [some (vo 0 0), some (vi (nI q)), some (vi p), some (vi x), some (vi zy1), some (vo 3 2), some (vi 9), none, none]) a_X6_kinds_84 rfl ?_
            refine ri_ic a_X6_kinds_86 ?_
            refine ri_istk (ls' := [some (vo 0 0), some (vi (nI q)), some (vi p), some (vi x), some (vi zy1), some (vo 3 2), some (vi 9), some (vi 0), none]) a_X6_kinds_87 rfl ?_
            refine ri_ic a_X6_kinds_89 ?_
            refine ri_istk (ls' := [some (vo 0 0), some (vi (nI q)), some (vi p), some (vi x), some (vi zy1), some (vo 3 2), some (vi 9), some (vi 0), some (vi 0)]) a_X6_kinds_90 rfl ?_
            have h := nr0 (ezy1.symm.trans zc2)
            obtain ⟨r, rfl, hr⟩ := inP zc3 hn hn8
            refine lr_Wimp (lp_kinds_mo hd hL hq hm hm40 hk hk8 hO x (p := r) (by omega) 10 0 zy1 0 zM5 rfl ⟨0, Or.inr (hzM5 ▸ tr2_blk)⟩) ?_
            rintro r' M' ⟨y, h1, h2, h3⟩
            exact ⟨y, h1, h2, by rw [if_neg h.1, if_pos h.2, if_pos zc3, if_pos zc4, if_neg zc6, nI_clamp (by omega)]; exact h3⟩
          · refine ri_ic a_X6_kinds_78 ?_
            refine ri_goto a_X6_kinds_79 ?_
            refine ri_istk (ls' := [some (vo 0 0), some (vi (nI q)), some (vi p), some (vi x), some (vi zy1), some (vo 3 2), some (vi 5), none, none]) a_X6_kinds_84 rfl ?_
            refine ri_ic a_X6_kinds_86 ?_
            refine ri_istk (ls' := [some (vo 0 0), some (vi (nI q)), some (vi p), some (vi x), some (vi zy1), some (vo 3 2), some (vi 5), some (vi 0), none]) a_X6_kinds_87 rfl ?_
            refine ri_ic a_X6_kinds_89 ?_
            refine ri_istk (ls' := [some (vo 0 0), some (vi (nI q)), some (vi p), some (vi x), some (vi zy1), some (vo 3 2), some (vi 5), some (vi 0), some (vi 0)]) a_X6_kinds_90 rfl ?_
            exact absurd zc7 zc6
        · refine ri_ald a_X6_kinds_55 rfl ?_
          refine ri_getR (t' := 1) (i' := 2) a_X6_kinds_56 fl_X6_19 kC_0_2 rfl iC_0 (Or.inr ⟨rfl, rfl, rfl⟩) ?_
          refine ri_getR (t' := 2) (i' := 2) a_X6_kinds_59 fl_X6_131 kC_1_0 rfl (iC_1 (by decide)) (Or.inl ⟨rfl, rfl, rfl⟩) ?_
          refine ri_goto a_X6_kinds_62 ?_
          refine ri_ast (ls' := [some (vo 0 0), some (vi (nI q)), some (vi p), some (vi x), some (vi zy1), some (vo 2 2), none, none, none]) a_X6_kinds_72 rfl ?_
          refine ri_ild a_X6_kinds_74 rfl ?_
          refine ri_if_ne a_X6_kinds_75 (fun zc8 => ?_) (fun zc8 => ?_)
          · refine ri_ic a_X6_kinds_82 ?_
            refine ri_istk (ls' := [some (vo 0 0), some (vi (nI q)), some (vi p), some (vi x), some (vi zy1), some (vo 2 2), some (vi 9), none, none]) a_X6_kinds_84 rfl ?_
            refine ri_ic a_X6_kinds_86 ?_
            refine ri_istk (ls' := [some (vo 0 0), some (vi (nI q)), some (vi p), some (vi x), some (vi zy1), some (vo 2 2), some (vi 9), some (vi 0), none]) a_X6_kinds_87 rfl ?_
            refine ri_ic a_X6_kinds_89 ?_
            refine ri_istk (ls' := [some (vo 0 0), some (vi (nI q)), some (vi p), some (vi x), some (vi zy1), some (vo 2 2), some (vi 9), some (vi 0), some (vi 0)]) a_X6_kinds_90 rfl ?_
            exact absurd zc6 zc8
          · refine ri_ic a_X6_kinds_78 ?_
            refine ri_goto a_X6_kinds_79 ?_
            refine ri_istk (ls' := [some (vo 0 0), some (vi (nI q)), some (vi p), some (vi x), some (vi zy1), some (vo 2 2), some (vi 5), none, none]) a_X6_kinds_84 rfl ?_
            refine ri_ic a_X6_kinds_86 ?_
            refine ri_istk (ls' := [some (vo 0 0), some (vi (nI q)), some (vi p), some (vi x), some (vi zy1), some (vo 2 2), some (vi 5), some (vi 0), none]) a_X6_kinds_87 rfl ?_
            refine ri_ic a_X6_kinds_89 ?_
            refine ri_istk (ls' := [some (vo 0 0), some (vi (nI q)), some (vi p), some (vi x), some (vi zy1), some (vo 2 2), some (vi 5), some (vi 0), some (vi 0)]) a_X6_kinds_90 rfl ?_
            have h := nr0 (ezy1.symm.trans zc2)
            obtain ⟨r, rfl, hr⟩ := inP zc3 hn hn8
            refine lr_Wimp (lp_kinds_kd hd hL hq hm hm40 hk hk8 hO x (p := r) (by omega) 6 0 zy1 0 zM5 rfl ⟨0, Or.inr (hzM5 ▸ tr2_blk)⟩) ?_
            rintro r' M' ⟨y, h1, h2, h3⟩
            exact ⟨y, h1, h2, by rw [if_neg h.1, if_pos h.2, if_pos zc3, if_pos zc4, if_pos zc6, nI_clamp (by omega)]; exact h3⟩
      · refine ri_if_ne a_X6_kinds_34 (fun q => absurd q (by decide)) (fun _ => ?_)
        refine ri_ic a_X6_kinds_37 ?_
        refine ri_ireturn a_X6_kinds_39 rfl rfl ?_
        have h := nr0 (ezy1.symm.trans zc2)
        exact rX ⟨fun _ _ _ _ => rfl, by rw [if_neg h.1, if_pos h.2, if_pos zc3, if_neg zc4]⟩
    · refine ri_if_ne a_X6_kinds_23 (fun q => absurd q (by decide)) (fun _ => ?_)
      refine ri_ic a_X6_kinds_26 ?_
      refine ri_ireturn a_X6_kinds_28 rfl rfl ?_
      have h := nr0 (ezy1.symm.trans zc2)
      exact rX ⟨fun _ _ _ _ => rfl, by rw [if_neg h.1, if_pos h.2, if_neg zc3]⟩
  · refine ri_ild a_X6_kinds_12 rfl ?_
    refine ri_ireturn a_X6_kinds_14 rfl rfl ?_
    rw [ezy1] at zc2 ⊢
    exact rX ⟨fun _ _ _ _ => rfl, nr1 zc2⟩

