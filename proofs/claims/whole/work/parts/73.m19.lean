/-! reference: whose -/
abbrev okW (L : List (List Op)) (V : Vw) (g : Nat → Int32) (al : Int32) (R : List Nat) (q : Nat) : Prop := cnd al R q ∧ fitF L V g q R.length
def twT (L : List (List Op)) (V : Vw) (g : Nat → Int32) (al : Int32) (n : Nat) : Nat → List Nat → List (List Nat)
  | 0, _ => []
  | f + 1, R => trB (fun q => if okW L V g al R q then (R ++ [q]) :: twT L V g al n f (R ++ [q]) else []) n 0
def twP (L : List (List Op)) (V : Vw) (g : Nat → Int32) (al : Int32) (n : Nat) : Nat → List Nat → Nat → Nat → List (List Nat)
  | 0, _, _, _ => []
  | f + 1, R, r, p => trB (fun q => if okW L V g al R q then (R ++ [q]) :: twT L V g al n f (R ++ [q]) else []) r p
theorem twT_P {L : List (List Op)} {V : Vw} {g : Nat → Int32} {al : Int32} {n f : Nat} {R : List Nat} : twT L V g al n f R = twP L V g al n f R n 0 := by
  cases f <;> rfl
def fcw (L : List (List Op)) (V : Vw) (g : Nat → Int32) (al : Int32) (R : List Nat) : Nat → Nat → Option Nat
  | 0, _ => none
  | r + 1, p => if okW L V g al R p then some p else fcw L V g al R r (p + 1)
theorem fcw_none {L : List (List Op)} {V : Vw} {g : Nat → Int32} {al : Int32} {R : List Nat} : ∀ r p, fcw L V g al R r p = none ↔ ∀ q, p ≤ q → q < p + r → ¬ okW L V g al R q := by
  intro r
  induction r with
  | zero => intro p; exact ⟨fun _ q a b => by omega, fun _ => rfl⟩
  | succ r ih =>
    intro p
    rw [fcw]
    by_cases h : okW L V g al R p
    · rw [if_pos h]
      exact ⟨fun z => (by cases z), fun z => absurd h (z p (Nat.le_refl _) (by omega))⟩
    · rw [if_neg h, ih (p + 1)]
      constructor
      · intro z q a b
        by_cases e : q = p
        · rw [e]; exact h
        · exact z q (by omega) (by omega)
      · intro z q a b
        exact z q (by omega) (by omega)
theorem fcw_some {L : List (List Op)} {V : Vw} {g : Nat → Int32} {al : Int32} {R : List Nat} {z : Nat} {G : Nat → List (List Nat)} (hg : ∀ q, ¬ okW L V g al R q → G q = []) : ∀ r p, fcw L V g al R r p = some z → p ≤ z ∧ z < p + r ∧ okW L V g al R z ∧ trB G r p = trB G (p + r - z) z := by
  intro r
  induction r with
  | zero => intro p h; cases h
  | succ r ih =>
    intro p h
    rw [fcw] at h
    by_cases hc : okW L V g al R p
    · rw [if_pos hc] at h
      cases h
      exact ⟨Nat.le_refl _, by omega, hc, by rw [Nat.add_sub_cancel_left]⟩
    · rw [if_neg hc] at h
      obtain ⟨a, b, c, e⟩ := ih (p + 1) h
      refine ⟨by omega, by omega, c, ?_⟩
      rw [trB, hg p hc, e, List.nil_append]
      congr 1
      omega
theorem trW_none {L : List (List Op)} {V : Vw} {g : Nat → Int32} {al : Int32} {R : List Nat} {G : Nat → List (List Nat)} (hg : ∀ q, ¬ okW L V g al R q → G q = []) : ∀ r p, (∀ q, p ≤ q → q < p + r → ¬ okW L V g al R q) → trB G r p = [] := by
  intro r
  induction r with
  | zero => intro p _; rfl
  | succ r ih =>
    intro p h
    rw [trB, hg p (h p (Nat.le_refl _) (by omega)), ih (p + 1) (fun q a b => h q (by omega) (by omega))]
    rfl
/-- how many rows of m, the first of them -/
def upW (m : Nat) (s : Int32 × Int32) (R : List Nat) : Int32 × Int32 := if R.length = m then (s.1 + 1, if s.1 = 0 then dgL R else s.2) else s
def frW (N N' : Mem) : Prop := ∀ t i k, t ≠ 22 → t ≠ 24 → ¬ (t = 0 ∧ k = 36) → N' t i k = N t i k
theorem frW_N {N N' : Mem} (h : frW N N') : frN N N' := fun t i k a b => h t i k (by omega) (by omega) (fun q => b ⟨q.1, by omega⟩)
theorem frW_tb {N N' : Mem} (h : frW N N') {L : List (List Op)} {V : Vw} {n : Nat} (ht : tbM L V n N) : tbM L V n N' := fun p hp => ⟨by rw [h 21 0 p (by omega) (by omega) (by omega)]; exact (ht p hp).1, fun r hr => ⟨by rw [h 19 0 _ (by omega) (by omega) (by omega)]; exact ((ht p hp).2 r hr).1, by rw [h 20 0 _ (by omega) (by omega) (by omega)]; exact ((ht p hp).2 r hr).2⟩⟩
theorem frW_up {N N1 : Mem} (h : frW N N1) {t k : Nat} {x : Int32} (ht : t = 22 ∨ t = 24 ∨ (t = 0 ∧ k = 36)) : frW N (up N1 t 0 k x) := fun t' i' k' a b c => by
  rw [up_apply, if_neg (fun q => by omega)]
  exact h t' i' k' a b c
/-- how high was told below -/
def htW (g : Nat → Int32) (R : List Nat) (N : Mem) : Prop := ∀ j, j ≤ R.length → N 24 0 j = if j = 0 then 0 else g (j - 1)
theorem lp_whose_s {w : Wd} {d : Nat} {Q : RP} {al x y a5 a6 : Int32} {n m q fr : Nat} {R : List Nat} {tk : Int32} {N1 : Mem} {L : List (List Op)} {V : Vw} {g : Nat → Int32} (hq : q < 4) (hn8 : n ≤ 8) (hm8 : m ≤ 8) (h0 : N1 0 0 0 = nI n) (h12 : N1 12 0 q = nI m) (hg : shN N1 q = g) (ht : tbM L V n N1) (h36 : N1 0 0 36 = nI R.length) (hR8 : R.length ≤ 8) (htk : tkOK tk R) (hh : htW g R N1) : ∀ r p, n = p + r → ∀ z12,
    (∀ j11 j12, lr_W tM sM w d jX7_whose 203 [some (vo 0 0), some (vi (nI q)), some (vi x), some (vi y), some (vi al), some (vi a5), some (vi a6), some (vi tk), some (vi (nI fr)), some (vi 1), some (vi (ov (if R.length < m then fcw L V g al R r p else none))), j11, j12] [] N1 Q) →
    lr_W tM sM w d jX7_whose 86 [some (vo 0 0), some (vi (nI q)), some (vi x), some (vi y), some (vi al), some (vi a5), some (vi a6), some (vi tk), some (vi (nI fr)), some (vi 1), some (vi (-1)), some (vi (nI p)), z12] [] N1 Q := by
  have e12 : N1 12 0 (nI q).toNatClampNeg = nI m := by rw [nI_clamp (by omega)]; exact h12
  intro r
  induction r with
  | zero =>
    intro p hp z12 K
    have : n = p := hp
    subst this
    refine ri_ild a_X7_whose_86 rfl ?_
    refine ri_ald a_X7_whose_88 rfl ?_
    refine ri_getI a_X7_whose_89 fl_X7_93 kM_0_0 rfl iM_0 ?_
    refine ri_icmp_ge a_X7_whose_92 (fun zc1 => ?_) (fun zc1 => ?_)
    · have := K (some (vi (nI n))) z12
      rw [show (if R.length < m then fcw L V g al R 0 n else none) = none by split <;> rfl] at this
      exact this
    · exact absurd (by rw [h0]; exact Int32.le_refl _) zc1
  | succ r ih =>
    intro p hp z12 K
    by_cases hlt : R.length < m
    · rw [if_pos hlt, fcw] at K
      have skip : ∀ z12, ¬ okW L V g al R p → lr_W tM sM w d jX7_whose 86 [some (vo 0 0), some (vi (nI q)), some (vi x), some (vi y), some (vi al), some (vi a5), some (vi a6), some (vi tk), some (vi (nI fr)), some (vi 1), some (vi (-1)), some (vi (nI (p + 1))), z12] [] N1 Q := fun z12 hc => by
        rw [if_neg hc] at K
        exact ih (p + 1) (by omega) z12 (by rw [if_pos hlt]; exact K)
      have c19 : (8 * nI p + N1 0 0 36).toNatClampNeg = 8 * p + R.length := by rw [h36, nI_8a, nI_clamp (by omega)]
      have i19 : vp_in (8 * nI p + N1 0 0 36) 64 := by rw [h36, nI_8a]; exact vp_in_nI (by omega) (by decide)
      have c13 : (40 * nI q + N1 0 0 36).toNatClampNeg = 40 * q + R.length := by rw [h36, nI_40a, nI_clamp (by omega)]
      have i13 : vp_in (40 * nI q + N1 0 0 36) 160 := by rw [h36, nI_40a]; exact vp_in_nI (by omega) (by decide)
      have i24 : vp_in (N1 0 0 36) 9 := by rw [h36]; exact vp_in_nI (by omega) (by decide)
      have v24 : N1 24 0 (N1 0 0 36).toNatClampNeg = if R.length = 0 then 0 else g (R.length - 1) := by rw [h36, nI_clamp (by omega)]; exact hh _ (Nat.le_refl _)
      have v19 : N1 19 0 (8 * p + R.length) = risV L V p (nI R.length) := ((ht p (by omega)).2 _ (by omega)).1
      have v13 : N1 13 0 (40 * q + R.length) = g R.length := congrFun hg _
      refine ri_ild a_X7_whose_86 rfl ?_
      refine ri_ald a_X7_whose_88 rfl ?_
      refine ri_getI a_X7_whose_89 fl_X7_93 kM_0_0 rfl iM_0 ?_
      refine ri_icmp_ge a_X7_whose_92 (fun zc11 => ?_) (fun zc11 => ?_)
      · exact absurd zc11 (by rw [h0]; exact nI_ge (by omega) (by omega))
      · refine ri_ald a_X7_whose_95 rfl ?_
        refine ri_getI a_X7_whose_96 fl_X7_201 kM_0_36 rfl iM_0 ?_
        refine ri_ald a_X7_whose_99 rfl ?_
        refine ri_getR (t' := 12) (i' := 0) a_X7_whose_100 fl_X7_43 kM_0_18 rfl iM_0 (Or.inr ⟨rfl, rfl, rfl⟩) ?_
        refine ri_ild a_X7_whose_103 rfl ?_
        refine ri_iaload a_X7_whose_104 lM_12 rfl iM_12 (vp_in_nI hq (by decide)) ?_
        refine ri_icmp_ge a_X7_whose_105 (fun zc12 => ?_) (fun zc12 => ?_)
        · exact absurd zc12 (by rw [h36, e12]; exact nI_ge (by omega) (by omega))
        · refine ri_ild a_X7_whose_108 rfl ?_
          refine ri_ic a_X7_whose_110 ?_
          refine ri_icmp_ne a_X7_whose_111 (fun q => absurd q (by decide)) (fun _ => ?_)
          refine ri_ild a_X7_whose_114 rfl ?_
          refine ri_ild a_X7_whose_116 rfl ?_
          refine ri_ishr a_X7_whose_118 ?_
          refine ri_ic a_X7_whose_119 ?_
          refine ri_iand a_X7_whose_120 ?_
          refine ri_ic a_X7_whose_121 ?_
          refine ri_icmp_ne a_X7_whose_122 (fun zc13 => ?_) (fun zc13 => ?_)
          · refine ri_ic a_X7_whose_139 ?_
            refine ri_istk (ls' := [some (vo 0 0), some (vi (nI q)), some (vi x), some (vi y), some (vi al), some (vi a5), some (vi a6), some (vi tk), some (vi (nI fr)), some (vi 1), some (vi (-1)), some (vi (nI p)), some (vi 0)]) a_X7_whose_140 rfl ?_
            refine ri_ild a_X7_whose_142 rfl ?_
            refine ri_if_eq a_X7_whose_144 (fun _ => ?_) (fun q => absurd q (by decide))
            refine ri_ic a_X7_whose_194 ?_
            refine ri_istk (ls' := [some (vo 0 0), some (vi (nI q)), some (vi x), some (vi y), some (vi al), some (vi a5), some (vi a6), some (vi tk), some (vi (nI fr)), some (vi 1), some (vi (-1)), some (vi (nI p)), some (vi 0)]) a_X7_whose_195 rfl ?_
            refine ri_iinc (c0 := 1) (f := fun zx14 => [some (vo 0 0), some (vi (nI q)), some (vi x), some (vi y), some (vi al), some (vi a5), some (vi a6), some (vi tk), some (vi (nI fr)), some (vi 1), some (vi (-1)), some (vi zx14), some (vi 0)]) a_X7_whose_197 rfl (by decide) (fun _ => rfl) (fun zx14 ezx14 => ?_)
            refine ri_goto a_X7_whose_200 ?_
            rw [nI_b1 (by omega)] at zc13
            rw [ezx14, nI_1]
            exact skip _ (fun q => zc13 q.1.1)
          · refine ri_ild a_X7_whose_125 rfl ?_
            refine ri_ild a_X7_whose_127 rfl ?_
            refine ri_ishr a_X7_whose_129 ?_
            refine ri_ic a_X7_whose_130 ?_
            refine ri_iand a_X7_whose_131 ?_
            refine ri_if_ne a_X7_whose_132 (fun zc15 => ?_) (fun zc15 => ?_)
            · refine ri_ic a_X7_whose_139 ?_
              refine ri_istk (ls' := [some (vo 0 0), some (vi (nI q)), some (vi x), some (vi y), some (vi al), some (vi a5), some (vi a6), some (vi tk), some (vi (nI fr)), some (vi 1), some (vi (-1)), some (vi (nI p)), some (vi 0)]) a_X7_whose_140 rfl ?_
              refine ri_ild a_X7_whose_142 rfl ?_
              refine ri_if_eq a_X7_whose_144 (fun _ => ?_) (fun q => absurd q (by decide))
              refine ri_ic a_X7_whose_194 ?_
              refine ri_istk (ls' := [some (vo 0 0), some (vi (nI q)), some (vi x), some (vi y), some (vi al), some (vi a5), some (vi a6), some (vi tk), some (vi (nI fr)), some (vi 1), some (vi (-1)), some (vi (nI p)), some (vi 0)]) a_X7_whose_195 rfl ?_
              refine ri_iinc (c0 := 1) (f := fun zx16 => [some (vo 0 0), some (vi (nI q)), some (vi x), some (vi y), some (vi al), some (vi a5), some (vi a6), some (vi tk), some (vi (nI fr)), some (vi 1), some (vi (-1)), some (vi zx16), some (vi 0)]) a_X7_whose_197 rfl (by decide) (fun _ => rfl) (fun zx16 ezx16 => ?_)
              refine ri_goto a_X7_whose_200 ?_
              rw [bt_sh tk (by omega), htk p (by omega)] at zc15
              rw [ezx16, nI_1]
              exact skip _ (fun q => zc15 (by simp [q.1.2]))
            · refine ri_ic a_X7_whose_135 ?_
              refine ri_goto a_X7_whose_136 ?_
              refine ri_istk (ls' := [some (vo 0 0), some (vi (nI q)), some (vi x), some (vi y), some (vi al), some (vi a5), some (vi a6), some (vi tk), some (vi (nI fr)), some (vi 1), some (vi (-1)), some (vi (nI p)), some (vi 1)]) a_X7_whose_140 rfl ?_
              refine ri_ild a_X7_whose_142 rfl ?_
              refine ri_if_eq a_X7_whose_144 (fun q => absurd q (by decide)) (fun _ => ?_)
              refine ri_ald a_X7_whose_147 rfl ?_
              refine ri_getR (t' := 24) (i' := 0) a_X7_whose_148 fl_X7_79 kM_0_40 rfl iM_0 (Or.inr ⟨rfl, rfl, rfl⟩) ?_
              refine ri_ald a_X7_whose_151 rfl ?_
              refine ri_getI a_X7_whose_152 fl_X7_201 kM_0_36 rfl iM_0 ?_
              refine ri_iaload a_X7_whose_155 lM_24 rfl iM_24 i24 ?_
              refine ri_ald a_X7_whose_156 rfl ?_
              refine ri_getR (t' := 19) (i' := 0) a_X7_whose_157 fl_X7_64 kM_0_32 rfl iM_0 (Or.inr ⟨rfl, rfl, rfl⟩) ?_
              refine ri_ic a_X7_whose_160 ?_
              refine ri_ild a_X7_whose_162 rfl ?_
              refine ri_imul a_X7_whose_164 ?_
              refine ri_ald a_X7_whose_165 rfl ?_
              refine ri_getI a_X7_whose_166 fl_X7_201 kM_0_36 rfl iM_0 ?_
              refine ri_iadd a_X7_whose_169 ?_
              refine ri_iaload a_X7_whose_170 lM_19 rfl iM_19 i19 ?_
              refine ri_iadd a_X7_whose_171 ?_
              refine ri_ald a_X7_whose_172 rfl ?_
              refine ri_getR (t' := 13) (i' := 0) a_X7_whose_173 fl_X7_46 kM_0_19 rfl iM_0 (Or.inr ⟨rfl, rfl, rfl⟩) ?_
              refine ri_ic a_X7_whose_176 ?_
              refine ri_ild a_X7_whose_178 rfl ?_
              refine ri_imul a_X7_whose_179 ?_
              refine ri_ald a_X7_whose_180 rfl ?_
              refine ri_getI a_X7_whose_181 fl_X7_201 kM_0_36 rfl iM_0 ?_
              refine ri_iadd a_X7_whose_184 ?_
              refine ri_iaload a_X7_whose_185 lM_13 rfl iM_13 i13 ?_
              refine ri_icmp_ne a_X7_whose_186 (fun zc17 => ?_) (fun zc17 => ?_)
              · refine ri_ic a_X7_whose_194 ?_
                refine ri_istk (ls' := [some (vo 0 0), some (vi (nI q)), some (vi x), some (vi y), some (vi al), some (vi a5), some (vi a6), some (vi tk), some (vi (nI fr)), some (vi 1), some (vi (-1)), some (vi (nI p)), some (vi 1)]) a_X7_whose_195 rfl ?_
                refine ri_iinc (c0 := 1) (f := fun zx18 => [some (vo 0 0), some (vi (nI q)), some (vi x), some (vi y), some (vi al), some (vi a5), some (vi a6), some (vi tk), some (vi (nI fr)), some (vi 1), some (vi (-1)), some (vi zx18), some (vi 1)]) a_X7_whose_197 rfl (by decide) (fun _ => rfl) (fun zx18 ezx18 => ?_)
                refine ri_goto a_X7_whose_200 ?_
                rw [c19, c13, v24, v19, v13] at zc17
                rw [ezx18, nI_1]
                exact skip _ (fun q => zc17 q.2)
              · refine ri_ild a_X7_whose_189 rfl ?_
                refine ri_goto a_X7_whose_191 ?_
                refine ri_ist (f := fun zx19 => [some (vo 0 0), some (vi (nI q)), some (vi x), some (vi y), some (vi al), some (vi a5), some (vi a6), some (vi tk), some (vi (nI fr)), some (vi 1), some (vi zx19), some (vi (nI p)), some (vi 1)]) a_X7_whose_195 (fun _ => rfl) (fun zx19 ezx19 => ?_)
                refine ri_iinc (c0 := 1) (f := fun zx20 => [some (vo 0 0), some (vi (nI q)), some (vi x), some (vi y), some (vi al), some (vi a5), some (vi a6), some (vi tk), some (vi (nI fr)), some (vi 1), some (vi zx19), some (vi zx20), some (vi 1)]) a_X7_whose_197 rfl (by decide) (fun _ => rfl) (fun zx20 ezx20 => ?_)
                refine ri_goto a_X7_whose_200 ?_
                rw [c19, c13, v24, v19, v13] at zc17
                rw [nI_b1 (by omega)] at zc13
                rw [bt_sh tk (by omega), htk p (by omega)] at zc15
                have hc : okW L V g al R p := ⟨⟨zc13, by simpa using zc15⟩, zc17⟩
                rw [if_pos hc] at K
                have hne : ¬ nI p = -1 := nI_m1n (by omega)
                rw [ezx19, ezx20, nI_1]
                refine ri_ild a_X7_whose_86 rfl ?_
                refine ri_ald a_X7_whose_88 rfl ?_
                refine ri_getI a_X7_whose_89 fl_X7_93 kM_0_0 rfl iM_0 ?_
                refine ri_icmp_ge a_X7_whose_92 (fun zc31 => ?_) (fun zc31 => ?_)
                · exact K _ _
                · refine ri_ald a_X7_whose_95 rfl ?_
                  refine ri_getI a_X7_whose_96 fl_X7_201 kM_0_36 rfl iM_0 ?_
                  refine ri_ald a_X7_whose_99 rfl ?_
                  refine ri_getR (t' := 12) (i' := 0) a_X7_whose_100 fl_X7_43 kM_0_18 rfl iM_0 (Or.inr ⟨rfl, rfl, rfl⟩) ?_
                  refine ri_ild a_X7_whose_103 rfl ?_
                  refine ri_iaload a_X7_whose_104 lM_12 rfl iM_12 (vp_in_nI hq (by decide)) ?_
                  refine ri_icmp_ge a_X7_whose_105 (fun zc32 => ?_) (fun zc32 => ?_)
                  · exact K _ _
                  · refine ri_ild a_X7_whose_108 rfl ?_
                    refine ri_ic a_X7_whose_110 ?_
                    refine ri_icmp_ne a_X7_whose_111 (fun zc33 => ?_) (fun zc33 => ?_)
                    · exact K _ _
                    · exact absurd (by assumption) hne
    · rw [if_neg hlt] at K
      refine ri_ild a_X7_whose_86 rfl ?_
      refine ri_ald a_X7_whose_88 rfl ?_
      refine ri_getI a_X7_whose_89 fl_X7_93 kM_0_0 rfl iM_0 ?_
      refine ri_icmp_ge a_X7_whose_92 (fun zc11 => ?_) (fun zc11 => ?_)
      · exact K _ _
      · refine ri_ald a_X7_whose_95 rfl ?_
        refine ri_getI a_X7_whose_96 fl_X7_201 kM_0_36 rfl iM_0 ?_
        refine ri_ald a_X7_whose_99 rfl ?_
        refine ri_getR (t' := 12) (i' := 0) a_X7_whose_100 fl_X7_43 kM_0_18 rfl iM_0 (Or.inr ⟨rfl, rfl, rfl⟩) ?_
        refine ri_ild a_X7_whose_103 rfl ?_
        refine ri_iaload a_X7_whose_104 lM_12 rfl iM_12 (vp_in_nI hq (by decide)) ?_
        refine ri_icmp_ge a_X7_whose_105 (fun zc12 => ?_) (fun zc12 => ?_)
        · exact K _ _
        · exact absurd (by rw [h36, e12]; exact nI_le (by omega) (by omega)) zc12
theorem htW_push {g : Nat → Int32} {R : List Nat} {N N1 : Mem} {z : Nat} (h : htW g R N) (e : N1 = up (up (up N 24 0 (R.length + 1) (g R.length)) 22 0 R.length (nI z)) 0 0 36 (nI (R.length + 1))) : htW g (R ++ [z]) N1 := by
  intro j hj
  have el : (R ++ [z]).length = R.length + 1 := by simp
  rw [el] at hj
  rw [e, up_apply, if_neg (by omega), up_apply, if_neg (by omega), up_apply]
  by_cases ej : j = R.length + 1
  · rw [if_pos ⟨rfl, rfl, ej⟩, if_neg (by omega), ej, Nat.add_sub_cancel]
  · rw [if_neg (fun z => ej z.2.2)]
    exact h j (by omega)
theorem htW_pop {g : Nat → Int32} {R : List Nat} {N N1 : Mem} {z : Nat} (h : htW g (R ++ [z]) N) (e : N1 24 0 = N 24 0) : htW g R N1 := fun j hj => by
  rw [e]
  exact h j (by simp; omega)
theorem lp_whose {w : Wd} {d : Nat} (hd : 1 ≤ d) {N : Mem} {q m n : Nat} {L : List (List Op)} {V : Vw} {al x y : Int32} (hq : q < 4) (hm8 : m ≤ 8) (hn8 : n ≤ 8) (hn : N 0 0 0 = nI n) (hm : N 12 0 q = nI m) (ht : tbM L V n N) (h36 : N 0 0 36 = 0) (h24 : N 24 0 0 = 0) {j10 j11 j12 : Option AV} {res : Int32 × Int32} (hres : (twT L V (shN N q) al n m []).foldl (upW m) (if m = 0 then 1 else 0, 0) = res) : lr_W tM sM w d jX7_whose 74 [some (vo 0 0), some (vi (nI q)), some (vi x), some (vi y), some (vi al), some (vi (if m = 0 then 1 else 0)), some (vi 0), some (vi 0), some (vi 0), some (vi 1), j10, j11, j12] [] N (qX fun r N' => frW N N' ∧ r = if x = 0 then res.1 else res.2) := by
  generalize hg : shN N q = g at hres
  have core : ∀ f R, R.length + f = m → (∀ x, x ∈ R → x < n) → ∀ b r p tk N1 s j10 j11 j12, r ≤ b → n = p + r → tkOK tk R → frW N N1 → rwN N1 (liF R) R.length n → htW g R N1 →
      (∀ fr tk' N2 s' j10 j11 j12, fr ≤ n → (f ≠ 0 → ∀ q, fr ≤ q → q < n → ¬ okW L V g al R q) → tkOK tk' R → frW N N2 → rwN N2 (liF R) R.length n → htW g R N2 → s' = (twP L V g al n f R r p).foldl (upW m) s → lr_W tM sM w d jX7_whose 74 [some (vo 0 0), some (vi (nI q)), some (vi x), some (vi y), some (vi al), some (vi s'.1), some (vi s'.2), some (vi tk'), some (vi (nI fr)), some (vi 1), j10, j11, j12] [] N2 (qX fun r N' => frW N N' ∧ r = if x = 0 then res.1 else res.2)) →
      lr_W tM sM w d jX7_whose 74 [some (vo 0 0), some (vi (nI q)), some (vi x), some (vi y), some (vi al), some (vi s.1), some (vi s.2), some (vi tk), some (vi (nI p)), some (vi 1), j10, j11, j12] [] N1 (qX fun r N' => frW N N' ∧ r = if x = 0 then res.1 else res.2) := by
    intro f
    induction f with
    | zero =>
      intro R hl hx b r p tk N1 s j10 j11 j12 hb hp htk hf hrw hh K
      exact K p tk N1 s j10 j11 j12 (by omega) (fun q => absurd rfl q) htk hf hrw hh rfl
    | succ f ihf =>
      intro R hl hx b
      have hG : ∀ q, ¬ okW L V g al R q → (fun q => if okW L V g al R q then (R ++ [q]) :: twT L V g al n f (R ++ [q]) else []) q = [] := fun q hq => if_neg hq
      induction b with
      | zero =>
        intro r p tk N1 s j10 j11 j12 hb hp htk hf hrw hh K
        have : r = 0 := Nat.le_zero.mp hb
        subst this
        exact K p tk N1 s j10 j11 j12 (by omega) (fun _ q a b => by omega) htk hf hrw hh rfl
      | succ b ihb =>
        intro r p tk N1 s j10 j11 j12 hb hp htk hf hrw hh K
        cases hfc : fcw L V g al R r p with
        | none =>
          have hno := (fcw_none r p).1 hfc
          refine K p tk N1 s j10 j11 j12 (by omega) (fun _ q a b => hno q a (by omega)) htk hf hrw hh ?_
          rw [twP, trW_none hG r p hno]
          rfl
        | some z =>
          obtain ⟨h1, h2, h3, h4⟩ := fcw_some hG r p hfc
          have hz8 : z < 8 := by omega
          have el : (R ++ [z]).length = R.length + 1 := by simp
          have hR8 : R.length < 8 := by omega
          have e0 : N1 0 0 0 = nI n := by rw [hf 0 0 0 (by decide) (by decide) (by omega)]; exact hn
          have e12 : N1 12 0 q = nI m := by rw [hf 12 0 q (by decide) (by decide) (by omega)]; exact hm
          have eg : shN N1 q = g := by rw [← hg]; funext i; exact hf 13 0 _ (by decide) (by decide) (by omega)
          obtain ⟨r2, hr2⟩ : ∃ r2, p + r - z = r2 + 1 := ⟨p + r - z - 1, by omega⟩
          rw [hr2, trB] at h4
          rw [if_pos h3] at h4
          have rest : ∀ tk2 N2 s2 j10 j11 j12, tkOK tk2 R → frW N N2 → rwN N2 (liF R) R.length n → htW g R N2 → s2 = ((R ++ [z]) :: twT L V g al n f (R ++ [z])).foldl (upW m) s → lr_W tM sM w d jX7_whose 74 [some (vo 0 0), some (vi (nI q)), some (vi x), some (vi y), some (vi al), some (vi s2.1), some (vi s2.2), some (vi tk2), some (vi (nI (z + 1))), some (vi 1), j10, j11, j12] [] N2 (qX fun r N' => frW N N' ∧ r = if x = 0 then res.1 else res.2) := by
            intro tk2 N2 s2 j10 j11 j12 htk2 hf2 hrw2 hh2 hs2
            refine ihb r2 (z + 1) tk2 N2 s2 j10 j11 j12 (by omega) (by omega) htk2 hf2 hrw2 hh2 ?_
            intro fr tk' N3 s3 j10 j11 j12 a b c e i k hs3
            refine K fr tk' N3 s3 j10 j11 j12 a b c e i k ?_
            rw [hs3, hs2]
            show (twP L V g al n (f + 1) R r2 (z + 1)).foldl (upW m) _ = (trB _ r p).foldl (upW m) _
            rw [h4, List.foldl_append]
            rfl
          refine ri_ild a_X7_whose_74 rfl ?_
          refine ri_if_eq a_X7_whose_76 (fun q => absurd q (by decide)) (fun _ => ?_)
          refine ri_ic a_X7_whose_79 ?_
          refine ri_istk (ls' := [some (vo 0 0), some (vi (nI q)), some (vi x), some (vi y), some (vi al), some (vi s.1), some (vi s.2), some (vi tk), some (vi (nI p)), some (vi 1), some (vi (-1)), j11, j12]) a_X7_whose_80 rfl ?_
          refine ri_ild a_X7_whose_82 rfl ?_
          refine ri_ist (f := fun zx11 => [some (vo 0 0), some (vi (nI q)), some (vi x), some (vi y), some (vi al), some (vi s.1), some (vi s.2), some (vi tk), some (vi (nI p)), some (vi 1), some (vi (-1)), some (vi zx11), j12]) a_X7_whose_84 (fun _ => rfl) (fun zx11 ezx11 => ?_)
          rw [ezx11]
          refine lp_whose_s hq hn8 hm8 e0 e12 eg (frW_tb hf ht) hrw.1 hrw.2.1 htk hh r p hp _ (fun j11 j12 => ?_)
          rw [if_pos (by omega), hfc]
          show lr_W tM sM w d jX7_whose 203 [some (vo 0 0), some (vi (nI q)), some (vi x), some (vi y), some (vi al), some (vi s.1), some (vi s.2), some (vi tk), some (vi (nI p)), some (vi 1), some (vi (nI z)), j11, j12] [] N1 (qX fun r N' => frW N N' ∧ r = if x = 0 then res.1 else res.2)
          have hne : ¬ nI z = -1 := nI_m1n (by omega)
          have c13 : (40 * nI q + N1 0 0 36).toNatClampNeg = 40 * q + R.length := by rw [hrw.1, nI_40a, nI_clamp (by omega)]
          have i13 : vp_in (40 * nI q + N1 0 0 36) 160 := by rw [hrw.1, nI_40a]; exact vp_in_nI (by omega) (by decide)
          refine ri_ild a_X7_whose_203 rfl ?_
          refine ri_ic a_X7_whose_205 ?_
          refine ri_icmp_ne a_X7_whose_206 (fun zc21 => ?_) (fun zc21 => ?_)
          · refine ri_ald a_X7_whose_272 rfl ?_
            refine ri_getR (t' := 24) (i' := 0) a_X7_whose_273 fl_X7_79 kM_0_40 rfl iM_0 (Or.inr ⟨rfl, rfl, rfl⟩) ?_
            refine ri_ald a_X7_whose_276 rfl ?_
            refine ri_getI a_X7_whose_277 fl_X7_201 kM_0_36 rfl iM_0 ?_
            refine ri_ic a_X7_whose_280 ?_
            refine ri_iadd a_X7_whose_281 ?_
            refine ri_ald a_X7_whose_282 rfl ?_
            refine ri_getR (t' := 13) (i' := 0) a_X7_whose_283 fl_X7_46 kM_0_19 rfl iM_0 (Or.inr ⟨rfl, rfl, rfl⟩) ?_
            refine ri_ic a_X7_whose_286 ?_
            refine ri_ild a_X7_whose_288 rfl ?_
            refine ri_imul a_X7_whose_289 ?_
            refine ri_ald a_X7_whose_290 rfl ?_
            refine ri_getI a_X7_whose_291 fl_X7_201 kM_0_36 rfl iM_0 ?_
            refine ri_iadd a_X7_whose_294 ?_
            refine ri_iaload a_X7_whose_295 lM_13 rfl iM_13 i13 ?_
            refine ri_iastore a_X7_whose_296 lM_24 rfl iM_24 (by rw [hrw.1, nI_1]; exact vp_in_nI (by omega) (by decide)) (fun zM22 ezM22 => ?_)
            refine ri_ald a_X7_whose_297 rfl ?_
            refine ri_getR (t' := 22) (i' := 0) a_X7_whose_298 fl_X7_73 kM_0_35 rfl iM_0 (Or.inr ⟨rfl, rfl, rfl⟩) ?_
            refine ri_ald a_X7_whose_301 rfl ?_
            refine ri_getI a_X7_whose_302 fl_X7_201 kM_0_36 rfl iM_0 ?_
            refine ri_ild a_X7_whose_305 rfl ?_
            refine ri_iastore a_X7_whose_307 lM_22 rfl iM_22 (by rw [show zM22 0 0 36 = nI R.length by rw [ezM22]; exact hrw.1]; exact vp_in_nI hR8 (by decide)) (fun zM23 ezM23 => ?_)
            refine ri_ald a_X7_whose_308 rfl ?_
            refine ri_dup a_X7_whose_309 (fun _ h => by cases h) ?_
            refine ri_getI a_X7_whose_310 fl_X7_201 kM_0_36 rfl iM_0 ?_
            refine ri_ic a_X7_whose_313 ?_
            refine ri_iadd a_X7_whose_314 ?_
            refine ri_putI a_X7_whose_315 fp_X7_201 kM_0_36 rfl iM_0 (fun zM24 ezM24 => ?_)
            refine ri_ild a_X7_whose_318 rfl ?_
            refine ri_ic a_X7_whose_320 ?_
            refine ri_ild a_X7_whose_321 rfl ?_
            refine ri_ishl a_X7_whose_323 ?_
            refine ri_ior a_X7_whose_324 ?_
            refine ri_ist (f := fun zx25 => [some (vo 0 0), some (vi (nI q)), some (vi x), some (vi y), some (vi al), some (vi s.1), some (vi s.2), some (vi zx25), some (vi (nI p)), some (vi 1), some (vi (nI z)), j11, j12]) a_X7_whose_325 (fun _ => rfl) (fun zx25 ezx25 => ?_)
            refine ri_ic a_X7_whose_327 ?_
            refine ri_istk (ls' := [some (vo 0 0), some (vi (nI q)), some (vi x), some (vi y), some (vi al), some (vi s.1), some (vi s.2), some (vi zx25), some (vi 0), some (vi 1), some (vi (nI z)), j11, j12]) a_X7_whose_328 rfl ?_
            rw [c13, show N1 13 0 (40 * q + R.length) = g R.length from congrFun eg _, hrw.1, nI_1, nI_clamp (by omega)] at ezM22
            rw [show zM22 0 0 36 = nI R.length by rw [ezM22]; exact hrw.1, nI_clamp (by omega)] at ezM23
            rw [show zM23 0 0 36 = nI R.length by rw [ezM23, ezM22]; exact hrw.1, nI_1, ezM23, ezM22] at ezM24
            have hf2 : frW N zM24 := by rw [ezM24]; exact frW_up (frW_up (frW_up hf (Or.inr (Or.inl rfl))) (Or.inl rfl)) (Or.inr (Or.inr ⟨rfl, rfl⟩))
            have hrw0 : rwN (up N1 24 0 (R.length + 1) (g R.length)) (liF R) R.length n := ⟨hrw.1, hrw.2.1, fun i hi => hrw.2.2 i hi⟩
            have hrw2 := rwN_push hrw0 (p := z) (by omega) hR8 ezM24
            have hh2 := htW_push (z := z) hh ezM24
            have e36 : zM24 0 0 36 = nI (R.length + 1) := by rw [ezM24, up_same]
            have e122 : zM24 12 0 (nI q).toNatClampNeg = nI m := by rw [nI_clamp (by omega), hf2 12 0 q (by decide) (by decide) (by omega)]; exact hm
            have note : ∀ s2 j10 j11 j12, s2 = upW m s (R ++ [z]) → lr_W tM sM w d jX7_whose 74 [some (vo 0 0), some (vi (nI q)), some (vi x), some (vi y), some (vi al), some (vi s2.1), some (vi s2.2), some (vi zx25), some (vi 0), some (vi 1), j10, j11, j12] [] zM24 (qX fun r N' => frW N N' ∧ r = if x = 0 then res.1 else res.2) := by
              intro s2 j10 j11 j12 hs2
              have htk5 : tkOK zx25 (R ++ [z]) := by rw [ezx25]; exact tkOK_push htk hz8
              refine ihf (R ++ [z]) (by omega) (fun x hx2 => ?_) n n 0 zx25 zM24 s2 j10 j11 j12 (Nat.le_refl _) (by omega) htk5 hf2 hrw2 hh2 ?_
              · rcases List.mem_append.1 hx2 with q | q
                · exact hx x q
                · have : x = z := by simpa using q
                  omega
              · intro fr tk' N6 s6 j10 j11 j12 a b c e i k hs6
                have e60 : N6 0 0 0 = nI n := by rw [e 0 0 0 (by decide) (by decide) (by omega)]; exact hn
                have e612 : N6 12 0 q = nI m := by rw [e 12 0 q (by decide) (by decide) (by omega)]; exact hm
                have e6g : shN N6 q = g := by rw [← hg]; funext i; exact e 13 0 _ (by decide) (by decide) (by omega)
                have hnone : (if (R ++ [z]).length < m then fcw L V g al (R ++ [z]) (n - fr) fr else none) = none := by
                  split
                  · exact (fcw_none _ _).2 (fun q q1 q2 => b (by omega) q q1 (by omega))
                  · rfl
                refine ri_ild a_X7_whose_74 rfl ?_
                refine ri_if_eq a_X7_whose_76 (fun q => absurd q (by decide)) (fun _ => ?_)
                refine ri_ic a_X7_whose_79 ?_
                refine ri_istk (ls' := [some (vo 0 0), some (vi (nI q)), some (vi x), some (vi y), some (vi al), some (vi s6.1), some (vi s6.2), some (vi tk'), some (vi (nI fr)), some (vi 1), some (vi (-1)), j11, j12]) a_X7_whose_80 rfl ?_
                refine ri_ild a_X7_whose_82 rfl ?_
                refine ri_ist (f := fun zx51 => [some (vo 0 0), some (vi (nI q)), some (vi x), some (vi y), some (vi al), some (vi s6.1), some (vi s6.2), some (vi tk'), some (vi (nI fr)), some (vi 1), some (vi (-1)), some (vi zx51), j12]) a_X7_whose_84 (fun _ => rfl) (fun zx51 ezx51 => ?_)
                rw [ezx51]
                refine lp_whose_s hq hn8 hm8 e60 e612 e6g (frW_tb e ht) i.1 i.2.1 c k (n - fr) fr (by omega) _ (fun j11 j12 => ?_)
                rw [hnone]
                show lr_W tM sM w d jX7_whose 203 [some (vo 0 0), some (vi (nI q)), some (vi x), some (vi y), some (vi al), some (vi s6.1), some (vi s6.2), some (vi tk'), some (vi (nI fr)), some (vi 1), some (vi (-1)), j11, j12] [] N6 (qX fun r N' => frW N N' ∧ r = if x = 0 then res.1 else res.2)
                refine ri_ild a_X7_whose_203 rfl ?_
                refine ri_ic a_X7_whose_205 ?_
                refine ri_icmp_ne a_X7_whose_206 (fun q => absurd q (by decide)) (fun _ => ?_)
                refine ri_ald a_X7_whose_209 rfl ?_
                refine ri_getI a_X7_whose_210 fl_X7_201 kM_0_36 rfl iM_0 ?_
                refine ri_if_le a_X7_whose_213 (fun zc61 => ?_) (fun zc61 => ?_)
                · refine ri_ic a_X7_whose_220 ?_
                  refine ri_istk (ls' := [some (vo 0 0), some (vi (nI q)), some (vi x), some (vi y), some (vi al), some (vi s6.1), some (vi s6.2), some (vi tk'), some (vi (nI fr)), some (vi 0), some (vi (-1)), j11, j12]) a_X7_whose_221 rfl ?_
                  refine ri_ild a_X7_whose_223 rfl ?_
                  refine ri_if_eq a_X7_whose_225 (fun _ => ?_) (fun q => absurd q (by decide))
                  refine ri_goto a_X7_whose_362 ?_
                  exact absurd zc61 (by rw [i.1, el]; exact nI_nle (by omega) (by omega))
                · refine ri_ic a_X7_whose_216 ?_
                  refine ri_goto a_X7_whose_217 ?_
                  refine ri_istk (ls' := [some (vo 0 0), some (vi (nI q)), some (vi x), some (vi y), some (vi al), some (vi s6.1), some (vi s6.2), some (vi tk'), some (vi (nI fr)), some (vi 1), some (vi (-1)), j11, j12]) a_X7_whose_221 rfl ?_
                  refine ri_ild a_X7_whose_223 rfl ?_
                  refine ri_if_eq a_X7_whose_225 (fun q => absurd q (by decide)) (fun _ => ?_)
                  refine ri_ald a_X7_whose_228 rfl ?_
                  refine ri_dup a_X7_whose_229 (fun _ h => by cases h) ?_
                  refine ri_getI a_X7_whose_230 fl_X7_201 kM_0_36 rfl iM_0 ?_
                  refine ri_ic a_X7_whose_233 ?_
                  refine ri_isub a_X7_whose_234 ?_
                  refine ri_putI a_X7_whose_235 fp_X7_201 kM_0_36 rfl iM_0 (fun zM62 ezM62 => ?_)
                  refine ri_ild a_X7_whose_238 rfl ?_
                  refine ri_ic a_X7_whose_240 ?_
                  refine ri_ald a_X7_whose_241 rfl ?_
                  refine ri_getR (t' := 22) (i' := 0) a_X7_whose_242 fl_X7_73 kM_0_35 rfl iM_0 (Or.inr ⟨rfl, rfl, rfl⟩) ?_
                  refine ri_ald a_X7_whose_245 rfl ?_
                  refine ri_getI a_X7_whose_246 fl_X7_201 kM_0_36 rfl iM_0 ?_
                  refine ri_iaload a_X7_whose_249 lM_22 rfl iM_22 ?_ ?_
                  · rw [ezM62, up_same, i.1, el, nI_pred]; exact vp_in_nI hR8 (by decide)
                  refine ri_ishl a_X7_whose_250 ?_
                  refine ri_ic a_X7_whose_251 ?_
                  refine ri_ixor a_X7_whose_252 ?_
                  refine ri_iand a_X7_whose_253 ?_
                  refine ri_ist (f := fun zx63 => [some (vo 0 0), some (vi (nI q)), some (vi x), some (vi y), some (vi al), some (vi s6.1), some (vi s6.2), some (vi zx63), some (vi (nI fr)), some (vi 1), some (vi (-1)), j11, j12]) a_X7_whose_254 (fun _ => rfl) (fun zx63 ezx63 => ?_)
                  refine ri_ald a_X7_whose_256 rfl ?_
                  refine ri_getR (t' := 22) (i' := 0) a_X7_whose_257 fl_X7_73 kM_0_35 rfl iM_0 (Or.inr ⟨rfl, rfl, rfl⟩) ?_
                  refine ri_ald a_X7_whose_260 rfl ?_
                  refine ri_getI a_X7_whose_261 fl_X7_201 kM_0_36 rfl iM_0 ?_
                  refine ri_iaload a_X7_whose_264 lM_22 rfl iM_22 ?_ ?_
                  · rw [ezM62, up_same, i.1, el, nI_pred]; exact vp_in_nI hR8 (by decide)
                  refine ri_ic a_X7_whose_265 ?_
                  refine ri_iadd a_X7_whose_266 ?_
                  refine ri_ist (f := fun zx64 => [some (vo 0 0), some (vi (nI q)), some (vi x), some (vi y), some (vi al), some (vi s6.1), some (vi s6.2), some (vi zx63), some (vi zx64), some (vi 1), some (vi (-1)), j11, j12]) a_X7_whose_267 (fun _ => rfl) (fun zx64 ezx64 => ?_)
                  refine ri_goto a_X7_whose_269 ?_
                  refine ri_goto a_X7_whose_362 ?_
                  rw [i.1, el, nI_pred] at ezM62
                  have c36 : zM62 0 0 36 = nI R.length := by rw [ezM62, up_same]
                  have c22 : zM62 22 0 (zM62 0 0 36).toNatClampNeg = nI z := by
                    rw [c36, nI_clamp (by omega), ezM62, up_apply, if_neg (by omega), (i.2.2 R.length (by rw [el]; omega)).1, liF_eq]
                  rw [c22] at ezx63 ezx64
                  rw [ezx64, nI_1]
                  refine rest zx63 zM62 s6 _ _ _ (by rw [ezx63]; exact tkOK_pop c hz8 h3.1.2) (by rw [ezM62]; exact frW_up e (Or.inr (Or.inr ⟨rfl, rfl⟩))) (rwN_pop i (by omega) c36 (fun i => by rw [ezM62, up_apply, if_neg (by omega)])) (htW_pop k (by rw [ezM62]; rfl)) ?_
                  rw [hs6, hs2, ← twT_P]
                  rfl
            have el2 : R.length + 1 = m ↔ (R ++ [z]).length = m := by rw [el]
            refine ri_ald a_X7_whose_330 rfl ?_
            refine ri_getI a_X7_whose_331 fl_X7_201 kM_0_36 rfl iM_0 ?_
            refine ri_ald a_X7_whose_334 rfl ?_
            refine ri_getR (t' := 12) (i' := 0) a_X7_whose_335 fl_X7_43 kM_0_18 rfl iM_0 (Or.inr ⟨rfl, rfl, rfl⟩) ?_
            refine ri_ild a_X7_whose_338 rfl ?_
            refine ri_iaload a_X7_whose_339 lM_12 rfl iM_12 (vp_in_nI hq (by decide)) ?_
            refine ri_icmp_ne a_X7_whose_340 (fun zc31 => ?_) (fun zc31 => ?_)
            · refine ri_goto a_X7_whose_362 ?_
              rw [e36, e122, nI_eq (by omega) (by omega), el2] at zc31
              exact note s _ _ _ (by rw [upW, if_neg zc31])
            · refine ri_ild a_X7_whose_343 rfl ?_
              refine ri_if_ne a_X7_whose_345 (fun zc32 => ?_) (fun zc32 => ?_)
              · refine ri_ild a_X7_whose_355 rfl ?_
                refine ri_ist (f := fun zx33 => [some (vo 0 0), some (vi (nI q)), some (vi x), some (vi y), some (vi al), some (vi s.1), some (vi zx33), some (vi zx25), some (vi 0), some (vi 1), some (vi (nI z)), j11, j12]) a_X7_whose_357 (fun _ => rfl) (fun zx33 ezx33 => ?_)
                refine ri_iinc (c0 := 1) (f := fun zx34 => [some (vo 0 0), some (vi (nI q)), some (vi x), some (vi y), some (vi al), some (vi zx34), some (vi zx33), some (vi zx25), some (vi 0), some (vi 1), some (vi (nI z)), j11, j12]) a_X7_whose_359 rfl (by decide) (fun _ => rfl) (fun zx34 ezx34 => ?_)
                refine ri_goto a_X7_whose_362 ?_
                rw [e36, e122, nI_eq (by omega) (by omega), el2] at zc31
                rw [ezx33, ezx34]
                exact note (s.1 + 1, s.2) _ _ _ (by rw [upW, if_pos zc31, if_neg zc32])
              · refine ri_ald a_X7_whose_348 rfl ?_
                refine ri_cVpi (as := []) (rest := []) (d' := d - 1) a_X7_whose_349 mv_X7_digitsOf ml_X7_231 (rcM_0 iM_0) (by omega) (ok_X7_digitsOf hrw2 hn8) (Nat.le_of_ble_eq_true rfl) rfl (fun zy35 ezy35 => ?_)
                refine ri_goto a_X7_whose_352 ?_
                refine ri_istk (ls' := [some (vo 0 0), some (vi (nI q)), some (vi x), some (vi y), some (vi al), some (vi s.1), some (vi zy35), some (vi zx25), some (vi 0), some (vi 1), some (vi (nI z)), j11, j12]) a_X7_whose_357 rfl ?_
                refine ri_iinc (c0 := 1) (f := fun zx36 => [some (vo 0 0), some (vi (nI q)), some (vi x), some (vi y), some (vi al), some (vi zx36), some (vi zy35), some (vi zx25), some (vi 0), some (vi 1), some (vi (nI z)), j11, j12]) a_X7_whose_359 rfl (by decide) (fun _ => rfl) (fun zx36 ezx36 => ?_)
                refine ri_goto a_X7_whose_362 ?_
                rw [e36, e122, nI_eq (by omega) (by omega), el2] at zc31
                rw [ezx36, ezy35]
                exact note (s.1 + 1, dgL (R ++ [z])) _ _ _ (by rw [upW, if_pos zc31, if_pos zc32])
          · exact absurd (by assumption) hne
  refine core m [] (by simp) (fun x hx => by cases hx) n n 0 0 N (if m = 0 then 1 else 0, 0) _ _ _ (Nat.le_refl _) (by omega) (fun q hq => by rw [bt_0]; simp) (fun _ _ _ _ _ _ => rfl) ⟨h36, Nat.zero_le _, fun i hi => absurd hi (Nat.not_lt_zero _)⟩ (fun j hj => by have : j = 0 := Nat.le_zero.mp hj; rw [this, h24]; rfl) ?_
  intro fr tk' N2 s' j10 j11 j12 a b c e i k hs
  have e60 : N2 0 0 0 = nI n := by rw [e 0 0 0 (by decide) (by decide) (by omega)]; exact hn
  have e612 : N2 12 0 q = nI m := by rw [e 12 0 q (by decide) (by decide) (by omega)]; exact hm
  have e6g : shN N2 q = g := by rw [← hg]; funext i; exact e 13 0 _ (by decide) (by decide) (by omega)
  have hs2 : s' = res := by rw [hs, ← hres, twT_P]
  have hnone : (if ([] : List Nat).length < m then fcw L V g al [] (n - fr) fr else none) = none := by
    split
    · rename_i hl
      have hl : 0 < m := hl
      exact (fcw_none _ _).2 (fun q q1 q2 => b (by omega) q q1 (by omega))
    · rfl
  subst hs2
  refine ri_ild a_X7_whose_74 rfl ?_
  refine ri_if_eq a_X7_whose_76 (fun q => absurd q (by decide)) (fun _ => ?_)
  refine ri_ic a_X7_whose_79 ?_
  refine ri_istk (ls' := [some (vo 0 0), some (vi (nI q)), some (vi x), some (vi y), some (vi al), some (vi s'.1), some (vi s'.2), some (vi tk'), some (vi (nI fr)), some (vi 1), some (vi (-1)), j11, j12]) a_X7_whose_80 rfl ?_
  refine ri_ild a_X7_whose_82 rfl ?_
  refine ri_ist (f := fun zx51 => [some (vo 0 0), some (vi (nI q)), some (vi x), some (vi y), some (vi al), some (vi s'.1), some (vi s'.2), some (vi tk'), some (vi (nI fr)), some (vi 1), some (vi (-1)), some (vi zx51), j12]) a_X7_whose_84 (fun _ => rfl) (fun zx51 ezx51 => ?_)
  rw [ezx51]
  refine lp_whose_s hq hn8 hm8 e60 e612 e6g (frW_tb e ht) i.1 i.2.1 c k (n - fr) fr (by omega) _ (fun j11 j12 => ?_)
  rw [hnone]
  show lr_W tM sM w d jX7_whose 203 [some (vo 0 0), some (vi (nI q)), some (vi x), some (vi y), some (vi al), some (vi s'.1), some (vi s'.2), some (vi tk'), some (vi (nI fr)), some (vi 1), some (vi (-1)), j11, j12] [] N2 (qX fun r N' => frW N N' ∧ r = if x = 0 then s'.1 else s'.2)
  have g1 : N2 0 0 36 = 0 := i.1
  refine ri_ild a_X7_whose_203 rfl ?_
  refine ri_ic a_X7_whose_205 ?_
  refine ri_icmp_ne a_X7_whose_206 (fun q => absurd q (by decide)) (fun _ => ?_)
  refine ri_ald a_X7_whose_209 rfl ?_
  refine ri_getI a_X7_whose_210 fl_X7_201 kM_0_36 rfl iM_0 ?_
  refine ri_if_le a_X7_whose_213 (fun zc61 => ?_) (fun zc61 => ?_)
  · refine ri_ic a_X7_whose_220 ?_
    refine ri_istk (ls' := [some (vo 0 0), some (vi (nI q)), some (vi x), some (vi y), some (vi al), some (vi s'.1), some (vi s'.2), some (vi tk'), some (vi (nI fr)), some (vi 0), some (vi (-1)), j11, j12]) a_X7_whose_221 rfl ?_
    refine ri_ild a_X7_whose_223 rfl ?_
    refine ri_if_eq a_X7_whose_225 (fun _ => ?_) (fun q => absurd q (by decide))
    refine ri_goto a_X7_whose_362 ?_
    refine ri_ild a_X7_whose_74 rfl ?_
    refine ri_if_eq a_X7_whose_76 (fun _ => ?_) (fun q => absurd q (by decide))
    refine ri_ild a_X7_whose_365 rfl ?_
    refine ri_if_ne a_X7_whose_366 (fun zc71 => ?_) (fun zc71 => ?_)
    · refine ri_ild a_X7_whose_374 rfl ?_
      refine ri_ireturn a_X7_whose_376 rfl rfl ?_
      exact rX ⟨e, by simp only [zc71, if_true, if_false]⟩
    · refine ri_ild a_X7_whose_369 rfl ?_
      refine ri_goto a_X7_whose_371 ?_
      refine ri_ireturn a_X7_whose_376 rfl rfl ?_
      exact rX ⟨e, by simp only [zc71, if_true, if_false]⟩
  · refine ri_ic a_X7_whose_216 ?_
    refine ri_goto a_X7_whose_217 ?_
    refine ri_istk (ls' := [some (vo 0 0), some (vi (nI q)), some (vi x), some (vi y), some (vi al), some (vi s'.1), some (vi s'.2), some (vi tk'), some (vi (nI fr)), some (vi 1), some (vi (-1)), j11, j12]) a_X7_whose_221 rfl ?_
    refine ri_ild a_X7_whose_223 rfl ?_
    refine ri_if_eq a_X7_whose_225 (fun q => absurd q (by decide)) (fun _ => ?_)
    exact absurd (by rw [g1]; decide) zc61
def whN (L : List (List Op)) (V : Vw) (g : Nat → Int32) (al : Int32) (n m : Nat) : Int32 × Int32 := (twT L V g al n m []).foldl (upW m) (if m = 0 then 1 else 0, 0)
theorem ok_X7_whose {w : Wd} {d : Nat} (hd : 5 ≤ d) {N : Mem} {q m k n : Nat} {L : List (List Op)} {O : Nat → Nat} (hL : lawN N L) (hq : q < 4) (hm : N 12 0 q = nI m) (hm40 : m ≤ 40) (hn : N 0 0 0 = nI n) (hO : orN N O k n) (hn8 : n ≤ 8) (x : Int32) : lr_Ok tM sM w d jX7_whose [vo 0 0, vi (nI q), vi x] N (qX fun r N' => frN N N' ∧ r = if N 11 0 q = -1 then -11 else if N 12 0 q ≤ N 0 0 6 then (if 0 ≤ x ∧ x ≤ 1 then (if x = 0 then (whN L (vwM N) (shN N q) (bitsF (N 5 0) k) n m).1 else (whN L (vwM N) (shN N q) (bitsF (N 5 0) k) n m).2) else -7) else -2) := by
  refine lr_ok (by decide +kernel) rfl ?_
  refine ri_ald a_X7_whose_0 rfl ?_
  refine ri_ild a_X7_whose_1 rfl ?_
  refine ri_cVpi (as := [vi (nI q)]) (rest := []) (d' := d - 1) a_X7_whose_2 mv_X7_sheetWrong ml_X7_252 (rcM_0 iM_0) (by omega) (ok_X7_sheetWrong (by omega) hq) (Nat.le_of_ble_eq_true rfl) rfl (fun zy1 ezy1 => ?_)
  refine ri_istk (ls' := [some (vo 0 0), some (vi (nI q)), some (vi x), some (vi zy1), none, none, none, none, none, none, none, none, none]) a_X7_whose_5 rfl ?_
  refine ri_ild a_X7_whose_6 rfl ?_
  refine ri_if_eq a_X7_whose_7 (fun zc2 => ?_) (fun zc2 => ?_)
  · refine ri_ild a_X7_whose_12 rfl ?_
    refine ri_ic a_X7_whose_13 ?_
    refine ri_ic a_X7_whose_14 ?_
    refine ri_cSpb (as := [vi x, vi 0, vi 1]) (rest := []) (d' := d - 1) a_X7_whose_15 ms_X7_in ml_X7_96 (by omega) (ok_X7_in x 0 1) (Nat.le_of_ble_eq_true rfl) rfl (fun zc3 => ?_) (fun zc3 => ?_)
    · refine ri_if_ne a_X7_whose_18 (fun _ => ?_) (fun q => absurd q (by decide))
      have h := nr0 (ezy1.symm.trans zc2)
      have hmk := mk_le hm hm40 hO h.2
      have hk8 := hO.2.1
      generalize zy1 = y at *
      refine ri_ald a_X7_whose_24 rfl ?_
      refine ri_cVxv (as := []) (rest := []) (d' := d - 1) a_X7_whose_25 mv_X7_tellsAll ml_X7_213 (rcM_0 iM_0) (by omega) (ok_X7_tellsAll (by omega) hL hn hn8) (Nat.le_of_ble_eq_true rfl) rfl (fun zM11 hzM11 => ?_)
      refine ri_ald a_X7_whose_28 rfl ?_
      refine ri_cVpi (as := []) (rest := []) (d' := d - 1) a_X7_whose_29 mv_X7_savedSet ml_X7_234 (rcM_0 iM_0) (by omega) (ok_X7_savedSet (N := zM11) (by rw [hzM11.1 0 (by decide) (by decide) (by decide)]; exact hO.1) hk8) (Nat.le_of_ble_eq_true rfl) rfl (fun zy12 ezy12 => ?_)
      refine ri_istk (ls' := [some (vo 0 0), some (vi (nI q)), some (vi x), some (vi y), some (vi zy12), none, none, none, none, none, none, none, none]) a_X7_whose_32 rfl ?_
      obtain ⟨hf, ht⟩ := hzM11
      rw [hf 5 (by decide) (by decide) (by decide)] at ezy12
      subst ezy12
      have e12 : zM11 12 0 q = nI m := by rw [hf 12 (by decide) (by decide) (by decide)]; exact hm
      have e122 : zM11 12 0 (nI q).toNatClampNeg = nI m := by rw [nI_clamp (by omega)]; exact e12
      have e0 : zM11 0 0 0 = nI n := by rw [hf 0 (by decide) (by decide) (by decide)]; exact hn
      have eg : shN zM11 q = shN N q := by funext i; unfold shN; rw [hf 13 (by decide) (by decide) (by decide)]
      have fin : ∀ a5 : Int32, a5 = (if m = 0 then 1 else 0) → ∀ N2 : Mem, N2 = up (up zM11 0 0 36 0) 24 0 0 0 → lr_W tM sM w d jX7_whose 74 [some (vo 0 0), some (vi (nI q)), some (vi x), some (vi y), some (vi (bitsF (N 5 0) k)), some (vi a5), some (vi 0), some (vi 0), some (vi 0), some (vi 1), none, none, none] [] N2 (qX fun r N' => frN N N' ∧ r = if N 11 0 q = -1 then -11 else if N 12 0 q ≤ N 0 0 6 then (if 0 ≤ x ∧ x ≤ 1 then (if x = 0 then (whN L (vwM N) (shN N q) (bitsF (N 5 0) k) n m).1 else (whN L (vwM N) (shN N q) (bitsF (N 5 0) k) n m).2) else -7) else -2) := by
        intro a5 h5 N2 hN2
        subst h5
        have eg2 : shN N2 q = shN N q := by rw [hN2]; exact eg
        refine lr_Wimp (lp_whose (by omega) (N := N2) (V := vwM N) (L := L) hq (by omega) hn8 (by rw [hN2]; exact e0) (by rw [hN2]; exact e12) (by rw [hN2]; exact ht) (by rw [hN2]; rfl) (by rw [hN2]; rfl) rfl) ?_
        rintro r M' ⟨z, g1, g2, g3⟩
        refine ⟨z, g1, frN_tr (frTb_N hf) (frN_tr ?_ (frW_N g2)), ?_⟩
        · rw [hN2]; exact frN_up (frN_up frN_rf (Or.inr ⟨rfl, by decide⟩)) (Or.inl (by decide))
        · rw [if_neg h.1, if_pos h.2, if_pos zc3, g3, eg2]
          rfl
      refine ri_ald a_X7_whose_34 rfl ?_
      refine ri_getR (t' := 12) (i' := 0) a_X7_whose_35 fl_X7_43 kM_0_18 rfl iM_0 (Or.inr ⟨rfl, rfl, rfl⟩) ?_
      refine ri_ild a_X7_whose_38 rfl ?_
      refine ri_iaload a_X7_whose_39 lM_12 rfl iM_12 (vp_in_nI hq (by decide)) ?_
      refine ri_if_ne a_X7_whose_40 (fun zc21 => ?_) (fun zc21 => ?_)
      · refine ri_ic a_X7_whose_47 ?_
        refine ri_istk (ls' := [some (vo 0 0), some (vi (nI q)), some (vi x), some (vi y), some (vi (bitsF (N 5 0) k)), some (vi 0), none, none, none, none, none, none, none]) a_X7_whose_48 rfl ?_
        refine ri_ic a_X7_whose_50 ?_
        refine ri_istk (ls' := [some (vo 0 0), some (vi (nI q)), some (vi x), some (vi y), some (vi (bitsF (N 5 0) k)), some (vi 0), some (vi 0), none, none, none, none, none, none]) a_X7_whose_51 rfl ?_
        refine ri_ic a_X7_whose_53 ?_
        refine ri_istk (ls' := [some (vo 0 0), some (vi (nI q)), some (vi x), some (vi y), some (vi (bitsF (N 5 0) k)), some (vi 0), some (vi 0), some (vi 0), none, none, none, none, none]) a_X7_whose_54 rfl ?_
        refine ri_ic a_X7_whose_56 ?_
        refine ri_istk (ls' := [some (vo 0 0), some (vi (nI q)), some (vi x), some (vi y), some (vi (bitsF (N 5 0) k)), some (vi 0), some (vi 0), some (vi 0), some (vi 0), none, none, none, none]) a_X7_whose_57 rfl ?_
        refine ri_ic a_X7_whose_59 ?_
        refine ri_istk (ls' := [some (vo 0 0), some (vi (nI q)), some (vi x), some (vi y), some (vi (bitsF (N 5 0) k)), some (vi 0), some (vi 0), some (vi 0), some (vi 0), some (vi 1), none, none, none]) a_X7_whose_60 rfl ?_
        refine ri_ald a_X7_whose_62 rfl ?_
        refine ri_ic a_X7_whose_63 ?_
        refine ri_putI a_X7_whose_64 fp_X7_201 kM_0_36 rfl iM_0 (fun zM22 ezM22 => ?_)
        refine ri_ald a_X7_whose_67 rfl ?_
        refine ri_getR (t' := 24) (i' := 0) a_X7_whose_68 fl_X7_79 kM_0_40 rfl iM_0 (Or.inr ⟨rfl, rfl, rfl⟩) ?_
        refine ri_ic a_X7_whose_71 ?_
        refine ri_ic a_X7_whose_72 ?_
        refine ri_iastore a_X7_whose_73 lM_24 rfl iM_24 (vp_in_lit (by decide) (by decide)) (fun zM23 ezM23 => ?_)
        have hm0 : ¬ m = 0 := fun z => zc21 (by rw [e122, z]; rfl)
        exact fin 0 (by rw [if_neg hm0]) _ (by rw [ezM23, ezM22]; rfl)
      · refine ri_ic a_X7_whose_43 ?_
        refine ri_goto a_X7_whose_44 ?_
        refine ri_istk (ls' := [some (vo 0 0), some (vi (nI q)), some (vi x), some (vi y), some (vi (bitsF (N 5 0) k)), some (vi 1), none, none, none, none, none, none, none]) a_X7_whose_48 rfl ?_
        refine ri_ic a_X7_whose_50 ?_
        refine ri_istk (ls' := [some (vo 0 0), some (vi (nI q)), some (vi x), some (vi y), some (vi (bitsF (N 5 0) k)), some (vi 1), some (vi 0), none, none, none, none, none, none]) a_X7_whose_51 rfl ?_
        refine ri_ic a_X7_whose_53 ?_
        refine ri_istk (ls' := [some (vo 0 0), some (vi (nI q)), some (vi x), some (vi y), some (vi (bitsF (N 5 0) k)), some (vi 1), some (vi 0), some (vi 0), none, none, none, none, none]) a_X7_whose_54 rfl ?_
        refine ri_ic a_X7_whose_56 ?_
        refine ri_istk (ls' := [some (vo 0 0), some (vi (nI q)), some (vi x), some (vi y), some (vi (bitsF (N 5 0) k)), some (vi 1), some (vi 0), some (vi 0), some (vi 0), none, none, none, none]) a_X7_whose_57 rfl ?_
        refine ri_ic a_X7_whose_59 ?_
        refine ri_istk (ls' := [some (vo 0 0), some (vi (nI q)), some (vi x), some (vi y), some (vi (bitsF (N 5 0) k)), some (vi 1), some (vi 0), some (vi 0), some (vi 0), some (vi 1), none, none, none]) a_X7_whose_60 rfl ?_
        refine ri_ald a_X7_whose_62 rfl ?_
        refine ri_ic a_X7_whose_63 ?_
        refine ri_putI a_X7_whose_64 fp_X7_201 kM_0_36 rfl iM_0 (fun zM24 ezM24 => ?_)
        refine ri_ald a_X7_whose_67 rfl ?_
        refine ri_getR (t' := 24) (i' := 0) a_X7_whose_68 fl_X7_79 kM_0_40 rfl iM_0 (Or.inr ⟨rfl, rfl, rfl⟩) ?_
        refine ri_ic a_X7_whose_71 ?_
        refine ri_ic a_X7_whose_72 ?_
        refine ri_iastore a_X7_whose_73 lM_24 rfl iM_24 (vp_in_lit (by decide) (by decide)) (fun zM25 ezM25 => ?_)
        have hm0 : m = 0 := by
          rw [e122] at zc21
          exact (nI_eq (a := m) (b := 0) (by omega) (by decide)).1 zc21
        exact fin 1 (by rw [if_pos hm0]) _ (by rw [ezM25, ezM24]; rfl)
    · refine ri_if_ne a_X7_whose_18 (fun q => absurd q (by decide)) (fun _ => ?_)
      refine ri_ic a_X7_whose_21 ?_
      refine ri_ireturn a_X7_whose_23 rfl rfl ?_
      have h := nr0 (ezy1.symm.trans zc2)
      exact rX ⟨frN_rf, by rw [if_neg h.1, if_pos h.2, if_neg zc3]⟩
  · refine ri_ild a_X7_whose_10 rfl ?_
    refine ri_ireturn a_X7_whose_11 rfl rfl ?_
    rw [ezy1] at zc2 ⊢
    exact rX ⟨frN_rf, nr1 zc2⟩
theorem no_X7_whose {w : Wd} {d : Nat} (hd : 5 ≤ d) {N : Mem} {s : Int32} (hs : ¬ (0 ≤ s ∧ s ≤ 3)) (x : Int32) : lr_Ok tM sM w d jX7_whose [vo 0 0, vi s, vi x] N (qI (-2) N) := by
  refine lr_ok (by decide +kernel) rfl ?_
  refine ri_ald a_X7_whose_0 rfl ?_
  refine ri_ild a_X7_whose_1 rfl ?_
  refine ri_cVpi (as := [vi s]) (rest := []) (d' := d - 1) a_X7_whose_2 mv_X7_sheetWrong ml_X7_252 (rcM_0 iM_0) (by omega) (no_X7_sheetWrong (by omega) hs) (Nat.le_of_ble_eq_true rfl) rfl (fun zy1 ezy1 => ?_)
  refine ri_istk (ls' := [some (vo 0 0), some (vi s), some (vi x), some (vi zy1), none, none, none, none, none, none, none, none, none]) a_X7_whose_5 rfl ?_
  refine ri_ild a_X7_whose_6 rfl ?_
  refine ri_if_eq a_X7_whose_7 (fun zc2 => ?_) (fun zc2 => ?_)
  · exact absurd zc2 (by rw [ezy1]; decide)
  · refine ri_ild a_X7_whose_10 rfl ?_
    refine ri_ireturn a_X7_whose_11 rfl rfl ?_
    exact rI ezy1 rfl

