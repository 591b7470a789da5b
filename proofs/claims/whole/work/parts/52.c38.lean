/-! class: copy, peopleBy, whose -/
theorem s4' {s : Int32} (h : 0 ≤ s ∧ s ≤ 3) : ∃ q, s = nI q ∧ q < 4 := by
  obtain ⟨q, h1, h2⟩ := nI_of2 (n := 3) (M := 3) (by decide) (Int32.not_lt.mpr h.1) h.2
  exact ⟨q, h2, by omega⟩
theorem ok_X6_copy {w : Wd} {d : Nat} (hd : 2 ≤ d) {M : Mem} {q o m1 m2 : Nat} (hq : q < 4) (ho : o < 4) (hm1 : M 19 q 2 = nI m1) (hm140 : m1 ≤ 40) (hm2 : M 19 o 2 = nI m2) (hm240 : m2 ≤ 40) (i j n : Int32) : lr_Ok tC sC w d jX6_copy [vo 0 0, vi (nI q), vi i, vi (nI o), vi j, vi n] M (qX fun r M' => if M 19 q 1 = -1 ∨ M 19 o 1 = -1 then r = -11 ∧ M' = M else if M 19 q 1 = M 19 o 1 then (if (0 ≤ i ∧ 0 ≤ n ∧ n ≤ M 19 q 2 ∧ i ≤ M 19 q 2 - n) ∧ 0 ≤ j ∧ 0 ≤ n ∧ n ≤ M 19 o 2 ∧ j ≤ M 19 o 2 - n then r = n ∧ M' = upr M 20 o (va_cpy (M 20 q) (M 20 o) i.toNatClampNeg j.toNatClampNeg n.toNatClampNeg) else r = -12 ∧ M' = M) else r = -13 ∧ M' = M) := by
  have ip : ∀ {q : Nat}, q < 4 → vp_in (nI q) 4 := fun h => vp_in_nI h (by decide)
  have key : ∀ {m : Nat} {i n : Int32}, m ≤ 40 → (0 ≤ i ∧ 0 ≤ n ∧ n ≤ nI m ∧ i ≤ nI m - n) → i.toNatClampNeg + n.toNatClampNeg ≤ 40 := by
    intro m i n hm h
    obtain ⟨i', hi', rfl⟩ := nI_of (Int32.not_lt.mpr h.1)
    obtain ⟨n', hn', rfl⟩ := nI_of (Int32.not_lt.mpr h.2.1)
    have hnm := (nI_leI hn' (by omega)).1 h.2.2.1
    have e : nI m - nI n' = nI (m - n') := by
      obtain ⟨k, rfl⟩ : ∃ k, m = n' + k := ⟨m - n', by omega⟩
      rw [← nI_add, Nat.add_sub_cancel_left, Int32.add_comm, Int32.add_sub_cancel]
    rw [e] at h
    have := (nI_leI hi' (by omega)).1 h.2.2.2
    rw [nI_clamp hi', nI_clamp hn']
    omega
  refine lr_ok (by decide +kernel) rfl ?_
  refine ri_ild a_X6_copy_0 rfl ?_
  refine ri_ic a_X6_copy_1 ?_
  refine ri_cSpb (as := [vi (nI q), vi 3]) (rest := []) (d' := d - 1) a_X6_copy_2 ms_X6_within ml_X6_102 (by omega) (ok_X6_within (nI q) 3) (Nat.le_of_ble_eq_true rfl) rfl (fun zc1 => ?_) (fun zc1 => ?_)
  · refine ri_if_eq a_X6_copy_5 (fun q => absurd q (by decide)) (fun _ => ?_)
    refine ri_ild a_X6_copy_8 rfl ?_
    refine ri_ic a_X6_copy_9 ?_
    refine ri_cSpb (as := [vi (nI o), vi 3]) (rest := []) (d' := d - 1) a_X6_copy_10 ms_X6_within ml_X6_102 (by omega) (ok_X6_within (nI o) 3) (Nat.le_of_ble_eq_true rfl) rfl (fun zc2 => ?_) (fun zc2 => ?_)
    · refine ri_if_ne a_X6_copy_13 (fun _ => ?_) (fun q => absurd q (by decide))
      refine ri_ald a_X6_copy_19 rfl ?_
      refine ri_getR (t' := 22) (i' := 0) a_X6_copy_20 fl_X6_38 kC_0_7 rfl iC_0 (Or.inr ⟨rfl, rfl, rfl⟩) ?_
      refine ri_ild a_X6_copy_23 rfl ?_
      refine ri_aaloadE (k0 := q) a_X6_copy_24 lC_22 (by decide) iC_22 (nI_clamp (by omega)) (ip hq) ?_
      refine ri_ast (ls' := [some (vo 0 0), some (vi (nI q)), some (vi i), some (vi (nI o)), some (vi j), some (vi n), some (vo 19 q), none]) a_X6_copy_25 rfl ?_
      refine ri_ald a_X6_copy_27 rfl ?_
      refine ri_getR (t' := 22) (i' := 0) a_X6_copy_28 fl_X6_38 kC_0_7 rfl iC_0 (Or.inr ⟨rfl, rfl, rfl⟩) ?_
      refine ri_ild a_X6_copy_31 rfl ?_
      refine ri_aaloadE (k0 := o) a_X6_copy_32 lC_22 (by decide) iC_22 (nI_clamp (by omega)) (ip ho) ?_
      refine ri_ast (ls' := [some (vo 0 0), some (vi (nI q)), some (vi i), some (vi (nI o)), some (vi j), some (vi n), some (vo 19 q), some (vo 19 o)]) a_X6_copy_33 rfl ?_
      refine ri_ald a_X6_copy_35 rfl ?_
      refine ri_getI a_X6_copy_37 fl_X6_244 kC_19_1 rfl (iC_19 (by assumption)) ?_
      refine ri_ic a_X6_copy_40 ?_
      refine ri_icmp_eq a_X6_copy_41 (fun zc3 => ?_) (fun zc3 => ?_)
      · refine ri_ic a_X6_copy_53 ?_
        refine ri_ireturn a_X6_copy_55 rfl rfl ?_
        exact rX (by rw [if_pos (Or.inl zc3)]; exact ⟨rfl, rfl⟩)
      · refine ri_ald a_X6_copy_44 rfl ?_
        refine ri_getI a_X6_copy_46 fl_X6_244 kC_19_1 rfl (iC_19 (by assumption)) ?_
        refine ri_ic a_X6_copy_49 ?_
        refine ri_icmp_ne a_X6_copy_50 (fun zc4 => ?_) (fun zc4 => ?_)
        · refine ri_ald a_X6_copy_56 rfl ?_
          refine ri_getI a_X6_copy_58 fl_X6_244 kC_19_1 rfl (iC_19 (by assumption)) ?_
          refine ri_ald a_X6_copy_61 rfl ?_
          refine ri_getI a_X6_copy_63 fl_X6_244 kC_19_1 rfl (iC_19 (by assumption)) ?_
          refine ri_icmp_eq a_X6_copy_66 (fun zc5 => ?_) (fun zc5 => ?_)
          · refine ri_ald a_X6_copy_72 rfl ?_
            refine ri_ild a_X6_copy_74 rfl ?_
            refine ri_ild a_X6_copy_75 rfl ?_
            refine ri_cVpb (as := [vi i, vi n]) (rest := []) (d' := d - 1) a_X6_copy_77 mv_X4_hasAll ml_X6_247 (rcC_19 (iC_19 (by assumption))) (by omega) (ok_X4_hasAll hq i n) (Nat.le_of_ble_eq_true rfl) rfl (fun zc6 => ?_) (fun zc6 => ?_)
            · refine ri_if_eq a_X6_copy_80 (fun q => absurd q (by decide)) (fun _ => ?_)
              refine ri_ald a_X6_copy_83 rfl ?_
              refine ri_ild a_X6_copy_85 rfl ?_
              refine ri_ild a_X6_copy_87 rfl ?_
              refine ri_cVpb (as := [vi j, vi n]) (rest := []) (d' := d - 1) a_X6_copy_89 mv_X4_hasAll ml_X6_247 (rcC_19 (iC_19 (by assumption))) (by omega) (ok_X4_hasAll ho j n) (Nat.le_of_ble_eq_true rfl) rfl (fun zc7 => ?_) (fun zc7 => ?_)
              · refine ri_if_ne a_X6_copy_92 (fun _ => ?_) (fun q => absurd q (by decide))
                refine ri_ald a_X6_copy_98 rfl ?_
                refine ri_getR (t' := 20) (i' := q) a_X6_copy_100 fl_X6_250 kC_19_0 rfl (iC_19 (by assumption)) (Or.inl ⟨rfl, rfl, rfl⟩) ?_
                refine ri_ild a_X6_copy_103 rfl ?_
                refine ri_ald a_X6_copy_104 rfl ?_
                refine ri_getR (t' := 20) (i' := o) a_X6_copy_106 fl_X6_250 kC_19_0 rfl (iC_19 (by assumption)) (Or.inl ⟨rfl, rfl, rfl⟩) ?_
                refine ri_ild a_X6_copy_109 rfl ?_
                refine ri_ild a_X6_copy_111 rfl ?_
                refine ri_copy a_X6_copy_113 mx_X6_188 mx_arraycopy (by omega) (Nat.le_of_ble_eq_true rfl) lC_20 lC_20 rfl rfl (iC_20 (by assumption)) (iC_20 (by assumption)) (Int32.not_lt.mpr zc6.1) (Int32.not_lt.mpr zc7.1) (Int32.not_lt.mpr zc6.2.1) (key hm140 (hm1 ▸ zc6)) (key hm240 (hm2 ▸ zc7)) (fun zM8 ezM8 => ?_)
                refine ri_ild a_X6_copy_116 rfl ?_
                refine ri_ireturn a_X6_copy_118 rfl rfl ?_
                exact rX (by rw [if_neg (fun q => q.elim zc3 zc4), if_pos zc5, if_pos ⟨zc6, zc7⟩]; exact ⟨rfl, ezM8⟩)
              · refine ri_if_ne a_X6_copy_92 (fun q => absurd q (by decide)) (fun _ => ?_)
                refine ri_ic a_X6_copy_95 ?_
                refine ri_ireturn a_X6_copy_97 rfl rfl ?_
                exact rX (by rw [if_neg (fun q => q.elim zc3 zc4), if_pos zc5, if_neg (fun q => zc7 q.2)]; exact ⟨rfl, rfl⟩)
            · refine ri_if_eq a_X6_copy_80 (fun _ => ?_) (fun q => absurd q (by decide))
              refine ri_ic a_X6_copy_95 ?_
              refine ri_ireturn a_X6_copy_97 rfl rfl ?_
              exact rX (by rw [if_neg (fun q => q.elim zc3 zc4), if_pos zc5, if_neg (fun q => zc6 q.1)]; exact ⟨rfl, rfl⟩)
          · refine ri_ic a_X6_copy_69 ?_
            refine ri_ireturn a_X6_copy_71 rfl rfl ?_
            exact rX (by rw [if_neg (fun q => q.elim zc3 zc4), if_neg zc5]; exact ⟨rfl, rfl⟩)
        · refine ri_ic a_X6_copy_53 ?_
          refine ri_ireturn a_X6_copy_55 rfl rfl ?_
          exact rX (by rw [if_pos (Or.inr zc4)]; exact ⟨rfl, rfl⟩)
    · refine ri_if_ne a_X6_copy_13 (fun q => absurd q (by decide)) (fun _ => ?_)
      refine ri_ic a_X6_copy_16 ?_
      refine ri_ireturn a_X6_copy_18 rfl rfl ?_
      exact absurd (s4 ho) zc2
  · refine ri_if_eq a_X6_copy_5 (fun _ => ?_) (fun q => absurd q (by decide))
    refine ri_ic a_X6_copy_16 ?_
    refine ri_ireturn a_X6_copy_18 rfl rfl ?_
    exact absurd (s4 hq) zc1
theorem no_X6_copy {w : Wd} {d : Nat} (hd : 1 ≤ d) {M : Mem} {s o : Int32} (hs : ¬ ((0 ≤ s ∧ s ≤ 3) ∧ 0 ≤ o ∧ o ≤ 3)) (i j n : Int32) : lr_Ok tC sC w d jX6_copy [vo 0 0, vi s, vi i, vi o, vi j, vi n] M (qI (-2) M) := by
  refine lr_ok (by decide +kernel) rfl ?_
  refine ri_ild a_X6_copy_0 rfl ?_
  refine ri_ic a_X6_copy_1 ?_
  refine ri_cSpb (as := [vi s, vi 3]) (rest := []) (d' := d - 1) a_X6_copy_2 ms_X6_within ml_X6_102 (by omega) (ok_X6_within s 3) (Nat.le_of_ble_eq_true rfl) rfl (fun zc1 => ?_) (fun zc1 => ?_)
  · refine ri_if_eq a_X6_copy_5 (fun q => absurd q (by decide)) (fun _ => ?_)
    refine ri_ild a_X6_copy_8 rfl ?_
    refine ri_ic a_X6_copy_9 ?_
    refine ri_cSpb (as := [vi o, vi 3]) (rest := []) (d' := d - 1) a_X6_copy_10 ms_X6_within ml_X6_102 (by omega) (ok_X6_within o 3) (Nat.le_of_ble_eq_true rfl) rfl (fun zc2 => ?_) (fun zc2 => ?_)
    · refine ri_if_ne a_X6_copy_13 (fun _ => ?_) (fun q => absurd q (by decide))
      exact absurd ⟨zc1, zc2⟩ hs
    · refine ri_if_ne a_X6_copy_13 (fun q => absurd q (by decide)) (fun _ => ?_)
      refine ri_ic a_X6_copy_16 ?_
      refine ri_ireturn a_X6_copy_18 rfl rfl ?_
      exact rI rfl rfl
  · refine ri_if_eq a_X6_copy_5 (fun _ => ?_) (fun q => absurd q (by decide))
    refine ri_ic a_X6_copy_16 ?_
    refine ri_ireturn a_X6_copy_18 rfl rfl ?_
    exact rI rfl rfl
def joM (M : Mem) (n : Nat) (a b : Int32) : Mem := up (up (up (up (up (up M 2 0 n (a / 10)) 3 0 n (a - a / 10 * 10)) 4 0 n (b / 1000)) 5 0 n (b - b / 1000 * 1000)) 6 0 n 0) 1 0 6 (nI (n + 1))
def jnM : Mem → Nat → List (Int32 × Int32) → Mem
  | M, _, [] => M
  | M, n, x :: l => jnM (joM M n x.1 x.2) (n + 1) l
abbrev jnP (a b : Int32) : Prop := (0 ≤ a ∧ a ≤ 59) ∧ 0 ≤ b ∧ b ≤ 99999
abbrev pbC (m pl : Int32) : Prop := 0 ≤ pl ∧ 2 ≤ m ∧ pl ≤ m - 2
/-- who comes by a sheet: what is answered, who has come -/
def pbL (g : Nat → Int32) (m fr : Int32) : Nat → Nat → Nat → Int32 → Int32 × List (Int32 × Int32)
  | 0, _, _, c => (c, [])
  | r + 1, k, n, c => if pbC m (fr + 2 * nI k) then (if jnP (g (fr + 2 * nI k).toNatClampNeg) (g ((fr + 2 * nI k).toNatClampNeg + 1)) ∧ n < 8 then ((pbL g m fr r (k + 1) (n + 1) (c + 1)).1, (g (fr + 2 * nI k).toNatClampNeg, g ((fr + 2 * nI k).toNatClampNeg + 1)) :: (pbL g m fr r (k + 1) (n + 1) (c + 1)).2) else pbL g m fr r (k + 1) n c) else (-12, [])
theorem pbC_nI {m : Nat} {pl : Int32} (h : pbC (nI m) pl) (hm : m ≤ 40) : ∃ z, pl = nI z ∧ z + 2 ≤ m := by
  obtain ⟨z, hz, rfl⟩ := nI_of (Int32.not_lt.mpr h.1)
  have h2 : 2 ≤ m := (nI_leI (a := 2) (by decide) (by omega)).1 h.2.1
  obtain ⟨k, rfl⟩ : ∃ k, m = 2 + k := ⟨m - 2, by omega⟩
  have e : nI (2 + k) - 2 = nI k := by
    rw [← nI_add, Int32.add_comm]
    exact Int32.add_sub_cancel _ _
  have h3 := h.2.2
  rw [e] at h3
  have := (nI_leI hz (by omega)).1 h3
  exact ⟨z, rfl, by omega⟩
theorem ok_X6_peopleBy {w : Wd} {d : Nat} (hd : 2 ≤ d) {M : Mem} {q m np : Nat} (hq : q < 4) (hm : M 19 q 2 = nI m) (hm40 : m ≤ 40) (hn : M 1 0 6 = nI np) (hn8 : np ≤ 8) (so fr n : Int32) : lr_Ok tC sC w d jX6_peopleBy [vo 0 0, vi (nI q), vi so, vi fr, vi n] M (qX fun r M' => if (0 ≤ so ∧ so ≤ 2) ∧ 0 ≤ n ∧ n ≤ 8 then (if M 19 q 1 = -1 then r = -11 ∧ M' = M else if M 19 q 1 = so then r = (pbL (M 20 q) (M 19 q 2) fr n.toNatClampNeg 0 np 0).1 ∧ M' = jnM M np (pbL (M 20 q) (M 19 q 2) fr n.toNatClampNeg 0 np 0).2 else r = -13 ∧ M' = M) else r = -2 ∧ M' = M) := by
  have loop : ∀ nn, nn ≤ 8 → ∀ r k np c j8 M1, nn = k + r → M1 1 0 6 = nI np → np ≤ 8 → M1 19 = M 19 → M1 20 = M 20 → lr_W tC sC w d jX6_peopleBy 67 [some (vo 0 0), some (vi (nI q)), some (vi so), some (vi fr), some (vi (nI nn)), some (vo 19 q), some (vi c), some (vi (nI k)), j8] [] M1 (qX fun r' M' => r' = (pbL (M 20 q) (M 19 q 2) fr r k np c).1 ∧ M' = jnM M1 np (pbL (M 20 q) (M 19 q 2) fr r k np c).2) := by
    intro nn hnn r
    induction r with
    | zero =>
      intro k np c j8 M1 hk h1 h2 h3 h4
      have : nn = k := hk
      subst this
      refine ri_ild a_X6_peopleBy_67 rfl ?_
      refine ri_ild a_X6_peopleBy_69 rfl ?_
      refine ri_icmp_ge a_X6_peopleBy_71 (fun zc11 => ?_) (fun zc11 => ?_)
      · refine ri_ild a_X6_peopleBy_130 rfl ?_
        refine ri_ireturn a_X6_peopleBy_132 rfl rfl ?_
        exact rX ⟨rfl, rfl⟩
      · exact absurd (Int32.le_refl _) zc11
    | succ r ih =>
      intro k np c j8 M1 hk h1 h2 h3 h4
      rw [pbL]
      refine ri_ild a_X6_peopleBy_67 rfl ?_
      refine ri_ild a_X6_peopleBy_69 rfl ?_
      refine ri_icmp_ge a_X6_peopleBy_71 (fun zc11 => ?_) (fun zc11 => ?_)
      · exact absurd zc11 (nI_ge (by omega) (by omega))
      · refine ri_ild a_X6_peopleBy_74 rfl ?_
        refine ri_ic a_X6_peopleBy_75 ?_
        refine ri_ild a_X6_peopleBy_76 rfl ?_
        refine ri_imul a_X6_peopleBy_78 ?_
        refine ri_iadd a_X6_peopleBy_79 ?_
        refine ri_ist (f := fun zx12 => [some (vo 0 0), some (vi (nI q)), some (vi so), some (vi fr), some (vi (nI nn)), some (vo 19 q), some (vi c), some (vi (nI k)), some (vi zx12)]) a_X6_peopleBy_80 (fun _ => rfl) (fun zx12 ezx12 => ?_)
        refine ri_ald a_X6_peopleBy_82 rfl ?_
        refine ri_ild a_X6_peopleBy_84 rfl ?_
        refine ri_ic a_X6_peopleBy_86 ?_
        refine ri_cVpb (as := [vi zx12, vi 2]) (rest := []) (d' := d - 1) a_X6_peopleBy_87 mv_X4_hasAll ml_X6_247 (rcC_19 (iC_19 (by assumption))) (by omega) (ok_X4_hasAll hq zx12 2) (Nat.le_of_ble_eq_true rfl) rfl (fun zc13 => ?_) (fun zc13 => ?_)
        · refine ri_if_ne a_X6_peopleBy_90 (fun _ => ?_) (fun q => absurd q (by decide))
          rw [h3] at zc13
          have hc : pbC (M 19 q 2) (fr + 2 * nI k) := ⟨ezx12 ▸ zc13.1, zc13.2.2.1, ezx12 ▸ zc13.2.2.2⟩
          obtain ⟨z, hz, hzm⟩ := pbC_nI (hm ▸ hc) hm40
          have ez : zx12 = nI z := ezx12.trans hz
          subst ez
          rw [if_pos hc, hz, nI_clamp (by omega)]
          have e1 : M1 20 q (nI z).toNatClampNeg = M 20 q z := by rw [h4, nI_clamp (by omega)]
          have e2 : M1 20 q (nI z + 1).toNatClampNeg = M 20 q (z + 1) := by rw [h4, nI_1, nI_clamp (by omega)]
          have hj := ok_X6_join (w := w) (d := d - 1) (by omega) h1 h2 (M 20 q z) (M 20 q (z + 1))
          rw [← e1, ← e2] at hj
          refine ri_ald a_X6_peopleBy_96 rfl ?_
          refine ri_ald a_X6_peopleBy_97 rfl ?_
          refine ri_getR (t' := 20) (i' := q) a_X6_peopleBy_99 fl_X6_250 kC_19_0 rfl (iC_19 (by assumption)) (Or.inl ⟨rfl, rfl, rfl⟩) ?_
          refine ri_ild a_X6_peopleBy_102 rfl ?_
          refine ri_iaload a_X6_peopleBy_104 lC_20 rfl (iC_20 (by assumption)) (vp_in_nI (by omega) (by decide)) ?_
          refine ri_ald a_X6_peopleBy_105 rfl ?_
          refine ri_getR (t' := 20) (i' := q) a_X6_peopleBy_107 fl_X6_250 kC_19_0 rfl (iC_19 (by assumption)) (Or.inl ⟨rfl, rfl, rfl⟩) ?_
          refine ri_ild a_X6_peopleBy_110 rfl ?_
          refine ri_ic a_X6_peopleBy_112 ?_
          refine ri_iadd a_X6_peopleBy_113 ?_
          refine ri_iaload a_X6_peopleBy_114 lC_20 rfl (iC_20 (by assumption)) (nI_1 z ▸ vp_in_nI (by omega) (by decide)) ?_
          refine ri_cVxi (as := [vi (M1 20 q (nI z).toNatClampNeg), vi (M1 20 q ((nI z) + 1).toNatClampNeg)]) (rest := []) (d' := d - 1) a_X6_peopleBy_115 mv_X6_join ml_X6_114 (rcC_0 iC_0) (by omega) (hj) (Nat.le_of_ble_eq_true rfl) rfl (fun zy21 zM22 hzy21 => ?_)
          refine ri_if_lt a_X6_peopleBy_118 (fun zc23 => ?_) (fun zc23 => ?_)
          · refine ri_iinc (c0 := 1) (f := fun zx24 => [some (vo 0 0), some (vi (nI q)), some (vi so), some (vi fr), some (vi (nI nn)), some (vo 19 q), some (vi c), some (vi zx24), some (vi (nI z))]) a_X6_peopleBy_124 rfl (by decide) (fun _ => rfl) (fun zx24 ezx24 => ?_)
            refine ri_goto a_X6_peopleBy_127 ?_
            rw [e1, e2] at hzy21
            have hno : ¬ (jnP (M 20 q z) (M 20 q (z + 1)) ∧ np < 8) := by
              rintro ⟨a, b⟩
              rw [if_pos a, if_pos b] at hzy21
              rw [hzy21.1] at zc23
              exact nI_pos (by omega) zc23
            have hM : zM22 = M1 := by
              split at hzy21
              · rename_i a
                split at hzy21
                · rename_i b
                  exact absurd ⟨a, b⟩ hno
                · exact hzy21.2
              · exact hzy21.2
            rw [if_neg hno, ezx24, nI_1, hM]
            exact ih (k + 1) np c _ M1 (by omega) h1 h2 h3 h4
          · refine ri_iinc (c0 := 1) (f := fun zx25 => [some (vo 0 0), some (vi (nI q)), some (vi so), some (vi fr), some (vi (nI nn)), some (vo 19 q), some (vi zx25), some (vi (nI k)), some (vi (nI z))]) a_X6_peopleBy_121 rfl (by decide) (fun _ => rfl) (fun zx25 ezx25 => ?_)
            refine ri_iinc (c0 := 1) (f := fun zx26 => [some (vo 0 0), some (vi (nI q)), some (vi so), some (vi fr), some (vi (nI nn)), some (vo 19 q), some (vi zx25), some (vi zx26), some (vi (nI z))]) a_X6_peopleBy_124 rfl (by decide) (fun _ => rfl) (fun zx26 ezx26 => ?_)
            refine ri_goto a_X6_peopleBy_127 ?_
            rw [e1, e2] at hzy21
            have hyes : jnP (M 20 q z) (M 20 q (z + 1)) ∧ np < 8 := by
              split at hzy21
              · rename_i a
                split at hzy21
                · rename_i b
                  exact ⟨a, b⟩
                · exact absurd (hzy21.1 ▸ (by decide)) zc23
              · exact absurd (hzy21.1 ▸ (by decide)) zc23
            rw [if_pos hyes.1, if_pos hyes.2] at hzy21
            have hM : zM22 = joM M1 np (M 20 q z) (M 20 q (z + 1)) := hzy21.2
            rw [if_pos hyes, ezx25, ezx26, nI_1, jnM, ← hM]
            exact ih (k + 1) (np + 1) (c + 1) _ zM22 (by omega) (by rw [hM]; rfl) (by omega) (by rw [hM, ← h3]; rfl) (by rw [hM, ← h4]; rfl)
        · refine ri_if_ne a_X6_peopleBy_90 (fun q => absurd q (by decide)) (fun _ => ?_)
          refine ri_ic a_X6_peopleBy_93 ?_
          refine ri_ireturn a_X6_peopleBy_95 rfl rfl ?_
          rw [h3, ezx12] at zc13
          exact rX (by rw [if_neg (fun q => zc13 ⟨q.1, by decide, q.2.1, q.2.2⟩)]; exact ⟨rfl, rfl⟩)
  refine lr_ok (by decide +kernel) rfl ?_
  refine ri_ild a_X6_peopleBy_0 rfl ?_
  refine ri_ic a_X6_peopleBy_1 ?_
  refine ri_cSpb (as := [vi (nI q), vi 3]) (rest := []) (d' := d - 1) a_X6_peopleBy_2 ms_X6_within ml_X6_102 (by omega) (ok_X6_within (nI q) 3) (Nat.le_of_ble_eq_true rfl) rfl (fun zc1 => ?_) (fun zc1 => ?_)
  · refine ri_if_eq a_X6_peopleBy_5 (fun q => absurd q (by decide)) (fun _ => ?_)
    refine ri_ild a_X6_peopleBy_8 rfl ?_
    refine ri_ic a_X6_peopleBy_9 ?_
    refine ri_cSpb (as := [vi so, vi 2]) (rest := []) (d' := d - 1) a_X6_peopleBy_10 ms_X6_within ml_X6_102 (by omega) (ok_X6_within so 2) (Nat.le_of_ble_eq_true rfl) rfl (fun zc2 => ?_) (fun zc2 => ?_)
    · refine ri_if_eq a_X6_peopleBy_13 (fun q => absurd q (by decide)) (fun _ => ?_)
      refine ri_ild a_X6_peopleBy_16 rfl ?_
      refine ri_ic a_X6_peopleBy_18 ?_
      refine ri_cSpb (as := [vi n, vi 8]) (rest := []) (d' := d - 1) a_X6_peopleBy_20 ms_X6_within ml_X6_102 (by omega) (ok_X6_within n 8) (Nat.le_of_ble_eq_true rfl) rfl (fun zc3 => ?_) (fun zc3 => ?_)
      · refine ri_if_ne a_X6_peopleBy_23 (fun _ => ?_) (fun q => absurd q (by decide))
        refine ri_ald a_X6_peopleBy_29 rfl ?_
        refine ri_getR (t' := 22) (i' := 0) a_X6_peopleBy_30 fl_X6_38 kC_0_7 rfl iC_0 (Or.inr ⟨rfl, rfl, rfl⟩) ?_
        refine ri_ild a_X6_peopleBy_33 rfl ?_
        refine ri_aaloadE (k0 := q) a_X6_peopleBy_34 lC_22 (by decide) iC_22 (nI_clamp (by omega)) (vp_in_nI hq (by decide)) ?_
        refine ri_ast (ls' := [some (vo 0 0), some (vi (nI q)), some (vi so), some (vi fr), some (vi n), some (vo 19 q), none, none, none]) a_X6_peopleBy_35 rfl ?_
        refine ri_ald a_X6_peopleBy_37 rfl ?_
        refine ri_getI a_X6_peopleBy_39 fl_X6_244 kC_19_1 rfl (iC_19 (by assumption)) ?_
        refine ri_ic a_X6_peopleBy_42 ?_
        refine ri_icmp_ne a_X6_peopleBy_43 (fun zc4 => ?_) (fun zc4 => ?_)
        · refine ri_ald a_X6_peopleBy_49 rfl ?_
          refine ri_getI a_X6_peopleBy_51 fl_X6_244 kC_19_1 rfl (iC_19 (by assumption)) ?_
          refine ri_ild a_X6_peopleBy_54 rfl ?_
          refine ri_icmp_eq a_X6_peopleBy_55 (fun zc5 => ?_) (fun zc5 => ?_)
          · refine ri_ic a_X6_peopleBy_61 ?_
            refine ri_istk (ls' := [some (vo 0 0), some (vi (nI q)), some (vi so), some (vi fr), some (vi n), some (vo 19 q), some (vi 0), none, none]) a_X6_peopleBy_62 rfl ?_
            refine ri_ic a_X6_peopleBy_64 ?_
            refine ri_istk (ls' := [some (vo 0 0), some (vi (nI q)), some (vi so), some (vi fr), some (vi n), some (vo 19 q), some (vi 0), some (vi 0), none]) a_X6_peopleBy_65 rfl ?_
            obtain ⟨nn, h8, rfl⟩ := nI_of2 (n := 8) (M := 8) (by decide) (Int32.not_lt.mpr zc3.1) zc3.2
            refine lr_Wimp (loop nn h8 nn 0 np 0 none M (by omega) hn hn8 rfl rfl) ?_
            rintro r M' ⟨y, h1, h2⟩
            exact ⟨y, h1, by dsimp only; rw [if_pos ⟨zc2, zc3⟩, if_neg zc4, if_pos zc5, nI_clamp (by omega)]; exact h2⟩
          · refine ri_ic a_X6_peopleBy_58 ?_
            refine ri_ireturn a_X6_peopleBy_60 rfl rfl ?_
            exact rX (by rw [if_pos ⟨zc2, zc3⟩, if_neg zc4, if_neg zc5]; exact ⟨rfl, rfl⟩)
        · refine ri_ic a_X6_peopleBy_46 ?_
          refine ri_ireturn a_X6_peopleBy_48 rfl rfl ?_
          exact rX (by rw [if_pos ⟨zc2, zc3⟩, if_pos zc4]; exact ⟨rfl, rfl⟩)
      · refine ri_if_ne a_X6_peopleBy_23 (fun q => absurd q (by decide)) (fun _ => ?_)
        refine ri_ic a_X6_peopleBy_26 ?_
        refine ri_ireturn a_X6_peopleBy_28 rfl rfl ?_
        exact rX (by rw [if_neg (fun q => zc3 q.2)]; exact ⟨rfl, rfl⟩)
    · refine ri_if_eq a_X6_peopleBy_13 (fun _ => ?_) (fun q => absurd q (by decide))
      refine ri_ic a_X6_peopleBy_26 ?_
      refine ri_ireturn a_X6_peopleBy_28 rfl rfl ?_
      exact rX (by rw [if_neg (fun q => zc2 q.1)]; exact ⟨rfl, rfl⟩)
  · refine ri_if_eq a_X6_peopleBy_5 (fun _ => ?_) (fun q => absurd q (by decide))
    refine ri_ic a_X6_peopleBy_26 ?_
    refine ri_ireturn a_X6_peopleBy_28 rfl rfl ?_
    exact absurd (s4 hq) zc1
theorem no_X6_peopleBy {w : Wd} {d : Nat} (hd : 1 ≤ d) {M : Mem} {s : Int32} (hs : ¬ (0 ≤ s ∧ s ≤ 3)) (so fr n : Int32) : lr_Ok tC sC w d jX6_peopleBy [vo 0 0, vi s, vi so, vi fr, vi n] M (qI (-2) M) := by
  refine lr_ok (by decide +kernel) rfl ?_
  refine ri_ild a_X6_peopleBy_0 rfl ?_
  refine ri_ic a_X6_peopleBy_1 ?_
  refine ri_cSpb (as := [vi s, vi 3]) (rest := []) (d' := d - 1) a_X6_peopleBy_2 ms_X6_within ml_X6_102 (by omega) (ok_X6_within s 3) (Nat.le_of_ble_eq_true rfl) rfl (fun zc1 => ?_) (fun zc1 => ?_)
  · refine ri_if_eq a_X6_peopleBy_5 (fun q => absurd q (by decide)) (fun _ => ?_)
    refine ri_ild a_X6_peopleBy_8 rfl ?_
    refine ri_ic a_X6_peopleBy_9 ?_
    refine ri_cSpb (as := [vi so, vi 2]) (rest := []) (d' := d - 1) a_X6_peopleBy_10 ms_X6_within ml_X6_102 (by omega) (ok_X6_within so 2) (Nat.le_of_ble_eq_true rfl) rfl (fun zc2 => ?_) (fun zc2 => ?_)
    · refine ri_if_eq a_X6_peopleBy_13 (fun q => absurd q (by decide)) (fun _ => ?_)
      refine ri_ild a_X6_peopleBy_16 rfl ?_
      refine ri_ic a_X6_peopleBy_18 ?_
      refine ri_cSpb (as := [vi n, vi 8]) (rest := []) (d' := d - 1) a_X6_peopleBy_20 ms_X6_within ml_X6_102 (by omega) (ok_X6_within n 8) (Nat.le_of_ble_eq_true rfl) rfl (fun zc3 => ?_) (fun zc3 => ?_)
      · refine ri_if_ne a_X6_peopleBy_23 (fun _ => ?_) (fun q => absurd q (by decide))
        exact absurd zc1 hs
      · refine ri_if_ne a_X6_peopleBy_23 (fun q => absurd q (by decide)) (fun _ => ?_)
        refine ri_ic a_X6_peopleBy_26 ?_
        refine ri_ireturn a_X6_peopleBy_28 rfl rfl ?_
        exact rI rfl rfl
    · refine ri_if_eq a_X6_peopleBy_13 (fun _ => ?_) (fun q => absurd q (by decide))
      refine ri_ic a_X6_peopleBy_26 ?_
      refine ri_ireturn a_X6_peopleBy_28 rfl rfl ?_
      exact rI rfl rfl
  · refine ri_if_eq a_X6_peopleBy_5 (fun _ => ?_) (fun q => absurd q (by decide))
    refine ri_ic a_X6_peopleBy_26 ?_
    refine ri_ireturn a_X6_peopleBy_28 rfl rfl ?_
    exact rI rfl rfl
theorem ok_X6_whose {w : Wd} {d : Nat} (hd : 7 ≤ d) {M : Mem} {q m k n : Nat} {L : List (List Op)} (hL : lawC M 0 L) (hq : q < 4) (hm : M 19 q 2 = nI m) (hm40 : m ≤ 40) (hn : M 1 0 6 = nI n) (hn8 : n ≤ 8) (hk : M 1 0 7 = nI k) (hk8 : k ≤ 8) (x : Int32) : lr_Ok tC sC w d jX6_whose [vo 0 0, vi (nI q), vi x] M (qX fun r M' => frT 24 M M' ∧ r = if M 19 q 1 = -1 then -11 else if M 19 q 2 ≤ M 1 0 7 then (if 0 ≤ x ∧ x ≤ 1 then (if x = 0 then waL L (vwC M 0) (M 20 q) (bitsF (M 7 0) k) m 256 (M 24 0) 0 else fdF L (vwC M 0) (M 20 q) (fun p => fnd (M 7 0) (nI p) k 0) (waL L (vwC M 0) (M 20 q) (bitsF (M 7 0) k) m 256 (M 24 0)) n m 0 0 0) else -7) else -2) := by
  refine lr_ok (by decide +kernel) rfl ?_
  refine ri_ald a_X6_whose_0 rfl ?_
  refine ri_ild a_X6_whose_1 rfl ?_
  refine ri_cVpi (as := [vi (nI q)]) (rest := []) (d' := d - 1) a_X6_whose_2 mv_X6_nightRefusal ml_X6_215 (rcC_0 iC_0) (by omega) (ok_X6_nightRefusal (by omega) hq) (Nat.le_of_ble_eq_true rfl) rfl (fun zy1 ezy1 => ?_)
  refine ri_istk (ls' := [some (vo 0 0), some (vi (nI q)), some (vi x), some (vi zy1)]) a_X6_whose_5 rfl ?_
  refine ri_ild a_X6_whose_6 rfl ?_
  refine ri_if_eq a_X6_whose_7 (fun zc2 => ?_) (fun zc2 => ?_)
  · refine ri_ild a_X6_whose_12 rfl ?_
    refine ri_ic a_X6_whose_13 ?_
    refine ri_cSpb (as := [vi x, vi 1]) (rest := []) (d' := d - 1) a_X6_whose_14 ms_X6_within ml_X6_102 (by omega) (ok_X6_within x 1) (Nat.le_of_ble_eq_true rfl) rfl (fun zc3 => ?_) (fun zc3 => ?_)
    · refine ri_if_ne a_X6_whose_17 (fun _ => ?_) (fun q => absurd q (by decide))
      refine ri_ald a_X6_whose_23 rfl ?_
      refine ri_ald a_X6_whose_24 rfl ?_
      refine ri_getR (t' := 22) (i' := 0) a_X6_whose_25 fl_X6_38 kC_0_7 rfl iC_0 (Or.inr ⟨rfl, rfl, rfl⟩) ?_
      refine ri_ild a_X6_whose_28 rfl ?_
      refine ri_aaloadE (k0 := q) a_X6_whose_29 lC_22 (by decide) iC_22 (nI_clamp (by omega)) (vp_in_nI hq (by decide)) ?_
      refine ri_cVxv (as := [vo 19 q]) (rest := []) (d' := d - 1) a_X6_whose_30 mv_X6_countWays ml_X6_222 (rcC_0 iC_0) (by omega) (ok_X6_countWays (by omega) hL hq hm hm40 hk hk8) (Nat.le_of_ble_eq_true rfl) rfl (fun zM4 hzM4 => ?_)
      have h := nr0 (ezy1.symm.trans zc2)
      obtain ⟨hf, hw⟩ := hzM4
      have hdg := ok_X6_firstDigits (w := w) (d := d - 1) (by omega) (lawC_fr (hf 1 (by decide)) (hf 9 (by decide)) (hf 10 (by decide)) hL) hq (by rw [hf 19 (by decide)]; exact hm) hm40 (by rw [hf 1 (by decide)]; exact hn) hn8 (by rw [hf 1 (by decide)]; exact hk) hk8
      rw [vwC_fr (hf 1 (by decide)) (hf 2 (by decide)) (hf 3 (by decide)) (hf 4 (by decide)) (hf 5 (by decide)), hf 20 (by decide), hf 7 (by decide), hw] at hdg
      refine ri_ild a_X6_whose_33 rfl ?_
      refine ri_if_ne a_X6_whose_34 (fun zc11 => ?_) (fun zc11 => ?_)
      · refine ri_ald a_X6_whose_46 rfl ?_
        refine ri_ald a_X6_whose_47 rfl ?_
        refine ri_getR (t' := 22) (i' := 0) a_X6_whose_48 fl_X6_38 kC_0_7 rfl iC_0 (Or.inr ⟨rfl, rfl, rfl⟩) ?_
        refine ri_ild a_X6_whose_51 rfl ?_
        refine ri_aaloadE (k0 := q) a_X6_whose_52 lC_22 (by decide) iC_22 (nI_clamp (by omega)) (vp_in_nI hq (by decide)) ?_
        refine ri_cVpi (as := [vo 19 q]) (rest := []) (d' := d - 1) a_X6_whose_53 mv_X6_firstDigits ml_X6_226 (rcC_0 iC_0) (by omega) (hdg) (Nat.le_of_ble_eq_true rfl) rfl (fun zy12 ezy12 => ?_)
        refine ri_ireturn a_X6_whose_56 rfl rfl ?_
        exact rX ⟨hf, by rw [if_neg h.1, if_pos h.2, if_pos zc3, if_neg zc11]; exact ezy12⟩
      · refine ri_ald a_X6_whose_37 rfl ?_
        refine ri_getR (t' := 24) (i' := 0) a_X6_whose_38 fl_X6_53 kC_0_10 rfl iC_0 (Or.inr ⟨rfl, rfl, rfl⟩) ?_
        refine ri_ic a_X6_whose_41 ?_
        refine ri_iaload a_X6_whose_42 lC_24 rfl iC_24 (vp_in_lit (by decide) (by decide)) ?_
        refine ri_goto a_X6_whose_43 ?_
        refine ri_ireturn a_X6_whose_56 rfl rfl ?_
        exact rX ⟨hf, by rw [if_neg h.1, if_pos h.2, if_pos zc3, if_pos zc11, ← hw]; rfl⟩
    · refine ri_if_ne a_X6_whose_17 (fun q => absurd q (by decide)) (fun _ => ?_)
      refine ri_ic a_X6_whose_20 ?_
      refine ri_ireturn a_X6_whose_22 rfl rfl ?_
      have h := nr0 (ezy1.symm.trans zc2)
      exact rX ⟨frT_refl, by rw [if_neg h.1, if_pos h.2, if_neg zc3]⟩
  · refine ri_ild a_X6_whose_10 rfl ?_
    refine ri_ireturn a_X6_whose_11 rfl rfl ?_
    rw [ezy1] at zc2 ⊢
    exact rX ⟨frT_refl, nr1 zc2⟩
theorem no_X6_whose {w : Wd} {d : Nat} (hd : 5 ≤ d) {M : Mem} {s : Int32} (hs : ¬ (0 ≤ s ∧ s ≤ 3)) (x : Int32) : lr_Ok tC sC w d jX6_whose [vo 0 0, vi s, vi x] M (qI (-2) M) := by
  refine lr_ok (by decide +kernel) rfl ?_
  refine ri_ald a_X6_whose_0 rfl ?_
  refine ri_ild a_X6_whose_1 rfl ?_
  refine ri_cVpi (as := [vi s]) (rest := []) (d' := d - 1) a_X6_whose_2 mv_X6_nightRefusal ml_X6_215 (rcC_0 iC_0) (by omega) (no_X6_nightRefusal (by omega) hs) (Nat.le_of_ble_eq_true rfl) rfl (fun zy1 ezy1 => ?_)
  refine ri_istk (ls' := [some (vo 0 0), some (vi s), some (vi x), some (vi zy1)]) a_X6_whose_5 rfl ?_
  refine ri_ild a_X6_whose_6 rfl ?_
  refine ri_if_eq a_X6_whose_7 (fun zc2 => ?_) (fun zc2 => ?_)
  · exact absurd zc2 (by rw [ezy1]; decide)
  · refine ri_ild a_X6_whose_10 rfl ?_
    refine ri_ireturn a_X6_whose_11 rfl rfl ?_
    exact rI ezy1 rfl

