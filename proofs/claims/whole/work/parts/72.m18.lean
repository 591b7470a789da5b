/-! reference: copy, peopleBy -/
abbrev cpC (m1 m2 : Nat) (i j n : Int32) : Prop := (0 ≤ i ∧ 0 ≤ j ∧ 0 ≤ n) ∧ i.toNatClampNeg + n.toNatClampNeg ≤ m1 ∧ j.toNatClampNeg + n.toNatClampNeg ≤ m2
theorem nI_subI {a b : Nat} (ha : a < 2 ^ 31) (hb : b < 2 ^ 31) : (nI a - nI b).toInt = (a : Int) - b := by
  rw [Int32.toInt_sub, nI_toInt ha, nI_toInt hb, Int.bmod_eq_of_le (by omega) (by omega)]
theorem cpc1 {m : Nat} {i n : Int32} (hm : m ≤ 40) (hi : 0 ≤ i) (hn : 0 ≤ n) : (i ≤ nI m ∧ n ≤ nI m - i) ↔ i.toNatClampNeg + n.toNatClampNeg ≤ m := by
  obtain ⟨i', h1, rfl⟩ := nI_of (Int32.not_lt.mpr hi)
  obtain ⟨n', h2, rfl⟩ := nI_of (Int32.not_lt.mpr hn)
  rw [nI_clamp h1, nI_clamp h2, nI_leI h1 (by omega), Int32.le_iff_toInt_le, nI_subI (by omega) h1, nI_toInt h2]
  omega
theorem cpc2 {m : Nat} {i n : Int32} (hm : m ≤ 40) (hi : 0 ≤ i) (hn : 0 ≤ n) : (n ≤ nI m ∧ i ≤ nI m - n) ↔ i.toNatClampNeg + n.toNatClampNeg ≤ m := by
  rw [cpc1 hm hn hi, Nat.add_comm]
def cpG (N : Mem) (a b lo hi : Nat) : Mem := upr N 13 0 (fun j => if b + lo ≤ j ∧ j < b + hi then N 13 0 (a + (j - b)) else N 13 0 j)
theorem cpG_0 {N : Mem} {a b c : Nat} : cpG N a b c c = N := upr_self (fun j => by rw [if_neg (by omega)])
theorem cpG_up {N : Mem} {a b c : Nat} : up (cpG N a b 0 c) 13 0 (b + c) (N 13 0 (a + c)) = cpG N a b 0 (c + 1) := by
  unfold cpG
  rw [up_upr]
  refine upr_ext (fun j => ?_)
  by_cases e : j = b + c
  · rw [if_pos e, if_pos (by omega), e, Nat.add_sub_cancel_left]
  · rw [if_neg e]
    by_cases h : b + 0 ≤ j ∧ j < b + c
    · rw [if_pos h, if_pos (by omega)]
    · rw [if_neg h, if_neg (by omega)]
theorem cpG_dn {N : Mem} {a b c h : Nat} (hc : c < h) : up (cpG N a b (c + 1) h) 13 0 (b + c) (N 13 0 (a + c)) = cpG N a b c h := by
  unfold cpG
  rw [up_upr]
  refine upr_ext (fun j => ?_)
  by_cases e : j = b + c
  · rw [if_pos e, if_pos (by omega), e, Nat.add_sub_cancel_left]
  · rw [if_neg e]
    by_cases h : b + (c + 1) ≤ j ∧ j < b + h
    · rw [if_pos h, if_pos (by omega)]
    · rw [if_neg h, if_neg (by omega)]
theorem ok_X7_copy {w : Wd} {d : Nat} (hd : 1 ≤ d) {N : Mem} {q o m1 m2 : Nat} (hq : q < 4) (ho : o < 4) (hm1 : N 12 0 q = nI m1) (hm140 : m1 ≤ 40) (hm2 : N 12 0 o = nI m2) (hm240 : m2 ≤ 40) (i j n : Int32) : lr_Ok tM sM w d jX7_copy [vo 0 0, vi (nI q), vi i, vi (nI o), vi j, vi n] N (qX fun r N' => if N 11 0 q = -1 ∨ N 11 0 o = -1 then r = -11 ∧ N' = N else if N 11 0 q = N 11 0 o then (if cpC m1 m2 i j n then r = n ∧ N' = cpG N (40 * q + i.toNatClampNeg) (40 * o + j.toNatClampNeg) 0 n.toNatClampNeg else r = -12 ∧ N' = N) else r = -13 ∧ N' = N) := by
  have eq : (nI q).toNatClampNeg = q := nI_clamp (by omega)
  have eo : (nI o).toNatClampNeg = o := nI_clamp (by omega)
  have e1 : N 12 0 (nI q).toNatClampNeg = nI m1 := by rw [eq]; exact hm1
  have e2 : N 12 0 (nI o).toNatClampNeg = nI m2 := by rw [eo]; exact hm2
  -- upwards
  have upw : ∀ i' j' n', i' + n' ≤ 40 → j' + n' ≤ 40 → 40 * o + j' ≤ 40 * q + i' → ∀ r k z9, n' = k + r → lr_W tM sM w d jX7_copy 147 [some (vo 0 0), some (vi (nI q)), some (vi (nI i')), some (vi (nI o)), some (vi (nI j')), some (vi (nI n')), some (vi (nI (40 * q + i'))), some (vi (nI (40 * o + j'))), some (vi (nI k)), z9] [] (cpG N (40 * q + i') (40 * o + j') 0 k) (qX fun r N' => r = nI n' ∧ N' = cpG N (40 * q + i') (40 * o + j') 0 n') := by
    intro i' j' n' h1 h2 hle r
    induction r with
    | zero =>
      intro k z9 hk
      have : n' = k := hk
      subst this
      generalize cpG N (40 * q + i') (40 * o + j') 0 n' = N1
      refine ri_ild a_X7_copy_147 rfl ?_
      refine ri_ild a_X7_copy_149 rfl ?_
      refine ri_icmp_ge a_X7_copy_151 (fun zc11 => ?_) (fun zc11 => ?_)
      · refine ri_ild a_X7_copy_201 rfl ?_
        refine ri_ireturn a_X7_copy_203 rfl rfl ?_
        exact rX ⟨rfl, rfl⟩
      · exact absurd (Int32.le_refl _) zc11
    | succ r ih =>
      intro k z9 hk
      have hih := fun z => ih (k + 1) z (by omega)
      rw [← cpG_up] at hih
      have er : cpG N (40 * q + i') (40 * o + j') 0 k 13 0 (40 * q + i' + k) = N 13 0 (40 * q + i' + k) := by
        unfold cpG
        rw [upr_at, if_neg (by omega)]
      generalize cpG N (40 * q + i') (40 * o + j') 0 k = N1 at hih er ⊢
      refine ri_ild a_X7_copy_147 rfl ?_
      refine ri_ild a_X7_copy_149 rfl ?_
      refine ri_icmp_ge a_X7_copy_151 (fun zc11 => ?_) (fun zc11 => ?_)
      · exact absurd zc11 (nI_ge (by omega) (by omega))
      · refine ri_ild a_X7_copy_154 rfl ?_
        refine ri_ild a_X7_copy_156 rfl ?_
        refine ri_icmp_ge a_X7_copy_158 (fun zc12 => ?_) (fun zc12 => ?_)
        · refine ri_ild a_X7_copy_171 rfl ?_
          refine ri_ist (f := fun zx13 => [some (vo 0 0), some (vi (nI q)), some (vi (nI i')), some (vi (nI o)), some (vi (nI j')), some (vi (nI n')), some (vi (nI (40 * q + i'))), some (vi (nI (40 * o + j'))), some (vi (nI k)), some (vi zx13)]) a_X7_copy_173 (fun _ => rfl) (fun zx13 ezx13 => ?_)
          refine ri_ald a_X7_copy_175 rfl ?_
          refine ri_getR (t' := 13) (i' := 0) a_X7_copy_176 fl_X7_46 kM_0_19 rfl iM_0 (Or.inr ⟨rfl, rfl, rfl⟩) ?_
          refine ri_ild a_X7_copy_179 rfl ?_
          refine ri_ild a_X7_copy_181 rfl ?_
          refine ri_iadd a_X7_copy_183 ?_
          refine ri_ald a_X7_copy_184 rfl ?_
          refine ri_getR (t' := 13) (i' := 0) a_X7_copy_185 fl_X7_46 kM_0_19 rfl iM_0 (Or.inr ⟨rfl, rfl, rfl⟩) ?_
          refine ri_ild a_X7_copy_188 rfl ?_
          refine ri_ild a_X7_copy_190 rfl ?_
          refine ri_iadd a_X7_copy_192 ?_
          refine ri_iaload a_X7_copy_193 lM_13 rfl iM_13 (by rw [ezx13, nI_add]; exact vp_in_nI (by omega) (by decide)) ?_
          refine ri_iastore a_X7_copy_194 lM_13 rfl iM_13 (by rw [ezx13, nI_add]; exact vp_in_nI (by omega) (by decide)) (fun zM14 ezM14 => ?_)
          refine ri_iinc (c0 := 1) (f := fun zx15 => [some (vo 0 0), some (vi (nI q)), some (vi (nI i')), some (vi (nI o)), some (vi (nI j')), some (vi (nI n')), some (vi (nI (40 * q + i'))), some (vi (nI (40 * o + j'))), some (vi zx15), some (vi zx13)]) a_X7_copy_195 rfl (by decide) (fun _ => rfl) (fun zx15 ezx15 => ?_)
          refine ri_goto a_X7_copy_198 ?_
          rw [ezx13, nI_add, nI_add, nI_clamp (by omega), nI_clamp (by omega), er] at ezM14
          rw [ezx13, ezx15, nI_1, ezM14]
          exact hih _
        · exact absurd (nI_le hle (by omega)) (by assumption)
  -- downwards
  have dnw : ∀ i' j' n', i' + n' ≤ 40 → j' + n' ≤ 40 → 40 * q + i' < 40 * o + j' → ∀ r k z9, n' = k + r → lr_W tM sM w d jX7_copy 147 [some (vo 0 0), some (vi (nI q)), some (vi (nI i')), some (vi (nI o)), some (vi (nI j')), some (vi (nI n')), some (vi (nI (40 * q + i'))), some (vi (nI (40 * o + j'))), some (vi (nI k)), z9] [] (cpG N (40 * q + i') (40 * o + j') r n') (qX fun r N' => r = nI n' ∧ N' = cpG N (40 * q + i') (40 * o + j') 0 n') := by
    intro i' j' n' h1 h2 hlt r
    induction r with
    | zero =>
      intro k z9 hk
      have : n' = k := hk
      subst this
      generalize cpG N (40 * q + i') (40 * o + j') 0 n' = N1
      refine ri_ild a_X7_copy_147 rfl ?_
      refine ri_ild a_X7_copy_149 rfl ?_
      refine ri_icmp_ge a_X7_copy_151 (fun zc11 => ?_) (fun zc11 => ?_)
      · refine ri_ild a_X7_copy_201 rfl ?_
        refine ri_ireturn a_X7_copy_203 rfl rfl ?_
        exact rX ⟨rfl, rfl⟩
      · exact absurd (Int32.le_refl _) zc11
    | succ r ih =>
      intro k z9 hk
      have hih := fun z => ih (k + 1) z (by omega)
      rw [← cpG_dn (show r < n' by omega)] at hih
      have er : cpG N (40 * q + i') (40 * o + j') (r + 1) n' 13 0 (40 * q + i' + r) = N 13 0 (40 * q + i' + r) := by
        unfold cpG
        rw [upr_at, if_neg (by omega)]
      have ex : nI n' - 1 - nI k = nI r := by
        obtain ⟨z, rfl⟩ : ∃ z, n' = z + 1 := ⟨n' - 1, by omega⟩
        rw [nI_pred, show z = r + k by omega, ← nI_add]
        exact Int32.add_sub_cancel _ _
      generalize cpG N (40 * q + i') (40 * o + j') (r + 1) n' = N1 at hih er ⊢
      refine ri_ild a_X7_copy_147 rfl ?_
      refine ri_ild a_X7_copy_149 rfl ?_
      refine ri_icmp_ge a_X7_copy_151 (fun zc11 => ?_) (fun zc11 => ?_)
      · exact absurd zc11 (nI_ge (by omega) (by omega))
      · refine ri_ild a_X7_copy_154 rfl ?_
        refine ri_ild a_X7_copy_156 rfl ?_
        refine ri_icmp_ge a_X7_copy_158 (fun zc12 => ?_) (fun zc12 => ?_)
        · exact absurd (by assumption) (nI_ge hlt (by omega))
        · refine ri_ild a_X7_copy_161 rfl ?_
          refine ri_ic a_X7_copy_163 ?_
          refine ri_isub a_X7_copy_164 ?_
          refine ri_ild a_X7_copy_165 rfl ?_
          refine ri_isub a_X7_copy_167 ?_
          refine ri_goto a_X7_copy_168 ?_
          refine ri_ist (f := fun zx13 => [some (vo 0 0), some (vi (nI q)), some (vi (nI i')), some (vi (nI o)), some (vi (nI j')), some (vi (nI n')), some (vi (nI (40 * q + i'))), some (vi (nI (40 * o + j'))), some (vi (nI k)), some (vi zx13)]) a_X7_copy_173 (fun _ => rfl) (fun zx13 ezx13 => ?_)
          refine ri_ald a_X7_copy_175 rfl ?_
          refine ri_getR (t' := 13) (i' := 0) a_X7_copy_176 fl_X7_46 kM_0_19 rfl iM_0 (Or.inr ⟨rfl, rfl, rfl⟩) ?_
          refine ri_ild a_X7_copy_179 rfl ?_
          refine ri_ild a_X7_copy_181 rfl ?_
          refine ri_iadd a_X7_copy_183 ?_
          refine ri_ald a_X7_copy_184 rfl ?_
          refine ri_getR (t' := 13) (i' := 0) a_X7_copy_185 fl_X7_46 kM_0_19 rfl iM_0 (Or.inr ⟨rfl, rfl, rfl⟩) ?_
          refine ri_ild a_X7_copy_188 rfl ?_
          refine ri_ild a_X7_copy_190 rfl ?_
          refine ri_iadd a_X7_copy_192 ?_
          refine ri_iaload a_X7_copy_193 lM_13 rfl iM_13 ?_ ?_
          · rw [ezx13, ex, nI_add]; exact vp_in_nI (by omega) (by decide)
          refine ri_iastore a_X7_copy_194 lM_13 rfl iM_13 ?_ (fun zM14 ezM14 => ?_)
          · rw [ezx13, ex, nI_add]; exact vp_in_nI (by omega) (by decide)
          refine ri_iinc (c0 := 1) (f := fun zx15 => [some (vo 0 0), some (vi (nI q)), some (vi (nI i')), some (vi (nI o)), some (vi (nI j')), some (vi (nI n')), some (vi (nI (40 * q + i'))), some (vi (nI (40 * o + j'))), some (vi zx15), some (vi zx13)]) a_X7_copy_195 rfl (by decide) (fun _ => rfl) (fun zx15 ezx15 => ?_)
          refine ri_goto a_X7_copy_198 ?_
          rw [ezx13, ex, nI_add, nI_add, nI_clamp (by omega), nI_clamp (by omega), er] at ezM14
          rw [ezx13, ezx15, nI_1, ezM14]
          exact hih _
  refine lr_ok (by decide +kernel) rfl ?_
  refine ri_ild a_X7_copy_0 rfl ?_
  refine ri_ic a_X7_copy_1 ?_
  refine ri_ic a_X7_copy_2 ?_
  refine ri_cSpb (as := [vi (nI q), vi 0, vi 3]) (rest := []) (d' := d - 1) a_X7_copy_3 ms_X7_in ml_X7_96 (by omega) (ok_X7_in (nI q) 0 3) (Nat.le_of_ble_eq_true rfl) rfl (fun zc1 => ?_) (fun zc1 => ?_)
  · refine ri_if_eq a_X7_copy_6 (fun q => absurd q (by decide)) (fun _ => ?_)
    refine ri_ild a_X7_copy_9 rfl ?_
    refine ri_ic a_X7_copy_10 ?_
    refine ri_ic a_X7_copy_11 ?_
    refine ri_cSpb (as := [vi (nI o), vi 0, vi 3]) (rest := []) (d' := d - 1) a_X7_copy_12 ms_X7_in ml_X7_96 (by omega) (ok_X7_in (nI o) 0 3) (Nat.le_of_ble_eq_true rfl) rfl (fun zc2 => ?_) (fun zc2 => ?_)
    · refine ri_if_ne a_X7_copy_15 (fun _ => ?_) (fun q => absurd q (by decide))
      refine ri_ald a_X7_copy_21 rfl ?_
      refine ri_getR (t' := 11) (i' := 0) a_X7_copy_22 fl_X7_40 kM_0_17 rfl iM_0 (Or.inr ⟨rfl, rfl, rfl⟩) ?_
      refine ri_ild a_X7_copy_25 rfl ?_
      refine ri_iaload a_X7_copy_26 lM_11 rfl iM_11 (vp_in_nI hq (by decide)) ?_
      refine ri_ic a_X7_copy_27 ?_
      refine ri_icmp_eq a_X7_copy_28 (fun zc3 => ?_) (fun zc3 => ?_)
      · refine ri_ic a_X7_copy_41 ?_
        refine ri_ireturn a_X7_copy_43 rfl rfl ?_
        rw [eq] at zc3
        exact rX (by rw [if_pos (Or.inl zc3)]; exact ⟨rfl, rfl⟩)
      · refine ri_ald a_X7_copy_31 rfl ?_
        refine ri_getR (t' := 11) (i' := 0) a_X7_copy_32 fl_X7_40 kM_0_17 rfl iM_0 (Or.inr ⟨rfl, rfl, rfl⟩) ?_
        refine ri_ild a_X7_copy_35 rfl ?_
        refine ri_iaload a_X7_copy_36 lM_11 rfl iM_11 (vp_in_nI ho (by decide)) ?_
        refine ri_ic a_X7_copy_37 ?_
        refine ri_icmp_ne a_X7_copy_38 (fun zc4 => ?_) (fun zc4 => ?_)
        · refine ri_ald a_X7_copy_44 rfl ?_
          refine ri_getR (t' := 11) (i' := 0) a_X7_copy_45 fl_X7_40 kM_0_17 rfl iM_0 (Or.inr ⟨rfl, rfl, rfl⟩) ?_
          refine ri_ild a_X7_copy_48 rfl ?_
          refine ri_iaload a_X7_copy_49 lM_11 rfl iM_11 (vp_in_nI hq (by decide)) ?_
          refine ri_ald a_X7_copy_50 rfl ?_
          refine ri_getR (t' := 11) (i' := 0) a_X7_copy_51 fl_X7_40 kM_0_17 rfl iM_0 (Or.inr ⟨rfl, rfl, rfl⟩) ?_
          refine ri_ild a_X7_copy_54 rfl ?_
          refine ri_iaload a_X7_copy_55 lM_11 rfl iM_11 (vp_in_nI ho (by decide)) ?_
          refine ri_icmp_eq a_X7_copy_56 (fun zc5 => ?_) (fun zc5 => ?_)
          · rw [eq] at zc3 zc5
            rw [eo] at zc4 zc5
            have fin : ∀ {r : Option AV} {M' : Mem}, (qX fun r N' => if cpC m1 m2 i j n then r = n ∧ N' = cpG N (40 * q + i.toNatClampNeg) (40 * o + j.toNatClampNeg) 0 n.toNatClampNeg else r = -12 ∧ N' = N) r M' → (qX fun r N' => if N 11 0 q = -1 ∨ N 11 0 o = -1 then r = -11 ∧ N' = N else if N 11 0 q = N 11 0 o then (if cpC m1 m2 i j n then r = n ∧ N' = cpG N (40 * q + i.toNatClampNeg) (40 * o + j.toNatClampNeg) 0 n.toNatClampNeg else r = -12 ∧ N' = N) else r = -13 ∧ N' = N) r M' := by
              rintro r M' ⟨y, h1, h2⟩
              exact ⟨y, h1, by dsimp only; rw [if_neg (fun z => z.elim zc3 zc4), if_pos zc5]; exact h2⟩
            refine lr_Wimp ?_ (fun r M' h => fin h)
            by_cases hc : cpC m1 m2 i j n
            · obtain ⟨i', hi', rfl⟩ := nI_of (Int32.not_lt.mpr hc.1.1)
              obtain ⟨j', hj', rfl⟩ := nI_of (Int32.not_lt.mpr hc.1.2.1)
              obtain ⟨n', hn', rfl⟩ := nI_of (Int32.not_lt.mpr hc.1.2.2)
              obtain ⟨hc1, hc2⟩ := hc.2
              have g1 := (cpc1 hm140 hc.1.1 hc.1.2.2).2 hc1
              have g2 := (cpc1 hm240 hc.1.2.1 hc.1.2.2).2 hc2
              rw [nI_clamp hi', nI_clamp hn'] at hc1
              rw [nI_clamp hj', nI_clamp hn'] at hc2
              have f1 : ¬ nI n' < 0 := nI_pos hn'
              have f2 : ¬ nI i' < 0 := nI_pos hi'
              have f3 : ¬ nI j' < 0 := nI_pos hj'
              have f4 : ¬ N 12 0 (nI q).toNatClampNeg < nI i' := by rw [e1]; exact Int32.not_lt.mpr g1.1
              have f5 : ¬ N 12 0 (nI o).toNatClampNeg < nI j' := by rw [e2]; exact Int32.not_lt.mpr g2.1
              have f6 : ¬ N 12 0 (nI q).toNatClampNeg - nI i' < nI n' := by rw [e1]; exact Int32.not_lt.mpr g1.2
              have f7 : nI n' ≤ N 12 0 (nI o).toNatClampNeg - nI j' := by rw [e2]; exact g2.2
              refine ri_ild a_X7_copy_62 rfl ?_
              refine ri_if_lt a_X7_copy_64 (fun zc11 => ?_) (fun zc11 => ?_)
              · contradiction
              · refine ri_ild a_X7_copy_67 rfl ?_
                refine ri_if_lt a_X7_copy_68 (fun zc12 => ?_) (fun zc12 => ?_)
                · contradiction
                · refine ri_ild a_X7_copy_71 rfl ?_
                  refine ri_if_lt a_X7_copy_73 (fun zc13 => ?_) (fun zc13 => ?_)
                  · contradiction
                  · refine ri_ild a_X7_copy_76 rfl ?_
                    refine ri_ald a_X7_copy_77 rfl ?_
                    refine ri_getR (t' := 12) (i' := 0) a_X7_copy_78 fl_X7_43 kM_0_18 rfl iM_0 (Or.inr ⟨rfl, rfl, rfl⟩) ?_
                    refine ri_ild a_X7_copy_81 rfl ?_
                    refine ri_iaload a_X7_copy_82 lM_12 rfl iM_12 (vp_in_nI hq (by decide)) ?_
                    refine ri_icmp_gt a_X7_copy_83 (fun zc14 => ?_) (fun zc14 => ?_)
                    · contradiction
                    · refine ri_ild a_X7_copy_86 rfl ?_
                      refine ri_ald a_X7_copy_88 rfl ?_
                      refine ri_getR (t' := 12) (i' := 0) a_X7_copy_89 fl_X7_43 kM_0_18 rfl iM_0 (Or.inr ⟨rfl, rfl, rfl⟩) ?_
                      refine ri_ild a_X7_copy_92 rfl ?_
                      refine ri_iaload a_X7_copy_93 lM_12 rfl iM_12 (vp_in_nI ho (by decide)) ?_
                      refine ri_icmp_gt a_X7_copy_94 (fun zc15 => ?_) (fun zc15 => ?_)
                      · contradiction
                      · refine ri_ild a_X7_copy_97 rfl ?_
                        refine ri_ald a_X7_copy_99 rfl ?_
                        refine ri_getR (t' := 12) (i' := 0) a_X7_copy_100 fl_X7_43 kM_0_18 rfl iM_0 (Or.inr ⟨rfl, rfl, rfl⟩) ?_
                        refine ri_ild a_X7_copy_103 rfl ?_
                        refine ri_iaload a_X7_copy_104 lM_12 rfl iM_12 (vp_in_nI hq (by decide)) ?_
                        refine ri_ild a_X7_copy_105 rfl ?_
                        refine ri_isub a_X7_copy_106 ?_
                        refine ri_icmp_gt a_X7_copy_107 (fun zc16 => ?_) (fun zc16 => ?_)
                        · contradiction
                        · refine ri_ild a_X7_copy_110 rfl ?_
                          refine ri_ald a_X7_copy_112 rfl ?_
                          refine ri_getR (t' := 12) (i' := 0) a_X7_copy_113 fl_X7_43 kM_0_18 rfl iM_0 (Or.inr ⟨rfl, rfl, rfl⟩) ?_
                          refine ri_ild a_X7_copy_116 rfl ?_
                          refine ri_iaload a_X7_copy_117 lM_12 rfl iM_12 (vp_in_nI ho (by decide)) ?_
                          refine ri_ild a_X7_copy_118 rfl ?_
                          refine ri_isub a_X7_copy_120 ?_
                          refine ri_icmp_le a_X7_copy_121 (fun zc17 => ?_) (fun zc17 => ?_)
                          · refine ri_ic a_X7_copy_127 ?_
                            refine ri_ild a_X7_copy_129 rfl ?_
                            refine ri_imul a_X7_copy_130 ?_
                            refine ri_ild a_X7_copy_131 rfl ?_
                            refine ri_iadd a_X7_copy_132 ?_
                            refine ri_ist (f := fun zx18 => [some (vo 0 0), some (vi (nI q)), some (vi (nI i')), some (vi (nI o)), some (vi (nI j')), some (vi (nI n')), some (vi zx18), none, none, none]) a_X7_copy_133 (fun _ => rfl) (fun zx18 ezx18 => ?_)
                            refine ri_ic a_X7_copy_135 ?_
                            refine ri_ild a_X7_copy_137 rfl ?_
                            refine ri_imul a_X7_copy_138 ?_
                            refine ri_ild a_X7_copy_139 rfl ?_
                            refine ri_iadd a_X7_copy_141 ?_
                            refine ri_ist (f := fun zx19 => [some (vo 0 0), some (vi (nI q)), some (vi (nI i')), some (vi (nI o)), some (vi (nI j')), some (vi (nI n')), some (vi zx18), some (vi zx19), none, none]) a_X7_copy_142 (fun _ => rfl) (fun zx19 ezx19 => ?_)
                            refine ri_ic a_X7_copy_144 ?_
                            refine ri_istk (ls' := [some (vo 0 0), some (vi (nI q)), some (vi (nI i')), some (vi (nI o)), some (vi (nI j')), some (vi (nI n')), some (vi zx18), some (vi zx19), some (vi 0), none]) a_X7_copy_145 rfl ?_
                            rw [nI_40a] at *
                            subst_vars
                            rcases Nat.lt_or_ge (40 * q + i') (40 * o + j') with hlt | hge
                            · have := dnw i' j' n' (by omega) (by omega) hlt n' 0 none (by omega)
                              rw [cpG_0] at this
                              refine lr_Wimp this ?_
                              rintro r M' ⟨y, h1, h2⟩
                              exact ⟨y, h1, by dsimp only; rw [if_pos hc, nI_clamp hi', nI_clamp hj', nI_clamp hn']; exact h2⟩
                            · have := upw i' j' n' (by omega) (by omega) hge n' 0 none (by omega)
                              rw [cpG_0] at this
                              refine lr_Wimp this ?_
                              rintro r M' ⟨y, h1, h2⟩
                              exact ⟨y, h1, by dsimp only; rw [if_pos hc, nI_clamp hi', nI_clamp hj', nI_clamp hn']; exact h2⟩
                          · contradiction
            · skip
              refine ri_ild a_X7_copy_62 rfl ?_
              refine ri_if_lt a_X7_copy_64 (fun zc11 => ?_) (fun zc11 => ?_)
              · refine ri_ic a_X7_copy_124 ?_
                refine ri_ireturn a_X7_copy_126 rfl rfl ?_
                exact rX (by rw [if_neg hc]; exact ⟨rfl, rfl⟩)
              · refine ri_ild a_X7_copy_67 rfl ?_
                refine ri_if_lt a_X7_copy_68 (fun zc12 => ?_) (fun zc12 => ?_)
                · refine ri_ic a_X7_copy_124 ?_
                  refine ri_ireturn a_X7_copy_126 rfl rfl ?_
                  exact rX (by rw [if_neg hc]; exact ⟨rfl, rfl⟩)
                · refine ri_ild a_X7_copy_71 rfl ?_
                  refine ri_if_lt a_X7_copy_73 (fun zc13 => ?_) (fun zc13 => ?_)
                  · refine ri_ic a_X7_copy_124 ?_
                    refine ri_ireturn a_X7_copy_126 rfl rfl ?_
                    exact rX (by rw [if_neg hc]; exact ⟨rfl, rfl⟩)
                  · refine ri_ild a_X7_copy_76 rfl ?_
                    refine ri_ald a_X7_copy_77 rfl ?_
                    refine ri_getR (t' := 12) (i' := 0) a_X7_copy_78 fl_X7_43 kM_0_18 rfl iM_0 (Or.inr ⟨rfl, rfl, rfl⟩) ?_
                    refine ri_ild a_X7_copy_81 rfl ?_
                    refine ri_iaload a_X7_copy_82 lM_12 rfl iM_12 (vp_in_nI hq (by decide)) ?_
                    refine ri_icmp_gt a_X7_copy_83 (fun zc14 => ?_) (fun zc14 => ?_)
                    · refine ri_ic a_X7_copy_124 ?_
                      refine ri_ireturn a_X7_copy_126 rfl rfl ?_
                      exact rX (by rw [if_neg hc]; exact ⟨rfl, rfl⟩)
                    · refine ri_ild a_X7_copy_86 rfl ?_
                      refine ri_ald a_X7_copy_88 rfl ?_
                      refine ri_getR (t' := 12) (i' := 0) a_X7_copy_89 fl_X7_43 kM_0_18 rfl iM_0 (Or.inr ⟨rfl, rfl, rfl⟩) ?_
                      refine ri_ild a_X7_copy_92 rfl ?_
                      refine ri_iaload a_X7_copy_93 lM_12 rfl iM_12 (vp_in_nI ho (by decide)) ?_
                      refine ri_icmp_gt a_X7_copy_94 (fun zc15 => ?_) (fun zc15 => ?_)
                      · refine ri_ic a_X7_copy_124 ?_
                        refine ri_ireturn a_X7_copy_126 rfl rfl ?_
                        exact rX (by rw [if_neg hc]; exact ⟨rfl, rfl⟩)
                      · refine ri_ild a_X7_copy_97 rfl ?_
                        refine ri_ald a_X7_copy_99 rfl ?_
                        refine ri_getR (t' := 12) (i' := 0) a_X7_copy_100 fl_X7_43 kM_0_18 rfl iM_0 (Or.inr ⟨rfl, rfl, rfl⟩) ?_
                        refine ri_ild a_X7_copy_103 rfl ?_
                        refine ri_iaload a_X7_copy_104 lM_12 rfl iM_12 (vp_in_nI hq (by decide)) ?_
                        refine ri_ild a_X7_copy_105 rfl ?_
                        refine ri_isub a_X7_copy_106 ?_
                        refine ri_icmp_gt a_X7_copy_107 (fun zc16 => ?_) (fun zc16 => ?_)
                        · refine ri_ic a_X7_copy_124 ?_
                          refine ri_ireturn a_X7_copy_126 rfl rfl ?_
                          exact rX (by rw [if_neg hc]; exact ⟨rfl, rfl⟩)
                        · refine ri_ild a_X7_copy_110 rfl ?_
                          refine ri_ald a_X7_copy_112 rfl ?_
                          refine ri_getR (t' := 12) (i' := 0) a_X7_copy_113 fl_X7_43 kM_0_18 rfl iM_0 (Or.inr ⟨rfl, rfl, rfl⟩) ?_
                          refine ri_ild a_X7_copy_116 rfl ?_
                          refine ri_iaload a_X7_copy_117 lM_12 rfl iM_12 (vp_in_nI ho (by decide)) ?_
                          refine ri_ild a_X7_copy_118 rfl ?_
                          refine ri_isub a_X7_copy_120 ?_
                          refine ri_icmp_le a_X7_copy_121 (fun zc17 => ?_) (fun zc17 => ?_)
                          · rw [e1] at zc14 zc16
                            rw [e2] at zc15 zc17
                            have h1 := Int32.not_lt.mp zc11
                            have h2 := Int32.not_lt.mp zc12
                            have h3 := Int32.not_lt.mp zc13
                            exact absurd ⟨⟨h2, h3, h1⟩, (cpc1 hm140 h2 h1).1 ⟨Int32.not_lt.mp zc14, Int32.not_lt.mp zc16⟩, (cpc1 hm240 h3 h1).1 ⟨Int32.not_lt.mp zc15, zc17⟩⟩ hc
                          · refine ri_ic a_X7_copy_124 ?_
                            refine ri_ireturn a_X7_copy_126 rfl rfl ?_
                            exact rX (by rw [if_neg hc]; exact ⟨rfl, rfl⟩)
          · refine ri_ic a_X7_copy_59 ?_
            refine ri_ireturn a_X7_copy_61 rfl rfl ?_
            rw [eq] at zc3 zc5
            rw [eo] at zc4 zc5
            exact rX (by rw [if_neg (fun z => z.elim zc3 zc4), if_neg zc5]; exact ⟨rfl, rfl⟩)
        · refine ri_ic a_X7_copy_41 ?_
          refine ri_ireturn a_X7_copy_43 rfl rfl ?_
          rw [eo] at zc4
          exact rX (by rw [if_pos (Or.inr zc4)]; exact ⟨rfl, rfl⟩)
    · refine ri_if_ne a_X7_copy_15 (fun q => absurd q (by decide)) (fun _ => ?_)
      refine ri_ic a_X7_copy_18 ?_
      refine ri_ireturn a_X7_copy_20 rfl rfl ?_
      exact absurd (s4 ho) zc2
  · refine ri_if_eq a_X7_copy_6 (fun _ => ?_) (fun q => absurd q (by decide))
    refine ri_ic a_X7_copy_18 ?_
    refine ri_ireturn a_X7_copy_20 rfl rfl ?_
    exact absurd (s4 hq) zc1
theorem no_X7_copy {w : Wd} {d : Nat} (hd : 1 ≤ d) {N : Mem} {s o : Int32} (hs : ¬ ((0 ≤ s ∧ s ≤ 3) ∧ 0 ≤ o ∧ o ≤ 3)) (i j n : Int32) : lr_Ok tM sM w d jX7_copy [vo 0 0, vi s, vi i, vi o, vi j, vi n] N (qI (-2) N) := by
  refine lr_ok (by decide +kernel) rfl ?_
  refine ri_ild a_X7_copy_0 rfl ?_
  refine ri_ic a_X7_copy_1 ?_
  refine ri_ic a_X7_copy_2 ?_
  refine ri_cSpb (as := [vi s, vi 0, vi 3]) (rest := []) (d' := d - 1) a_X7_copy_3 ms_X7_in ml_X7_96 (by omega) (ok_X7_in s 0 3) (Nat.le_of_ble_eq_true rfl) rfl (fun zc1 => ?_) (fun zc1 => ?_)
  · refine ri_if_eq a_X7_copy_6 (fun q => absurd q (by decide)) (fun _ => ?_)
    refine ri_ild a_X7_copy_9 rfl ?_
    refine ri_ic a_X7_copy_10 ?_
    refine ri_ic a_X7_copy_11 ?_
    refine ri_cSpb (as := [vi o, vi 0, vi 3]) (rest := []) (d' := d - 1) a_X7_copy_12 ms_X7_in ml_X7_96 (by omega) (ok_X7_in o 0 3) (Nat.le_of_ble_eq_true rfl) rfl (fun zc2 => ?_) (fun zc2 => ?_)
    · refine ri_if_ne a_X7_copy_15 (fun _ => ?_) (fun q => absurd q (by decide))
      exact absurd ⟨zc1, zc2⟩ hs
    · refine ri_if_ne a_X7_copy_15 (fun q => absurd q (by decide)) (fun _ => ?_)
      refine ri_ic a_X7_copy_18 ?_
      refine ri_ireturn a_X7_copy_20 rfl rfl ?_
      exact rI rfl rfl
  · refine ri_if_eq a_X7_copy_6 (fun _ => ?_) (fun q => absurd q (by decide))
    refine ri_ic a_X7_copy_18 ?_
    refine ri_ireturn a_X7_copy_20 rfl rfl ?_
    exact rI rfl rfl
def jnN : Mem → Nat → List (Int32 × Int32) → Mem
  | N, _, [] => N
  | N, n, x :: l => jnN (poM N n x.1 x.2) (n + 1) l
theorem ok_X7_peopleBy {w : Wd} {d : Nat} (hd : 2 ≤ d) {N : Mem} {q m np : Nat} (hq : q < 4) (hm : N 12 0 q = nI m) (hm40 : m ≤ 40) (hn : N 0 0 0 = nI np) (hn8 : np ≤ 8) (so fr n : Int32) : lr_Ok tM sM w d jX7_peopleBy [vo 0 0, vi (nI q), vi so, vi fr, vi n] N (qX fun r N' => if (0 ≤ so ∧ so ≤ 2) ∧ 0 ≤ n ∧ n ≤ 8 then (if N 11 0 q = -1 then r = -11 ∧ N' = N else if N 11 0 q = so then r = (pbL (shN N q) (nI m) fr n.toNatClampNeg 0 np 0).1 ∧ N' = jnN N np (pbL (shN N q) (nI m) fr n.toNatClampNeg 0 np 0).2 else r = -13 ∧ N' = N) else r = -2 ∧ N' = N) := by
  have eq : (nI q).toNatClampNeg = q := nI_clamp (by omega)
  have cond : ∀ k, k ≤ 8 → (0 ≤ fr ∨ k = 0) → (pbC (nI m) (fr + 2 * nI k) ↔ (0 ≤ fr ∧ fr ≤ fr + 2 * nI k) ∧ fr + 2 * nI k ≤ nI m - 2) := by
    intro k hk h0
    have e2 : (2 * nI k).toInt = 2 * (k : Int) := by rw [nI_2m, nI_toInt (by omega)]; omega
    have em : (nI m - 2).toInt = (m : Int) - 2 := by rw [show (2 : Int32) = nI 2 from rfl, nI_subI (by omega) (by decide)]; rfl
    have ez : (0 : Int32).toInt = 0 := rfl
    have etw : (2 : Int32).toInt = 2 := rfl
    have hfr := Int32.toInt_lt fr
    have hfl := Int32.le_toInt fr
    unfold pbC
    simp only [Int32.le_iff_toInt_le, em, ez, etw, nI_toInt (show m < 2 ^ 31 by omega)] at h0 ⊢
    rw [Int32.toInt_add, e2]
    rcases h0 with h0 | h0
    · by_cases hov : fr.toInt + 2 * (k : Int) < 2 ^ 31
      · rw [Int.bmod_eq_of_le (by omega) (by omega)]
        omega
      · rw [show (fr.toInt + 2 * (k : Int)).bmod (2 ^ 32) = fr.toInt + 2 * (k : Int) - 2 ^ 32 by
          rw [← Int.sub_bmod_right, Int.bmod_eq_of_le (by omega) (by omega)]; rfl]
        omega
    · subst h0
      rw [Int.bmod_eq_of_le (by omega) (by omega)]
      omega
  have loop : ∀ nn, nn ≤ 8 → ∀ r k np c z7 z8 N1, nn = k + r → (0 ≤ fr ∨ k = 0) → N1 0 0 0 = nI np → np ≤ 8 → N1 12 0 = N 12 0 → N1 13 0 = N 13 0 → lr_W tM sM w d jX7_peopleBy 64 [some (vo 0 0), some (vi (nI q)), some (vi so), some (vi fr), some (vi (nI nn)), some (vi c), some (vi (nI k)), z7, z8] [] N1 (qX fun r' N' => r' = (pbL (shN N q) (nI m) fr r k np c).1 ∧ N' = jnN N1 np (pbL (shN N q) (nI m) fr r k np c).2) := by
    intro nn hnn r
    induction r with
    | zero =>
      intro k np c z7 z8 N1 hk h0 h1 h2 h3 h4
      have : nn = k := hk
      subst this
      refine ri_ild a_X7_peopleBy_64 rfl ?_
      refine ri_ild a_X7_peopleBy_66 rfl ?_
      refine ri_icmp_ge a_X7_peopleBy_68 (fun zc11 => ?_) (fun zc11 => ?_)
      · refine ri_ild a_X7_peopleBy_153 rfl ?_
        refine ri_ireturn a_X7_peopleBy_155 rfl rfl ?_
        exact rX ⟨rfl, rfl⟩
      · exact absurd (Int32.le_refl _) zc11
    | succ r ih =>
      intro k np c z7 z8 N1 hk h0 h1 h2 h3 h4
      have hcd := cond k (by omega) h0
      have e12 : N1 12 0 (nI q).toNatClampNeg = nI m := by rw [eq, h3]; exact hm
      rw [pbL]
      refine ri_ild a_X7_peopleBy_64 rfl ?_
      refine ri_ild a_X7_peopleBy_66 rfl ?_
      refine ri_icmp_ge a_X7_peopleBy_68 (fun zc11 => ?_) (fun zc11 => ?_)
      · exact absurd zc11 (nI_ge (by omega) (by omega))
      · refine ri_ild a_X7_peopleBy_71 rfl ?_
        refine ri_ic a_X7_peopleBy_72 ?_
        refine ri_ild a_X7_peopleBy_73 rfl ?_
        refine ri_imul a_X7_peopleBy_75 ?_
        refine ri_iadd a_X7_peopleBy_76 ?_
        refine ri_ist (f := fun zx12 => [some (vo 0 0), some (vi (nI q)), some (vi so), some (vi fr), some (vi (nI nn)), some (vi c), some (vi (nI k)), some (vi zx12), z8]) a_X7_peopleBy_77 (fun _ => rfl) (fun zx12 ezx12 => ?_)
        refine ri_ild a_X7_peopleBy_79 rfl ?_
        refine ri_if_lt a_X7_peopleBy_80 (fun zc13 => ?_) (fun zc13 => ?_)
        · refine ri_ic a_X7_peopleBy_102 ?_
          refine ri_ireturn a_X7_peopleBy_104 rfl rfl ?_
          first
          | exact rX (by rw [if_neg (fun z => absurd (hcd.1 z).1.1 (Int32.not_le.mpr (by assumption)))]; exact ⟨rfl, rfl⟩)
          | exact rX (by rw [ezx12] at *; rw [if_neg (fun z => absurd (hcd.1 z).1.2 (Int32.not_le.mpr (by assumption)))]; exact ⟨rfl, rfl⟩)
          | exact rX (by rw [ezx12, e12] at *; rw [if_neg (fun z => absurd (hcd.1 z).2 (by assumption))]; exact ⟨rfl, rfl⟩)
        · refine ri_ild a_X7_peopleBy_83 rfl ?_
          refine ri_ild a_X7_peopleBy_85 rfl ?_
          refine ri_icmp_lt a_X7_peopleBy_86 (fun zc14 => ?_) (fun zc14 => ?_)
          · refine ri_ic a_X7_peopleBy_102 ?_
            refine ri_ireturn a_X7_peopleBy_104 rfl rfl ?_
            first
            | exact rX (by rw [if_neg (fun z => absurd (hcd.1 z).1.1 (Int32.not_le.mpr (by assumption)))]; exact ⟨rfl, rfl⟩)
            | exact rX (by rw [ezx12] at *; rw [if_neg (fun z => absurd (hcd.1 z).1.2 (Int32.not_le.mpr (by assumption)))]; exact ⟨rfl, rfl⟩)
            | exact rX (by rw [ezx12, e12] at *; rw [if_neg (fun z => absurd (hcd.1 z).2 (by assumption))]; exact ⟨rfl, rfl⟩)
          · refine ri_ild a_X7_peopleBy_89 rfl ?_
            refine ri_ald a_X7_peopleBy_91 rfl ?_
            refine ri_getR (t' := 12) (i' := 0) a_X7_peopleBy_92 fl_X7_43 kM_0_18 rfl iM_0 (Or.inr ⟨rfl, rfl, rfl⟩) ?_
            refine ri_ild a_X7_peopleBy_95 rfl ?_
            refine ri_iaload a_X7_peopleBy_96 lM_12 rfl iM_12 (vp_in_nI hq (by decide)) ?_
            refine ri_ic a_X7_peopleBy_97 ?_
            refine ri_isub a_X7_peopleBy_98 ?_
            refine ri_icmp_le a_X7_peopleBy_99 (fun zc15 => ?_) (fun zc15 => ?_)
            · rw [ezx12] at zc14
              rw [ezx12, e12] at zc15
              have hfr := Int32.not_lt.mp zc13
              have hc : pbC (nI m) (fr + 2 * nI k) := hcd.2 ⟨⟨hfr, Int32.not_lt.mp zc14⟩, zc15⟩
              obtain ⟨z, hz, hzm⟩ := pbC_nI hc hm40
              have ez : zx12 = nI z := ezx12.trans hz
              subst ez
              rw [if_pos hc, hz, nI_clamp (by omega)]
              have c1 : (40 * nI q + nI z).toNatClampNeg = 40 * q + z := by rw [nI_40a, nI_clamp (by omega)]
              have c2 : (nI (40 * q + z) + 1).toNatClampNeg = 40 * q + (z + 1) := by rw [nI_1, nI_clamp (by omega)]; rfl
              have g1 : N1 13 0 (40 * q + z) = shN N q z := by rw [h4]; rfl
              have g2 : N1 13 0 (40 * q + (z + 1)) = shN N q (z + 1) := by rw [h4]; rfl
              have hpe := ok_X7_person (w := w) (d := d - 1) (by omega) h1 h2 (shN N q z) (shN N q (z + 1))
              refine ri_ic a_X7_peopleBy_105 ?_
              refine ri_ild a_X7_peopleBy_107 rfl ?_
              refine ri_imul a_X7_peopleBy_108 ?_
              refine ri_ild a_X7_peopleBy_109 rfl ?_
              refine ri_iadd a_X7_peopleBy_111 ?_
              refine ri_ist (f := fun zx21 => [some (vo 0 0), some (vi (nI q)), some (vi so), some (vi fr), some (vi (nI nn)), some (vi c), some (vi (nI k)), some (vi (nI z)), some (vi zx21)]) a_X7_peopleBy_112 (fun _ => rfl) (fun zx21 ezx21 => ?_)
              rw [nI_40a] at ezx21
              subst ezx21
              have hp2 : lr_Ok tM sM w (d - 1) jX7_person [vo 0 0, vi (N1 13 0 (nI (40 * q + z)).toNatClampNeg), vi (N1 13 0 (nI (40 * q + z) + 1).toNatClampNeg)] N1 (qX fun r N' => if jnP (shN N q z) (shN N q (z + 1)) then (if np < 8 then r = nI np ∧ N' = poM N1 np (shN N q z) (shN N q (z + 1)) else r = -4 ∧ N' = N1) else r = -2 ∧ N' = N1) := by
                rw [nI_clamp (by omega), c2, g1, g2]
                exact hpe
              refine ri_ild a_X7_peopleBy_114 rfl ?_
              refine ri_ald a_X7_peopleBy_116 rfl ?_
              refine ri_ald a_X7_peopleBy_117 rfl ?_
              refine ri_getR (t' := 13) (i' := 0) a_X7_peopleBy_118 fl_X7_46 kM_0_19 rfl iM_0 (Or.inr ⟨rfl, rfl, rfl⟩) ?_
              refine ri_ild a_X7_peopleBy_121 rfl ?_
              refine ri_iaload a_X7_peopleBy_123 lM_13 rfl iM_13 (vp_in_nI (by omega) (by decide)) ?_
              refine ri_ald a_X7_peopleBy_124 rfl ?_
              refine ri_getR (t' := 13) (i' := 0) a_X7_peopleBy_125 fl_X7_46 kM_0_19 rfl iM_0 (Or.inr ⟨rfl, rfl, rfl⟩) ?_
              refine ri_ild a_X7_peopleBy_128 rfl ?_
              refine ri_ic a_X7_peopleBy_130 ?_
              refine ri_iadd a_X7_peopleBy_131 ?_
              refine ri_iaload a_X7_peopleBy_132 lM_13 rfl iM_13 (by rw [nI_1]; exact vp_in_nI (by omega) (by decide)) ?_
              refine ri_cVxi (as := [vi (N1 13 0 (nI (40 * q + z)).toNatClampNeg), vi (N1 13 0 ((nI (40 * q + z)) + 1).toNatClampNeg)]) (rest := [vi c]) (d' := d - 1) a_X7_peopleBy_133 mv_X7_person ml_X7_272 (rcM_0 iM_0) (by omega) (hp2) (Nat.le_of_ble_eq_true rfl) rfl (fun zy31 zM32 hzy31 => ?_)
              refine ri_if_lt a_X7_peopleBy_136 (fun zc33 => ?_) (fun zc33 => ?_)
              · refine ri_ic a_X7_peopleBy_143 ?_
                refine ri_iadd a_X7_peopleBy_144 ?_
                refine ri_ist (f := fun zx34 => [some (vo 0 0), some (vi (nI q)), some (vi so), some (vi fr), some (vi (nI nn)), some (vi zx34), some (vi (nI k)), some (vi (nI z)), some (vi (nI (40 * q + z)))]) a_X7_peopleBy_145 (fun _ => rfl) (fun zx34 ezx34 => ?_)
                refine ri_iinc (c0 := 1) (f := fun zx35 => [some (vo 0 0), some (vi (nI q)), some (vi so), some (vi fr), some (vi (nI nn)), some (vi zx34), some (vi zx35), some (vi (nI z)), some (vi (nI (40 * q + z)))]) a_X7_peopleBy_147 rfl (by decide) (fun _ => rfl) (fun zx35 ezx35 => ?_)
                refine ri_goto a_X7_peopleBy_150 ?_
                have hno : ¬ (jnP (shN N q z) (shN N q (z + 1)) ∧ np < 8) := by
                  rintro ⟨a, b⟩
                  rw [if_pos a, if_pos b] at hzy31
                  rw [hzy31.1] at zc33
                  exact nI_pos (by omega) zc33
                have hM : zM32 = N1 := by
                  split at hzy31
                  · rename_i a
                    split at hzy31
                    · rename_i b
                      exact absurd ⟨a, b⟩ hno
                    · exact hzy31.2
                  · exact hzy31.2
                rw [if_neg hno, ezx34, ezx35, nI_1, hM, Int32.add_zero]
                exact ih (k + 1) np c _ _ N1 (by omega) (Or.inl hfr) h1 h2 h3 h4
              · refine ri_ic a_X7_peopleBy_139 ?_
                refine ri_goto a_X7_peopleBy_140 ?_
                refine ri_iadd a_X7_peopleBy_144 ?_
                refine ri_ist (f := fun zx36 => [some (vo 0 0), some (vi (nI q)), some (vi so), some (vi fr), some (vi (nI nn)), some (vi zx36), some (vi (nI k)), some (vi (nI z)), some (vi (nI (40 * q + z)))]) a_X7_peopleBy_145 (fun _ => rfl) (fun zx36 ezx36 => ?_)
                refine ri_iinc (c0 := 1) (f := fun zx37 => [some (vo 0 0), some (vi (nI q)), some (vi so), some (vi fr), some (vi (nI nn)), some (vi zx36), some (vi zx37), some (vi (nI z)), some (vi (nI (40 * q + z)))]) a_X7_peopleBy_147 rfl (by decide) (fun _ => rfl) (fun zx37 ezx37 => ?_)
                refine ri_goto a_X7_peopleBy_150 ?_
                have hyes : jnP (shN N q z) (shN N q (z + 1)) ∧ np < 8 := by
                  split at hzy31
                  · rename_i a
                    split at hzy31
                    · rename_i b
                      exact ⟨a, b⟩
                    · exact absurd (hzy31.1 ▸ (by decide)) zc33
                  · exact absurd (hzy31.1 ▸ (by decide)) zc33
                rw [if_pos hyes.1, if_pos hyes.2] at hzy31
                have hM : zM32 = poM N1 np (shN N q z) (shN N q (z + 1)) := hzy31.2
                rw [if_pos hyes, ezx36, ezx37, nI_1, jnN, ← hM]
                exact ih (k + 1) (np + 1) (c + 1) _ _ zM32 (by omega) (Or.inl hfr) (by rw [hM]; rfl) (by omega) (by rw [hM, ← h3]; rfl) (by rw [hM, ← h4]; rfl)
            · refine ri_ic a_X7_peopleBy_102 ?_
              refine ri_ireturn a_X7_peopleBy_104 rfl rfl ?_
              first
              | exact rX (by rw [if_neg (fun z => absurd (hcd.1 z).1.1 (Int32.not_le.mpr (by assumption)))]; exact ⟨rfl, rfl⟩)
              | exact rX (by rw [ezx12] at *; rw [if_neg (fun z => absurd (hcd.1 z).1.2 (Int32.not_le.mpr (by assumption)))]; exact ⟨rfl, rfl⟩)
              | exact rX (by rw [ezx12, e12] at *; rw [if_neg (fun z => absurd (hcd.1 z).2 (by assumption))]; exact ⟨rfl, rfl⟩)
  refine lr_ok (by decide +kernel) rfl ?_
  refine ri_ild a_X7_peopleBy_0 rfl ?_
  refine ri_ic a_X7_peopleBy_1 ?_
  refine ri_ic a_X7_peopleBy_2 ?_
  refine ri_cSpb (as := [vi (nI q), vi 0, vi 3]) (rest := []) (d' := d - 1) a_X7_peopleBy_3 ms_X7_in ml_X7_96 (by omega) (ok_X7_in (nI q) 0 3) (Nat.le_of_ble_eq_true rfl) rfl (fun zc1 => ?_) (fun zc1 => ?_)
  · refine ri_if_eq a_X7_peopleBy_6 (fun q => absurd q (by decide)) (fun _ => ?_)
    refine ri_ild a_X7_peopleBy_9 rfl ?_
    refine ri_ic a_X7_peopleBy_10 ?_
    refine ri_ic a_X7_peopleBy_11 ?_
    refine ri_cSpb (as := [vi so, vi 0, vi 2]) (rest := []) (d' := d - 1) a_X7_peopleBy_12 ms_X7_in ml_X7_96 (by omega) (ok_X7_in so 0 2) (Nat.le_of_ble_eq_true rfl) rfl (fun zc2 => ?_) (fun zc2 => ?_)
    · refine ri_if_eq a_X7_peopleBy_15 (fun q => absurd q (by decide)) (fun _ => ?_)
      refine ri_ild a_X7_peopleBy_18 rfl ?_
      refine ri_ic a_X7_peopleBy_20 ?_
      refine ri_ic a_X7_peopleBy_21 ?_
      refine ri_cSpb (as := [vi n, vi 0, vi 8]) (rest := []) (d' := d - 1) a_X7_peopleBy_23 ms_X7_in ml_X7_96 (by omega) (ok_X7_in n 0 8) (Nat.le_of_ble_eq_true rfl) rfl (fun zc3 => ?_) (fun zc3 => ?_)
      · refine ri_if_ne a_X7_peopleBy_26 (fun _ => ?_) (fun q => absurd q (by decide))
        refine ri_ald a_X7_peopleBy_32 rfl ?_
        refine ri_getR (t' := 11) (i' := 0) a_X7_peopleBy_33 fl_X7_40 kM_0_17 rfl iM_0 (Or.inr ⟨rfl, rfl, rfl⟩) ?_
        refine ri_ild a_X7_peopleBy_36 rfl ?_
        refine ri_iaload a_X7_peopleBy_37 lM_11 rfl iM_11 (vp_in_nI hq (by decide)) ?_
        refine ri_ic a_X7_peopleBy_38 ?_
        refine ri_icmp_ne a_X7_peopleBy_39 (fun zc4 => ?_) (fun zc4 => ?_)
        · refine ri_ald a_X7_peopleBy_45 rfl ?_
          refine ri_getR (t' := 11) (i' := 0) a_X7_peopleBy_46 fl_X7_40 kM_0_17 rfl iM_0 (Or.inr ⟨rfl, rfl, rfl⟩) ?_
          refine ri_ild a_X7_peopleBy_49 rfl ?_
          refine ri_iaload a_X7_peopleBy_50 lM_11 rfl iM_11 (vp_in_nI hq (by decide)) ?_
          refine ri_ild a_X7_peopleBy_51 rfl ?_
          refine ri_icmp_eq a_X7_peopleBy_52 (fun zc5 => ?_) (fun zc5 => ?_)
          · refine ri_ic a_X7_peopleBy_58 ?_
            refine ri_istk (ls' := [some (vo 0 0), some (vi (nI q)), some (vi so), some (vi fr), some (vi n), some (vi 0), none, none, none]) a_X7_peopleBy_59 rfl ?_
            refine ri_ic a_X7_peopleBy_61 ?_
            refine ri_istk (ls' := [some (vo 0 0), some (vi (nI q)), some (vi so), some (vi fr), some (vi n), some (vi 0), some (vi 0), none, none]) a_X7_peopleBy_62 rfl ?_
            rw [eq] at zc4 zc5
            obtain ⟨nn, h8, rfl⟩ := nI_of2 (n := 8) (M := 8) (by decide) (Int32.not_lt.mpr zc3.1) zc3.2
            refine lr_Wimp (loop nn h8 nn 0 np 0 none none N (by omega) (Or.inr rfl) hn hn8 rfl rfl) ?_
            rintro r M' ⟨y, h1, h2⟩
            exact ⟨y, h1, by dsimp only; rw [if_pos ⟨zc2, zc3⟩, if_neg zc4, if_pos zc5, nI_clamp (by omega)]; exact h2⟩
          · refine ri_ic a_X7_peopleBy_55 ?_
            refine ri_ireturn a_X7_peopleBy_57 rfl rfl ?_
            rw [eq] at zc4 zc5
            exact rX (by rw [if_pos ⟨zc2, zc3⟩, if_neg zc4, if_neg zc5]; exact ⟨rfl, rfl⟩)
        · refine ri_ic a_X7_peopleBy_42 ?_
          refine ri_ireturn a_X7_peopleBy_44 rfl rfl ?_
          rw [eq] at zc4
          exact rX (by rw [if_pos ⟨zc2, zc3⟩, if_pos zc4]; exact ⟨rfl, rfl⟩)
      · refine ri_if_ne a_X7_peopleBy_26 (fun q => absurd q (by decide)) (fun _ => ?_)
        refine ri_ic a_X7_peopleBy_29 ?_
        refine ri_ireturn a_X7_peopleBy_31 rfl rfl ?_
        exact rX (by rw [if_neg (fun q => zc3 q.2)]; exact ⟨rfl, rfl⟩)
    · refine ri_if_eq a_X7_peopleBy_15 (fun _ => ?_) (fun q => absurd q (by decide))
      refine ri_ic a_X7_peopleBy_29 ?_
      refine ri_ireturn a_X7_peopleBy_31 rfl rfl ?_
      exact rX (by rw [if_neg (fun q => zc2 q.1)]; exact ⟨rfl, rfl⟩)
  · refine ri_if_eq a_X7_peopleBy_6 (fun _ => ?_) (fun q => absurd q (by decide))
    refine ri_ic a_X7_peopleBy_29 ?_
    refine ri_ireturn a_X7_peopleBy_31 rfl rfl ?_
    exact absurd (s4 hq) zc1
theorem no_X7_peopleBy {w : Wd} {d : Nat} (hd : 1 ≤ d) {N : Mem} {s : Int32} (hs : ¬ (0 ≤ s ∧ s ≤ 3)) (so fr n : Int32) : lr_Ok tM sM w d jX7_peopleBy [vo 0 0, vi s, vi so, vi fr, vi n] N (qI (-2) N) := by
  refine lr_ok (by decide +kernel) rfl ?_
  refine ri_ild a_X7_peopleBy_0 rfl ?_
  refine ri_ic a_X7_peopleBy_1 ?_
  refine ri_ic a_X7_peopleBy_2 ?_
  refine ri_cSpb (as := [vi s, vi 0, vi 3]) (rest := []) (d' := d - 1) a_X7_peopleBy_3 ms_X7_in ml_X7_96 (by omega) (ok_X7_in s 0 3) (Nat.le_of_ble_eq_true rfl) rfl (fun zc1 => ?_) (fun zc1 => ?_)
  · refine ri_if_eq a_X7_peopleBy_6 (fun q => absurd q (by decide)) (fun _ => ?_)
    exact absurd zc1 hs
  · refine ri_if_eq a_X7_peopleBy_6 (fun _ => ?_) (fun q => absurd q (by decide))
    refine ri_ic a_X7_peopleBy_29 ?_
    refine ri_ireturn a_X7_peopleBy_31 rfl rfl ?_
    exact rI rfl rfl

