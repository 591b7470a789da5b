/-! class: the search -/
def lp {s : Type} (f : Nat → s → s) : Nat → Nat → s → s
  | 0, _, x => x
  | r + 1, p, x => lp f r (p + 1) (f p x)
def miF (x y : Int32) : Int32 := if x > y then y else x
/-- what the search is over: allowed, rises, bears, weights, feuds -/
abbrev Sx := Int32 × (Nat → Int32) × (Nat → Int32) × (Nat → Int32) × (Nat → Int32)
def sxM (M : Mem) : Sx := (M 14 0 4, M 15 0, M 16 0, M 17 0, M 18 0)
def clF (X : Sx) : Nat → Nat → Int32 → Int32 → Int32 → Int32 → Int32 → Int32 × Int32 → Int32 × Int32
  | 0, _, _, _, _, _, _, s => s
  | n + 1, rung, used, below, high, dg, spare, s => lp (fun p s =>
      if ((X.1 &&& (used ^^^ -1)) >>> (nI p &&& 31)) &&& 1 = 0 ∨ (¬ below = -1 ∧ ¬ (X.2.2.2.2 p >>> (below &&& 31)) &&& 1 = 0) ∨ spare < X.2.2.2.1 p then s
      else clF X n (rung + 1) (used ||| (1 <<< (nI p &&& 31))) (nI p) (high + X.2.1 (p * 5 + rung)) (dg * 10 + nI p + 1) (miF (spare - X.2.2.2.1 p) (X.2.2.1 (p * 5 + rung)))
        (if s.1 < high + X.2.1 (p * 5 + rung) then (high + X.2.1 (p * 5 + rung), dg * 10 + nI p + 1) else s)) 8 0 s
def frB (M M' : Mem) : Prop := ∀ t i k, ¬ (t = 14 ∧ i = 0 ∧ (k = 6 ∨ k = 7)) → M' t i k = M t i k
theorem frB_tr {M M1 M2 : Mem} (h : frB M M1) (h2 : frB M1 M2) : frB M M2 := fun t i k a => (h2 t i k a).trans (h t i k a)
theorem frB_up {M : Mem} {k : Nat} {x : Int32} (hk : k = 6 ∨ k = 7) : frB M (up M 14 0 k x) := fun t i k' a => by
  rw [up_apply, if_neg]
  rintro ⟨q1, q2, q3⟩
  exact a ⟨q1, q2, q3 ▸ hk⟩
theorem frB_sx {M M1 : Mem} (h : frB M M1) : sxM M1 = sxM M ∧ M1 14 0 5 = M 14 0 5 := by
  refine ⟨?_, h 14 0 5 (by omega)⟩
  unfold sxM
  rw [h 14 0 4 (by omega), show M1 15 0 = M 15 0 from funext fun k => h 15 0 k (by omega), show M1 16 0 = M 16 0 from funext fun k => h 16 0 k (by omega), show M1 17 0 = M 17 0 from funext fun k => h 17 0 k (by omega), show M1 18 0 = M 18 0 from funext fun k => h 18 0 k (by omega)]
def beS (M : Mem) : Int32 × Int32 := (M 14 0 6, M 14 0 7)
theorem cl_dv {a c : Nat} (ha : a < 2 ^ 31) (hc : c < 2 ^ 31) : nI a / nI c = nI (a / c) := by
  have hle : a / c ≤ a := Nat.div_le_self a c
  apply Int32.toInt_inj.mp
  rw [Int32.toInt_div, nI_toInt ha, nI_toInt hc, nI_toInt (show a / c < 2 ^ 31 by omega), ← Int.ofNat_tdiv]
  generalize a / c = e at hle
  rw [Int.bmod_eq_of_le (by omega) (by omega)]
theorem cl_dg (g p : Nat) : nI g * 10 + nI p + 1 = nI (g * 10 + p + 1) := by rw [show (10 : Int32) = nI 10 from rfl, nI_mul, nI_add, nI_1]
/-- the last digit tells who is right below -/
theorem cl_blw {g p : Nat} (hg : g < 100000) (hp : p < 8) : nI p = nI (g * 10 + p + 1) - nI (g * 10 + p + 1) / 10 * 10 - 1 := by
  rw [show nI (g * 10 + p + 1) / 10 = nI g from by rw [show (10 : Int32) = nI 10 from rfl, cl_dv (by omega) (by decide)]; congr 1; omega, ← cl_dg, Int32.add_assoc, Int32.add_comm (nI g * 10), Int32.add_sub_cancel, Int32.add_sub_cancel]
theorem ok_X3_climb {w : Wd} : ∀ n d M rung lim used below high dg g spare, n ≤ d → lim = rung + n → lim ≤ 5 → dg = nI g → g < 10 ^ rung → below = dg - dg / 10 * 10 - 1 → M 14 0 5 = nI lim → lr_Ok tC sC w d jX3_climb [vo 14 0, vi (nI rung), vi used, vi high, vi dg, vi spare] M (qV fun M' => frB M M' ∧ beS M' = clF (sxM M) n rung used below high dg spare (beS M)) := by
  intro n
  induction n with
  | zero =>
    intro d M rung lim used below high dg g spare hd hl h5 hdg hg hbel hlim
    have : lim = rung := hl
    subst this
    refine lr_ok (by decide +kernel) rfl ?_
    refine ri_ild a_X3_climb_0 rfl ?_
    refine ri_ald a_X3_climb_1 rfl ?_
    refine ri_getI a_X3_climb_2 fl_X3_28 kC_14_5 rfl iC_14 ?_
    refine ri_icmp_lt a_X3_climb_5 (fun zc1 => ?_) (fun zc1 => ?_)
    · exact absurd zc1 (by rw [hlim]; exact Int32.lt_irrefl)
    · refine ri_return a_X3_climb_8 rfl ?_
      exact rV ⟨fun _ _ _ _ => rfl, rfl⟩
  | succ n ih =>
    intro d M rung lim used below high dg g spare hd hl h5 hdg hg hbel hlim
    rw [clF]
    generalize hstep : (fun p s =>
      if ((sxM M).1 &&& (used ^^^ -1)) >>> (nI p &&& 31) &&& 1 = 0 ∨ (¬ below = -1 ∧ ¬ (sxM M).2.2.2.2 p >>> (below &&& 31) &&& 1 = 0) ∨ spare < (sxM M).2.2.2.1 p then s
      else clF (sxM M) n (rung + 1) (used ||| (1 <<< (nI p &&& 31))) (nI p) (high + (sxM M).2.1 (p * 5 + rung)) (dg * 10 + nI p + 1) (miF (spare - (sxM M).2.2.2.1 p) ((sxM M).2.2.1 (p * 5 + rung)))
        (if s.1 < high + (sxM M).2.1 (p * 5 + rung) then (high + (sxM M).2.1 (p * 5 + rung), dg * 10 + nI p + 1) else s)) = f
    generalize hres : lp f 8 0 (beS M) = res
    have loop : ∀ r p M1 j9 j10 j11 j12, 8 = p + r → frB M M1 → lp f r p (beS M1) = res → lr_W tC sC w d jX3_climb 31 [some (vo 14 0), some (vi (nI rung)), some (vi used), some (vi high), some (vi dg), some (vi spare), some (vi below), some (vi (M 14 0 4 &&& (used ^^^ -1))), some (vi (nI p)), j9, j10, j11, j12] [] M1 (qV fun M' => frB M M' ∧ beS M' = res) := by
      intro r
      induction r with
      | zero =>
        intro p M1 j9 j10 j11 j12 hr hf hl
        have : p = 8 := by omega
        subst this
        refine ri_ild a_X3_climb_31 rfl ?_
        refine ri_ic a_X3_climb_33 ?_
        refine ri_icmp_ge a_X3_climb_35 (fun zc1 => ?_) (fun zc1 => ?_)
        · refine ri_return a_X3_climb_191 rfl ?_
          exact rV ⟨hf, hl⟩
        · exact absurd (by decide) zc1
      | succ r ihr =>
        intro p M1 j9 j10 j11 j12 hr hf hl
        rw [lp] at hl
        obtain ⟨eX, e5⟩ := frB_sx hf
        have nxt : ∀ M2 j9 j10 j11 j12, frB M M2 → f p (beS M1) = beS M2 → lr_W tC sC w d jX3_climb 185 [some (vo 14 0), some (vi (nI rung)), some (vi used), some (vi high), some (vi dg), some (vi spare), some (vi below), some (vi (M 14 0 4 &&& (used ^^^ -1))), some (vi (nI p)), j9, j10, j11, j12] [] M2 (qV fun M' => frB M M' ∧ beS M' = res) := by
          intro M2 j9 j10 j11 j12 hf2 he
          refine ri_iinc (c0 := 1) (f := fun zx1 => [some (vo 14 0), some (vi (nI rung)), some (vi used), some (vi high), some (vi dg), some (vi spare), some (vi below), some (vi (M 14 0 4 &&& (used ^^^ -1))), some (vi zx1), j9, j10, j11, j12]) a_X3_climb_185 rfl (by decide) (fun _ => rfl) (fun zx1 ezx1 => ?_)
          refine ri_goto a_X3_climb_188 ?_
          rw [ezx1, nI_1]
          exact ihr (p + 1) M2 _ _ _ _ (by omega) hf2 (by rw [← he]; exact hl)
        have go : ∀ y9, ¬ ((M 14 0 4 &&& (used ^^^ -1)) >>> (nI p &&& 31)) &&& 1 = 0 → ¬ (¬ below = -1 ∧ ¬ ((sxM M).2.2.2.2 p >>> (below &&& 31)) &&& 1 = 0) → lr_W tC sC w d jX3_climb 81 [some (vo 14 0), some (vi (nI rung)), some (vi used), some (vi high), some (vi dg), some (vi spare), some (vi below), some (vi (M 14 0 4 &&& (used ^^^ -1))), some (vi (nI p)), some (vi y9), j10, j11, j12] [] M1 (qV fun M' => frB M M' ∧ beS M' = res) := by
          intro y9 hc1 hc2
          have ep : (nI p).toNatClampNeg = p := nI_clamp (by omega)
          have e17 : M1 17 0 p = (sxM M).2.2.2.1 p := by rw [← eX]; rfl
          have epl : nI p * 5 + nI rung = nI (p * 5 + rung) := by rw [show (5 : Int32) = nI 5 from rfl, nI_mul, nI_add]
          refine ri_ild a_X3_climb_81 rfl ?_
          refine ri_ald a_X3_climb_83 rfl ?_
          refine ri_getR (t' := 17) (i' := 0) a_X3_climb_84 fl_X3_18 kC_14_2 rfl iC_14 (Or.inr ⟨rfl, rfl, rfl⟩) ?_
          refine ri_ild a_X3_climb_87 rfl ?_
          refine ri_iaload a_X3_climb_89 lC_17 rfl iC_17 ?_ ?_
          · exact vp_in_nI (by omega) (by decide)
          refine ri_icmp_ge a_X3_climb_90 (fun zc11 => ?_) (fun zc11 => ?_)
          · rw [ep, e17] at zc11
            refine ri_ild a_X3_climb_96 rfl ?_
            refine ri_ic a_X3_climb_98 ?_
            refine ri_imul a_X3_climb_99 ?_
            refine ri_ild a_X3_climb_100 rfl ?_
            refine ri_iadd a_X3_climb_101 ?_
            refine ri_ist (f := fun zx21 => [some (vo 14 0), some (vi (nI rung)), some (vi used), some (vi high), some (vi dg), some (vi spare), some (vi below), some (vi (M 14 0 4 &&& (used ^^^ -1))), some (vi (nI p)), some (vi y9), some (vi zx21), j11, j12]) a_X3_climb_102 (fun _ => rfl) (fun zx21 ezx21 => ?_)
            refine ri_ild a_X3_climb_104 rfl ?_
            refine ri_ald a_X3_climb_105 rfl ?_
            refine ri_getR (t' := 15) (i' := 0) a_X3_climb_106 fl_X3_9 kC_14_0 rfl iC_14 (Or.inr ⟨rfl, rfl, rfl⟩) ?_
            refine ri_ild a_X3_climb_109 rfl ?_
            refine ri_iaload a_X3_climb_111 lC_15 rfl iC_15 ?_ ?_
            · rw [ezx21, epl]; exact vp_in_nI (by omega) (by decide)
            refine ri_iadd a_X3_climb_112 ?_
            refine ri_ist (f := fun zx22 => [some (vo 14 0), some (vi (nI rung)), some (vi used), some (vi high), some (vi dg), some (vi spare), some (vi below), some (vi (M 14 0 4 &&& (used ^^^ -1))), some (vi (nI p)), some (vi y9), some (vi zx21), some (vi zx22), j12]) a_X3_climb_113 (fun _ => rfl) (fun zx22 ezx22 => ?_)
            refine ri_ild a_X3_climb_115 rfl ?_
            refine ri_ic a_X3_climb_117 ?_
            refine ri_imul a_X3_climb_119 ?_
            refine ri_ild a_X3_climb_120 rfl ?_
            refine ri_iadd a_X3_climb_122 ?_
            refine ri_ic a_X3_climb_123 ?_
            refine ri_iadd a_X3_climb_124 ?_
            refine ri_ist (f := fun zx23 => [some (vo 14 0), some (vi (nI rung)), some (vi used), some (vi high), some (vi dg), some (vi spare), some (vi below), some (vi (M 14 0 4 &&& (used ^^^ -1))), some (vi (nI p)), some (vi y9), some (vi zx21), some (vi zx22), some (vi zx23)]) a_X3_climb_125 (fun _ => rfl) (fun zx23 ezx23 => ?_)
            have hpl : zx21.toNatClampNeg = p * 5 + rung := by rw [ezx21, epl, nI_clamp (by omega)]
            have ipl : vp_in zx21 40 := by rw [ezx21, epl]; exact vp_in_nI (by omega) (by decide)
            rw [hpl, show M1 15 0 = (sxM M).2.1 from by rw [← eX]; rfl] at ezx22
            have e23 : zx23 = nI (g * 10 + p + 1) := by rw [ezx23, hdg]; exact cl_dg g p
            have fin : ∀ M2, frB M M2 → beS M2 = (if (beS M1).1 < zx22 then (zx22, zx23) else beS M1) → lr_W tC sC w d jX3_climb 148 [some (vo 14 0), some (vi (nI rung)), some (vi used), some (vi high), some (vi dg), some (vi spare), some (vi below), some (vi (M 14 0 4 &&& (used ^^^ -1))), some (vi (nI p)), some (vi y9), some (vi zx21), some (vi zx22), some (vi zx23)] [] M2 (qV fun M' => frB M M' ∧ beS M' = res) := by
              intro M2 hf2 hb2
              obtain ⟨eX2, e52⟩ := frB_sx hf2
              have e172 : M2 17 0 p = (sxM M).2.2.2.1 p := by rw [← eX2]; rfl
              have e162 : M2 16 0 (p * 5 + rung) = (sxM M).2.2.1 (p * 5 + rung) := by rw [← eX2]; rfl
              have hargs : (if spare - M2 17 0 (nI p).toNatClampNeg > M2 16 0 zx21.toNatClampNeg then M2 16 0 zx21.toNatClampNeg else spare - M2 17 0 (nI p).toNatClampNeg) = miF (spare - (sxM M).2.2.2.1 p) ((sxM M).2.2.1 (p * 5 + rung)) := by rw [ep, hpl, e172, e162]; rfl
              have hc := ih (d - 1) M2 (rung + 1) lim (used ||| (1 <<< (nI p &&& 31))) (nI p) zx22 zx23 (g * 10 + p + 1) (miF (spare - (sxM M).2.2.2.1 p) ((sxM M).2.2.1 (p * 5 + rung))) (by omega) (by omega) h5 e23 (by rw [Nat.pow_succ]; omega) (by rw [e23]; exact cl_blw (Nat.lt_of_lt_of_le hg (Nat.pow_le_pow_right (by decide) (by omega) : 10 ^ rung ≤ 10 ^ 5)) (by omega)) (by rw [e52, hlim])
              rw [eX2, ← nI_1, ← hargs] at hc
              refine ri_ald a_X3_climb_148 rfl ?_
              refine ri_ild a_X3_climb_149 rfl ?_
              refine ri_ic a_X3_climb_150 ?_
              refine ri_iadd a_X3_climb_151 ?_
              refine ri_ild a_X3_climb_152 rfl ?_
              refine ri_ic a_X3_climb_153 ?_
              refine ri_ild a_X3_climb_154 rfl ?_
              refine ri_ishl a_X3_climb_156 ?_
              refine ri_ior a_X3_climb_157 ?_
              refine ri_ild a_X3_climb_158 rfl ?_
              refine ri_ild a_X3_climb_160 rfl ?_
              refine ri_ild a_X3_climb_162 rfl ?_
              refine ri_ald a_X3_climb_164 rfl ?_
              refine ri_getR (t' := 17) (i' := 0) a_X3_climb_165 fl_X3_18 kC_14_2 rfl iC_14 (Or.inr ⟨rfl, rfl, rfl⟩) ?_
              refine ri_ild a_X3_climb_168 rfl ?_
              refine ri_iaload a_X3_climb_170 lC_17 rfl iC_17 ?_ ?_
              · exact vp_in_nI (by omega) (by decide)
              refine ri_isub a_X3_climb_171 ?_
              refine ri_ald a_X3_climb_172 rfl ?_
              refine ri_getR (t' := 16) (i' := 0) a_X3_climb_173 fl_X3_15 kC_14_1 rfl iC_14 (Or.inr ⟨rfl, rfl, rfl⟩) ?_
              refine ri_ild a_X3_climb_176 rfl ?_
              refine ri_iaload a_X3_climb_178 lC_16 rfl iC_16 ?_ ?_
              · exact ipl
              refine ri_min a_X3_climb_179 mx_X3_37 mx_min (by omega) (Nat.le_of_ble_eq_true rfl) ?_
              refine ri_cSxv (as := [vo 14 0, vi ((nI rung) + 1), vi (used ||| (1 <<< ((nI p) &&& 31))), vi zx22, vi zx23, vi (if spare - (M2 17 0 (nI p).toNatClampNeg) > M2 16 0 zx21.toNatClampNeg then M2 16 0 zx21.toNatClampNeg else spare - (M2 17 0 (nI p).toNatClampNeg))]) (rest := []) (d' := d - 1) a_X3_climb_182 ms_X3_climb ml_X3_44 (by omega) (hc) (Nat.le_of_ble_eq_true rfl) rfl (fun zM31 hzM31 => ?_)
              exact nxt zM31 _ _ _ _ (frB_tr hf2 hzM31.1) (by
                rw [hzM31.2, hb2, ← hstep]
                refine (if_neg (fun q => q.elim hc1 (fun q => q.elim hc2 (Int32.not_lt.mpr zc11)))).trans ?_
                rw [ezx22, ezx23, hargs]) 
            refine ri_ild a_X3_climb_127 rfl ?_
            refine ri_ald a_X3_climb_129 rfl ?_
            refine ri_getI a_X3_climb_130 fl_X3_31 kC_14_6 rfl iC_14 ?_
            refine ri_icmp_le a_X3_climb_133 (fun zc31 => ?_) (fun zc31 => ?_)
            · exact fin M1 hf (by rw [if_neg (show ¬ (beS M1).1 < zx22 from Int32.not_lt.mpr zc31)])
            · refine ri_ald a_X3_climb_136 rfl ?_
              refine ri_ild a_X3_climb_137 rfl ?_
              refine ri_putI a_X3_climb_139 fp_X3_31 kC_14_6 rfl iC_14 (fun zM32 ezM32 => ?_)
              refine ri_ald a_X3_climb_142 rfl ?_
              refine ri_ild a_X3_climb_143 rfl ?_
              refine ri_putI a_X3_climb_145 fp_X3_34 kC_14_7 rfl iC_14 (fun zM33 ezM33 => ?_)
              refine fin _ (by rw [ezM33, ezM32]; exact frB_tr hf (frB_tr (frB_up (Or.inl rfl)) (frB_up (Or.inr rfl)))) ?_
              rw [if_pos (show (beS M1).1 < zx22 from Int32.not_le.mp zc31), ezM33, ezM32]
              rfl
          · refine ri_goto a_X3_climb_93 ?_
            rw [ep, e17] at zc11
            exact nxt M1 _ _ _ _ hf (by rw [← hstep]; exact if_pos (Or.inr (Or.inr (Int32.not_le.mp zc11))))
        refine ri_ild a_X3_climb_31 rfl ?_
        refine ri_ic a_X3_climb_33 ?_
        refine ri_icmp_ge a_X3_climb_35 (fun zc11 => ?_) (fun zc11 => ?_)
        · refine ri_return a_X3_climb_191 rfl ?_
          exact absurd zc11 (nI_ge (b := 8) (by omega) (by decide))
        · refine ri_ild a_X3_climb_38 rfl ?_
          refine ri_ic a_X3_climb_40 ?_
          refine ri_icmp_eq a_X3_climb_41 (fun zc12 => ?_) (fun zc12 => ?_)
          · refine ri_ic a_X3_climb_63 ?_
            refine ri_istk (ls' := [some (vo 14 0), some (vi (nI rung)), some (vi used), some (vi high), some (vi dg), some (vi spare), some (vi below), some (vi (M 14 0 4 &&& (used ^^^ -1))), some (vi (nI p)), some (vi 0), j10, j11, j12]) a_X3_climb_64 rfl ?_
            refine ri_ild a_X3_climb_66 rfl ?_
            refine ri_ild a_X3_climb_68 rfl ?_
            refine ri_ishr a_X3_climb_70 ?_
            refine ri_ic a_X3_climb_71 ?_
            refine ri_iand a_X3_climb_72 ?_
            refine ri_if_eq a_X3_climb_73 (fun zc13 => ?_) (fun zc13 => ?_)
            · exact nxt M1 _ _ _ _ hf (by rw [← hstep]; exact if_pos (Or.inl zc13))
            · refine ri_ild a_X3_climb_76 rfl ?_
              refine ri_if_ne a_X3_climb_78 (fun q => absurd q (by decide)) (fun _ => ?_)
              exact go _ zc13 (fun q => q.1 zc12)
          · refine ri_ald a_X3_climb_44 rfl ?_
            refine ri_getR (t' := 18) (i' := 0) a_X3_climb_45 fl_X3_21 kC_14_3 rfl iC_14 (Or.inr ⟨rfl, rfl, rfl⟩) ?_
            refine ri_ild a_X3_climb_48 rfl ?_
            refine ri_iaload a_X3_climb_50 lC_18 rfl iC_18 ?_ ?_
            · exact vp_in_nI (by omega) (by decide)
            refine ri_ild a_X3_climb_51 rfl ?_
            refine ri_ishr a_X3_climb_53 ?_
            refine ri_ic a_X3_climb_54 ?_
            refine ri_iand a_X3_climb_55 ?_
            refine ri_if_eq a_X3_climb_56 (fun zc14 => ?_) (fun zc14 => ?_)
            · refine ri_ic a_X3_climb_63 ?_
              refine ri_istk (ls' := [some (vo 14 0), some (vi (nI rung)), some (vi used), some (vi high), some (vi dg), some (vi spare), some (vi below), some (vi (M 14 0 4 &&& (used ^^^ -1))), some (vi (nI p)), some (vi 0), j10, j11, j12]) a_X3_climb_64 rfl ?_
              refine ri_ild a_X3_climb_66 rfl ?_
              refine ri_ild a_X3_climb_68 rfl ?_
              refine ri_ishr a_X3_climb_70 ?_
              refine ri_ic a_X3_climb_71 ?_
              refine ri_iand a_X3_climb_72 ?_
              refine ri_if_eq a_X3_climb_73 (fun zc15 => ?_) (fun zc15 => ?_)
              · exact nxt M1 _ _ _ _ hf (by rw [← hstep]; exact if_pos (Or.inl zc15))
              · refine ri_ild a_X3_climb_76 rfl ?_
                refine ri_if_ne a_X3_climb_78 (fun q => absurd q (by decide)) (fun _ => ?_)
                rw [nI_clamp (by omega), show M1 18 0 = (sxM M1).2.2.2.2 from rfl, eX] at zc14
                exact go _ zc15 (fun q => q.2 zc14)
            · refine ri_ic a_X3_climb_59 ?_
              refine ri_goto a_X3_climb_60 ?_
              refine ri_istk (ls' := [some (vo 14 0), some (vi (nI rung)), some (vi used), some (vi high), some (vi dg), some (vi spare), some (vi below), some (vi (M 14 0 4 &&& (used ^^^ -1))), some (vi (nI p)), some (vi 1), j10, j11, j12]) a_X3_climb_64 rfl ?_
              refine ri_ild a_X3_climb_66 rfl ?_
              refine ri_ild a_X3_climb_68 rfl ?_
              refine ri_ishr a_X3_climb_70 ?_
              refine ri_ic a_X3_climb_71 ?_
              refine ri_iand a_X3_climb_72 ?_
              refine ri_if_eq a_X3_climb_73 (fun zc16 => ?_) (fun zc16 => ?_)
              · exact nxt M1 _ _ _ _ hf (by rw [← hstep]; exact if_pos (Or.inl zc16))
              · refine ri_ild a_X3_climb_76 rfl ?_
                refine ri_if_ne a_X3_climb_78 (fun _ => ?_) (fun q => absurd q (by decide))
                rw [nI_clamp (by omega), show M1 18 0 = (sxM M1).2.2.2.2 from rfl, eX] at zc14
                exact nxt M1 _ _ _ _ hf (by rw [← hstep]; exact if_pos (Or.inr (Or.inl ⟨zc12, zc14⟩)))
    refine lr_ok (by decide +kernel) rfl ?_
    refine ri_ild a_X3_climb_0 rfl ?_
    refine ri_ald a_X3_climb_1 rfl ?_
    refine ri_getI a_X3_climb_2 fl_X3_28 kC_14_5 rfl iC_14 ?_
    refine ri_icmp_lt a_X3_climb_5 (fun zc1 => ?_) (fun zc1 => ?_)
    · refine ri_ild a_X3_climb_9 rfl ?_
      refine ri_ic a_X3_climb_11 ?_
      refine ri_irem a_X3_climb_13 (by decide) ?_
      refine ri_ic a_X3_climb_14 ?_
      refine ri_isub a_X3_climb_15 ?_
      refine ri_ist (f := fun zx2 => [some (vo 14 0), some (vi (nI rung)), some (vi used), some (vi high), some (vi dg), some (vi spare), some (vi zx2), none, none, none, none, none, none]) a_X3_climb_16 (fun _ => rfl) (fun zx2 ezx2 => ?_)
      refine ri_ald a_X3_climb_18 rfl ?_
      refine ri_getI a_X3_climb_19 fl_X3_24 kC_14_4 rfl iC_14 ?_
      refine ri_ild a_X3_climb_22 rfl ?_
      refine ri_ic a_X3_climb_23 ?_
      refine ri_ixor a_X3_climb_24 ?_
      refine ri_iand a_X3_climb_25 ?_
      refine ri_ist (f := fun zx3 => [some (vo 14 0), some (vi (nI rung)), some (vi used), some (vi high), some (vi dg), some (vi spare), some (vi zx2), some (vi zx3), none, none, none, none, none]) a_X3_climb_26 (fun _ => rfl) (fun zx3 ezx3 => ?_)
      refine ri_ic a_X3_climb_28 ?_
      refine ri_istk (ls' := [some (vo 14 0), some (vi (nI rung)), some (vi used), some (vi high), some (vi dg), some (vi spare), some (vi zx2), some (vi zx3), some (vi 0), none, none, none, none]) a_X3_climb_29 rfl ?_
      subst ezx3
      rw [ezx2, ← hbel]
      exact loop 8 0 M _ _ _ _ rfl (fun _ _ _ _ => rfl) hres
    · refine ri_return a_X3_climb_8 rfl ?_
      exact absurd (by rw [hlim]; exact nI_lt (by omega) (by omega)) zc1
def seF (M : Mem) (al : Int32) (m : Nat) : Int32 × Int32 := clF (al, M 15 0, M 16 0, M 17 0, M 18 0) m 0 0 (-1) 0 0 1000000 (0, -1)
theorem ok_X3_run {w : Wd} {d : Nat} (hd : 6 ≤ d) {M : Mem} {m : Nat} (hm : m ≤ 5) (al : Int32) : lr_Ok tC sC w d jX3_run [vo 14 0, vi (nI m), vi al] M (qV fun M' => frT 14 M M' ∧ beS M' = seF M al m) := by
  have hmi : (if nI m > 5 then 5 else nI m) = nI m := if_neg (fun q => Int32.not_le.mpr q (nI_le (b := 5) hm (by decide)))
  refine lr_ok (by decide +kernel) rfl ?_
  refine ri_ald a_X3_run_0 rfl ?_
  refine ri_ild a_X3_run_1 rfl ?_
  refine ri_ic a_X3_run_2 ?_
  refine ri_min a_X3_run_3 mx_X3_37 mx_min (by omega) (Nat.le_of_ble_eq_true rfl) ?_
  refine ri_putI a_X3_run_6 fp_X3_28 kC_14_5 rfl iC_14 (fun zM1 ezM1 => ?_)
  refine ri_ald a_X3_run_9 rfl ?_
  refine ri_ild a_X3_run_10 rfl ?_
  refine ri_putI a_X3_run_11 fp_X3_24 kC_14_4 rfl iC_14 (fun zM2 ezM2 => ?_)
  refine ri_ald a_X3_run_14 rfl ?_
  refine ri_ic a_X3_run_15 ?_
  refine ri_putI a_X3_run_16 fp_X3_31 kC_14_6 rfl iC_14 (fun zM3 ezM3 => ?_)
  refine ri_ald a_X3_run_19 rfl ?_
  refine ri_ic a_X3_run_20 ?_
  refine ri_putI a_X3_run_21 fp_X3_34 kC_14_7 rfl iC_14 (fun zM4 ezM4 => ?_)
  rw [hmi] at ezM1
  have hf : frT 14 M zM4 := by rw [ezM4, ezM3, ezM2, ezM1]; exact frT_up (frT_up (frT_up (frT_up frT_refl)))
  have hc := ok_X3_climb (w := w) m (d - 1) zM4 0 m 0 (-1) 0 0 0 1000000 (by omega) (by omega) hm rfl (by decide) (by decide) (by rw [ezM4, ezM3, ezM2, ezM1]; rfl)
  rw [show beS zM4 = (0, -1) from by rw [ezM4, ezM3, ezM2, ezM1]; rfl, show sxM zM4 = (al, M 15 0, M 16 0, M 17 0, M 18 0) from by rw [ezM4, ezM3, ezM2, ezM1]; rfl] at hc
  refine ri_ald a_X3_run_24 rfl ?_
  refine ri_ic a_X3_run_25 ?_
  refine ri_ic a_X3_run_26 ?_
  refine ri_ic a_X3_run_27 ?_
  refine ri_ic a_X3_run_28 ?_
  refine ri_ic a_X3_run_29 ?_
  refine ri_cSxv (as := [vo 14 0, vi 0, vi 0, vi 0, vi 0, vi 1000000]) (rest := []) (d' := d - 1) a_X3_run_31 ms_X3_climb ml_X3_44 (by omega) (hc) (Nat.le_of_ble_eq_true rfl) rfl (fun zM11 hzM11 => ?_)
  refine ri_return a_X3_run_34 rfl ?_
  exact rV ⟨fun t ht => by
    funext i k
    rw [hzM11.1 t i k (fun q => ht q.1), hf t ht], hzM11.2⟩

