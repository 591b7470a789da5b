/-! class: ways -/
theorem lgr_eq : ∀ s, s < 256 → ∀ p, p < 8 → nI s ||| (1 <<< (nI p &&& 31)) = nI (s ||| 2 ^ p) ∧ s ||| 2 ^ p < 256 := by decide +kernel
def waS (al : Int32) (ft : Nat → Prop) [DecidablePred ft] (v : Nat → Int32) (set : Nat) : Nat → Nat → Int32 → Int32
  | 0, _, sum => sum
  | r + 1, p, sum => waS al ft v set r (p + 1) (if ¬ (al >>> (nI p &&& 31)) &&& 1 = 0 ∧ ¬ set ||| 2 ^ p = set ∧ 0 < v (set ||| 2 ^ p) ∧ ft p then sum + v (set ||| 2 ^ p) else sum)
def waV (L : List (List Op)) (V : Vw) (g : Nat → Int32) (al : Int32) (m : Nat) (v : Nat → Int32) (set : Nat) : Int32 :=
  if popc set < m then waS al (fun p => fitF L V g p (popc set)) v set 8 0 0 else if popc set = m then 1 else 0
def waL (L : List (List Op)) (V : Vw) (g : Nat → Int32) (al : Int32) (m : Nat) : Nat → (Nat → Int32) → Nat → Int32
  | 0, v => v
  | s + 1, v => waL L V g al m s (fun x => if x = s then waV L V g al m v s else v x)
theorem ok_X6_countWays {w : Wd} {d : Nat} (hd : 5 ≤ d) {M : Mem} {s m k : Nat} {L : List (List Op)} (hL : lawC M 0 L) (hs : s < 4) (hm : M 19 s 2 = nI m) (hm40 : m ≤ 40) (hk : M 1 0 7 = nI k) (hk8 : k ≤ 8) : lr_Ok tC sC w d jX6_countWays [vo 0 0, vo 19 s] M (qV fun M' => frT 24 M M' ∧ M' 24 0 = waL L (vwC M 0) (M 20 s) (bitsF (M 7 0) k) m 256 (M 24 0)) := by
  generalize hal : bitsF (M 7 0) k = al
  generalize hW : waL L (vwC M 0) (M 20 s) al m 256 (M 24 0) = W
  have outer : ∀ n j4 j5 j6 j7 M1, n ≤ 256 → frT 24 M M1 → waL L (vwC M 0) (M 20 s) al m n (M1 24 0) = W → lr_W tC sC w d jX6_countWays 16 [some (vo 0 0), some (vo 19 s), some (vi al), some (vi (nI n - 1)), j4, j5, j6, j7] [] M1 (qV fun M' => frT 24 M M' ∧ M' 24 0 = W) := by
    intro n
    induction n with
    | zero =>
      intro j4 j5 j6 j7 M1 hn hf hw
      refine ri_ild a_X6_countWays_16 rfl ?_
      refine ri_if_lt a_X6_countWays_17 (fun zc1 => ?_) (fun zc1 => ?_)
      · refine ri_return a_X6_countWays_138 rfl ?_
        exact rV ⟨hf, hw⟩
      · exact absurd (by decide) zc1
    | succ n ih =>
      intro j4 j5 j6 j7 M1 hn hf hw
      rw [nI_pred]
      have hm1 : M1 19 s 2 = nI m := by rw [hf 19 (by decide), hm]
      have hL1 : lawC M1 0 L := lawC_fr (hf 1 (by decide)) (hf 9 (by decide)) (hf 10 (by decide)) hL
      have eV : vwC M1 0 = vwC M 0 := vwC_fr (hf 1 (by decide)) (hf 2 (by decide)) (hf 3 (by decide)) (hf 4 (by decide)) (hf 5 (by decide))
      have e20 : M1 20 = M 20 := hf 20 (by decide)
      have hp8 := popc_le n
      have post : ∀ sum j6 j7, sum = waV L (vwC M 0) (M 20 s) al m (M1 24 0) n → lr_W tC sC w d jX6_countWays 124 [some (vo 0 0), some (vo 19 s), some (vi al), some (vi (nI n)), some (vi (nI (popc n))), some (vi sum), j6, j7] [] M1 (qV fun M' => frT 24 M M' ∧ M' 24 0 = W) := by
        intro sum j6 j7 hsum
        refine ri_ald a_X6_countWays_124 rfl ?_
        refine ri_getR (t' := 24) (i' := 0) a_X6_countWays_125 fl_X6_53 kC_0_10 rfl iC_0 (Or.inr ⟨rfl, rfl, rfl⟩) ?_
        refine ri_ild a_X6_countWays_128 rfl ?_
        refine ri_ild a_X6_countWays_129 rfl ?_
        refine ri_iastore a_X6_countWays_131 lC_24 rfl iC_24 ?_ (fun zM11 ezM11 => ?_)
        · exact vp_in_nI (by omega) (by decide)
        refine ri_iinc (c0 := (-1)) (f := fun zx12 => [some (vo 0 0), some (vo 19 s), some (vi al), some (vi zx12), some (vi (nI (popc n))), some (vi sum), j6, j7]) a_X6_countWays_132 rfl (by decide) (fun _ => rfl) (fun zx12 ezx12 => ?_)
        refine ri_goto a_X6_countWays_135 ?_
        rw [ezx12, show nI n + (-1) = nI n - 1 from (Int32.sub_eq_add_neg _ _).symm]
        rw [nI_clamp (by omega)] at ezM11
        have hg : frT 24 M zM11 := by rw [ezM11]; exact frT_up hf
        refine ih _ _ _ _ zM11 (by omega) hg ?_
        rw [← hw, waL]
        congr 1
        funext x
        rw [ezM11, up_apply, hsum]
        by_cases e : x = n <;> simp [e]
      have inner : ∀ r p sum j7, 8 = p + r → popc n < m → waS al (fun p => fitF L (vwC M 0) (M 20 s) p (popc n)) (M1 24 0) n r p sum = waV L (vwC M 0) (M 20 s) al m (M1 24 0) n → lr_W tC sC w d jX6_countWays 45 [some (vo 0 0), some (vo 19 s), some (vi al), some (vi (nI n)), some (vi (nI (popc n))), some (vi sum), some (vi (nI p)), j7] [] M1 (qV fun M' => frT 24 M M' ∧ M' 24 0 = W) := by
        intro r
        induction r with
        | zero =>
          intro p sum j7 hr hlt hsum
          have : p = 8 := by omega
          subst this
          refine ri_ild a_X6_countWays_45 rfl ?_
          refine ri_ic a_X6_countWays_47 ?_
          refine ri_icmp_ge a_X6_countWays_49 (fun zc11 => ?_) (fun zc11 => ?_)
          · exact post _ _ _ hsum
          · exact absurd (by decide) zc11
        | succ r ih2 =>
          intro p sum j7 hr hlt hsum
          rw [waS] at hsum
          obtain ⟨el, el2⟩ := lgr_eq n (by omega) p (by omega)
          have e24 : (nI (n ||| 2 ^ p)).toNatClampNeg = n ||| 2 ^ p := nI_clamp (by omega)
          have i24 : vp_in (nI (n ||| 2 ^ p)) 256 := vp_in_nI el2 (by decide)
          have nxt : ∀ sum' j7, sum' = (if ¬ (al >>> (nI p &&& 31)) &&& 1 = 0 ∧ ¬ n ||| 2 ^ p = n ∧ 0 < M1 24 0 (n ||| 2 ^ p) ∧ fitF L (vwC M 0) (M 20 s) p (popc n) then sum + M1 24 0 (n ||| 2 ^ p) else sum) → lr_W tC sC w d jX6_countWays 118 [some (vo 0 0), some (vo 19 s), some (vi al), some (vi (nI n)), some (vi (nI (popc n))), some (vi sum'), some (vi (nI p)), j7] [] M1 (qV fun M' => frT 24 M M' ∧ M' 24 0 = W) := by
            intro sum' j7 hs'
            rw [← hs'] at hsum
            refine ri_iinc (c0 := 1) (f := fun zx11 => [some (vo 0 0), some (vo 19 s), some (vi al), some (vi (nI n)), some (vi (nI (popc n))), some (vi sum'), some (vi zx11), j7]) a_X6_countWays_118 rfl (by decide) (fun _ => rfl) (fun zx11 ezx11 => ?_)
            refine ri_goto a_X6_countWays_121 ?_
            rw [ezx11, nI_1]
            exact ih2 (p + 1) _ _ (by omega) hlt hsum
          refine ri_ild a_X6_countWays_45 rfl ?_
          refine ri_ic a_X6_countWays_47 ?_
          refine ri_icmp_ge a_X6_countWays_49 (fun zc11 => ?_) (fun zc11 => ?_)
          · exfalso
            first
            | exact nI_ge (b := 8) (by omega) (by decide) zc11
            | (rw [hm1] at zc12; exact nI_ge hlt (by omega) zc12)
          · refine ri_ild a_X6_countWays_52 rfl ?_
            refine ri_ald a_X6_countWays_54 rfl ?_
            refine ri_getI a_X6_countWays_55 fl_X6_256 kC_19_2 rfl (iC_19 (by assumption)) ?_
            refine ri_icmp_ge a_X6_countWays_58 (fun zc12 => ?_) (fun zc12 => ?_)
            · exfalso
              first
              | exact nI_ge (b := 8) (by omega) (by decide) zc11
              | (rw [hm1] at zc12; exact nI_ge hlt (by omega) zc12)
            · refine ri_ild a_X6_countWays_61 rfl ?_
              refine ri_ic a_X6_countWays_62 ?_
              refine ri_ild a_X6_countWays_63 rfl ?_
              refine ri_ishl a_X6_countWays_65 ?_
              refine ri_ior a_X6_countWays_66 ?_
              rw [el]
              refine ri_istk (ls' := [some (vo 0 0), some (vo 19 s), some (vi al), some (vi (nI n)), some (vi (nI (popc n))), some (vi sum), some (vi (nI p)), some (vi (nI (n ||| 2 ^ p)))]) a_X6_countWays_67 rfl ?_
              refine ri_ild a_X6_countWays_69 rfl ?_
              refine ri_ild a_X6_countWays_70 rfl ?_
              refine ri_ishr a_X6_countWays_72 ?_
              refine ri_ic a_X6_countWays_73 ?_
              refine ri_iand a_X6_countWays_74 ?_
              refine ri_if_eq a_X6_countWays_75 (fun zc21 => ?_) (fun zc21 => ?_)
              · exact nxt _ _ (by rw [if_neg (fun q => q.1 zc21)])
              · refine ri_ild a_X6_countWays_78 rfl ?_
                refine ri_ild a_X6_countWays_80 rfl ?_
                refine ri_icmp_eq a_X6_countWays_81 (fun zc22 => ?_) (fun zc22 => ?_)
                · exact nxt _ _ (by rw [if_neg (fun q => q.2.1 ((nI_eq (by omega) (by omega)).1 zc22))])
                · refine ri_ald a_X6_countWays_84 rfl ?_
                  refine ri_getR (t' := 24) (i' := 0) a_X6_countWays_85 fl_X6_53 kC_0_10 rfl iC_0 (Or.inr ⟨rfl, rfl, rfl⟩) ?_
                  refine ri_ild a_X6_countWays_88 rfl ?_
                  refine ri_iaload a_X6_countWays_90 lC_24 rfl iC_24 i24 ?_
                  refine ri_if_le a_X6_countWays_91 (fun zc23 => ?_) (fun zc23 => ?_)
                  · rw [e24] at zc23
                    exact nxt _ _ (by rw [if_neg (fun q => Int32.not_le.mpr q.2.2.1 zc23)])
                  · refine ri_ald a_X6_countWays_94 rfl ?_
                    refine ri_ald a_X6_countWays_95 rfl ?_
                    refine ri_ild a_X6_countWays_96 rfl ?_
                    refine ri_ild a_X6_countWays_98 rfl ?_
                    refine ri_cVpb (as := [vo 19 s, vi (nI p), vi (nI (popc n))]) (rest := []) (d' := d - 1) a_X6_countWays_100 mv_X6_fits ml_X6_299 (rcC_0 iC_0) (by omega) (ok_X6_fits (by omega) hL1 hs (by omega) (by omega)) (Nat.le_of_ble_eq_true rfl) rfl (fun zc24 => ?_) (fun zc24 => ?_)
                    · refine ri_if_eq a_X6_countWays_103 (fun q => absurd q (by decide)) (fun _ => ?_)
                      refine ri_ild a_X6_countWays_106 rfl ?_
                      refine ri_ald a_X6_countWays_108 rfl ?_
                      refine ri_getR (t' := 24) (i' := 0) a_X6_countWays_109 fl_X6_53 kC_0_10 rfl iC_0 (Or.inr ⟨rfl, rfl, rfl⟩) ?_
                      refine ri_ild a_X6_countWays_112 rfl ?_
                      refine ri_iaload a_X6_countWays_114 lC_24 rfl iC_24 i24 ?_
                      refine ri_iadd a_X6_countWays_115 ?_
                      refine ri_ist (f := fun zx25 => [some (vo 0 0), some (vo 19 s), some (vi al), some (vi (nI n)), some (vi (nI (popc n))), some (vi zx25), some (vi (nI p)), some (vi (nI (n ||| 2 ^ p)))]) a_X6_countWays_116 (fun _ => rfl) (fun zx25 ezx25 => ?_)
                      rw [e24] at zc23 ezx25
                      rw [eV, e20] at zc24
                      exact nxt _ _ (by rw [ezx25, if_pos ⟨zc21, fun q => zc22 (by rw [q]), Int32.not_le.mp zc23, zc24⟩])
                    · refine ri_if_eq a_X6_countWays_103 (fun _ => ?_) (fun q => absurd q (by decide))
                      rw [eV, e20] at zc24
                      exact nxt _ _ (by rw [if_neg (fun q => zc24 q.2.2.2)])
      have skip : ∀ sum j7, m ≤ popc n → sum = waV L (vwC M 0) (M 20 s) al m (M1 24 0) n → lr_W tC sC w d jX6_countWays 45 [some (vo 0 0), some (vo 19 s), some (vi al), some (vi (nI n)), some (vi (nI (popc n))), some (vi sum), some (vi 0), j7] [] M1 (qV fun M' => frT 24 M M' ∧ M' 24 0 = W) := by
        intro sum j7 hge hsum
        refine ri_ild a_X6_countWays_45 rfl ?_
        refine ri_ic a_X6_countWays_47 ?_
        refine ri_icmp_ge a_X6_countWays_49 (fun q => absurd q (by decide)) (fun _ => ?_)
        refine ri_ild a_X6_countWays_52 rfl ?_
        refine ri_ald a_X6_countWays_54 rfl ?_
        refine ri_getI a_X6_countWays_55 fl_X6_256 kC_19_2 rfl (iC_19 (by assumption)) ?_
        refine ri_icmp_ge a_X6_countWays_58 (fun zc11 => ?_) (fun zc11 => ?_)
        · exact post _ _ _ hsum
        · exact absurd (by rw [hm1]; exact nI_le hge (by omega)) zc11
      refine ri_ild a_X6_countWays_16 rfl ?_
      refine ri_if_lt a_X6_countWays_17 (fun zc11 => ?_) (fun zc11 => ?_)
      · refine ri_return a_X6_countWays_138 rfl ?_
        exact absurd zc11 (nI_pos (by omega))
      · refine ri_ild a_X6_countWays_20 rfl ?_
        refine ri_cSpi (as := [vi (nI n)]) (rest := []) (d' := d - 1) a_X6_countWays_21 ms_J6_bitCount_0f7a4 ml_X6_294 (by omega) (ok_J6_bitCount (by omega)) (Nat.le_of_ble_eq_true rfl) rfl (fun zy12 ezy12 => ?_)
        refine ri_istk (ls' := [some (vo 0 0), some (vo 19 s), some (vi al), some (vi (nI n)), some (vi zy12), j5, j6, j7]) a_X6_countWays_24 rfl ?_
        refine ri_ild a_X6_countWays_26 rfl ?_
        refine ri_ald a_X6_countWays_28 rfl ?_
        refine ri_getI a_X6_countWays_29 fl_X6_256 kC_19_2 rfl (iC_19 (by assumption)) ?_
        refine ri_icmp_ne a_X6_countWays_32 (fun zc13 => ?_) (fun zc13 => ?_)
        · refine ri_ic a_X6_countWays_39 ?_
          refine ri_istk (ls' := [some (vo 0 0), some (vo 19 s), some (vi al), some (vi (nI n)), some (vi zy12), some (vi 0), j6, j7]) a_X6_countWays_40 rfl ?_
          refine ri_ic a_X6_countWays_42 ?_
          refine ri_istk (ls' := [some (vo 0 0), some (vo 19 s), some (vi al), some (vi (nI n)), some (vi zy12), some (vi 0), some (vi 0), j7]) a_X6_countWays_43 rfl ?_
          subst ezy12
          rw [hm1] at zc13
          have hne : ¬ popc n = m := fun q => zc13 (by rw [q])
          by_cases hlt : popc n < m
          · exact inner 8 0 0 _ rfl hlt (by rw [waV, if_pos hlt])
          · exact skip _ _ (by omega) (by rw [waV, if_neg hlt, if_neg hne])
        · refine ri_ic a_X6_countWays_35 ?_
          refine ri_goto a_X6_countWays_36 ?_
          refine ri_istk (ls' := [some (vo 0 0), some (vo 19 s), some (vi al), some (vi (nI n)), some (vi zy12), some (vi 1), j6, j7]) a_X6_countWays_40 rfl ?_
          refine ri_ic a_X6_countWays_42 ?_
          refine ri_istk (ls' := [some (vo 0 0), some (vo 19 s), some (vi al), some (vi (nI n)), some (vi zy12), some (vi 1), some (vi 0), j7]) a_X6_countWays_43 rfl ?_
          subst ezy12
          rw [hm1] at zc13
          have he : popc n = m := (nI_eq (by omega) (by omega)).1 zc13
          exact skip _ _ (by omega) (by rw [waV, if_neg (by omega), if_pos he])
  refine lr_ok (by decide +kernel) rfl ?_
  refine ri_ald a_X6_countWays_0 rfl ?_
  refine ri_getR (t' := 1) (i' := 0) a_X6_countWays_1 fl_X6_10 kC_0_0 rfl iC_0 (Or.inr ⟨rfl, rfl, rfl⟩) ?_
  refine ri_cVpi (as := []) (rest := []) (d' := d - 1) a_X6_countWays_4 mv_X0_savedBits ml_X6_171 (rcC_1 (iC_1 (by decide))) (by omega) (ok_X0_savedBits (by decide) hk hk8) (Nat.le_of_ble_eq_true rfl) rfl (fun zy1 ezy1 => ?_)
  refine ri_istk (ls' := [some (vo 0 0), some (vo 19 s), some (vi zy1), none, none, none, none, none]) a_X6_countWays_7 rfl ?_
  refine ri_ald a_X6_countWays_8 rfl ?_
  refine ri_getR (t' := 24) (i' := 0) a_X6_countWays_9 fl_X6_53 kC_0_10 rfl iC_0 (Or.inr ⟨rfl, rfl, rfl⟩) ?_
  refine ri_alen a_X6_countWays_12 lC_24 iC_24 ?_
  refine ri_ic a_X6_countWays_13 ?_
  refine ri_isub a_X6_countWays_14 ?_
  refine ri_ist (f := fun zx2 => [some (vo 0 0), some (vo 19 s), some (vi zy1), some (vi zx2), none, none, none, none]) a_X6_countWays_15 (fun _ => rfl) (fun zx2 ezx2 => ?_)
  subst ezy1
  rw [ezx2, hal]
  exact outer 256 _ _ _ _ M (Nat.le_refl _) frT_refl hW

