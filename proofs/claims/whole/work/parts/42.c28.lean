/-! class: film -/
def flM (L : List (List Op)) (V : Vw) (O : Nat → Nat) (M0 : Mem) (q : Nat) : Nat → Mem
  | 0 => M0
  | i + 1 => up (flM L V O M0 q i) 20 q i (hiS L V O (i + 1))
theorem flM_ne {L : List (List Op)} {V : Vw} {O : Nat → Nat} {M0 : Mem} {q t : Nat} (ht : t ≠ 20) : ∀ i, flM L V O M0 q i t = M0 t := by
  intro i
  induction i with
  | zero => rfl
  | succ i ih =>
    funext a b
    rw [flM, up_apply, if_neg (fun h => ht h.1), ih]
theorem zer_ne {M : Mem} {q t : Nat} {so n : Int32} (h1 : t ≠ 19) (h2 : t ≠ 20) : zer M q so n t = M t := by
  funext a b
  rw [zer, upr_apply, if_neg (fun h => h2 h.1), up_apply, if_neg (fun h => h1 h.1), up_apply, if_neg (fun h => h1 h.1)]
theorem ok_X6_film {w : Wd} {d : Nat} (hd : 5 ≤ d) {M : Mem} {q k : Nat} {L : List (List Op)} {O : Nat → Nat} (hL : lawC M 0 L) (hq : q < 4) (hk : M 1 0 7 = nI k) (hk8 : k ≤ 8) (hO : rowA (M 7 0) O k) : lr_Ok tC sC w d jX6_film [vo 0 0, vi (nI q)] M (qX fun r M' => r = nI k ∧ M' = flM L (vwC M 0) O (zer M q 2 (nI k)) q k) := by
  generalize hZ : zer M q 2 (nI k) = Z
  have ne : ∀ i t, t ≠ 19 → t ≠ 20 → flM L (vwC M 0) O Z q i t = M t := fun i t h1 h2 => by rw [flM_ne h2, ← hZ, zer_ne h1 h2]
  have loop : ∀ r i, k = i + r → lr_W tC sC w d jX6_film 35 [some (vo 0 0), some (vi (nI q)), some (vo 19 q), some (vi (hiS L (vwC M 0) O i)), some (vi (nI i))] [] (flM L (vwC M 0) O Z q i) (qX fun r M' => r = nI k ∧ M' = flM L (vwC M 0) O Z q k) := by
    intro r
    induction r with
    | zero =>
      intro i hi
      have : k = i := hi
      subst this
      have ek : flM L (vwC M 0) O Z q k 1 0 7 = nI k := by rw [ne k 1 (by decide) (by decide), hk]
      generalize hM1 : flM L (vwC M 0) O Z q k = M1 at *
      refine ri_ild a_X6_film_35 rfl ?_
      refine ri_ald a_X6_film_37 rfl ?_
      refine ri_getR (t' := 1) (i' := 0) a_X6_film_38 fl_X6_10 kC_0_0 rfl iC_0 (Or.inr ⟨rfl, rfl, rfl⟩) ?_
      refine ri_getI a_X6_film_41 fl_X6_90 kC_1_7 rfl (iC_1 (by decide)) ?_
      refine ri_icmp_ge a_X6_film_44 (fun zc11 => ?_) (fun zc11 => ?_)
      · refine ri_ald a_X6_film_83 rfl ?_
        refine ri_getR (t' := 1) (i' := 0) a_X6_film_84 fl_X6_10 kC_0_0 rfl iC_0 (Or.inr ⟨rfl, rfl, rfl⟩) ?_
        refine ri_getI a_X6_film_87 fl_X6_90 kC_1_7 rfl (iC_1 (by decide)) ?_
        refine ri_ireturn a_X6_film_90 rfl rfl ?_
        exact rX ⟨ek, rfl⟩
      · exact absurd (by rw [ek]; exact Int32.le_refl _) zc11
    | succ r ih =>
      intro i hi
      have ih1 := ih (i + 1) (by omega)
      obtain ⟨hr0, h8⟩ := hO i (by omega)
      have ek : flM L (vwC M 0) O Z q i 1 0 7 = nI k := by rw [ne i 1 (by decide) (by decide), hk]
      have eg : flM L (vwC M 0) O Z q i 7 0 (nI i).toNatClampNeg = nI (O i) := by rw [ne i 7 (by decide) (by decide), nI_clamp (by omega)]; exact hr0
      have e1 : flM L (vwC M 0) O Z q i 19 q 1 = 2 := by rw [flM_ne (by decide), ← hZ, zer, upr_apply, if_neg (by omega), up_apply, if_neg (by omega), up_same]
      have e2 : flM L (vwC M 0) O Z q i 19 q 2 = nI k := by rw [flM_ne (by decide), ← hZ, zer, upr_apply, if_neg (by omega), up_same]
      have eL : lawC (flM L (vwC M 0) O Z q i) 0 L := lawC_fr (ne i 1 (by decide) (by decide)) (ne i 9 (by decide) (by decide)) (ne i 10 (by decide) (by decide)) hL
      have eV : vwC (flM L (vwC M 0) O Z q i) 0 = vwC M 0 := vwC_fr (ne i 1 (by decide) (by decide)) (ne i 2 (by decide) (by decide)) (ne i 3 (by decide) (by decide)) (ne i 4 (by decide) (by decide)) (ne i 5 (by decide) (by decide))
      rw [flM] at ih1
      generalize hM1 : flM L (vwC M 0) O Z q i = M1 at ih1 ek eg e1 e2 eL eV ⊢
      refine ri_ild a_X6_film_35 rfl ?_
      refine ri_ald a_X6_film_37 rfl ?_
      refine ri_getR (t' := 1) (i' := 0) a_X6_film_38 fl_X6_10 kC_0_0 rfl iC_0 (Or.inr ⟨rfl, rfl, rfl⟩) ?_
      refine ri_getI a_X6_film_41 fl_X6_90 kC_1_7 rfl (iC_1 (by decide)) ?_
      refine ri_icmp_ge a_X6_film_44 (fun zc11 => ?_) (fun zc11 => ?_)
      · refine ri_ald a_X6_film_83 rfl ?_
        refine ri_getR (t' := 1) (i' := 0) a_X6_film_84 fl_X6_10 kC_0_0 rfl iC_0 (Or.inr ⟨rfl, rfl, rfl⟩) ?_
        refine ri_getI a_X6_film_87 fl_X6_90 kC_1_7 rfl (iC_1 (by decide)) ?_
        refine ri_ireturn a_X6_film_90 rfl rfl ?_
        exact absurd zc11 (by rw [ek]; exact nI_ge (by omega) (by omega))
      · refine ri_ild a_X6_film_47 rfl ?_
        refine ri_ald a_X6_film_48 rfl ?_
        refine ri_ald a_X6_film_49 rfl ?_
        refine ri_getR (t' := 1) (i' := 0) a_X6_film_50 fl_X6_10 kC_0_0 rfl iC_0 (Or.inr ⟨rfl, rfl, rfl⟩) ?_
        refine ri_ald a_X6_film_53 rfl ?_
        refine ri_getR (t' := 1) (i' := 0) a_X6_film_54 fl_X6_10 kC_0_0 rfl iC_0 (Or.inr ⟨rfl, rfl, rfl⟩) ?_
        refine ri_getR (t' := 7) (i' := 0) a_X6_film_57 fl_X6_144 kC_1_5 rfl (iC_1 (by decide)) (Or.inl ⟨rfl, rfl, rfl⟩) ?_
        refine ri_ild a_X6_film_60 rfl ?_
        refine ri_iaload a_X6_film_62 lC_7 rfl (iC_7 (by decide)) ?_ ?_
        · exact vp_in_nI (by omega) (by decide)
        rw [eg]
        refine ri_ild a_X6_film_63 rfl ?_
        refine ri_cVpi (as := [vo 1 0, vi (nI (O i)), vi (nI i)]) (rest := [vi (hiS L (vwC M 0) O i)]) (d' := d - 1) a_X6_film_65 mv_X6_risesOf ml_X6_232 (rcC_0 iC_0) (by omega) (ok_X6_risesOf (by omega) eL (by decide) h8 (nI i)) (Nat.le_of_ble_eq_true rfl) rfl (fun zy21 ezy21 => ?_)
        refine ri_iadd a_X6_film_68 ?_
        refine ri_ist (f := fun zx22 => [some (vo 0 0), some (vi (nI q)), some (vo 19 q), some (vi zx22), some (vi (nI i))]) a_X6_film_69 (fun _ => rfl) (fun zx22 ezx22 => ?_)
        refine ri_ald a_X6_film_70 rfl ?_
        refine ri_ild a_X6_film_71 rfl ?_
        refine ri_ild a_X6_film_73 rfl ?_
        refine ri_cVxv (as := [vi (nI i), vi zx22]) (rest := []) (d' := d - 1) a_X6_film_74 mv_X4_write ml_X6_236 (rcC_19 (iC_19 (by assumption))) (by omega) (ok_X4_write (by omega) hq (nI i) zx22 e2 (by omega)) (Nat.le_of_ble_eq_true rfl) rfl (fun zM23 hzM23 => ?_)
        refine ri_iinc (c0 := 1) (f := fun zx24 => [some (vo 0 0), some (vi (nI q)), some (vo 19 q), some (vi zx22), some (vi zx24)]) a_X6_film_77 rfl (by decide) (fun _ => rfl) (fun zx24 ezx24 => ?_)
        refine ri_goto a_X6_film_80 ?_
        have hx : zx22 = hiS L (vwC M 0) O (i + 1) := by rw [ezx22, ezy21, eV]; rfl
        have hb : 0 ≤ nI i ∧ nI i < nI k := ⟨nI_pos' (by omega), nI_lt (by omega) (by omega)⟩
        rw [if_pos hb, e1, nI_clamp (by omega), show narV 2 zx22 = zx22 from rfl, hx] at hzM23
        rw [hx, ezx24, nI_1, hzM23]
        exact ih1
  refine lr_ok (by decide +kernel) rfl ?_
  refine ri_ild a_X6_film_0 rfl ?_
  refine ri_ic a_X6_film_1 ?_
  refine ri_cSpb (as := [vi (nI q), vi 3]) (rest := []) (d' := d - 1) a_X6_film_2 ms_X6_within ml_X6_102 (by omega) (ok_X6_within (nI q) 3) (Nat.le_of_ble_eq_true rfl) rfl (fun zc1 => ?_) (fun zc1 => ?_)
  · refine ri_if_ne a_X6_film_5 (fun _ => ?_) (fun q => absurd q (by decide))
    refine ri_ald a_X6_film_11 rfl ?_
    refine ri_getR (t' := 22) (i' := 0) a_X6_film_12 fl_X6_38 kC_0_7 rfl iC_0 (Or.inr ⟨rfl, rfl, rfl⟩) ?_
    refine ri_ild a_X6_film_15 rfl ?_
    refine ri_aaloadE (k0 := q) a_X6_film_16 lC_22 (by decide) iC_22 (nI_clamp (by omega)) (vp_in_nI hq (by decide)) ?_
    refine ri_ast (ls' := [some (vo 0 0), some (vi (nI q)), some (vo 19 q), none, none]) a_X6_film_17 rfl ?_
    refine ri_ald a_X6_film_18 rfl ?_
    refine ri_ic a_X6_film_19 ?_
    refine ri_ald a_X6_film_20 rfl ?_
    refine ri_getR (t' := 1) (i' := 0) a_X6_film_21 fl_X6_10 kC_0_0 rfl iC_0 (Or.inr ⟨rfl, rfl, rfl⟩) ?_
    refine ri_getI a_X6_film_24 fl_X6_90 kC_1_7 rfl (iC_1 (by decide)) ?_
    refine ri_cVxv (as := [vi 2, vi (M 1 0 7)]) (rest := []) (d' := d - 1) a_X6_film_27 mv_X4_becomeZeros ml_X6_229 (rcC_19 (iC_19 (by assumption))) (by omega) (ok_X4_becomeZeros (by omega) hq 2 (M 1 0 7)) (Nat.le_of_ble_eq_true rfl) rfl (fun zM2 hzM2 => ?_)
    refine ri_ic a_X6_film_30 ?_
    refine ri_istk (ls' := [some (vo 0 0), some (vi (nI q)), some (vo 19 q), some (vi 0), none]) a_X6_film_31 rfl ?_
    refine ri_ic a_X6_film_32 ?_
    refine ri_istk (ls' := [some (vo 0 0), some (vi (nI q)), some (vo 19 q), some (vi 0), some (vi 0)]) a_X6_film_33 rfl ?_
    have h0 := loop k 0 (by omega)
    rw [hk, hZ] at hzM2
    rw [hzM2]
    exact h0
  · refine ri_if_ne a_X6_film_5 (fun q => absurd q (by decide)) (fun _ => ?_)
    refine ri_ic a_X6_film_8 ?_
    refine ri_ireturn a_X6_film_10 rfl rfl ?_
    exact absurd (s4 hq) zc1
theorem no_X6_film {w : Wd} {d : Nat} (hd : 1 ≤ d) {M : Mem} {s : Int32} (hs : ¬ (0 ≤ s ∧ s ≤ 3)) : lr_Ok tC sC w d jX6_film [vo 0 0, vi s] M (qI (-2) M) := by
  refine lr_ok (by decide +kernel) rfl ?_
  refine ri_ild a_X6_film_0 rfl ?_
  refine ri_ic a_X6_film_1 ?_
  refine ri_cSpb (as := [vi s, vi 3]) (rest := []) (d' := d - 1) a_X6_film_2 ms_X6_within ml_X6_102 (by omega) (ok_X6_within s 3) (Nat.le_of_ble_eq_true rfl) rfl (fun zc1 => ?_) (fun zc1 => ?_)
  · refine ri_if_ne a_X6_film_5 (fun _ => ?_) (fun q => absurd q (by decide))
    exact absurd zc1 hs
  · refine ri_if_ne a_X6_film_5 (fun q => absurd q (by decide)) (fun _ => ?_)
    refine ri_ic a_X6_film_8 ?_
    refine ri_ireturn a_X6_film_10 rfl rfl ?_
    exact rI rfl rfl

