/-! reference: signs are laid down -/
def hdM (N : Mem) (z : Nat) (h : Nat) : Mem := up (up N 16 0 z (nI h)) 0 0 27 (nI (z + 1))
theorem ok_X7_holds {w : Wd} {d : Nat} {N : Mem} {z h : Nat} (hz : N 0 0 27 = nI z) (hz2 : z < 200) : lr_Ok tM sM w d jX7_holds [vo 0 0, vi (nI h)] N (qV fun N' => N' = hdM N z h) := by
  have ez : (N 0 0 27).toNatClampNeg = z := by rw [hz, nI_clamp (by omega)]
  refine lr_ok (by decide +kernel) rfl ?_
  refine ri_ald a_X7_holds_0 rfl ?_
  refine ri_getR (t' := 16) (i' := 0) a_X7_holds_1 fl_X7_55 kM_0_26 rfl iM_0 (Or.inr ⟨rfl, rfl, rfl⟩) ?_
  refine ri_ald a_X7_holds_4 rfl ?_
  refine ri_getI a_X7_holds_5 fl_X7_135 kM_0_27 rfl iM_0 ?_
  refine ri_ild a_X7_holds_8 rfl ?_
  refine ri_iastore a_X7_holds_9 lM_16 rfl iM_16 (hz ▸ vp_in_nI (by omega) (by decide)) (fun zM1 ezM1 => ?_)
  refine ri_ald a_X7_holds_10 rfl ?_
  refine ri_dup a_X7_holds_11 (fun _ h => by cases h) ?_
  refine ri_getI a_X7_holds_12 fl_X7_135 kM_0_27 rfl iM_0 ?_
  refine ri_ic a_X7_holds_15 ?_
  refine ri_iadd a_X7_holds_16 ?_
  refine ri_putI a_X7_holds_17 fp_X7_135 kM_0_27 rfl iM_0 (fun zM2 ezM2 => ?_)
  refine ri_return a_X7_holds_20 rfl ?_
  rw [ez] at ezM1
  rw [show zM1 0 0 27 = nI z by rw [ezM1]; exact hz, nI_1, ezM1] at ezM2
  exact rV ezM2
theorem hdM_ed {tp : Nat → Int32} {n tc h : Nat} {N N1 : Mem} {K : List Nat} {acc : List Op} (he : edN tp n tc N K acc) (hh : hdO h) (e28 : N1 0 0 28 = nI (opn (h :: K))) (e : ∀ t i k, ¬ (t = 0 ∧ i = 0 ∧ k = 28) → N1 t i k = hdM N K.length h t i k) : edN tp n tc N1 (h :: K) acc := by
  obtain ⟨a1, a2, a3, a4, a5, a6, a7, a8, a9, a10⟩ := he
  have g : ∀ t i k, ¬ (t = 16 ∧ i = 0 ∧ k = K.length) → ¬ (t = 0 ∧ i = 0 ∧ (k = 27 ∨ k = 28)) → N1 t i k = N t i k := fun t i k q1 q2 => by
    rw [e t i k (by omega)]
    unfold hdM
    rw [up_apply, if_neg (by omega), up_apply, if_neg (by omega)]
  have e16 : N1 16 0 = upd (N 16 0) (K.map nI).length (nI h) := by
    funext k
    rw [e 16 0 k (by omega)]
    unfold hdM
    rw [up_apply, if_neg (by omega), up_apply, upd, List.length_map]
    by_cases q : k = K.length
    · rw [if_pos ⟨rfl, rfl, q⟩, if_pos q]
    · rw [if_neg (fun z => q z.2.2), if_neg q]
  refine ⟨by rw [g 0 0 12 (by omega) (by omega)]; exact a1, fun k hk c hc => by rw [g 15 0 _ (by omega) (by omega)]; exact a2 k hk c hc, by rw [← a3]; exact funext fun k => g 6 0 k (by omega) (by omega), by rw [g 0 0 9 (by omega) (by omega)]; exact a4, ?_, ?_, ?_, e28, by rw [g 0 0 29 (by omega) (by omega)]; exact a9, fun i o ho => by rw [g 7 0 _ (by omega) (by omega)]; exact a10 i o ho⟩
  · rw [e 0 0 27 (by omega)]
    unfold hdM
    rw [up_same]
    rfl
  · rw [e16]
    exact stk_push a6
  · intro x hx
    rcases List.mem_cons.1 hx with q | q
    · rw [q]; exact hh
    · exact a7 x q
theorem hdM_fr {tc z h : Nat} {N : Mem} : frE tc N (hdM N z h) ∧ tkS N (hdM N z h) := by
  unfold hdM
  refine ⟨fun t i k a b c => ?_, fun k a b => ?_⟩
  · rw [up_apply, if_neg (fun q => c ⟨q.1, q.2.1, by omega, by omega⟩), up_apply, if_neg (fun q => a q.1)]
  · rw [up_apply, if_neg (by omega), up_apply, if_neg (by omega)]
theorem ok_X7_opensOne {w : Wd} {d : Nat} (hd : 1 ≤ d) {tp : Nat → Int32} {n tc h : Nat} {N : Mem} {K : List Nat} {acc : List Op} (he : edN tp n tc N K acc) (hK : K.length < 200) (hh : h = 0 ∨ h = 13 ∨ h = 19) : lr_Ok tM sM w d jX7_opensOne [vo 0 0, vi (nI h)] N (qX fun r N' => if opn K = 5 then r = 0 ∧ N' = N else r = 1 ∧ frE tc N N' ∧ tkS N N' ∧ edN tp n tc N' (h :: K) acc) := by
  have e28 : N 0 0 28 = nI (opn K) := he.2.2.2.2.2.2.2.1
  have e27 : N 0 0 27 = nI K.length := he.2.2.2.2.1
  have ho := opn_le K
  refine lr_ok (by decide +kernel) rfl ?_
  refine ri_ald a_X7_opensOne_0 rfl ?_
  refine ri_getI a_X7_opensOne_1 fl_X7_142 kM_0_28 rfl iM_0 ?_
  refine ri_ic a_X7_opensOne_4 ?_
  refine ri_icmp_ne a_X7_opensOne_5 (fun zc1 => ?_) (fun zc1 => ?_)
  · refine ri_ald a_X7_opensOne_10 rfl ?_
    refine ri_dup a_X7_opensOne_11 (fun _ h => by cases h) ?_
    refine ri_getI a_X7_opensOne_12 fl_X7_142 kM_0_28 rfl iM_0 ?_
    refine ri_ic a_X7_opensOne_15 ?_
    refine ri_iadd a_X7_opensOne_16 ?_
    refine ri_putI a_X7_opensOne_17 fp_X7_142 kM_0_28 rfl iM_0 (fun zM11 ezM11 => ?_)
    refine ri_ald a_X7_opensOne_20 rfl ?_
    refine ri_ild a_X7_opensOne_21 rfl ?_
    refine ri_cVxv (as := [vi (nI h)]) (rest := []) (d' := d - 1) a_X7_opensOne_22 mv_X7_holds ml_X7_149 (rcM_0 iM_0) (by omega) (ok_X7_holds (by rw [ezM11]; exact e27) hK) (Nat.le_of_ble_eq_true rfl) rfl (fun zM12 hzM12 => ?_)
    refine ri_ic a_X7_opensOne_25 ?_
    refine ri_ireturn a_X7_opensOne_26 rfl (by decide) ?_
    refine rX ?_
    rw [e28, nI_1] at ezM11
    rw [if_neg (fun q => zc1 (by rw [e28, q]; rfl))]
    have hfr := @hdM_fr tc K.length h zM11
    refine ⟨rfl, ?_, ?_, ?_⟩
    · rw [hzM12]
      refine frE_tr (fun t i k a b c => ?_) hfr.1
      rw [ezM11, up_apply, if_neg (fun q => c ⟨q.1, q.2.1, by omega, by omega⟩)]
    · intro k a b
      rw [hzM12, hfr.2 k a b, ezM11, up_k (by omega)]
    · refine hdM_ed he (by unfold hdO; omega) ?_ (fun t i k q => ?_)
      · rw [hzM12]
        unfold hdM
        rw [up_k (by decide), up_apply, if_neg (by omega), ezM11, up_same, opn, if_pos hh, Nat.add_comm]
      · rw [hzM12, ezM11]
        unfold hdM
        simp only [up_apply]
        repeat' split
        all_goals first | rfl | omega
  · refine ri_ic a_X7_opensOne_8 ?_
    refine ri_ireturn a_X7_opensOne_9 rfl (by decide) ?_
    exact rX (by rw [if_pos ((nI_eq (a := opn K) (b := 5) (by omega) (by decide)).1 (e28.symm.trans zc1))]; exact ⟨rfl, rfl⟩)
def sgR (t : Tok) : Int32 := match bSg t with
  | some h => nI h
  | none => -1
theorem sg_all : ∀ t ∈ TL, sgR t = (if rkT t = 4 then 11 else if rkT t = 5 then 12 else if rkT t = 60 then 14 else if rkT t = 61 then 15 else if rkT t = 43 then 16 else if rkT t = 45 then 17 else if rkT t = 42 then 18 else -1) := by decide +kernel
theorem rkT_2 {t : Tok} (h : t.1 = 2) : rkT t = 1 := by simp only [rkT, h]
theorem bSg_2 {t : Tok} (h : t.1 = 2) : bSg t = none := by
  obtain ⟨a, b⟩ := t
  have h : a = 2 := h
  subst h
  unfold bSg
  simp
theorem sg_eq {t : Tok} (ht : okT t) : sgR t = (if rkT t = 4 then 11 else if rkT t = 5 then 12 else if rkT t = 60 then 14 else if rkT t = 61 then 15 else if rkT t = 43 then 16 else if rkT t = 45 then 17 else if rkT t = 42 then 18 else -1) := by
  rcases TL_ok ht with h | h
  · rw [rkT_2 h]
    unfold sgR
    rw [bSg_2 h]
    decide
  · exact sg_all t h
theorem ok_X7_signOf {w : Wd} {d : Nat} {N : Mem} {t : Tok} (ht : okT t) (h23 : N 0 0 23 = rkT t) : lr_Ok tM sM w d jX7_signOf [vo 0 0] N (qI (sgR t) N) := by
  refine lr_ok (by decide +kernel) rfl ?_
  have h := sg_eq ht
  rw [← h23] at h
  refine ri_ald a_X7_signOf_0 rfl ?_
  refine ri_getI a_X7_signOf_1 fl_X7_122 kM_0_23 rfl iM_0 ?_
  refine ri_ic a_X7_signOf_4 ?_
  refine ri_icmp_ne a_X7_signOf_5 (fun zc1 => ?_) (fun zc1 => ?_)
  · refine ri_ald a_X7_signOf_13 rfl ?_
    refine ri_getI a_X7_signOf_14 fl_X7_122 kM_0_23 rfl iM_0 ?_
    refine ri_ic a_X7_signOf_17 ?_
    refine ri_icmp_ne a_X7_signOf_18 (fun zc2 => ?_) (fun zc2 => ?_)
    · refine ri_ald a_X7_signOf_26 rfl ?_
      refine ri_getI a_X7_signOf_27 fl_X7_122 kM_0_23 rfl iM_0 ?_
      refine ri_ic a_X7_signOf_30 ?_
      refine ri_icmp_ne a_X7_signOf_32 (fun zc3 => ?_) (fun zc3 => ?_)
      · refine ri_ald a_X7_signOf_40 rfl ?_
        refine ri_getI a_X7_signOf_41 fl_X7_122 kM_0_23 rfl iM_0 ?_
        refine ri_ic a_X7_signOf_44 ?_
        refine ri_icmp_ne a_X7_signOf_46 (fun zc4 => ?_) (fun zc4 => ?_)
        · refine ri_ald a_X7_signOf_54 rfl ?_
          refine ri_getI a_X7_signOf_55 fl_X7_122 kM_0_23 rfl iM_0 ?_
          refine ri_ic a_X7_signOf_58 ?_
          refine ri_icmp_ne a_X7_signOf_60 (fun zc5 => ?_) (fun zc5 => ?_)
          · refine ri_ald a_X7_signOf_68 rfl ?_
            refine ri_getI a_X7_signOf_69 fl_X7_122 kM_0_23 rfl iM_0 ?_
            refine ri_ic a_X7_signOf_72 ?_
            refine ri_icmp_ne a_X7_signOf_74 (fun zc6 => ?_) (fun zc6 => ?_)
            · refine ri_ald a_X7_signOf_82 rfl ?_
              refine ri_getI a_X7_signOf_83 fl_X7_122 kM_0_23 rfl iM_0 ?_
              refine ri_ic a_X7_signOf_86 ?_
              refine ri_icmp_ne a_X7_signOf_88 (fun zc7 => ?_) (fun zc7 => ?_)
              · refine ri_ic a_X7_signOf_96 ?_
                refine ri_ireturn a_X7_signOf_97 rfl rfl ?_
                refine rI ?_ rfl
                rw [h]
                (repeat first | rw [if_pos (by assumption)] | rw [if_neg (by assumption)])
              · refine ri_ic a_X7_signOf_91 ?_
                refine ri_goto a_X7_signOf_93 ?_
                refine ri_ireturn a_X7_signOf_97 rfl rfl ?_
                refine rI ?_ rfl
                rw [h]
                (repeat first | rw [if_pos (by assumption)] | rw [if_neg (by assumption)])
            · refine ri_ic a_X7_signOf_77 ?_
              refine ri_goto a_X7_signOf_79 ?_
              refine ri_ireturn a_X7_signOf_97 rfl rfl ?_
              refine rI ?_ rfl
              rw [h]
              (repeat first | rw [if_pos (by assumption)] | rw [if_neg (by assumption)])
          · refine ri_ic a_X7_signOf_63 ?_
            refine ri_goto a_X7_signOf_65 ?_
            refine ri_ireturn a_X7_signOf_97 rfl rfl ?_
            refine rI ?_ rfl
            rw [h]
            (repeat first | rw [if_pos (by assumption)] | rw [if_neg (by assumption)])
        · refine ri_ic a_X7_signOf_49 ?_
          refine ri_goto a_X7_signOf_51 ?_
          refine ri_ireturn a_X7_signOf_97 rfl rfl ?_
          refine rI ?_ rfl
          rw [h]
          (repeat first | rw [if_pos (by assumption)] | rw [if_neg (by assumption)])
      · refine ri_ic a_X7_signOf_35 ?_
        refine ri_goto a_X7_signOf_37 ?_
        refine ri_ireturn a_X7_signOf_97 rfl rfl ?_
        refine rI ?_ rfl
        rw [h]
        (repeat first | rw [if_pos (by assumption)] | rw [if_neg (by assumption)])
    · refine ri_ic a_X7_signOf_21 ?_
      refine ri_goto a_X7_signOf_23 ?_
      refine ri_ireturn a_X7_signOf_97 rfl rfl ?_
      refine rI ?_ rfl
      rw [h]
      (repeat first | rw [if_pos (by assumption)] | rw [if_neg (by assumption)])
  · refine ri_ic a_X7_signOf_8 ?_
    refine ri_goto a_X7_signOf_10 ?_
    refine ri_ireturn a_X7_signOf_97 rfl rfl ?_
    refine rI ?_ rfl
    rw [h]
    (repeat first | rw [if_pos (by assumption)] | rw [if_neg (by assumption)])
theorem bSg_hd {t : Tok} {h : Nat} (e : bSg t = some h) : h = 11 ∨ h = 12 ∨ h = 14 ∨ h = 15 ∨ h = 16 ∨ h = 17 ∨ h = 18 := by
  unfold bSg at e
  repeat' split at e
  all_goals first | (injection e with e; omega) | cases e
theorem ok_X7_between {w : Wd} {d : Nat} (hd : 2 ≤ d) {tp : Nat → Int32} {n tc h : Nat} (ht6 : tc < 6) {N : Mem} {K : List Nat} {acc : List Op} (he : edN tp n tc N K acc) (hl : acc.length + K.length < 199) (hh : h = 11 ∨ h = 12 ∨ h = 14 ∨ h = 15 ∨ h = 16 ∨ h = 17 ∨ h = 18) : lr_Ok tM sM w d jX7_between [vo 0 0, vi (nI h)] N (qX fun r N' => if rk h = 4 ∧ tis (unw (if rk h = 4 then 5 else rk h) K acc).1 4 = true then r = 0 ∧ frE tc N N' ∧ tkS N N' else r = 1 ∧ frE tc N N' ∧ tkS N N' ∧ edN tp n tc N' (h :: (unw (if rk h = 4 then 5 else rk h) K acc).1) (unw (if rk h = 4 then 5 else rk h) K acc).2) := by
  have hh2 : hdO h := by unfold hdO; omega
  have hrk : ∀ M, lr_Ok tM sM w (d - 1) jX7_rank [vi (nI h)] M (qI (nI (rk h)) M) := fun M => ok_X7_rank hh2
  have rk7 : 1 ≤ rk h ∧ rk h ≤ 7 := by rcases hh with rfl | rfl | rfl | rfl | rfl | rfl | rfl <;> decide
  have hno : ∀ K, opn (h :: K) = opn K := fun K => by rw [opn, if_neg (by omega)]; omega
  generalize hr' : (if rk h = 4 then 5 else rk h) = r'
  have hr7 : 1 ≤ r' ∧ r' ≤ 7 := by rw [← hr']; split <;> omega
  have hul := @unw_len r' K acc
  generalize hU : unw r' K acc = U at hul
  -- after unwinding
  have fin : ∀ N1, frE tc N N1 → tkS N N1 → edN tp n tc N1 U.1 U.2 → lr_W tM sM w d jX7_between 55 [some (vo 0 0), some (vi (nI h))] [] N1 (qX fun r N' => r = 1 ∧ frE tc N N' ∧ tkS N N' ∧ edN tp n tc N' (h :: U.1) U.2) := by
    intro N1 hf hs he1
    refine ri_ald a_X7_between_55 rfl ?_
    refine ri_ild a_X7_between_56 rfl ?_
    refine ri_cVxv (as := [vi (nI h)]) (rest := []) (d' := d - 1) a_X7_between_57 mv_X7_holds ml_X7_149 (rcM_0 iM_0) (by omega) (ok_X7_holds he1.2.2.2.2.1 (by omega)) (Nat.le_of_ble_eq_true rfl) rfl (fun zM11 hzM11 => ?_)
    refine ri_ic a_X7_between_60 ?_
    refine ri_ireturn a_X7_between_61 rfl (by decide) ?_
    have hfr := @hdM_fr tc U.1.length h N1
    rw [← hzM11] at hfr
    refine rX ⟨rfl, frE_tr hf hfr.1, fun k a b => by rw [hfr.2 k a b]; exact hs k a b, hdM_ed he1 hh2 ?_ (fun t i k _ => by rw [hzM11])⟩
    rw [hno, hzM11]
    exact he1.2.2.2.2.2.2.2.1
  have aft : ∀ N1, frE tc N N1 → tkS N N1 → edN tp n tc N1 U.1 U.2 → lr_W tM sM w d jX7_between 20 [some (vo 0 0), some (vi (nI h))] [] N1 (qX fun r N' => if rk h = 4 ∧ tis U.1 4 = true then r = 0 ∧ frE tc N N' ∧ tkS N N' else r = 1 ∧ frE tc N N' ∧ tkS N N' ∧ edN tp n tc N' (h :: U.1) U.2) := by
    intro N1 hf hs he1
    have e27 : N1 0 0 27 = nI U.1.length := he1.2.2.2.2.1
    have done : ¬ (rk h = 4 ∧ tis U.1 4 = true) → lr_W tM sM w d jX7_between 55 [some (vo 0 0), some (vi (nI h))] [] N1 (qX fun r N' => if rk h = 4 ∧ tis U.1 4 = true then r = 0 ∧ frE tc N N' ∧ tkS N N' else r = 1 ∧ frE tc N N' ∧ tkS N N' ∧ edN tp n tc N' (h :: U.1) U.2) := fun hq => by
      refine lr_Wimp (fin N1 hf hs he1) ?_
      rintro r M' ⟨y, h1, h2⟩
      exact ⟨y, h1, by dsimp only; rw [if_neg hq]; exact h2⟩
    refine ri_ild a_X7_between_20 rfl ?_
    refine ri_cSpi (as := [vi (nI h)]) (rest := []) (d' := d - 1) a_X7_between_21 ms_X7_rank ml_X7_138 (by omega) (hrk N1) (Nat.le_of_ble_eq_true rfl) rfl (fun zy11 ezy11 => ?_)
    refine ri_ic a_X7_between_24 ?_
    refine ri_icmp_ne a_X7_between_25 (fun zc12 => ?_) (fun zc12 => ?_)
    · exact done (fun q => zc12 (by rw [ezy11, q.1]; rfl))
    · refine ri_ald a_X7_between_28 rfl ?_
      refine ri_getI a_X7_between_29 fl_X7_135 kM_0_27 rfl iM_0 ?_
      refine ri_if_le a_X7_between_32 (fun zc13 => ?_) (fun zc13 => ?_)
      · refine done (fun q => ?_)
        have := q.2
        cases hU1 : U.1 with
        | nil => rw [hU1] at this; exact absurd this (by decide)
        | cons g t =>
          have hlen : U.1.length = t.length + 1 := by rw [hU1]; rfl
          rw [e27] at zc13
          exact absurd zc13 (Int32.not_le.mpr (by rw [hlen]; exact nI_lt (a := 0) (by omega) (by omega)))
      · cases hU1 : U.1 with
        | nil => exact absurd (by rw [e27, hU1]; decide) zc13
        | cons g t =>
          have hg : hdO g := he1.2.2.2.2.2.2.1 g (by rw [hU1]; exact List.mem_cons_self)
          have hst := he1.2.2.2.2.2.1
          rw [hU1] at hst
          have e27' : N1 0 0 27 = nI (t.length + 1) := by rw [e27, hU1]; rfl
          have hlen : U.1.length = t.length + 1 := by rw [hU1]; rfl
          have top : N1 16 0 (N1 0 0 27 - 1).toNatClampNeg = nI g := by
            rw [e27', nI_pred, nI_clamp (by omega)]
            have := hst.1
            rw [List.length_map] at this
            exact this
          have hrg := ok_X7_rank (T := tM) (S := sM) (w := w) (d := d - 1) (M := N1) hg
          rw [← top] at hrg
          have rg7 := rk_lt hg
          have h4 : rk h = 4 := (nI_eq (a := rk h) (b := 4) (by omega) (by decide)).1 (ezy11.symm.trans zc12)
          refine ri_ald a_X7_between_35 rfl ?_
          refine ri_getR (t' := 16) (i' := 0) a_X7_between_36 fl_X7_55 kM_0_26 rfl iM_0 (Or.inr ⟨rfl, rfl, rfl⟩) ?_
          refine ri_ald a_X7_between_39 rfl ?_
          refine ri_getI a_X7_between_40 fl_X7_135 kM_0_27 rfl iM_0 ?_
          refine ri_ic a_X7_between_43 ?_
          refine ri_isub a_X7_between_44 ?_
          refine ri_iaload a_X7_between_45 lM_16 rfl iM_16 (by rw [e27', nI_pred]; exact vp_in_nI (by omega) (by decide)) ?_
          refine ri_cSpi (as := [vi (N1 16 0 ((N1 0 0 27) - 1).toNatClampNeg)]) (rest := []) (d' := d - 1) a_X7_between_46 ms_X7_rank ml_X7_138 (by omega) (hrg) (Nat.le_of_ble_eq_true rfl) rfl (fun zy21 ezy21 => ?_)
          refine ri_ic a_X7_between_49 ?_
          refine ri_icmp_ne a_X7_between_50 (fun zc22 => ?_) (fun zc22 => ?_)
          · rw [← hU1]
            refine done (fun q => zc22 ?_)
            have := q.2
            rw [hU1, tis, decide_eq_true_eq] at this
            rw [ezy21, this]
            rfl
          · refine ri_ic a_X7_between_53 ?_
            refine ri_ireturn a_X7_between_54 rfl (by decide) ?_
            refine rX ?_
            have q4 : rk g = 4 := (nI_eq (a := rk g) (b := 4) (by omega) (by decide)).1 (ezy21.symm.trans zc22)
            rw [if_pos ⟨h4, by rw [tis, decide_eq_true_eq]; exact q4⟩]
            exact ⟨rfl, hf, hs⟩
  refine lr_ok (by decide +kernel) rfl ?_
  have un : ∀ x, x = nI r' → lr_Ok tM sM w (d - 1) jX7_unwinds [vo 0 0, vi x] N (qV fun N' => frE tc N N' ∧ tkS N N' ∧ edN tp n tc N' U.1 U.2) := by
    intro x hx
    rw [hx, ← hU]
    exact ok_X7_unwinds (by omega) ht6 hr7.1 hr7.2 K N acc he (by omega)
  by_cases h4 : rk h = 4
  · skip
    refine ri_ald a_X7_between_0 rfl ?_
    refine ri_ild a_X7_between_1 rfl ?_
    refine ri_cSpi (as := [vi (nI h)]) (rest := [vo 0 0]) (d' := d - 1) a_X7_between_2 ms_X7_rank ml_X7_138 (by omega) (hrk N) (Nat.le_of_ble_eq_true rfl) rfl (fun zy11 ezy11 => ?_)
    refine ri_ic a_X7_between_5 ?_
    refine ri_icmp_ne a_X7_between_6 (fun zc12 => ?_) (fun zc12 => ?_)
    · refine ri_ild a_X7_between_13 rfl ?_
      refine ri_cSpi (as := [vi (nI h)]) (rest := [vo 0 0]) (d' := d - 1) a_X7_between_14 ms_X7_rank ml_X7_138 (by omega) (hrk N) (Nat.le_of_ble_eq_true rfl) rfl (fun zy13 ezy13 => ?_)
      refine ri_cVxv (as := [vi zy13]) (rest := []) (d' := d - 1) a_X7_between_17 mv_X7_unwinds ml_X7_152 (rcM_0 iM_0) (by omega) (un _ (by first | (rw [← hr', if_pos h4]; rfl) | (rw [← hr', if_pos h4]; assumption) | (exfalso; exact h4 ((nI_eq (a := rk h) (b := 4) (by omega) (by decide)).1 (ezy11.symm.trans zc12))) | (exfalso; exact zc12 (by rw [ezy11, h4]; rfl)))) (Nat.le_of_ble_eq_true rfl) rfl (fun zM14 hzM14 => ?_)
      first
      | exact aft _ hzM14.1 hzM14.2.1 hzM14.2.2
      | exact aft _ hzM15.1 hzM15.2.1 hzM15.2.2
    · refine ri_ic a_X7_between_9 ?_
      refine ri_goto a_X7_between_10 ?_
      refine ri_cVxv (as := [vi 5]) (rest := []) (d' := d - 1) a_X7_between_17 mv_X7_unwinds ml_X7_152 (rcM_0 iM_0) (by omega) (un _ (by first | (rw [← hr', if_pos h4]; rfl) | (rw [← hr', if_pos h4]; assumption) | (exfalso; exact h4 ((nI_eq (a := rk h) (b := 4) (by omega) (by decide)).1 (ezy11.symm.trans zc12))) | (exfalso; exact zc12 (by rw [ezy11, h4]; rfl)))) (Nat.le_of_ble_eq_true rfl) rfl (fun zM15 hzM15 => ?_)
      first
      | exact aft _ hzM14.1 hzM14.2.1 hzM14.2.2
      | exact aft _ hzM15.1 hzM15.2.1 hzM15.2.2
  · skip
    refine ri_ald a_X7_between_0 rfl ?_
    refine ri_ild a_X7_between_1 rfl ?_
    refine ri_cSpi (as := [vi (nI h)]) (rest := [vo 0 0]) (d' := d - 1) a_X7_between_2 ms_X7_rank ml_X7_138 (by omega) (hrk N) (Nat.le_of_ble_eq_true rfl) rfl (fun zy11 ezy11 => ?_)
    refine ri_ic a_X7_between_5 ?_
    refine ri_icmp_ne a_X7_between_6 (fun zc12 => ?_) (fun zc12 => ?_)
    · refine ri_ild a_X7_between_13 rfl ?_
      refine ri_cSpi (as := [vi (nI h)]) (rest := [vo 0 0]) (d' := d - 1) a_X7_between_14 ms_X7_rank ml_X7_138 (by omega) (hrk N) (Nat.le_of_ble_eq_true rfl) rfl (fun zy13 ezy13 => ?_)
      refine ri_cVxv (as := [vi zy13]) (rest := []) (d' := d - 1) a_X7_between_17 mv_X7_unwinds ml_X7_152 (rcM_0 iM_0) (by omega) (un _ (by first | (rw [← hr', if_neg h4]; rfl) | (rw [← hr', if_neg h4]; assumption) | (exfalso; exact h4 ((nI_eq (a := rk h) (b := 4) (by omega) (by decide)).1 (ezy11.symm.trans zc12))) | (exfalso; exact zc12 (by rw [ezy11, h4]; rfl)))) (Nat.le_of_ble_eq_true rfl) rfl (fun zM14 hzM14 => ?_)
      first
      | exact aft _ hzM14.1 hzM14.2.1 hzM14.2.2
      | exact aft _ hzM15.1 hzM15.2.1 hzM15.2.2
    · refine ri_ic a_X7_between_9 ?_
      refine ri_goto a_X7_between_10 ?_
      refine ri_cVxv (as := [vi 5]) (rest := []) (d' := d - 1) a_X7_between_17 mv_X7_unwinds ml_X7_152 (rcM_0 iM_0) (by omega) (un _ (by first | (rw [← hr', if_neg h4]; rfl) | (rw [← hr', if_neg h4]; assumption) | (exfalso; exact h4 ((nI_eq (a := rk h) (b := 4) (by omega) (by decide)).1 (ezy11.symm.trans zc12))) | (exfalso; exact zc12 (by rw [ezy11, h4]; rfl)))) (Nat.le_of_ble_eq_true rfl) rfl (fun zM15 hzM15 => ?_)
      first
      | exact aft _ hzM14.1 hzM14.2.1 hzM14.2.2
      | exact aft _ hzM15.1 hzM15.2.1 hzM15.2.2

