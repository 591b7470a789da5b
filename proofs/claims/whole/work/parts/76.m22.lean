/-! reference: signs that are held -/
def hdO (h : Nat) : Prop := h = 0 ∨ (11 ≤ h ∧ h ≤ 19)
theorem hdO_c {h : Nat} (hh : hdO h) : h = 0 ∨ h = 11 ∨ h = 12 ∨ h = 13 ∨ h = 14 ∨ h = 15 ∨ h = 16 ∨ h = 17 ∨ h = 18 ∨ h = 19 := by
  unfold hdO at hh
  omega
theorem ok_X7_rank {T : Tb} {S : Nat → Bool} {w : Wd} {d : Nat} {M : Mem} {h : Nat} (hh : hdO h) : lr_Ok T S w d jX7_rank [vi (nI h)] M (qI (nI (rk h)) M) := by
  refine lr_ok (by decide +kernel) rfl ?_
  rcases hdO_c hh with rfl | rfl | rfl | rfl | rfl | rfl | rfl | rfl | rfl | rfl
  · skip
    refine ri_ild a_X7_rank_0 rfl ?_
    refine ri_if_ne a_X7_rank_1 (fun q => absurd q (by decide)) (fun _ => ?_)
    refine ri_ic a_X7_rank_4 ?_
    refine ri_goto a_X7_rank_5 ?_
    refine ri_ireturn a_X7_rank_71 rfl rfl ?_
    exact rI (by decide) rfl
  · skip
    refine ri_ild a_X7_rank_0 rfl ?_
    refine ri_if_ne a_X7_rank_1 (fun _ => ?_) (fun q => absurd q (by decide))
    refine ri_ild a_X7_rank_8 rfl ?_
    refine ri_ic a_X7_rank_9 ?_
    refine ri_icmp_ne a_X7_rank_11 (fun q => absurd q (by decide)) (fun _ => ?_)
    refine ri_ic a_X7_rank_14 ?_
    refine ri_goto a_X7_rank_15 ?_
    refine ri_ireturn a_X7_rank_71 rfl rfl ?_
    exact rI (by decide) rfl
  · skip
    refine ri_ild a_X7_rank_0 rfl ?_
    refine ri_if_ne a_X7_rank_1 (fun _ => ?_) (fun q => absurd q (by decide))
    refine ri_ild a_X7_rank_8 rfl ?_
    refine ri_ic a_X7_rank_9 ?_
    refine ri_icmp_ne a_X7_rank_11 (fun _ => ?_) (fun q => absurd q (by decide))
    refine ri_ild a_X7_rank_18 rfl ?_
    refine ri_ic a_X7_rank_19 ?_
    refine ri_icmp_ne a_X7_rank_21 (fun q => absurd q (by decide)) (fun _ => ?_)
    refine ri_ic a_X7_rank_24 ?_
    refine ri_goto a_X7_rank_25 ?_
    refine ri_ireturn a_X7_rank_71 rfl rfl ?_
    exact rI (by decide) rfl
  · skip
    refine ri_ild a_X7_rank_0 rfl ?_
    refine ri_if_ne a_X7_rank_1 (fun _ => ?_) (fun q => absurd q (by decide))
    refine ri_ild a_X7_rank_8 rfl ?_
    refine ri_ic a_X7_rank_9 ?_
    refine ri_icmp_ne a_X7_rank_11 (fun _ => ?_) (fun q => absurd q (by decide))
    refine ri_ild a_X7_rank_18 rfl ?_
    refine ri_ic a_X7_rank_19 ?_
    refine ri_icmp_ne a_X7_rank_21 (fun _ => ?_) (fun q => absurd q (by decide))
    refine ri_ild a_X7_rank_28 rfl ?_
    refine ri_ic a_X7_rank_29 ?_
    refine ri_icmp_ne a_X7_rank_31 (fun q => absurd q (by decide)) (fun _ => ?_)
    refine ri_ic a_X7_rank_34 ?_
    refine ri_goto a_X7_rank_35 ?_
    refine ri_ireturn a_X7_rank_71 rfl rfl ?_
    exact rI (by decide) rfl
  · skip
    refine ri_ild a_X7_rank_0 rfl ?_
    refine ri_if_ne a_X7_rank_1 (fun _ => ?_) (fun q => absurd q (by decide))
    refine ri_ild a_X7_rank_8 rfl ?_
    refine ri_ic a_X7_rank_9 ?_
    refine ri_icmp_ne a_X7_rank_11 (fun _ => ?_) (fun q => absurd q (by decide))
    refine ri_ild a_X7_rank_18 rfl ?_
    refine ri_ic a_X7_rank_19 ?_
    refine ri_icmp_ne a_X7_rank_21 (fun _ => ?_) (fun q => absurd q (by decide))
    refine ri_ild a_X7_rank_28 rfl ?_
    refine ri_ic a_X7_rank_29 ?_
    refine ri_icmp_ne a_X7_rank_31 (fun _ => ?_) (fun q => absurd q (by decide))
    refine ri_ild a_X7_rank_38 rfl ?_
    refine ri_ic a_X7_rank_39 ?_
    refine ri_icmp_gt a_X7_rank_41 (fun q => absurd q (by decide)) (fun _ => ?_)
    refine ri_ic a_X7_rank_44 ?_
    refine ri_goto a_X7_rank_45 ?_
    refine ri_ireturn a_X7_rank_71 rfl rfl ?_
    exact rI (by decide) rfl
  · skip
    refine ri_ild a_X7_rank_0 rfl ?_
    refine ri_if_ne a_X7_rank_1 (fun _ => ?_) (fun q => absurd q (by decide))
    refine ri_ild a_X7_rank_8 rfl ?_
    refine ri_ic a_X7_rank_9 ?_
    refine ri_icmp_ne a_X7_rank_11 (fun _ => ?_) (fun q => absurd q (by decide))
    refine ri_ild a_X7_rank_18 rfl ?_
    refine ri_ic a_X7_rank_19 ?_
    refine ri_icmp_ne a_X7_rank_21 (fun _ => ?_) (fun q => absurd q (by decide))
    refine ri_ild a_X7_rank_28 rfl ?_
    refine ri_ic a_X7_rank_29 ?_
    refine ri_icmp_ne a_X7_rank_31 (fun _ => ?_) (fun q => absurd q (by decide))
    refine ri_ild a_X7_rank_38 rfl ?_
    refine ri_ic a_X7_rank_39 ?_
    refine ri_icmp_gt a_X7_rank_41 (fun q => absurd q (by decide)) (fun _ => ?_)
    refine ri_ic a_X7_rank_44 ?_
    refine ri_goto a_X7_rank_45 ?_
    refine ri_ireturn a_X7_rank_71 rfl rfl ?_
    exact rI (by decide) rfl
  · skip
    refine ri_ild a_X7_rank_0 rfl ?_
    refine ri_if_ne a_X7_rank_1 (fun _ => ?_) (fun q => absurd q (by decide))
    refine ri_ild a_X7_rank_8 rfl ?_
    refine ri_ic a_X7_rank_9 ?_
    refine ri_icmp_ne a_X7_rank_11 (fun _ => ?_) (fun q => absurd q (by decide))
    refine ri_ild a_X7_rank_18 rfl ?_
    refine ri_ic a_X7_rank_19 ?_
    refine ri_icmp_ne a_X7_rank_21 (fun _ => ?_) (fun q => absurd q (by decide))
    refine ri_ild a_X7_rank_28 rfl ?_
    refine ri_ic a_X7_rank_29 ?_
    refine ri_icmp_ne a_X7_rank_31 (fun _ => ?_) (fun q => absurd q (by decide))
    refine ri_ild a_X7_rank_38 rfl ?_
    refine ri_ic a_X7_rank_39 ?_
    refine ri_icmp_gt a_X7_rank_41 (fun _ => ?_) (fun q => absurd q (by decide))
    refine ri_ild a_X7_rank_48 rfl ?_
    refine ri_ic a_X7_rank_49 ?_
    refine ri_icmp_gt a_X7_rank_51 (fun q => absurd q (by decide)) (fun _ => ?_)
    refine ri_ic a_X7_rank_54 ?_
    refine ri_goto a_X7_rank_55 ?_
    refine ri_ireturn a_X7_rank_71 rfl rfl ?_
    exact rI (by decide) rfl
  · skip
    refine ri_ild a_X7_rank_0 rfl ?_
    refine ri_if_ne a_X7_rank_1 (fun _ => ?_) (fun q => absurd q (by decide))
    refine ri_ild a_X7_rank_8 rfl ?_
    refine ri_ic a_X7_rank_9 ?_
    refine ri_icmp_ne a_X7_rank_11 (fun _ => ?_) (fun q => absurd q (by decide))
    refine ri_ild a_X7_rank_18 rfl ?_
    refine ri_ic a_X7_rank_19 ?_
    refine ri_icmp_ne a_X7_rank_21 (fun _ => ?_) (fun q => absurd q (by decide))
    refine ri_ild a_X7_rank_28 rfl ?_
    refine ri_ic a_X7_rank_29 ?_
    refine ri_icmp_ne a_X7_rank_31 (fun _ => ?_) (fun q => absurd q (by decide))
    refine ri_ild a_X7_rank_38 rfl ?_
    refine ri_ic a_X7_rank_39 ?_
    refine ri_icmp_gt a_X7_rank_41 (fun _ => ?_) (fun q => absurd q (by decide))
    refine ri_ild a_X7_rank_48 rfl ?_
    refine ri_ic a_X7_rank_49 ?_
    refine ri_icmp_gt a_X7_rank_51 (fun q => absurd q (by decide)) (fun _ => ?_)
    refine ri_ic a_X7_rank_54 ?_
    refine ri_goto a_X7_rank_55 ?_
    refine ri_ireturn a_X7_rank_71 rfl rfl ?_
    exact rI (by decide) rfl
  · skip
    refine ri_ild a_X7_rank_0 rfl ?_
    refine ri_if_ne a_X7_rank_1 (fun _ => ?_) (fun q => absurd q (by decide))
    refine ri_ild a_X7_rank_8 rfl ?_
    refine ri_ic a_X7_rank_9 ?_
    refine ri_icmp_ne a_X7_rank_11 (fun _ => ?_) (fun q => absurd q (by decide))
    refine ri_ild a_X7_rank_18 rfl ?_
    refine ri_ic a_X7_rank_19 ?_
    refine ri_icmp_ne a_X7_rank_21 (fun _ => ?_) (fun q => absurd q (by decide))
    refine ri_ild a_X7_rank_28 rfl ?_
    refine ri_ic a_X7_rank_29 ?_
    refine ri_icmp_ne a_X7_rank_31 (fun _ => ?_) (fun q => absurd q (by decide))
    refine ri_ild a_X7_rank_38 rfl ?_
    refine ri_ic a_X7_rank_39 ?_
    refine ri_icmp_gt a_X7_rank_41 (fun _ => ?_) (fun q => absurd q (by decide))
    refine ri_ild a_X7_rank_48 rfl ?_
    refine ri_ic a_X7_rank_49 ?_
    refine ri_icmp_gt a_X7_rank_51 (fun _ => ?_) (fun q => absurd q (by decide))
    refine ri_ild a_X7_rank_58 rfl ?_
    refine ri_ic a_X7_rank_59 ?_
    refine ri_icmp_ne a_X7_rank_61 (fun q => absurd q (by decide)) (fun _ => ?_)
    refine ri_ic a_X7_rank_64 ?_
    refine ri_goto a_X7_rank_66 ?_
    refine ri_ireturn a_X7_rank_71 rfl rfl ?_
    exact rI (by decide) rfl
  · skip
    refine ri_ild a_X7_rank_0 rfl ?_
    refine ri_if_ne a_X7_rank_1 (fun _ => ?_) (fun q => absurd q (by decide))
    refine ri_ild a_X7_rank_8 rfl ?_
    refine ri_ic a_X7_rank_9 ?_
    refine ri_icmp_ne a_X7_rank_11 (fun _ => ?_) (fun q => absurd q (by decide))
    refine ri_ild a_X7_rank_18 rfl ?_
    refine ri_ic a_X7_rank_19 ?_
    refine ri_icmp_ne a_X7_rank_21 (fun _ => ?_) (fun q => absurd q (by decide))
    refine ri_ild a_X7_rank_28 rfl ?_
    refine ri_ic a_X7_rank_29 ?_
    refine ri_icmp_ne a_X7_rank_31 (fun _ => ?_) (fun q => absurd q (by decide))
    refine ri_ild a_X7_rank_38 rfl ?_
    refine ri_ic a_X7_rank_39 ?_
    refine ri_icmp_gt a_X7_rank_41 (fun _ => ?_) (fun q => absurd q (by decide))
    refine ri_ild a_X7_rank_48 rfl ?_
    refine ri_ic a_X7_rank_49 ?_
    refine ri_icmp_gt a_X7_rank_51 (fun _ => ?_) (fun q => absurd q (by decide))
    refine ri_ild a_X7_rank_58 rfl ?_
    refine ri_ic a_X7_rank_59 ?_
    refine ri_icmp_ne a_X7_rank_61 (fun _ => ?_) (fun q => absurd q (by decide))
    refine ri_ic a_X7_rank_69 ?_
    refine ri_ireturn a_X7_rank_71 rfl rfl ?_
    exact rI (by decide) rfl
theorem rk_sOp {h : Nat} (hh : hdO h) (h1 : 1 ≤ rk h) : encM (sOp h) = nI h := by
  rcases hdO_c hh with rfl | rfl | rfl | rfl | rfl | rfl | rfl | rfl | rfl | rfl
  · exact absurd h1 (by decide)
  all_goals decide
theorem rk_lt {h : Nat} (hh : hdO h) : rk h ≤ 7 := by
  rcases hdO_c hh with rfl | rfl | rfl | rfl | rfl | rfl | rfl | rfl | rfl | rfl <;> decide
theorem unw_len {r : Nat} : ∀ (K : List Nat) (o : List Op), (unw r K o).1.length + (unw r K o).2.length = K.length + o.length := by
  intro K
  induction K with
  | nil => intro o; rfl
  | cons h t ih =>
    intro o
    rw [unw]
    split
    · rw [ih]
      simp only [List.length_append, List.length_cons, List.length_nil]
      omega
    · rfl
theorem unw_app {r : Nat} (a : List Op) : ∀ (K : List Nat) (o : List Op), unw r K (a ++ o) = ((unw r K o).1, a ++ (unw r K o).2) := by
  intro K
  induction K with
  | nil => intro o; rfl
  | cons h t ih =>
    intro o
    rw [unw, unw]
    split
    · rw [List.append_assoc, ih]
    · rfl
theorem unw_mem {r : Nat} {P : Nat → Prop} : ∀ (K : List Nat) (o : List Op), (∀ h ∈ K, P h) → ∀ h ∈ (unw r K o).1, P h := by
  intro K
  induction K with
  | nil => intro o _ h hh; cases hh
  | cons x t ih =>
    intro o hK
    rw [unw]
    split
    · exact ih _ (fun h hh => hK h (List.mem_cons_of_mem _ hh))
    · exact hK
theorem opn_le : ∀ K : List Nat, opn K ≤ K.length := by
  intro K
  induction K with
  | nil => exact Nat.le_refl _
  | cons h t ih =>
    rw [opn, List.length_cons]
    split <;> omega
/-- what is read: the tape, the words; what is held, what has come -/
def edN (tp : Nat → Int32) (n tc : Nat) (N : Mem) (K : List Nat) (acc : List Op) : Prop := N 0 0 12 = nI tc ∧ wdN N ∧ N 6 0 = tp ∧ N 0 0 9 = nI n ∧ N 0 0 27 = nI K.length ∧ stk (N 16 0) (K.map nI) ∧ (∀ h ∈ K, hdO h) ∧ N 0 0 28 = nI (opn K) ∧ N 0 0 29 = nI acc.length ∧ ∀ i o, acc[i]? = some o → N 7 0 (200 * tc + i) = encM o
def frE (tc : Nat) (N N' : Mem) : Prop := ∀ t i k, t ≠ 16 → ¬ (t = 7 ∧ i = 0 ∧ 200 * tc ≤ k ∧ k < 200 * tc + 200) → ¬ (t = 0 ∧ i = 0 ∧ 21 ≤ k ∧ k ≤ 29) → N' t i k = N t i k
theorem frE_rf {tc : Nat} {N : Mem} : frE tc N N := fun _ _ _ _ _ _ => rfl
theorem frE_tr {tc : Nat} {N N1 N2 : Mem} (h : frE tc N N1) (h2 : frE tc N1 N2) : frE tc N N2 := fun t i k a b c => (h2 t i k a b c).trans (h t i k a b c)
theorem frK_E {tc : Nat} {N N1 : Mem} (h : frK N N1) : frE tc N N1 := fun t i k _ _ c => h t i k (fun q => c ⟨q.1, q.2.1, q.2.2.1, by omega⟩)
theorem edN_K {tp : Nat → Int32} {n tc : Nat} {N N1 : Mem} {K : List Nat} {acc : List Op} (h : frK N N1) (he : edN tp n tc N K acc) : edN tp n tc N1 K acc := by
  obtain ⟨a1, a2, a3, a4, a5, a6, a7, a8, a9, a10⟩ := he
  have e16 : N1 16 0 = N 16 0 := funext fun k => h 16 0 k (fun q => absurd q.1 (by decide))
  exact ⟨by rw [h 0 0 12 (by omega)]; exact a1, fun k hk c hc => by rw [h 15 0 _ (by omega)]; exact a2 k hk c hc, by rw [← a3]; exact funext fun k => h 6 0 k (fun q => absurd q.1 (by decide)), by rw [h 0 0 9 (by omega)]; exact a4, by rw [h 0 0 27 (by omega)]; exact a5, by rw [e16]; exact a6, a7, by rw [h 0 0 28 (by omega)]; exact a8, by rw [h 0 0 29 (by omega)]; exact a9, fun i o ho => by rw [h 7 0 _ (by omega)]; exact a10 i o ho⟩
/-- the token stays -/
def tkS (N N' : Mem) : Prop := ∀ k, 21 ≤ k → k ≤ 24 → N' 0 0 k = N 0 0 k
theorem tkS_rt {N N' : Mem} {s : PS} (h : tkS N N') (hr : rtN N s) : rtN N' s := by
  obtain ⟨a, b, c, d, e, f⟩ := hr
  exact ⟨by rw [h 21 (by decide) (by decide)]; exact a, by rw [h 22 (by decide) (by decide)]; exact b, by rw [h 23 (by decide) (by decide)]; exact c, fun q => by rw [h 24 (by decide) (by decide)]; exact d q, fun q1 q2 => by rw [h 24 (by decide) (by decide)]; exact e q1 q2, fun q1 q2 => by rw [h 24 (by decide) (by decide)]; exact f q1 q2⟩
def ptM (N : Mem) (tc z : Nat) (x : Int32) : Mem := up (up N 7 0 (200 * tc + z) x) 0 0 29 (nI (z + 1))
theorem ok_X7_puts {w : Wd} {d : Nat} {N : Mem} {tc z : Nat} (ht : N 0 0 12 = nI tc) (ht6 : tc < 6) (hz : N 0 0 29 = nI z) (hz2 : z < 200) (x : Int32) : lr_Ok tM sM w d jX7_puts [vo 0 0, vi x] N (qV fun N' => N' = ptM N tc z x) := by
  have ip : vp_in (200 * N 0 0 12 + N 0 0 29) 1200 := by rw [ht, hz, nI_200a]; exact vp_in_nI (by omega) (by decide)
  have cp : (200 * N 0 0 12 + N 0 0 29).toNatClampNeg = 200 * tc + z := by rw [ht, hz, nI_200a, nI_clamp (by omega)]
  refine lr_ok (by decide +kernel) rfl ?_
  refine ri_ald a_X7_puts_0 rfl ?_
  refine ri_getR (t' := 7) (i' := 0) a_X7_puts_1 fl_X7_28 kM_0_10 rfl iM_0 (Or.inr ⟨rfl, rfl, rfl⟩) ?_
  refine ri_ic a_X7_puts_4 ?_
  refine ri_ald a_X7_puts_7 rfl ?_
  refine ri_getI a_X7_puts_8 fl_X7_106 kM_0_12 rfl iM_0 ?_
  refine ri_imul a_X7_puts_11 ?_
  refine ri_ald a_X7_puts_12 rfl ?_
  refine ri_getI a_X7_puts_13 fl_X7_132 kM_0_29 rfl iM_0 ?_
  refine ri_iadd a_X7_puts_16 ?_
  refine ri_ild a_X7_puts_17 rfl ?_
  refine ri_iastore a_X7_puts_18 lM_7 rfl iM_7 ip (fun zM1 ezM1 => ?_)
  refine ri_ald a_X7_puts_19 rfl ?_
  refine ri_dup a_X7_puts_20 (fun _ h => by cases h) ?_
  refine ri_getI a_X7_puts_21 fl_X7_132 kM_0_29 rfl iM_0 ?_
  refine ri_ic a_X7_puts_24 ?_
  refine ri_iadd a_X7_puts_25 ?_
  refine ri_putI a_X7_puts_26 fp_X7_132 kM_0_29 rfl iM_0 (fun zM2 ezM2 => ?_)
  refine ri_return a_X7_puts_29 rfl ?_
  rw [cp] at ezM1
  rw [show zM1 0 0 29 = nI z by rw [ezM1]; exact hz, nI_1, ezM1] at ezM2
  exact rV ezM2
theorem ptM_ed {tp : Nat → Int32} {n tc : Nat} {N N1 : Mem} {K : List Nat} {acc : List Op} {op : Op} (he : edN tp n tc N K acc) (e : N1 = ptM N tc acc.length (encM op)) : edN tp n tc N1 K (acc ++ [op]) := by
  obtain ⟨a1, a2, a3, a4, a5, a6, a7, a8, a9, a10⟩ := he
  subst e
  refine ⟨a1, fun k hk c hc => a2 k hk c hc, a3, a4, a5, a6, a7, a8, by unfold ptM; rw [up_same]; simp, fun i o ho => ?_⟩
  unfold ptM
  rw [up_apply, if_neg (by omega), up_apply]
  by_cases ei : i = acc.length
  · rw [if_pos ⟨rfl, rfl, by omega⟩]
    rw [ei, List.getElem?_append_right (Nat.le_refl _), Nat.sub_self] at ho
    simp at ho
    rw [ho]
  · rw [if_neg (fun z => ei (by omega))]
    have hlt : i < acc.length := by
      have := (List.getElem?_eq_some_iff.1 ho).1
      simp at this
      omega
    rw [List.getElem?_append_left hlt] at ho
    exact a10 i o ho
theorem ptM_fr {tc z : Nat} {N : Mem} {x : Int32} (hz : z < 200) : frE tc N (ptM N tc z x) ∧ tkS N (ptM N tc z x) := by
  unfold ptM
  refine ⟨fun t i k a b c => ?_, fun k a b => ?_⟩
  · rw [up_apply, if_neg (fun q => c ⟨q.1, q.2.1, by omega, by omega⟩), up_apply, if_neg (fun q => b ⟨q.1, q.2.1, by omega, by omega⟩)]
  · rw [up_apply, if_neg (by omega), up_apply, if_neg (by omega)]
theorem ok_X7_unwinds {w : Wd} {d : Nat} (hd : 1 ≤ d) {tp : Nat → Int32} {n tc r : Nat} (ht6 : tc < 6) (hr : 1 ≤ r) (hr7 : r ≤ 7) : ∀ (K : List Nat) (N : Mem) (acc : List Op), edN tp n tc N K acc → acc.length + K.length < 200 → lr_Ok tM sM w d jX7_unwinds [vo 0 0, vi (nI r)] N (qV fun N' => frE tc N N' ∧ tkS N N' ∧ edN tp n tc N' (unw r K acc).1 (unw r K acc).2) := by
  intro K0 N0 acc0 he0 hl0
  have loop : ∀ (K : List Nat) (N : Mem) (acc : List Op) (j2 : Option AV), edN tp n tc N K acc → acc.length + K.length < 200 → frE tc N0 N → tkS N0 N → unw r K acc = unw r K0 acc0 → lr_W tM sM w d jX7_unwinds 0 [some (vo 0 0), some (vi (nI r)), j2] [] N (qV fun N' => frE tc N0 N' ∧ tkS N0 N' ∧ edN tp n tc N' (unw r K0 acc0).1 (unw r K0 acc0).2) := by
    intro K
    induction K with
    | nil =>
      intro N acc j2 he hl hf hs hu
      have h27 : N 0 0 27 = 0 := he.2.2.2.2.1
      rw [← hu]
      refine ri_ald a_X7_unwinds_0 rfl ?_
      refine ri_getI a_X7_unwinds_1 fl_X7_135 kM_0_27 rfl iM_0 ?_
      refine ri_if_le a_X7_unwinds_4 (fun zc11 => ?_) (fun zc11 => ?_)
      · refine ri_return a_X7_unwinds_79 rfl ?_
        exact rV ⟨hf, hs, he⟩
      · exact absurd (by rw [h27]; decide) zc11
    | cons h t ih =>
      intro N acc j2 he hl hf hs hu
      obtain ⟨a1, a2, a3, a4, a5, a6, a7, a8, a9, a10⟩ := id he
      simp only [List.length_cons] at hl a5
      have hh := a7 h (List.mem_cons_self)
      have top : N 16 0 (N 0 0 27 - 1).toNatClampNeg = nI h := by
        rw [a5, nI_pred, nI_clamp (by omega)]
        have := a6.1
        rw [List.length_map] at this
        exact this
      have itop : vp_in (N 0 0 27 - 1) 200 := by rw [a5, nI_pred]; exact vp_in_nI (by omega) (by decide)
      have hrk := ok_X7_rank (T := tM) (S := sM) (w := w) (d := d - 1) (M := N) hh
      rw [← top] at hrk
      have rk7 := rk_lt hh
      refine ri_ald a_X7_unwinds_0 rfl ?_
      refine ri_getI a_X7_unwinds_1 fl_X7_135 kM_0_27 rfl iM_0 ?_
      refine ri_if_le a_X7_unwinds_4 (fun zc11 => ?_) (fun zc11 => ?_)
      · refine ri_return a_X7_unwinds_79 rfl ?_
        exact absurd zc11 (by rw [a5]; exact nI_nle (by omega) (by omega))
      · refine ri_ald a_X7_unwinds_7 rfl ?_
        refine ri_getR (t' := 16) (i' := 0) a_X7_unwinds_8 fl_X7_55 kM_0_26 rfl iM_0 (Or.inr ⟨rfl, rfl, rfl⟩) ?_
        refine ri_ald a_X7_unwinds_11 rfl ?_
        refine ri_getI a_X7_unwinds_12 fl_X7_135 kM_0_27 rfl iM_0 ?_
        refine ri_ic a_X7_unwinds_15 ?_
        refine ri_isub a_X7_unwinds_16 ?_
        refine ri_iaload a_X7_unwinds_17 lM_16 rfl iM_16 itop ?_
        refine ri_cSpi (as := [vi (N 16 0 ((N 0 0 27) - 1).toNatClampNeg)]) (rest := []) (d' := d - 1) a_X7_unwinds_18 ms_X7_rank ml_X7_138 (by omega) (hrk) (Nat.le_of_ble_eq_true rfl) rfl (fun zy12 ezy12 => ?_)
        refine ri_ild a_X7_unwinds_21 rfl ?_
        refine ri_icmp_lt a_X7_unwinds_22 (fun zc13 => ?_) (fun zc13 => ?_)
        · refine ri_return a_X7_unwinds_79 rfl ?_
          rw [ezy12, nI_ltI (by omega) (by omega)] at zc13
          rw [← hu, unw, if_neg (by omega)]
          exact rV ⟨hf, hs, he⟩
        · rw [ezy12, nI_ltI (by omega) (by omega)] at zc13
          rw [unw, if_pos (by omega)] at hu
          refine ri_ald a_X7_unwinds_25 rfl ?_
          refine ri_dup a_X7_unwinds_26 (fun _ h => by cases h) ?_
          refine ri_getI a_X7_unwinds_27 fl_X7_135 kM_0_27 rfl iM_0 ?_
          refine ri_ic a_X7_unwinds_30 ?_
          refine ri_isub a_X7_unwinds_31 ?_
          refine ri_putI a_X7_unwinds_32 fp_X7_135 kM_0_27 rfl iM_0 (fun zM21 ezM21 => ?_)
          refine ri_ald a_X7_unwinds_35 rfl ?_
          refine ri_getR (t' := 16) (i' := 0) a_X7_unwinds_36 fl_X7_55 kM_0_26 rfl iM_0 (Or.inr ⟨rfl, rfl, rfl⟩) ?_
          refine ri_ald a_X7_unwinds_39 rfl ?_
          refine ri_getI a_X7_unwinds_40 fl_X7_135 kM_0_27 rfl iM_0 ?_
          refine ri_iaload a_X7_unwinds_43 lM_16 rfl iM_16 (by rw [ezM21, up_same, a5, nI_pred]; exact vp_in_nI (by omega) (by decide)) ?_
          have e27 : zM21 0 0 27 = nI t.length := by rw [ezM21, up_same, a5, nI_pred]
          have e16 : zM21 16 0 (zM21 0 0 27).toNatClampNeg = nI h := by
            rw [e27, nI_clamp (by omega), ezM21]
            have := a6.1
            rw [List.length_map] at this
            exact this
          rw [e16]
          refine ri_istk (ls' := [some (vo 0 0), some (vi (nI r)), some (vi (nI h))]) a_X7_unwinds_44 rfl ?_
          have fin : ∀ x N2, x = (if h = 0 ∨ h = 13 ∨ h = 19 then 1 else 0) → N2 = up zM21 0 0 28 (nI (opn (h :: t)) - nI x) → lr_W tM sM w d jX7_unwinds 71 [some (vo 0 0), some (vi (nI r)), some (vi (nI h))] [] N2 (qV fun N' => frE tc N0 N' ∧ tkS N0 N' ∧ edN tp n tc N' (unw r K0 acc0).1 (unw r K0 acc0).2) := by
            intro x N2 hx hN2
            have e28 : nI (opn (h :: t)) - nI x = nI (opn t) := by
              rw [opn, ← hx, ← nI_add, Int32.add_comm]
              exact Int32.add_sub_cancel _ _
            rw [e28, ezM21] at hN2
            have he2 : edN tp n tc N2 t acc := by
              rw [hN2]
              refine ⟨a1, fun k hk c hc => a2 k hk c hc, a3, a4, ?_, ?_, fun q hq => a7 q (List.mem_cons_of_mem _ hq), by rw [up_same], a9, fun i o ho => a10 i o ho⟩
              · rw [up_k (by decide), up_same, a5, nI_pred]
              · exact a6.2
            have hf2 : frE tc N0 N2 := by
              rw [hN2]
              exact frE_tr hf (fun q i k a b c => by rw [up_apply, if_neg (fun z => c ⟨z.1, z.2.1, by omega, by omega⟩), up_apply, if_neg (fun z => c ⟨z.1, z.2.1, by omega, by omega⟩)])
            have hs2 : tkS N0 N2 := fun k a b => by rw [hN2, up_k (by omega), up_k (by omega)]; exact hs k a b
            have hz := he2.2.2.2.2.2.2.2.2.1
            refine ri_ald a_X7_unwinds_71 rfl ?_
            refine ri_ild a_X7_unwinds_72 rfl ?_
            refine ri_cVxv (as := [vi (nI h)]) (rest := []) (d' := d - 1) a_X7_unwinds_73 mv_X7_puts ml_X7_145 (rcM_0 iM_0) (by omega) (ok_X7_puts he2.1 ht6 hz (by omega) (nI h)) (Nat.le_of_ble_eq_true rfl) rfl (fun zM31 hzM31 => ?_)
            refine ri_goto a_X7_unwinds_76 ?_
            rw [← rk_sOp hh (by omega)] at hzM31
            have hfr := @ptM_fr tc acc.length N2 (encM (sOp h)) (by omega)
            refine ih zM31 (acc ++ [sOp h]) _ (ptM_ed he2 hzM31) (by simp only [List.length_append, List.length_cons, List.length_nil]; omega) (by rw [hzM31]; exact frE_tr hf2 hfr.1) (fun k a b => by rw [hzM31, hfr.2 k a b]; exact hs2 k a b) hu
          have e28' : zM21 0 0 28 = nI (opn (h :: t)) := by rw [ezM21]; exact a8
          have h0 : ¬ h = 0 := fun z => by rw [z] at zc13; exact zc13 (by show 0 < r; omega)
          refine ri_ald a_X7_unwinds_45 rfl ?_
          refine ri_dup a_X7_unwinds_46 (fun _ h => by cases h) ?_
          refine ri_getI a_X7_unwinds_47 fl_X7_142 kM_0_28 rfl iM_0 ?_
          refine ri_ild a_X7_unwinds_50 rfl ?_
          refine ri_ic a_X7_unwinds_51 ?_
          refine ri_icmp_eq a_X7_unwinds_53 (fun zc41 => ?_) (fun zc41 => ?_)
          · refine ri_ic a_X7_unwinds_62 ?_
            refine ri_goto a_X7_unwinds_63 ?_
            refine ri_isub a_X7_unwinds_67 ?_
            refine ri_putI a_X7_unwinds_68 fp_X7_142 kM_0_28 rfl iM_0 (fun zM42 ezM42 => ?_)
            have hc := hdO_c hh
            first
            | exact fin 1 _ (by rw [if_pos]; have q : h = 13 := (nI_eq (a := h) (b := 13) (by omega) (by decide)).1 zc41; omega) (by rw [ezM42, e28']; rfl)
            | exact fin 1 _ (by rw [if_pos]; have q : h = 19 := (nI_eq (a := h) (b := 19) (by omega) (by decide)).1 zc43; omega) (by rw [ezM45, e28']; rfl)
            | exact fin 0 _ (by rw [if_neg]; exact fun z => by rcases z with z | z | z; exact h0 z; exact zc41 (by rw [z]; rfl); exact zc43 (by rw [z]; rfl)) (by rw [ezM44, e28']; rfl)
          · refine ri_ild a_X7_unwinds_56 rfl ?_
            refine ri_ic a_X7_unwinds_57 ?_
            refine ri_icmp_ne a_X7_unwinds_59 (fun zc43 => ?_) (fun zc43 => ?_)
            · refine ri_ic a_X7_unwinds_66 ?_
              refine ri_isub a_X7_unwinds_67 ?_
              refine ri_putI a_X7_unwinds_68 fp_X7_142 kM_0_28 rfl iM_0 (fun zM44 ezM44 => ?_)
              have hc := hdO_c hh
              first
              | exact fin 1 _ (by rw [if_pos]; have q : h = 13 := (nI_eq (a := h) (b := 13) (by omega) (by decide)).1 zc41; omega) (by rw [ezM42, e28']; rfl)
              | exact fin 1 _ (by rw [if_pos]; have q : h = 19 := (nI_eq (a := h) (b := 19) (by omega) (by decide)).1 zc43; omega) (by rw [ezM45, e28']; rfl)
              | exact fin 0 _ (by rw [if_neg]; exact fun z => by rcases z with z | z | z; exact h0 z; exact zc41 (by rw [z]; rfl); exact zc43 (by rw [z]; rfl)) (by rw [ezM44, e28']; rfl)
            · refine ri_ic a_X7_unwinds_62 ?_
              refine ri_goto a_X7_unwinds_63 ?_
              refine ri_isub a_X7_unwinds_67 ?_
              refine ri_putI a_X7_unwinds_68 fp_X7_142 kM_0_28 rfl iM_0 (fun zM45 ezM45 => ?_)
              have hc := hdO_c hh
              first
              | exact fin 1 _ (by rw [if_pos]; have q : h = 13 := (nI_eq (a := h) (b := 13) (by omega) (by decide)).1 zc41; omega) (by rw [ezM42, e28']; rfl)
              | exact fin 1 _ (by rw [if_pos]; have q : h = 19 := (nI_eq (a := h) (b := 19) (by omega) (by decide)).1 zc43; omega) (by rw [ezM45, e28']; rfl)
              | exact fin 0 _ (by rw [if_neg]; exact fun z => by rcases z with z | z | z; exact h0 z; exact zc41 (by rw [z]; rfl); exact zc43 (by rw [z]; rfl)) (by rw [ezM44, e28']; rfl)
  refine lr_ok (by decide +kernel) rfl ?_
  exact loop K0 N0 acc0 none he0 hl0 frE_rf (fun _ _ _ => rfl) rfl

