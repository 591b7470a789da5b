/-! reference: texts, what they say -/
def siM (k : Nat) : Int32 := match k with
  | 0 => 11
  | 1 => 12
  | 2 => 14
  | 3 => 15
  | 4 => 16
  | 5 => 17
  | _ => 18
def encM (o : Op) : Int32 := match o.1 with
  | 0 => nI (100000 + o.2)
  | 1 => nI o.2
  | 2 => if o.2 = 0 then 13 else 19
  | _ => siM o.2
def txN (N : Mem) (t : Nat) (L : List (List Op)) : Prop := L.length = 3 ∧ (∀ i o, L.flatten[i]? = some o → N 7 0 (200 * t + i) = encM o) ∧ (∀ j, j ≤ 3 → N 8 0 (4 * t + j) = nI (L.take j).flatten.length) ∧ L.flatten.length ≤ 160 ∧ ∀ ops ∈ L, wfd 32 ops 0
def lawN (N : Mem) (L : List (List Op)) : Prop := ∃ t, t < 6 ∧ N 0 0 13 = nI t ∧ txN N t L
theorem ok_X7_two {T : Tb} {S : Nat → Bool} {w : Wd} {d : Nat} {M : Mem} {k : Nat} (hk : k ≤ 6) (a b : Int32) : lr_Ok T S w d jX7_two [vi (siM k), vi a, vi b] M (qI (binF k a b) M) := by
  refine lr_ok (by decide +kernel) rfl ?_
  have hkk : k = 0 ∨ k = 1 ∨ k = 2 ∨ k = 3 ∨ k = 4 ∨ k = 5 ∨ k = 6 := by omega
  rcases hkk with rfl | rfl | rfl | rfl | rfl | rfl | rfl
  %for K S = 0 11 | 1 12 | 2 14 | 3 15 | 4 16 | 5 17 | 6 18
  · skip
    refine ri_ild a_X7_two_0 rfl ?_
    refine ri_tsw a_X7_two_1 ⟨fun zc1 => ?_, fun zc1 => ?_, fun zc1 => ?_, fun zc1 => ?_, fun zc1 => ?_, fun zc1 => ?_, fun zc1 => ?_, trivial⟩ (fun zc1 => ?_)
    · replace zc1 : (siM @K) = 11 := zc1.trans (by decide)
      refine ri_ild a_X7_two_44 rfl ?_
      refine ri_if_ne a_X7_two_45 (fun zc2 => ?_) (fun zc2 => ?_)
      · refine ri_ic a_X7_two_52 ?_
        refine ri_goto a_X7_two_53 ?_
        refine ri_ireturn a_X7_two_57 rfl rfl ?_
        first | (exfalso; revert zc1; decide) | (refine rI ?_ rfl; simp [binF, *]; done) | (refine rI ?_ rfl; simp_all [binF]; done)
      · refine ri_ild a_X7_two_48 rfl ?_
        refine ri_if_eq a_X7_two_49 (fun zc3 => ?_) (fun zc3 => ?_)
        · refine ri_ic a_X7_two_56 ?_
          refine ri_ireturn a_X7_two_57 rfl rfl ?_
          first | (exfalso; revert zc1; decide) | (refine rI ?_ rfl; simp [binF, *]; done) | (refine rI ?_ rfl; simp_all [binF]; done)
        · refine ri_ic a_X7_two_52 ?_
          refine ri_goto a_X7_two_53 ?_
          refine ri_ireturn a_X7_two_57 rfl rfl ?_
          first | (exfalso; revert zc1; decide) | (refine rI ?_ rfl; simp [binF, *]; done) | (refine rI ?_ rfl; simp_all [binF]; done)
    · replace zc1 : (siM @K) = 12 := zc1.trans (by decide)
      refine ri_ild a_X7_two_58 rfl ?_
      refine ri_if_eq a_X7_two_59 (fun zc4 => ?_) (fun zc4 => ?_)
      · refine ri_ic a_X7_two_70 ?_
        refine ri_ireturn a_X7_two_71 rfl rfl ?_
        first | (exfalso; revert zc1; decide) | (refine rI ?_ rfl; simp [binF, *]; done) | (refine rI ?_ rfl; simp_all [binF]; done)
      · refine ri_ild a_X7_two_62 rfl ?_
        refine ri_if_eq a_X7_two_63 (fun zc5 => ?_) (fun zc5 => ?_)
        · refine ri_ic a_X7_two_70 ?_
          refine ri_ireturn a_X7_two_71 rfl rfl ?_
          first | (exfalso; revert zc1; decide) | (refine rI ?_ rfl; simp [binF, *]; done) | (refine rI ?_ rfl; simp_all [binF]; done)
        · refine ri_ic a_X7_two_66 ?_
          refine ri_goto a_X7_two_67 ?_
          refine ri_ireturn a_X7_two_71 rfl rfl ?_
          first | (exfalso; revert zc1; decide) | (refine rI ?_ rfl; simp [binF, *]; done) | (refine rI ?_ rfl; simp_all [binF]; done)
    · replace zc1 : (siM @K) = 13 := zc1.trans (by decide)
      refine ri_ild a_X7_two_102 rfl ?_
      refine ri_ild a_X7_two_103 rfl ?_
      refine ri_imul a_X7_two_104 ?_
      refine ri_ireturn a_X7_two_105 rfl rfl ?_
      first | (exfalso; revert zc1; decide) | (refine rI ?_ rfl; simp [binF, *]; done) | (refine rI ?_ rfl; simp_all [binF]; done)
    · replace zc1 : (siM @K) = 14 := zc1.trans (by decide)
      refine ri_ild a_X7_two_72 rfl ?_
      refine ri_ild a_X7_two_73 rfl ?_
      refine ri_icmp_ge a_X7_two_74 (fun zc6 => ?_) (fun zc6 => ?_)
      · refine ri_ic a_X7_two_81 ?_
        refine ri_ireturn a_X7_two_82 rfl rfl ?_
        first | (exfalso; revert zc1; decide) | (refine rI ?_ rfl; simp [binF, *]; done) | (refine rI ?_ rfl; simp_all [binF]; done)
      · refine ri_ic a_X7_two_77 ?_
        refine ri_goto a_X7_two_78 ?_
        refine ri_ireturn a_X7_two_82 rfl rfl ?_
        first | (exfalso; revert zc1; decide) | (refine rI ?_ rfl; simp [binF, *]; done) | (refine rI ?_ rfl; simp_all [binF]; done)
    · replace zc1 : (siM @K) = 15 := zc1.trans (by decide)
      refine ri_ild a_X7_two_83 rfl ?_
      refine ri_ild a_X7_two_84 rfl ?_
      refine ri_icmp_ne a_X7_two_85 (fun zc7 => ?_) (fun zc7 => ?_)
      · refine ri_ic a_X7_two_92 ?_
        refine ri_ireturn a_X7_two_93 rfl rfl ?_
        first | (exfalso; revert zc1; decide) | (refine rI ?_ rfl; simp [binF, *]; done) | (refine rI ?_ rfl; simp_all [binF]; done)
      · refine ri_ic a_X7_two_88 ?_
        refine ri_goto a_X7_two_89 ?_
        refine ri_ireturn a_X7_two_93 rfl rfl ?_
        first | (exfalso; revert zc1; decide) | (refine rI ?_ rfl; simp [binF, *]; done) | (refine rI ?_ rfl; simp_all [binF]; done)
    · replace zc1 : (siM @K) = 16 := zc1.trans (by decide)
      refine ri_ild a_X7_two_94 rfl ?_
      refine ri_ild a_X7_two_95 rfl ?_
      refine ri_iadd a_X7_two_96 ?_
      refine ri_ireturn a_X7_two_97 rfl rfl ?_
      first | (exfalso; revert zc1; decide) | (refine rI ?_ rfl; simp [binF, *]; done) | (refine rI ?_ rfl; simp_all [binF]; done)
    · replace zc1 : (siM @K) = 17 := zc1.trans (by decide)
      refine ri_ild a_X7_two_98 rfl ?_
      refine ri_ild a_X7_two_99 rfl ?_
      refine ri_isub a_X7_two_100 ?_
      refine ri_ireturn a_X7_two_101 rfl rfl ?_
      first | (exfalso; revert zc1; decide) | (refine rI ?_ rfl; simp [binF, *]; done) | (refine rI ?_ rfl; simp_all [binF]; done)
    · refine ri_ild a_X7_two_102 rfl ?_
      refine ri_ild a_X7_two_103 rfl ?_
      refine ri_imul a_X7_two_104 ?_
      refine ri_ireturn a_X7_two_105 rfl rfl ?_
      first | (exfalso; revert zc1; decide) | (refine rI ?_ rfl; simp [binF, *]; done) | (refine rI ?_ rfl; simp_all [binF]; done)
  %rof
theorem enM_kinds {o : Op} (hok : opOk o) : (o.1 = 0 ∧ 100000 ≤ encM o ∧ encM o - 100000 = nI o.2) ∨ (o.1 = 1 ∧ ¬ 100000 ≤ encM o ∧ encM o < 11 ∧ encM o = nI o.2 ∧ o.2 ≤ 5) ∨ (o.1 = 2 ∧ ¬ 100000 ≤ encM o ∧ ¬ encM o < 11 ∧ ((o.2 = 0 ∧ encM o = 13) ∨ (o.2 = 1 ∧ encM o = 19))) ∨ (o.1 = 3 ∧ ¬ 100000 ≤ encM o ∧ ¬ encM o < 11 ∧ ¬ encM o = 13 ∧ ¬ encM o = 19 ∧ encM o = siM o.2 ∧ o.2 ≤ 6) := by
  obtain ⟨a, b⟩ := o
  rcases hok with ⟨h1, h2⟩ | ⟨h1, h2⟩ | ⟨h1, h2⟩ | ⟨h1, h2⟩ <;> dsimp only at h1 h2 <;> subst h1
  · refine Or.inl ⟨rfl, ?_, ?_⟩
    · exact nI_le (a := 100000) (by omega) (by omega)
    · show nI (100000 + b) - 100000 = nI b
      rw [← nI_add, Int32.add_comm]
      exact Int32.add_sub_cancel _ _
  · refine Or.inr (Or.inl ⟨rfl, ?_⟩)
    have : b = 0 ∨ b = 1 ∨ b = 2 ∨ b = 3 ∨ b = 4 ∨ b = 5 := by omega
    rcases this with rfl | rfl | rfl | rfl | rfl | rfl <;> decide
  · refine Or.inr (Or.inr (Or.inl ⟨rfl, ?_⟩))
    have : b = 0 ∨ b = 1 := by omega
    rcases this with rfl | rfl <;> decide
  · refine Or.inr (Or.inr (Or.inr ⟨rfl, ?_⟩))
    have : b = 0 ∨ b = 1 ∨ b = 2 ∨ b = 3 ∨ b = 4 ∨ b = 5 ∨ b = 6 := by omega
    rcases this with rfl | rfl | rfl | rfl | rfl | rfl | rfl <;> decide
theorem txN_v {N : Mem} {t pt : Nat} {L : List (List Op)} (h : txN N t L) (hpt : pt < 3) : ∃ lo hi, N 8 0 (4 * t + pt) = nI lo ∧ N 8 0 (4 * t + pt + 1) = nI hi ∧ hi ≤ 160 ∧ lo + (L.getD pt []).length = hi ∧ (∀ k o, (L.getD pt [])[k]? = some o → N 7 0 (200 * t + (lo + k)) = encM o) ∧ wfd 32 (L.getD pt []) 0 := by
  obtain ⟨h3, hc, he, h160, hw⟩ := h
  match L, h3 with
  | [a, b, c], _ =>
  have e0 := he 0 (by decide)
  have e1 := he 1 (by decide)
  have e2 := he 2 (by decide)
  have e3 := he 3 (by decide)
  simp only [List.take_succ_cons, List.take_zero, List.flatten_cons, List.flatten_nil, List.append_nil, List.length_append, List.length_nil] at e0 e1 e2 e3 h160 hc
  match pt, hpt with
  | 0, _ => exact ⟨0, a.length, e0, e1, by omega, by simp, fun k o hk => by rw [Nat.zero_add]; exact hc k o (by rw [List.getElem?_append_left]; exact hk; exact (List.getElem?_eq_some_iff.1 hk).1), hw a (by simp)⟩
  | 1, _ => exact ⟨a.length, a.length + b.length, e1, e2, by omega, by simp, fun k o hk => hc _ o (by rw [List.getElem?_append_right (by omega), Nat.add_sub_cancel_left, List.getElem?_append_left]; exact hk; exact (List.getElem?_eq_some_iff.1 hk).1), hw b (by simp)⟩
  | 2, _ => exact ⟨a.length + b.length, a.length + (b.length + c.length), e2, e3, by omega, by simp [Nat.add_assoc], fun k o hk => hc _ o (by rw [List.getElem?_append_right (by omega), List.getElem?_append_right (by omega), show a.length + b.length + k - a.length - b.length = k by omega]; exact hk), hw c (by simp)⟩
theorem nI_4a (t y : Nat) : 4 * nI t + nI y = nI (4 * t + y) := by rw [show (4 : Int32) = nI 4 from rfl, nI_mul, nI_add]
theorem nI_200a (t y : Nat) : 200 * nI t + nI y = nI (200 * t + y) := by rw [show (200 : Int32) = nI 200 from rfl, nI_mul, nI_add]
theorem ok_X7_says0 {w : Wd} {d : Nat} (hd : 1 ≤ d) {N : Mem} {t pt : Nat} {L : List (List Op)} {nm : Nat → Int32} (ht : t < 6) (hr : N 0 0 13 = nI t) (hL : txN N t L) (hpt : pt < 3) (hnm : ∀ k, k ≤ 5 → N 18 0 k = nm k) :
    lr_Ok tM s0 w d jX7_says [vo 0 0, vi (nI pt)] N (fun r N' => r = some (vi (evA nm (L.getD pt []) [])) ∧ ∀ t, t ≠ 17 → N' t = N t) := by
  obtain ⟨lo, hi, hlo, hhi, h160, hlen, hcode, hwf⟩ := txN_v hL hpt
  generalize L.getD pt [] = ops at *
  have i8 : vp_in (4 * nI t + nI pt) 24 := by rw [nI_4a]; exact vp_in_nI (by omega) (by decide)
  have i81 : vp_in (4 * nI t + nI pt + 1) 24 := by rw [nI_4a, nI_1]; exact vp_in_nI (by omega) (by decide)
  have c8 : (4 * nI t + nI pt).toNatClampNeg = 4 * t + pt := by rw [nI_4a, nI_clamp (by omega)]
  have c81 : (4 * nI t + nI pt + 1).toNatClampNeg = 4 * t + pt + 1 := by rw [nI_4a, nI_1, nI_clamp (by omega)]
  have loop : ∀ (os : List Op) (st : List Int32) (i : Nat) (N1 : Mem) (j4 : Option AV), (∀ k o, os[k]? = some o → N 7 0 (200 * t + (i + k)) = encM o) → i + os.length = hi → wfd 32 os st.length → st.length ≤ 32 → stk (N1 17 0) st → (∀ t, t ≠ 17 → N1 t = N t) →
      lr_W tM s0 w d jX7_says 16 [some (vo 0 0), some (vi (nI pt)), some (vi (nI st.length)), some (vi (nI i)), j4] [] N1 (fun r N' => r = some (vi (evA nm os st)) ∧ ∀ t, t ≠ 17 → N' t = N t) := by
    intro os
    induction os with
    | nil =>
      intro st i N1 j4 hseg hi2 hw h32 hst hag
      have hlen1 : st.length = 1 := hw
      have e8 : N1 8 = N 8 := hag 8 (by decide)
      have e0 : N1 0 0 13 = nI t := by rw [hag 0 (by decide)]; exact hr
      have ei : hi = i := by simpa using hi2.symm
      subst ei
      obtain ⟨v, rfl⟩ : ∃ v, st = [v] := by
        match st, hlen1 with
        | [v], _ => exact ⟨v, rfl⟩
      refine ri_ild a_X7_says_16 rfl ?_
      refine ri_ald a_X7_says_17 rfl ?_
      refine ri_getR (t' := 8) (i' := 0) a_X7_says_18 fl_X7_31 kM_0_11 rfl iM_0 (Or.inr ⟨rfl, rfl, rfl⟩) ?_
      refine ri_ic a_X7_says_21 ?_
      refine ri_ald a_X7_says_22 rfl ?_
      refine ri_getI a_X7_says_23 fl_X7_109 kM_0_13 rfl iM_0 ?_
      refine ri_imul a_X7_says_26 ?_
      refine ri_ild a_X7_says_27 rfl ?_
      refine ri_iadd a_X7_says_28 ?_
      refine ri_ic a_X7_says_29 ?_
      refine ri_iadd a_X7_says_30 ?_
      refine ri_iaload a_X7_says_31 lM_8 rfl iM_8 (by rw [e0]; exact i81) ?_
      refine ri_icmp_ge a_X7_says_32 (fun zc11 => ?_) (fun zc11 => ?_)
      · refine ri_ald a_X7_says_197 rfl ?_
        refine ri_getR (t' := 17) (i' := 0) a_X7_says_198 fl_X7_58 kM_0_30 rfl iM_0 (Or.inr ⟨rfl, rfl, rfl⟩) ?_
        refine ri_ic a_X7_says_201 ?_
        refine ri_iaload a_X7_says_202 lM_17 rfl iM_17 (vp_in_lit (by decide) (by decide)) ?_
        refine ri_ireturn a_X7_says_203 rfl rfl ?_
        refine ⟨?_, hag⟩
        have h0 : N1 17 0 0 = v := hst.1
        show some (vi (N1 17 0 0)) = some (vi v)
        rw [h0]
      · exact absurd (by rw [e8, e0, c81, hhi]; exact Int32.le_refl _) zc11
    | cons o os ih =>
      intro st i N1 j4 hseg hi2 hw h32 hst hag
      have e7 : N1 7 = N 7 := hag 7 (by decide)
      have e8 : N1 8 = N 8 := hag 8 (by decide)
      have e18 : N1 18 = N 18 := hag 18 (by decide)
      have e0 : N1 0 0 13 = nI t := by rw [hag 0 (by decide)]; exact hr
      simp only [List.length_cons] at hi2
      have hseg2 : ∀ k o', os[k]? = some o' → N 7 0 (200 * t + (i + 1 + k)) = encM o' := fun k o' h => by
        have := hseg (k + 1) o' (by simpa using h)
        rwa [show i + (k + 1) = i + 1 + k by omega] at this
      have i7 : vp_in (200 * nI t + nI i) 1200 := by rw [nI_200a]; exact vp_in_nI (by omega) (by decide)
      have hco : N1 7 0 (200 * nI t + nI i).toNatClampNeg = encM o := by
        rw [e7, nI_200a, nI_clamp (by omega)]
        exact hseg 0 o rfl
      obtain ⟨hok, hw⟩ := hw
      have nxt : ∀ (st' : List Int32) (N2 : Mem) (j4 : Option AV), opSt nm o st = st' → wfd 32 os st'.length → st'.length ≤ 32 → stk (N2 17 0) st' → (∀ t, t ≠ 17 → N2 t = N t) → lr_W tM s0 w d jX7_says 191 [some (vo 0 0), some (vi (nI pt)), some (vi (nI st'.length)), some (vi (nI i)), j4] [] N2 (fun r N' => r = some (vi (evA nm (o :: os) st)) ∧ ∀ t, t ≠ 17 → N' t = N t) := by
        intro st' N2 j4 ho hw2 h322 hst2 hag2
        rw [evA, ho]
        refine ri_iinc (c0 := 1) (f := fun zx11 => [some (vo 0 0), some (vi (nI pt)), some (vi (nI st'.length)), some (vi zx11), j4]) a_X7_says_191 rfl (by decide) (fun _ => rfl) (fun zx11 ezx11 => ?_)
        refine ri_goto a_X7_says_194 ?_
        rw [ezx11, nI_1]
        exact ih st' (i + 1) N2 j4 hseg2 (by omega) hw2 h322 hst2 hag2
      have up17 : ∀ {p : Nat} {x : Int32}, ∀ t, t ≠ 17 → up N1 17 0 p x t = N t := fun {p x} t ht => by
        rw [← hag t ht]
        funext a b
        rw [up_apply, if_neg (fun q => ht q.1)]
      refine ri_ild a_X7_says_16 rfl ?_
      refine ri_ald a_X7_says_17 rfl ?_
      refine ri_getR (t' := 8) (i' := 0) a_X7_says_18 fl_X7_31 kM_0_11 rfl iM_0 (Or.inr ⟨rfl, rfl, rfl⟩) ?_
      refine ri_ic a_X7_says_21 ?_
      refine ri_ald a_X7_says_22 rfl ?_
      refine ri_getI a_X7_says_23 fl_X7_109 kM_0_13 rfl iM_0 ?_
      refine ri_imul a_X7_says_26 ?_
      refine ri_ild a_X7_says_27 rfl ?_
      refine ri_iadd a_X7_says_28 ?_
      refine ri_ic a_X7_says_29 ?_
      refine ri_iadd a_X7_says_30 ?_
      refine ri_iaload a_X7_says_31 lM_8 rfl iM_8 (by rw [e0]; exact i81) ?_
      refine ri_icmp_ge a_X7_says_32 (fun zc11 => ?_) (fun zc11 => ?_)
      · exact absurd zc11 (by rw [e8, e0, c81, hhi]; exact nI_ge (by omega) (by omega))
      · refine ri_ald a_X7_says_35 rfl ?_
        refine ri_getR (t' := 7) (i' := 0) a_X7_says_36 fl_X7_28 kM_0_10 rfl iM_0 (Or.inr ⟨rfl, rfl, rfl⟩) ?_
        refine ri_ic a_X7_says_39 ?_
        refine ri_ald a_X7_says_42 rfl ?_
        refine ri_getI a_X7_says_43 fl_X7_109 kM_0_13 rfl iM_0 ?_
        refine ri_imul a_X7_says_46 ?_
        refine ri_ild a_X7_says_47 rfl ?_
        refine ri_iadd a_X7_says_48 ?_
        refine ri_iaload a_X7_says_49 lM_7 rfl iM_7 (by rw [e0]; exact i7) ?_
        rw [e0, hco]
        refine ri_istk (ls' := [some (vo 0 0), some (vi (nI pt)), some (vi (nI st.length)), some (vi (nI i)), some (vi (encM o))]) a_X7_says_50 rfl ?_
        rcases enM_kinds hok with ⟨hk, h1, h2⟩ | ⟨hk, h1, h2, h3, h5⟩ | ⟨hk, h1, h2, h3⟩ | ⟨hk, h1, h2, h3, h4, h5, h6⟩
        · rw [hk] at hw
          have hop : opSt nm o st = nI o.2 :: st := by simp only [opSt, hk]
          have nlt : ¬ encM o < 11 := fun q => absurd (Int32.lt_of_lt_of_le q (Int32.le_trans (show (11 : Int32) ≤ 100000 by decide) h1)) (Int32.lt_irrefl _)
          refine ri_ild a_X7_says_52 rfl ?_
          refine ri_ic a_X7_says_54 ?_
          refine ri_icmp_ge a_X7_says_56 (fun zc21 => ?_) (fun zc21 => ?_)
          · refine ri_ald a_X7_says_66 rfl ?_
            refine ri_getR (t' := 17) (i' := 0) a_X7_says_67 fl_X7_58 kM_0_30 rfl iM_0 (Or.inr ⟨rfl, rfl, rfl⟩) ?_
            refine ri_ild a_X7_says_70 rfl ?_
            refine ri_ild a_X7_says_71 rfl ?_
            refine ri_ic a_X7_says_73 ?_
            refine ri_icmp_ge a_X7_says_75 (fun zc22 => ?_) (fun zc22 => ?_)
            · refine ri_ild a_X7_says_88 rfl ?_
              refine ri_ic a_X7_says_90 ?_
              refine ri_isub a_X7_says_92 ?_
              refine ri_iastore a_X7_says_93 lM_17 rfl iM_17 ?_ (fun zM23 ezM23 => ?_)
              · exact vp_in_nI (by omega) (by decide)
              refine ri_iinc (c0 := 1) (f := fun zx24 => [some (vo 0 0), some (vi (nI pt)), some (vi zx24), some (vi (nI i)), some (vi (encM o))]) a_X7_says_94 rfl (by decide) (fun _ => rfl) (fun zx24 ezx24 => ?_)
              refine ri_goto a_X7_says_97 ?_
              rw [ezx24, nI_1]
              refine nxt (nI o.2 :: st) _ _ hop hw.2 (by simp only [List.length_cons]; omega) ?_ ?_
              · rw [ezM23, nI_clamp (by omega), h2, up_at]
                exact stk_push hst
              · rw [ezM23]; exact up17
            · exact absurd (by assumption) nlt
          · exact absurd h1 (by assumption)
        · rw [hk] at hw
          have hop : opSt nm o st = nm o.2 :: st := by simp only [opSt, hk]
          refine ri_ild a_X7_says_52 rfl ?_
          refine ri_ic a_X7_says_54 ?_
          refine ri_icmp_ge a_X7_says_56 (fun zc21 => ?_) (fun zc21 => ?_)
          · refine ri_ald a_X7_says_66 rfl ?_
            refine ri_getR (t' := 17) (i' := 0) a_X7_says_67 fl_X7_58 kM_0_30 rfl iM_0 (Or.inr ⟨rfl, rfl, rfl⟩) ?_
            refine ri_ild a_X7_says_70 rfl ?_
            refine ri_ild a_X7_says_71 rfl ?_
            refine ri_ic a_X7_says_73 ?_
            refine ri_icmp_ge a_X7_says_75 (fun zc22 => ?_) (fun zc22 => ?_)
            · skip
            · refine ri_ald a_X7_says_78 rfl ?_
              refine ri_getR (t' := 18) (i' := 0) a_X7_says_79 fl_X7_61 kM_0_31 rfl iM_0 (Or.inr ⟨rfl, rfl, rfl⟩) ?_
              refine ri_ild a_X7_says_82 rfl ?_
              refine ri_iaload a_X7_says_84 lM_18 rfl iM_18 (by rw [h3]; exact vp_in_nI (by omega) (by decide)) ?_
              refine ri_goto a_X7_says_85 ?_
              refine ri_iastore a_X7_says_93 lM_17 rfl iM_17 ?_ (fun zM23 ezM23 => ?_)
              · skip
              refine ri_iinc (c0 := 1) (f := fun zx24 => [some (vo 0 0), some (vi (nI pt)), some (vi zx24), some (vi (nI i)), some (vi (encM o))]) a_X7_says_94 rfl (by decide) (fun _ => rfl) (fun zx24 ezx24 => ?_)
              refine ri_goto a_X7_says_97 ?_
              skip
          · refine ri_ild a_X7_says_59 rfl ?_
            refine ri_ic a_X7_says_61 ?_
            refine ri_icmp_ge a_X7_says_63 (fun zc25 => ?_) (fun zc25 => ?_)
            · skip
            · refine ri_ald a_X7_says_66 rfl ?_
              refine ri_getR (t' := 17) (i' := 0) a_X7_says_67 fl_X7_58 kM_0_30 rfl iM_0 (Or.inr ⟨rfl, rfl, rfl⟩) ?_
              refine ri_ild a_X7_says_70 rfl ?_
              refine ri_ild a_X7_says_71 rfl ?_
              refine ri_ic a_X7_says_73 ?_
              refine ri_icmp_ge a_X7_says_75 (fun zc26 => ?_) (fun zc26 => ?_)
              · skip
              · refine ri_ald a_X7_says_78 rfl ?_
                refine ri_getR (t' := 18) (i' := 0) a_X7_says_79 fl_X7_61 kM_0_31 rfl iM_0 (Or.inr ⟨rfl, rfl, rfl⟩) ?_
                refine ri_ild a_X7_says_82 rfl ?_
                refine ri_iaload a_X7_says_84 lM_18 rfl iM_18 (by rw [h3]; exact vp_in_nI (by omega) (by decide)) ?_
                refine ri_goto a_X7_says_85 ?_
                refine ri_iastore a_X7_says_93 lM_17 rfl iM_17 ?_ (fun zM27 ezM27 => ?_)
                · skip
                refine ri_iinc (c0 := 1) (f := fun zx28 => [some (vo 0 0), some (vi (nI pt)), some (vi zx28), some (vi (nI i)), some (vi (encM o))]) a_X7_says_94 rfl (by decide) (fun _ => rfl) (fun zx28 ezx28 => ?_)
                refine ri_goto a_X7_says_97 ?_
                skip
        · rw [hk] at hw
          skip
        · rw [hk] at hw
          skip
  refine lr_ok (by decide +kernel) rfl ?_
  refine ri_ic a_X7_says_0 ?_
  refine ri_istk (ls' := [some (vo 0 0), some (vi (nI pt)), some (vi 0), none, none]) a_X7_says_1 rfl ?_
  refine ri_ald a_X7_says_2 rfl ?_
  refine ri_getR (t' := 8) (i' := 0) a_X7_says_3 fl_X7_31 kM_0_11 rfl iM_0 (Or.inr ⟨rfl, rfl, rfl⟩) ?_
  refine ri_ic a_X7_says_6 ?_
  refine ri_ald a_X7_says_7 rfl ?_
  refine ri_getI a_X7_says_8 fl_X7_109 kM_0_13 rfl iM_0 ?_
  refine ri_imul a_X7_says_11 ?_
  refine ri_ild a_X7_says_12 rfl ?_
  refine ri_iadd a_X7_says_13 ?_
  refine ri_iaload a_X7_says_14 lM_8 rfl iM_8 (by rw [hr]; exact i8) ?_
  rw [hr, c8, hlo]
  refine ri_istk (ls' := [some (vo 0 0), some (vi (nI pt)), some (vi 0), some (vi (nI lo)), none]) a_X7_says_15 rfl ?_
  exact loop ops [] lo N none hcode hlen hwf (Nat.zero_le _) True.intro (fun _ _ => rfl)

