/-! reference: a text is read -/
theorem ok_X7_eRead {w : Wd} {d : Nat} (hd : 3 ≤ d) {tp : Nat → Int32} {n tc : Nat} (hn2 : n ≤ 160) (ht6 : tc < 6) {N : Mem} {acc : List Op} {s0 : PS} (hs : okS n s0) (hb : bsN tp n tc N acc) (h21 : N 0 0 21 = nI s0.2.2) (hl : acc.length ≤ s0.2.2) : lr_Ok tM sM w d jX7_eRead [vo 0 0] N (qX fun r N' => erQ tp n tc N acc (pEx tp n (pnx tp n s0)) r N') := by
  have hnx := pnx_ok tp hs
  have hnt := pnx_okT tp n s0
  obtain ⟨a1, a2, a3, a4, a5, a6⟩ := hb
  have he : edN tp n tc (up (up N 0 0 27 0) 0 0 28 0) [] acc := ⟨a1, fun k hk c hc => a2 k hk c hc, a3, a4, by rw [up_k (by decide), up_same]; rfl, trivial, fun _ h => (by cases h), by rw [up_same]; rfl, a5, fun i o ho => a6 i o ho⟩
  have hgn := ok_X7_goesNext (w := w) (d := d - 1) (by omega) he.2.1 he.2.2.2.1 hn2 (a := s0.2.2) (by rw [up_k (by decide), up_k (by decide)]; exact h21) hs.2.1
  rw [he.2.2.1] at hgn
  have hf0 : frE tc N (up (up N 0 0 27 0) 0 0 28 0) := fun t i k a b c => by rw [up_apply, if_neg (fun q => c ⟨q.1, q.2.1, by omega, by omega⟩), up_apply, if_neg (fun q => c ⟨q.1, q.2.1, by omega, by omega⟩)]
  rw [← qgo_eq (f := n + 2) hn2 hnx.1 (by omega)]
  refine lr_ok (by decide +kernel) rfl ?_
  refine ri_ald a_X7_eRead_0 rfl ?_
  refine ri_ic a_X7_eRead_1 ?_
  refine ri_putI a_X7_eRead_2 fp_X7_135 kM_0_27 rfl iM_0 (fun zM11 ezM11 => ?_)
  refine ri_ald a_X7_eRead_5 rfl ?_
  refine ri_ic a_X7_eRead_6 ?_
  refine ri_putI a_X7_eRead_7 fp_X7_142 kM_0_28 rfl iM_0 (fun zM12 ezM12 => ?_)
  refine ri_ic a_X7_eRead_10 ?_
  refine ri_istk (ls' := [some (vo 0 0), some (vi 1), none, none]) a_X7_eRead_11 rfl ?_
  refine ri_ic a_X7_eRead_12 ?_
  refine ri_istk (ls' := [some (vo 0 0), some (vi 1), some (vi 1), none]) a_X7_eRead_13 rfl ?_
  refine ri_ald a_X7_eRead_14 rfl ?_
  refine ri_cVxv (as := []) (rest := []) (d' := d - 1) a_X7_eRead_15 mv_X7_goesNext ml_X7_155 (rcM_0 iM_0) (by omega) ((by rw [ezM12, ezM11]; exact hgn)) (Nat.le_of_ble_eq_true rfl) rfl (fun zM13 hzM13 => ?_)
  exact lp_eRead hd hn2 ht6 (n + 2) (pnx tp n s0) [] [] true true zM13 none hnx.1 hnt (by omega) (by rw [List.append_nil]; exact edN_K hzM13.1 he) hzM13.2 (frE_tr hf0 (frK_E hzM13.1)) (by rw [List.append_nil, List.length_nil]; omega)
def frX (tc : Nat) (N N' : Mem) : Prop := ∀ t i k, t ≠ 16 → ¬ (t = 7 ∧ i = 0 ∧ 200 * tc ≤ k ∧ k < 200 * tc + 200) → ¬ (t = 8 ∧ i = 0 ∧ 4 * tc ≤ k ∧ k < 4 * tc + 4) → ¬ (t = 0 ∧ i = 0 ∧ (k = 9 ∨ (21 ≤ k ∧ k ≤ 29))) → N' t i k = N t i k
theorem frX_rf {tc : Nat} {N : Mem} : frX tc N N := fun _ _ _ _ _ _ _ => rfl
theorem frX_tr {tc : Nat} {N N1 N2 : Mem} (h : frX tc N N1) (h2 : frX tc N1 N2) : frX tc N N2 := fun t i k a b c e => (h2 t i k a b c e).trans (h t i k a b c e)
theorem frE_X {tc : Nat} {N N1 : Mem} (h : frE tc N N1) : frX tc N N1 := fun t i k a b _ e => h t i k a b (fun q => e ⟨q.1, q.2.1, Or.inr q.2.2⟩)
theorem frX_8 {tc k : Nat} {N : Mem} {x : Int32} (hk : k < 4) : frX tc N (up N 8 0 (4 * tc + k) x) := fun t i k' _ _ c _ => by rw [up_apply, if_neg (fun q => c ⟨q.1, q.2.1, by omega, by omega⟩)]
def tnQ (N : Mem) (tc n : Nat) (res : Nat ⊕ List (List Op)) (r : Int32) (N' : Mem) : Prop := match res with
  | .inl p => r = -100 - nI p ∧ p ≤ n ∧ frX tc N N' ∧ N' 0 0 9 = 0
  | .inr L => r = nI tc ∧ txN N' tc L ∧ frX tc (up N 0 0 12 (nI (tc + 1))) N' ∧ N' 0 0 9 = 0
def pTf (res : Nat ⊕ (PS × List (List Op))) : Nat ⊕ List (List Op) := match res with
  | .inl p => .inl p
  | .inr x => if x.1.1 = (0, 0) then .inr x.2 else .inl x.1.2.1
theorem pTx_f {tp : Nat → Int32} {n : Nat} : pTx tp n = pTf (pTk tp n 3 0 (tkA tp n 0) []) := rfl
theorem ok_X7_text {w : Wd} {d : Nat} (hd : 4 ≤ d) {N : Mem} {n tc : Nat} (hw : wdN N) (hn : N 0 0 9 = nI n) (hn2 : n ≤ 160) (ht : N 0 0 12 = nI tc) (ht6 : tc ≤ 6) : lr_Ok tM sM w d jX7_text [vo 0 0] N (qX fun r N' => if tc = 6 then r = -4 ∧ N' = N else tnQ N tc n (pTx (N 6 0) n) r N') := by
  refine lr_ok (by decide +kernel) rfl ?_
  by_cases h6 : tc = 6
  · subst h6
    refine ri_ald a_X7_text_0 rfl ?_
    refine ri_getI a_X7_text_1 fl_X7_106 kM_0_12 rfl iM_0 ?_
    refine ri_ic a_X7_text_4 ?_
    refine ri_icmp_ne a_X7_text_6 (fun zc1 => ?_) (fun zc1 => ?_)
    · exact absurd (by rw [ht]; decide) zc1
    · refine ri_ic a_X7_text_9 ?_
      refine ri_ireturn a_X7_text_11 rfl rfl ?_
      exact rX (by rw [if_pos rfl]; exact ⟨rfl, rfl⟩)
  · have ht5 : tc < 6 := by omega
    have ix : ∀ k, k < 4 → vp_in (4 * nI tc + nI k) 24 := fun k hk => by rw [show (4 : Int32) = nI 4 from rfl, nI_mul, nI_add]; exact vp_in_nI (by omega) (by decide)
    have cx : ∀ k, k < 4 → (4 * nI tc + nI k).toNatClampNeg = 4 * tc + k := fun k hk => by rw [show (4 : Int32) = nI 4 from rfl, nI_mul, nI_add, nI_clamp (by omega)]
    generalize htp : N 6 0 = tp
    -- a fault
    have flt : ∀ p x2 N1, p ≤ n → N1 0 0 22 = nI p → N1 0 0 12 = nI tc → frX tc N N1 → lr_W tM sM w d jX7_text 122 [some (vo 0 0), some (vi 0), x2] [] N1 (qX fun r N' => tnQ N tc n (.inl p) r N') := by
      intro p x2 N1 hp h22 h12 hf
      refine ri_ald a_X7_text_122 rfl ?_
      refine ri_getR (t' := 8) (i' := 0) a_X7_text_123 fl_X7_31 kM_0_11 rfl iM_0 (Or.inr ⟨rfl, rfl, rfl⟩) ?_
      refine ri_ic a_X7_text_126 ?_
      refine ri_ald a_X7_text_127 rfl ?_
      refine ri_getI a_X7_text_128 fl_X7_106 kM_0_12 rfl iM_0 ?_
      refine ri_imul a_X7_text_131 ?_
      refine ri_ic a_X7_text_132 ?_
      refine ri_iadd a_X7_text_133 ?_
      refine ri_ald a_X7_text_134 rfl ?_
      refine ri_getI a_X7_text_135 fl_X7_132 kM_0_29 rfl iM_0 ?_
      refine ri_iastore a_X7_text_138 lM_8 rfl iM_8 (by rw [h12]; exact ix 3 (by decide)) (fun zM11 ezM11 => ?_)
      refine ri_ald a_X7_text_139 rfl ?_
      refine ri_ic a_X7_text_140 ?_
      refine ri_putI a_X7_text_141 fp_X7_85 kM_0_9 rfl iM_0 (fun zM12 ezM12 => ?_)
      refine ri_ild a_X7_text_144 rfl ?_
      refine ri_if_ne a_X7_text_145 (fun q => absurd q (by decide)) (fun _ => ?_)
      refine ri_ic a_X7_text_148 ?_
      refine ri_ald a_X7_text_150 rfl ?_
      refine ri_getI a_X7_text_151 fl_X7_119 kM_0_22 rfl iM_0 ?_
      refine ri_isub a_X7_text_154 ?_
      refine ri_ireturn a_X7_text_155 rfl rfl ?_
      rw [h12, show (3 : Int32) = nI 3 from rfl, cx 3 (by decide)] at ezM11
      refine rX ⟨by rw [ezM12, ezM11, up_apply, if_neg (by decide), up_apply, if_neg (by omega), h22], hp, ?_, by rw [ezM12, up_same]⟩
      rw [ezM12, ezM11]
      exact frX_tr hf (frX_tr (frX_8 (k := 3) (by decide)) (fun t i k a b c e => by rw [up_apply, if_neg (fun q => e ⟨q.1, q.2.1, Or.inl q.2.2⟩)]))
    have fl26 : ∀ p k N1, k ≤ 3 → p ≤ n → N1 0 0 22 = nI p → N1 0 0 12 = nI tc → frX tc N N1 → lr_W tM sM w d jX7_text 26 [some (vo 0 0), some (vi 0), some (vi (nI k))] [] N1 (qX fun r N' => tnQ N tc n (.inl p) r N') := by
      intro p k N1 hk hp h22 h12 hf
      refine ri_ild a_X7_text_26 rfl ?_
      refine ri_ic a_X7_text_27 ?_
      refine ri_icmp_ge a_X7_text_28 (fun zc11 => ?_) (fun zc11 => ?_)
      · refine ri_ild a_X7_text_101 rfl ?_
        refine ri_if_eq a_X7_text_102 (fun _ => ?_) (fun q => absurd q (by decide))
        first
        | exact flt p _ N1 hp h22 h12 hf
        | (exfalso; revert zc11; decide)
        | (exfalso; revert zc12; decide)
        | trace_state
      · refine ri_ild a_X7_text_31 rfl ?_
        refine ri_if_eq a_X7_text_32 (fun _ => ?_) (fun q => absurd q (by decide))
        refine ri_ild a_X7_text_101 rfl ?_
        refine ri_if_eq a_X7_text_102 (fun _ => ?_) (fun q => absurd q (by decide))
        first
        | exact flt p _ N1 hp h22 h12 hf
        | (exfalso; revert zc11; decide)
        | (exfalso; revert zc12; decide)
        | trace_state
    -- the end
    have fin : ∀ a acc N1, a ≤ n → bsN tp n tc N1 acc.flatten → N1 0 0 21 = nI a → acc.flatten.length ≤ a → acc.length = 3 → (∀ j, j < 3 → N1 8 0 (4 * tc + j) = nI (acc.take j).flatten.length) → frX tc N N1 → (∀ ops ∈ acc, wfd 32 ops 0) → lr_W tM sM w d jX7_text 101 [some (vo 0 0), some (vi 1), some (vi 3)] [] N1 (qX fun r N' => tnQ N tc n (pTf (.inr (tkA tp n a, acc))) r N') := by
      intro a acc N1 ha hb h21 hl h3 hj hf hwf
      obtain ⟨a1, a2, a3, a4, a5, a6⟩ := id hb
      have hgn := ok_X7_goesNext (w := w) (d := d - 1) (by omega) a2 a4 hn2 h21 ha
      rw [a3] at hgn
      have hs := tkA_ok tp ha
      have htk := tkA_okT tp n a
      generalize tkA tp n a = s at hgn hs htk ⊢
      have q0 := (rk_is htk).2.2.2.2.2.2.1
      have hsn := hs.1.1
      refine ri_ild a_X7_text_101 rfl ?_
      refine ri_if_eq a_X7_text_102 (fun q => absurd q (by decide)) (fun _ => ?_)
      refine ri_ald a_X7_text_105 rfl ?_
      refine ri_cVxv (as := []) (rest := []) (d' := d - 1) a_X7_text_106 mv_X7_goesNext ml_X7_155 (rcM_0 iM_0) (by omega) (hgn) (Nat.le_of_ble_eq_true rfl) rfl (fun zM21 hzM21 => ?_)
      refine ri_ald a_X7_text_109 rfl ?_
      refine ri_getI a_X7_text_110 fl_X7_122 kM_0_23 rfl iM_0 ?_
      refine ri_if_ne a_X7_text_113 (fun zc22 => ?_) (fun zc22 => ?_)
      · refine ri_ic a_X7_text_120 ?_
        refine ri_istk (ls' := [some (vo 0 0), some (vi 0), some (vi 3)]) a_X7_text_121 rfl ?_
        have e0 : pTf (.inr (s, acc)) = .inl s.2.1 := by
          unfold pTf
          dsimp only
          rw [if_neg (fun z => zc22 (by rw [hzM21.2.2.2.1]; exact q0.2 z))]
        rw [e0]
        exact flt s.2.1 _ zM21 hsn hzM21.2.2.1 (by rw [hzM21.1 0 0 12 (by omega)]; exact a1) (frX_tr hf (frE_X (frK_E (tc := tc) hzM21.1)))
      · refine ri_ic a_X7_text_116 ?_
        refine ri_goto a_X7_text_117 ?_
        refine ri_istk (ls' := [some (vo 0 0), some (vi 1), some (vi 3)]) a_X7_text_121 rfl ?_
        have e0 : pTf (.inr (s, acc)) = .inr acc := by
          unfold pTf
          dsimp only
          rw [if_pos (q0.1 (by rw [← hzM21.2.2.2.1]; exact zc22))]
        rw [e0]
        have h12 : zM21 0 0 12 = nI tc := by rw [hzM21.1 0 0 12 (by omega)]; exact a1
        have h29 : zM21 0 0 29 = nI acc.flatten.length := by rw [hzM21.1 0 0 29 (by omega)]; exact a5
        have hg := hzM21.1
        have hf1 := frX_tr hf (frE_X (frK_E (tc := tc) hzM21.1))
        refine ri_ald a_X7_text_122 rfl ?_
        refine ri_getR (t' := 8) (i' := 0) a_X7_text_123 fl_X7_31 kM_0_11 rfl iM_0 (Or.inr ⟨rfl, rfl, rfl⟩) ?_
        refine ri_ic a_X7_text_126 ?_
        refine ri_ald a_X7_text_127 rfl ?_
        refine ri_getI a_X7_text_128 fl_X7_106 kM_0_12 rfl iM_0 ?_
        refine ri_imul a_X7_text_131 ?_
        refine ri_ic a_X7_text_132 ?_
        refine ri_iadd a_X7_text_133 ?_
        refine ri_ald a_X7_text_134 rfl ?_
        refine ri_getI a_X7_text_135 fl_X7_132 kM_0_29 rfl iM_0 ?_
        refine ri_iastore a_X7_text_138 lM_8 rfl iM_8 (by rw [h12]; exact ix 3 (by decide)) (fun zM31 ezM31 => ?_)
        refine ri_ald a_X7_text_139 rfl ?_
        refine ri_ic a_X7_text_140 ?_
        refine ri_putI a_X7_text_141 fp_X7_85 kM_0_9 rfl iM_0 (fun zM32 ezM32 => ?_)
        refine ri_ild a_X7_text_144 rfl ?_
        refine ri_if_ne a_X7_text_145 (fun _ => ?_) (fun q => absurd q (by decide))
        refine ri_ald a_X7_text_156 rfl ?_
        refine ri_dup a_X7_text_157 (fun _ h => by cases h) ?_
        refine ri_getI a_X7_text_158 fl_X7_106 kM_0_12 rfl iM_0 ?_
        refine ri_ic a_X7_text_161 ?_
        refine ri_iadd a_X7_text_162 ?_
        refine ri_putI a_X7_text_163 fp_X7_106 kM_0_12 rfl iM_0 (fun zM33 ezM33 => ?_)
        refine ri_ald a_X7_text_166 rfl ?_
        refine ri_getI a_X7_text_167 fl_X7_106 kM_0_12 rfl iM_0 ?_
        refine ri_ic a_X7_text_170 ?_
        refine ri_isub a_X7_text_171 ?_
        refine ri_ireturn a_X7_text_172 rfl rfl ?_
        rw [h12, show (3 : Int32) = nI 3 from rfl, cx 3 (by decide), h29] at ezM31
        have e12 : zM32 0 0 12 = nI tc := by rw [ezM32, ezM31, up_k (by decide), up_apply, if_neg (by omega)]; exact h12
        rw [e12, nI_1] at ezM33
        refine rX ⟨?_, ?_, ?_, ?_⟩
        · rw [ezM33, up_same, nI_pred]
        · refine ⟨h3, fun i o ho => ?_, fun j hj3 => ?_, by omega, hwf⟩
          · rw [ezM33, ezM32, ezM31, up_apply, if_neg (by omega), up_apply, if_neg (by omega), up_apply, if_neg (by omega), hg 7 0 _ (by omega)]
            exact a6 i o ho
          · rw [ezM33, ezM32, ezM31, up_apply, if_neg (by omega), up_apply, if_neg (by omega), up_apply]
            by_cases e : j = 3
            · rw [if_pos (by omega), e, ← h3, List.take_length]
            · rw [if_neg (by omega), hg 8 0 _ (by omega)]
              exact hj j (by omega)
        · intro t i k a b c e
          rw [ezM33, ezM32, ezM31, up_apply]
          by_cases q : t = 0 ∧ i = 0 ∧ k = 12
          · rw [if_pos q, up_apply, if_pos q]
          · rw [if_neg q, up_apply, if_neg (fun q => e ⟨q.1, q.2.1, Or.inl q.2.2⟩), up_apply, if_neg (fun q => c ⟨q.1, q.2.1, by omega, by omega⟩), hf1 t i k a b c e, up_apply, if_neg q]
        · rw [ezM33, up_k (by decide), ezM32, up_same]
    -- the parts
    have loop : ∀ r k a acc N1, 3 = k + r → a ≤ n → bsN tp n tc N1 acc.flatten → N1 0 0 21 = nI a → acc.flatten.length ≤ a → acc.length = k → (∀ j, j < k → N1 8 0 (4 * tc + j) = nI (acc.take j).flatten.length) → frX tc N N1 → (∀ ops ∈ acc, wfd 32 ops 0) → lr_W tM sM w d jX7_text 26 [some (vo 0 0), some (vi 1), some (vi (nI k))] [] N1 (qX fun r' N' => tnQ N tc n (pTf (pTk tp n r k (tkA tp n a) acc)) r' N') := by
      intro r
      induction r with
      | zero =>
        intro k a acc N1 hk ha hb h21 hl h3 hj hf hwf
        have : k = 3 := by omega
        subst this
        refine ri_ild a_X7_text_26 rfl ?_
        refine ri_ic a_X7_text_27 ?_
        refine ri_icmp_ge a_X7_text_28 (fun zc21 => ?_) (fun zc21 => ?_)
        · exact fin a acc N1 ha hb h21 hl h3 hj hf hwf
        · exact absurd (by decide) zc21
      | succ r ih =>
        intro k a acc N1 hk ha hb h21 hl h3 hj hf hwf
        obtain ⟨a1, a2, a3, a4, a5, a6⟩ := id hb
        have hgn := ok_X7_goesNext (w := w) (d := d - 1) (by omega) a2 a4 hn2 h21 ha
        rw [a3] at hgn
        have hs := tkA_ok tp ha
        have htk := tkA_okT tp n a
        rw [pTk]
        generalize tkA tp n a = s at hgn hs htk ⊢
        have q3 := (rk_is htk).2.2.2.2.2.2.2
        have hsn := hs.1.1
        have neg : s.1 ≠ (3, k) → ∀ N2, frK N1 N2 → rtN N2 s → lr_W tM sM w d jX7_text 60 [some (vo 0 0), some (vi 1), some (vi (nI k))] [vi 0] N2 (qX fun r' N' => tnQ N tc n (pTf (if s.1 = (3, k) then match pEx tp n (pnx tp n s) with
            | .inl p => .inl p
            | .inr x => pTk tp n r (k + 1) (pnx tp n x.1) (acc ++ [x.2])
          else .inl s.2.1)) r' N') := by
          intro hne N2 hf2 hr2
          rw [if_neg hne]
          have h12 : N2 0 0 12 = nI tc := by rw [hf2 0 0 12 (by omega)]; exact a1
          refine ri_istk (ls' := [some (vo 0 0), some (vi 0), some (vi (nI k))]) a_X7_text_60 rfl ?_
          refine ri_ald a_X7_text_61 rfl ?_
          refine ri_getR (t' := 8) (i' := 0) a_X7_text_62 fl_X7_31 kM_0_11 rfl iM_0 (Or.inr ⟨rfl, rfl, rfl⟩) ?_
          refine ri_ic a_X7_text_65 ?_
          refine ri_ald a_X7_text_66 rfl ?_
          refine ri_getI a_X7_text_67 fl_X7_106 kM_0_12 rfl iM_0 ?_
          refine ri_imul a_X7_text_70 ?_
          refine ri_ild a_X7_text_71 rfl ?_
          refine ri_iadd a_X7_text_72 ?_
          refine ri_ald a_X7_text_73 rfl ?_
          refine ri_getI a_X7_text_74 fl_X7_132 kM_0_29 rfl iM_0 ?_
          refine ri_iastore a_X7_text_77 lM_8 rfl iM_8 (by rw [h12]; exact ix k (by omega)) (fun zM41 ezM41 => ?_)
          refine ri_ild a_X7_text_78 rfl ?_
          refine ri_if_eq a_X7_text_79 (fun _ => ?_) (fun q => absurd q (by decide))
          refine ri_ic a_X7_text_93 ?_
          refine ri_istk (ls' := [some (vo 0 0), some (vi 0), some (vi (nI k))]) a_X7_text_94 rfl ?_
          refine ri_iinc (c0 := 1) (f := fun zx42 => [some (vo 0 0), some (vi 0), some (vi zx42)]) a_X7_text_95 rfl (by decide) (fun _ => rfl) (fun zx42 ezx42 => ?_)
          refine ri_goto a_X7_text_98 ?_
          rw [h12, cx k (by omega)] at ezM41
          rw [ezx42, nI_1]
          exact fl26 s.2.1 (k + 1) zM41 (by omega) hsn (by rw [ezM41, up_apply, if_neg (by omega)]; exact hr2.2.1) (by rw [ezM41, up_apply, if_neg (by omega)]; exact h12) (frX_tr hf (frX_tr (frE_X (frK_E hf2)) (by rw [ezM41]; exact frX_8 (by omega))))
        refine ri_ild a_X7_text_26 rfl ?_
        refine ri_ic a_X7_text_27 ?_
        refine ri_icmp_ge a_X7_text_28 (fun zc21 => ?_) (fun zc21 => ?_)
        · exact absurd zc21 (Int32.not_le.mpr (nI_lt (b := 3) (by omega) (by decide)))
        · refine ri_ild a_X7_text_31 rfl ?_
          refine ri_if_eq a_X7_text_32 (fun q => absurd q (by decide)) (fun _ => ?_)
          refine ri_ald a_X7_text_35 rfl ?_
          refine ri_cVxv (as := []) (rest := []) (d' := d - 1) a_X7_text_36 mv_X7_goesNext ml_X7_155 (rcM_0 iM_0) (by omega) (hgn) (Nat.le_of_ble_eq_true rfl) rfl (fun zM22 hzM22 => ?_)
          refine ri_ald a_X7_text_39 rfl ?_
          refine ri_getI a_X7_text_40 fl_X7_122 kM_0_23 rfl iM_0 ?_
          refine ri_ic a_X7_text_43 ?_
          refine ri_icmp_ne a_X7_text_44 (fun zc23 => ?_) (fun zc23 => ?_)
          · refine ri_ic a_X7_text_59 ?_
            refine neg (fun z => zc23 ?_) _ hzM22.1 hzM22.2
            rw [hzM22.2.2.2.1]
            exact q3.2 (by rw [z]; exact ⟨rfl, by show k < 3; omega⟩)
          · refine ri_ald a_X7_text_47 rfl ?_
            refine ri_getI a_X7_text_48 fl_X7_125 kM_0_24 rfl iM_0 ?_
            refine ri_ild a_X7_text_51 rfl ?_
            refine ri_icmp_ne a_X7_text_52 (fun zc24 => ?_) (fun zc24 => ?_)
            · refine ri_ic a_X7_text_59 ?_
              refine neg (fun z => zc24 ?_) _ hzM22.1 hzM22.2
              rw [hzM22.2.2.2.2.2.1 (by rw [z]) (by rw [z]; show k < 3; omega), z]
            · refine ri_ic a_X7_text_55 ?_
              refine ri_goto a_X7_text_56 ?_
              have e3 := q3.1 (by rw [← hzM22.2.2.2.1]; exact zc23)
              have e4 : s.1.2 = k := by
                have := hzM22.2.2.2.2.2.1 e3.1 e3.2
                exact (nI_eq (a := s.1.2) (b := k) (by omega) (by omega)).1 (this.symm.trans zc24)
              have e5 : s.1 = (3, k) := Prod.ext e3.1 e4
              rw [if_pos e5]
              have h12 : zM22 0 0 12 = nI tc := by rw [hzM22.1 0 0 12 (by omega)]; exact a1
              have h29 : zM22 0 0 29 = nI acc.flatten.length := by rw [hzM22.1 0 0 29 (by omega)]; exact a5
              have hf1 := frX_tr (frX_tr hf (frE_X (frK_E (tc := tc) hzM22.1))) (frX_8 (tc := tc) (k := k) (x := nI acc.flatten.length) (by omega))
              have hb3 : bsN tp n tc (up zM22 8 0 (4 * tc + k) (nI acc.flatten.length)) acc.flatten := ⟨h12, fun q hq c hc => by rw [up_apply, if_neg (by omega), hzM22.1 15 0 _ (by omega)]; exact a2 q hq c hc, by rw [← a3]; exact funext fun q => by rw [up_apply, if_neg (by omega), hzM22.1 6 0 q (by omega)], by rw [up_apply, if_neg (by omega), hzM22.1 0 0 9 (by omega)]; exact a4, h29, fun i o ho => by rw [up_apply, if_neg (by omega), hzM22.1 7 0 _ (by omega)]; exact a6 i o ho⟩
              have her := ok_X7_eRead (w := w) (d := d - 1) (by omega) hn2 ht5 hs.1 hb3 hzM22.2.1 (by have := hs.1.2.2.1; omega)
              have hpx := @pEx_ok tp n (pnx tp n s)
              have hsx := pnx_ok tp hs.1
              cases hres : pEx tp n (pnx tp n s) with
              | inl p =>
                rw [hres] at her
                refine ri_istk (ls' := [some (vo 0 0), some (vi 1), some (vi (nI k))]) a_X7_text_60 rfl ?_
                refine ri_ald a_X7_text_61 rfl ?_
                refine ri_getR (t' := 8) (i' := 0) a_X7_text_62 fl_X7_31 kM_0_11 rfl iM_0 (Or.inr ⟨rfl, rfl, rfl⟩) ?_
                refine ri_ic a_X7_text_65 ?_
                refine ri_ald a_X7_text_66 rfl ?_
                refine ri_getI a_X7_text_67 fl_X7_106 kM_0_12 rfl iM_0 ?_
                refine ri_imul a_X7_text_70 ?_
                refine ri_ild a_X7_text_71 rfl ?_
                refine ri_iadd a_X7_text_72 ?_
                refine ri_ald a_X7_text_73 rfl ?_
                refine ri_getI a_X7_text_74 fl_X7_132 kM_0_29 rfl iM_0 ?_
                refine ri_iastore a_X7_text_77 lM_8 rfl iM_8 (by rw [h12]; exact ix k (by omega)) (fun zM41 ezM41 => ?_)
                refine ri_ild a_X7_text_78 rfl ?_
                refine ri_if_eq a_X7_text_79 (fun q => absurd q (by decide)) (fun _ => ?_)
                refine ri_ald a_X7_text_82 rfl ?_
                refine ri_cVxi (as := []) (rest := []) (d' := d - 1) a_X7_text_83 mv_X7_eRead ml_X7_168 (rcM_0 iM_0) (by omega) ((by rw [ezM41, h12, cx k (by omega), h29]; exact her)) (Nat.le_of_ble_eq_true rfl) rfl (fun zy42 zM43 hzy42 => ?_)
                refine ri_if_eq a_X7_text_86 (fun zc44 => ?_) (fun zc44 => ?_)
                · refine ri_ic a_X7_text_93 ?_
                  refine ri_istk (ls' := [some (vo 0 0), some (vi 0), some (vi (nI k))]) a_X7_text_94 rfl ?_
                  refine ri_iinc (c0 := 1) (f := fun zx45 => [some (vo 0 0), some (vi 0), some (vi zx45)]) a_X7_text_95 rfl (by decide) (fun _ => rfl) (fun zx45 ezx45 => ?_)
                  refine ri_goto a_X7_text_98 ?_
                  obtain ⟨g1, g2, g3, g4⟩ := hzy42
                  rw [ezx45, nI_1]
                  exact fl26 p (k + 1) zM43 (by omega) g2 g3 (by rw [g4 0 0 12 (by omega) (by omega) (by omega)]; exact h12) (frX_tr hf1 (frE_X g4))
                · refine ri_ic a_X7_text_89 ?_
                  refine ri_goto a_X7_text_90 ?_
                  refine ri_istk (ls' := [some (vo 0 0), some (vi 1), some (vi (nI k))]) a_X7_text_94 rfl ?_
                  refine ri_iinc (c0 := 1) (f := fun zx46 => [some (vo 0 0), some (vi 1), some (vi zx46)]) a_X7_text_95 rfl (by decide) (fun _ => rfl) (fun zx46 ezx46 => ?_)
                  refine ri_goto a_X7_text_98 ?_
                  exact absurd hzy42.1 zc44
              | inr x =>
                rw [hres] at her
                refine ri_istk (ls' := [some (vo 0 0), some (vi 1), some (vi (nI k))]) a_X7_text_60 rfl ?_
                refine ri_ald a_X7_text_61 rfl ?_
                refine ri_getR (t' := 8) (i' := 0) a_X7_text_62 fl_X7_31 kM_0_11 rfl iM_0 (Or.inr ⟨rfl, rfl, rfl⟩) ?_
                refine ri_ic a_X7_text_65 ?_
                refine ri_ald a_X7_text_66 rfl ?_
                refine ri_getI a_X7_text_67 fl_X7_106 kM_0_12 rfl iM_0 ?_
                refine ri_imul a_X7_text_70 ?_
                refine ri_ild a_X7_text_71 rfl ?_
                refine ri_iadd a_X7_text_72 ?_
                refine ri_ald a_X7_text_73 rfl ?_
                refine ri_getI a_X7_text_74 fl_X7_132 kM_0_29 rfl iM_0 ?_
                refine ri_iastore a_X7_text_77 lM_8 rfl iM_8 (by rw [h12]; exact ix k (by omega)) (fun zM41 ezM41 => ?_)
                refine ri_ild a_X7_text_78 rfl ?_
                refine ri_if_eq a_X7_text_79 (fun q => absurd q (by decide)) (fun _ => ?_)
                refine ri_ald a_X7_text_82 rfl ?_
                refine ri_cVxi (as := []) (rest := []) (d' := d - 1) a_X7_text_83 mv_X7_eRead ml_X7_168 (rcM_0 iM_0) (by omega) ((by rw [ezM41, h12, cx k (by omega), h29]; exact her)) (Nat.le_of_ble_eq_true rfl) rfl (fun zy42 zM43 hzy42 => ?_)
                refine ri_if_eq a_X7_text_86 (fun zc44 => ?_) (fun zc44 => ?_)
                · refine ri_ic a_X7_text_93 ?_
                  refine ri_istk (ls' := [some (vo 0 0), some (vi 0), some (vi (nI k))]) a_X7_text_94 rfl ?_
                  refine ri_iinc (c0 := 1) (f := fun zx45 => [some (vo 0 0), some (vi 0), some (vi zx45)]) a_X7_text_95 rfl (by decide) (fun _ => rfl) (fun zx45 ezx45 => ?_)
                  refine ri_goto a_X7_text_98 ?_
                  exact absurd (hzy42.1.symm.trans zc44) (by decide)
                · refine ri_ic a_X7_text_89 ?_
                  refine ri_goto a_X7_text_90 ?_
                  refine ri_istk (ls' := [some (vo 0 0), some (vi 1), some (vi (nI k))]) a_X7_text_94 rfl ?_
                  refine ri_iinc (c0 := 1) (f := fun zx46 => [some (vo 0 0), some (vi 1), some (vi zx46)]) a_X7_text_95 rfl (by decide) (fun _ => rfl) (fun zx46 ezx46 => ?_)
                  refine ri_goto a_X7_text_98 ?_
                  obtain ⟨g1, g2, g3, g4, g5, g6, g7⟩ := hzy42
                  have hx := hpx hsx.1 (pnx_okT tp n s) hres
                  have efl : (acc ++ [x.2]).flatten = acc.flatten ++ x.2 := by simp
                  rw [ezx46, nI_1]
                  refine ih (k + 1) x.1.2.2 (acc ++ [x.2]) zM43 (by omega) g2.2.1 (by rw [efl]; exact g5) g4.1 (by rw [efl]; have := g2.2.2.1; omega) (by simp; omega) (fun j hjk => ?_) (frX_tr hf1 (frE_X g6)) (fun ops ho => ?_)
                  · rw [g6 8 0 _ (by omega) (by omega) (by omega), List.take_append_of_le_length (by omega), up_apply]
                    by_cases e : j = k
                    · rw [if_pos (by omega), e, ← h3, List.take_length]
                    · rw [if_neg (by omega), hzM22.1 8 0 _ (by omega)]
                      exact hj j (by omega)
                  · rcases List.mem_append.1 ho with q | q
                    · exact hwf ops q
                    · rw [List.mem_singleton.1 q]
                      exact hx.2.2.2
    refine ri_ald a_X7_text_0 rfl ?_
    refine ri_getI a_X7_text_1 fl_X7_106 kM_0_12 rfl iM_0 ?_
    refine ri_ic a_X7_text_4 ?_
    refine ri_icmp_ne a_X7_text_6 (fun zc11 => ?_) (fun zc11 => ?_)
    · refine ri_ald a_X7_text_12 rfl ?_
      refine ri_ic a_X7_text_13 ?_
      refine ri_putI a_X7_text_14 fp_X7_116 kM_0_21 rfl iM_0 (fun zM21 ezM21 => ?_)
      refine ri_ald a_X7_text_17 rfl ?_
      refine ri_ic a_X7_text_18 ?_
      refine ri_putI a_X7_text_19 fp_X7_132 kM_0_29 rfl iM_0 (fun zM22 ezM22 => ?_)
      refine ri_ic a_X7_text_22 ?_
      refine ri_istk (ls' := [some (vo 0 0), some (vi 1), none]) a_X7_text_23 rfl ?_
      refine ri_ic a_X7_text_24 ?_
      refine ri_istk (ls' := [some (vo 0 0), some (vi 1), some (vi 0)]) a_X7_text_25 rfl ?_
      refine lr_Wimp (loop 3 0 0 [] zM22 rfl (Nat.zero_le _) ?_ (by rw [ezM22, up_k (by decide), ezM21, up_same]; rfl) (Nat.le_refl _) rfl (fun j hj => absurd hj (by omega)) ?_ (fun _ h => by cases h)) ?_
      · rw [ezM22, ezM21]
        exact ⟨ht, fun k hk c hc => hw k hk c hc, htp, hn, by rw [up_same]; rfl, fun i o h => by simp at h⟩
      · rw [ezM22, ezM21]
        intro t i k a b c e
        rw [up_apply, if_neg (fun q => e ⟨q.1, q.2.1, Or.inr (by omega)⟩), up_apply, if_neg (fun q => e ⟨q.1, q.2.1, Or.inr (by omega)⟩)]
      · rintro r M' ⟨y, h1, h2⟩
        exact ⟨y, h1, by dsimp only; rw [if_neg h6, pTx_f]; exact h2⟩
    · refine ri_ic a_X7_text_9 ?_
      refine ri_ireturn a_X7_text_11 rfl rfl ?_
      exact absurd (by rw [ht] at zc11; exact (nI_eq (a := tc) (b := 6) (by omega) (by decide)).1 zc11) h6

