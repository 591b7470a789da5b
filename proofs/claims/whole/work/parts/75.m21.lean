/-! reference: the next token -/
/-- how the reference tells a token -/
def rkT (t : Tok) : Int32 := match t.1 with
  | 0 => 0
  | 1 => -1
  | 2 => 1
  | 3 => if t.2 < 3 then 3 else if t.2 < 6 then nI (4 + (t.2 - 3)) else 2
  | _ => nI t.2
def rtN (N : Mem) (s : PS) : Prop := N 0 0 21 = nI s.2.2 ∧ N 0 0 22 = nI s.2.1 ∧ N 0 0 23 = rkT s.1 ∧ (s.1.1 = 2 → N 0 0 24 = nI s.1.2) ∧ (s.1.1 = 3 → s.1.2 < 3 → N 0 0 24 = nI s.1.2) ∧ (s.1.1 = 3 → 6 ≤ s.1.2 → N 0 0 24 = nI (s.1.2 - 6))
/-- only what is read has changed -/
def frK (N N' : Mem) : Prop := ∀ t i k, ¬ (t = 0 ∧ i = 0 ∧ 21 ≤ k ∧ k ≤ 24) → N' t i k = N t i k
theorem frK_rf {N : Mem} : frK N N := fun _ _ _ _ => rfl
theorem frK_tr {N N1 N2 : Mem} (h : frK N N1) (h2 : frK N1 N2) : frK N N2 := fun t i k a => (h2 t i k a).trans (h t i k a)
theorem frK_up {N N1 : Mem} {k : Nat} {x : Int32} (h : frK N N1) (hk : 21 ≤ k ∧ k ≤ 24) : frK N (up N1 0 0 k x) := fun t i k' a => by
  rw [up_apply, if_neg (fun q => a ⟨q.1, q.2.1, by omega⟩)]
  exact h t i k' a
theorem ok_X7_goesNext {w : Wd} {d : Nat} (hd : 1 ≤ d) {N : Mem} {n a : Nat} (hw : wdN N) (hn : N 0 0 9 = nI n) (hn2 : n ≤ 160) (hat : N 0 0 21 = nI a) (han : a ≤ n) : lr_Ok tM sM w d jX7_goesNext [vo 0 0] N (qV fun N' => frK N N' ∧ rtN N' (tkA (N 6 0) n a)) := by
  generalize hE : rnP bB (N 6 0) (n - a) a = p
  have hle := rnP_le bB (N 6 0) (n - a) a
  rw [hE] at hle
  generalize htp : N 6 0 = tp at *
  have f9 : ∀ N1, frK N N1 → N1 0 0 9 = nI n := fun N1 h => by rw [h 0 0 9 (by omega)]; exact hn
  have f6 : ∀ N1, frK N N1 → N1 6 0 = tp := fun N1 h => by rw [← htp]; exact funext fun k => h 6 0 k (fun q => absurd q.1 (by decide))
  -- a word
  have wrd : ¬ n ≤ p → ¬ bD (tp p) = true → bL (tp p) = true → ∀ r b N1, n = b + r → p ≤ b → rnP bL tp (n - b) b = rnP bL tp (n - p) p → (∀ k, p ≤ k → k < b → bL (tp k) = true) → frK N N1 → N1 0 0 21 = nI b → N1 0 0 22 = nI p → lr_W tM sM w d jX7_goesNext 103 [some (vo 0 0), some (vi (tp p)), none] [] N1 (qV fun N' => frK N N' ∧ rtN N' (tkA tp n a)) := by
    intro hnp hD hL
    generalize he : rnP bL tp (n - p) p = e
    have hA := tkA_wrd hE hnp hD hL he
    have fin : ∀ b N1, b = e → p ≤ b → b ≤ n → (∀ k, p ≤ k → k < b → bL (tp k) = true) → frK N N1 → N1 0 0 21 = nI b → N1 0 0 22 = nI p → lr_W tM sM w d jX7_goesNext 146 [some (vo 0 0), some (vi (tp p)), none] [] N1 (qV fun N' => frK N N' ∧ rtN N' (tkA tp n a)) := by
      intro b N1 hb hpb hbn hlet hf h21 h22
      subst hb
      have hwf := ok_X7_wordFrom (w := w) (d := d - 1) (N := N1) (n := n) (p := p) (e := b) (fun k hk c hc => by rw [hf 15 0 _ (by omega)]; exact hw k hk c hc) hpb hbn hn2 (by rw [f6 N1 hf]; exact hlet)
      rw [f6 N1 hf] at hwf
      generalize hid : wds.idxOf (sgm tp p (b - p)) = z at hwf hA
      have hz12 : z ≤ 12 := by rw [← hid]; exact List.idxOf_le_length
      rw [← h22, ← h21] at hwf
      have hwz : wpm z ≤ 12 := by unfold wpm; (repeat' split) <;> omega
      have hzz : z = 0 ∨ z = 1 ∨ z = 2 ∨ z = 3 ∨ z = 4 ∨ z = 5 ∨ z = 6 ∨ z = 7 ∨ z = 8 ∨ z = 9 ∨ z = 10 ∨ z = 11 ∨ z = 12 := by omega
      rcases hzz with rfl | rfl | rfl | rfl | rfl | rfl | rfl | rfl | rfl | rfl | rfl | rfl | rfl
      · have hwf2 : lr_Ok tM sM w (d - 1) jX7_wordFrom [vo 0 0, vi (N1 0 0 22), vi (N1 0 0 21)] N1 (qI 0 N1) := hwf
        have hT : tkA tp n a = ((3, 0), p, b) := hA
        refine ri_ald a_X7_goesNext_146 rfl ?_
        refine ri_ald a_X7_goesNext_147 rfl ?_
        refine ri_getI a_X7_goesNext_148 fl_X7_119 kM_0_22 rfl iM_0 ?_
        refine ri_ald a_X7_goesNext_151 rfl ?_
        refine ri_getI a_X7_goesNext_152 fl_X7_116 kM_0_21 rfl iM_0 ?_
        refine ri_cVpk (as := [vi (N1 0 0 22), vi (N1 0 0 21)]) (rest := []) (d' := d - 1) a_X7_goesNext_155 mv_X7_wordFrom ml_X7_128 (rcM_0 iM_0) (by omega) (hwf2) (Nat.le_of_ble_eq_true rfl) rfl ?_
        refine ri_istk (ls' := [some (vo 0 0), some (vi (tp p)), some (vi 0)]) a_X7_goesNext_158 rfl ?_
        refine ri_ald a_X7_goesNext_159 rfl ?_
        refine ri_ild a_X7_goesNext_160 rfl ?_
        refine ri_ic a_X7_goesNext_161 ?_
        refine ri_icmp_ge a_X7_goesNext_162 (fun q => absurd q (by decide)) (fun _ => ?_)
        refine ri_ic a_X7_goesNext_165 ?_
        refine ri_goto a_X7_goesNext_166 ?_
        refine ri_putI a_X7_goesNext_195 fp_X7_122 kM_0_23 rfl iM_0 (fun zM11 ezM11 => ?_)
        refine ri_ald a_X7_goesNext_198 rfl ?_
        refine ri_ild a_X7_goesNext_199 rfl ?_
        refine ri_ic a_X7_goesNext_200 ?_
        refine ri_icmp_ge a_X7_goesNext_201 (fun q => absurd q (by decide)) (fun _ => ?_)
        refine ri_ild a_X7_goesNext_204 rfl ?_
        refine ri_goto a_X7_goesNext_205 ?_
        refine ri_putI a_X7_goesNext_211 fp_X7_125 kM_0_24 rfl iM_0 (fun zM12 ezM12 => ?_)
        refine ri_goto a_X7_goesNext_214 ?_
        refine ri_return a_X7_goesNext_403 rfl ?_
        refine rV ⟨by rw [ezM12, ezM11]; exact frK_up (frK_up hf (by decide)) (by decide), ?_⟩
        rw [hT, ezM12, ezM11]
        exact ⟨h21, h22, by rw [up_k (by decide), up_same]; show _ = rkT (3, 0); decide, fun q => absurd (show (3 : Nat) = 2 from q) (by decide), fun _ q2 => by first | exact absurd (show 0 < 3 from q2) (by decide) | (rw [up_same]; show _ = nI 0; decide), fun _ q2 => by first | exact absurd (show 6 ≤ 0 from q2) (by decide) | (rw [up_same]; show _ = nI (0 - 6); decide)⟩
      · have hwf2 : lr_Ok tM sM w (d - 1) jX7_wordFrom [vo 0 0, vi (N1 0 0 22), vi (N1 0 0 21)] N1 (qI 1 N1) := hwf
        have hT : tkA tp n a = ((3, 1), p, b) := hA
        refine ri_ald a_X7_goesNext_146 rfl ?_
        refine ri_ald a_X7_goesNext_147 rfl ?_
        refine ri_getI a_X7_goesNext_148 fl_X7_119 kM_0_22 rfl iM_0 ?_
        refine ri_ald a_X7_goesNext_151 rfl ?_
        refine ri_getI a_X7_goesNext_152 fl_X7_116 kM_0_21 rfl iM_0 ?_
        refine ri_cVpk (as := [vi (N1 0 0 22), vi (N1 0 0 21)]) (rest := []) (d' := d - 1) a_X7_goesNext_155 mv_X7_wordFrom ml_X7_128 (rcM_0 iM_0) (by omega) (hwf2) (Nat.le_of_ble_eq_true rfl) rfl ?_
        refine ri_istk (ls' := [some (vo 0 0), some (vi (tp p)), some (vi 1)]) a_X7_goesNext_158 rfl ?_
        refine ri_ald a_X7_goesNext_159 rfl ?_
        refine ri_ild a_X7_goesNext_160 rfl ?_
        refine ri_ic a_X7_goesNext_161 ?_
        refine ri_icmp_ge a_X7_goesNext_162 (fun q => absurd q (by decide)) (fun _ => ?_)
        refine ri_ic a_X7_goesNext_165 ?_
        refine ri_goto a_X7_goesNext_166 ?_
        refine ri_putI a_X7_goesNext_195 fp_X7_122 kM_0_23 rfl iM_0 (fun zM11 ezM11 => ?_)
        refine ri_ald a_X7_goesNext_198 rfl ?_
        refine ri_ild a_X7_goesNext_199 rfl ?_
        refine ri_ic a_X7_goesNext_200 ?_
        refine ri_icmp_ge a_X7_goesNext_201 (fun q => absurd q (by decide)) (fun _ => ?_)
        refine ri_ild a_X7_goesNext_204 rfl ?_
        refine ri_goto a_X7_goesNext_205 ?_
        refine ri_putI a_X7_goesNext_211 fp_X7_125 kM_0_24 rfl iM_0 (fun zM12 ezM12 => ?_)
        refine ri_goto a_X7_goesNext_214 ?_
        refine ri_return a_X7_goesNext_403 rfl ?_
        refine rV ⟨by rw [ezM12, ezM11]; exact frK_up (frK_up hf (by decide)) (by decide), ?_⟩
        rw [hT, ezM12, ezM11]
        exact ⟨h21, h22, by rw [up_k (by decide), up_same]; show _ = rkT (3, 1); decide, fun q => absurd (show (3 : Nat) = 2 from q) (by decide), fun _ q2 => by first | exact absurd (show 1 < 3 from q2) (by decide) | (rw [up_same]; show _ = nI 1; decide), fun _ q2 => by first | exact absurd (show 6 ≤ 1 from q2) (by decide) | (rw [up_same]; show _ = nI (1 - 6); decide)⟩
      · have hwf2 : lr_Ok tM sM w (d - 1) jX7_wordFrom [vo 0 0, vi (N1 0 0 22), vi (N1 0 0 21)] N1 (qI 2 N1) := hwf
        have hT : tkA tp n a = ((3, 2), p, b) := hA
        refine ri_ald a_X7_goesNext_146 rfl ?_
        refine ri_ald a_X7_goesNext_147 rfl ?_
        refine ri_getI a_X7_goesNext_148 fl_X7_119 kM_0_22 rfl iM_0 ?_
        refine ri_ald a_X7_goesNext_151 rfl ?_
        refine ri_getI a_X7_goesNext_152 fl_X7_116 kM_0_21 rfl iM_0 ?_
        refine ri_cVpk (as := [vi (N1 0 0 22), vi (N1 0 0 21)]) (rest := []) (d' := d - 1) a_X7_goesNext_155 mv_X7_wordFrom ml_X7_128 (rcM_0 iM_0) (by omega) (hwf2) (Nat.le_of_ble_eq_true rfl) rfl ?_
        refine ri_istk (ls' := [some (vo 0 0), some (vi (tp p)), some (vi 2)]) a_X7_goesNext_158 rfl ?_
        refine ri_ald a_X7_goesNext_159 rfl ?_
        refine ri_ild a_X7_goesNext_160 rfl ?_
        refine ri_ic a_X7_goesNext_161 ?_
        refine ri_icmp_ge a_X7_goesNext_162 (fun q => absurd q (by decide)) (fun _ => ?_)
        refine ri_ic a_X7_goesNext_165 ?_
        refine ri_goto a_X7_goesNext_166 ?_
        refine ri_putI a_X7_goesNext_195 fp_X7_122 kM_0_23 rfl iM_0 (fun zM11 ezM11 => ?_)
        refine ri_ald a_X7_goesNext_198 rfl ?_
        refine ri_ild a_X7_goesNext_199 rfl ?_
        refine ri_ic a_X7_goesNext_200 ?_
        refine ri_icmp_ge a_X7_goesNext_201 (fun q => absurd q (by decide)) (fun _ => ?_)
        refine ri_ild a_X7_goesNext_204 rfl ?_
        refine ri_goto a_X7_goesNext_205 ?_
        refine ri_putI a_X7_goesNext_211 fp_X7_125 kM_0_24 rfl iM_0 (fun zM12 ezM12 => ?_)
        refine ri_goto a_X7_goesNext_214 ?_
        refine ri_return a_X7_goesNext_403 rfl ?_
        refine rV ⟨by rw [ezM12, ezM11]; exact frK_up (frK_up hf (by decide)) (by decide), ?_⟩
        rw [hT, ezM12, ezM11]
        exact ⟨h21, h22, by rw [up_k (by decide), up_same]; show _ = rkT (3, 2); decide, fun q => absurd (show (3 : Nat) = 2 from q) (by decide), fun _ q2 => by first | exact absurd (show 2 < 3 from q2) (by decide) | (rw [up_same]; show _ = nI 2; decide), fun _ q2 => by first | exact absurd (show 6 ≤ 2 from q2) (by decide) | (rw [up_same]; show _ = nI (2 - 6); decide)⟩
      · have hwf2 : lr_Ok tM sM w (d - 1) jX7_wordFrom [vo 0 0, vi (N1 0 0 22), vi (N1 0 0 21)] N1 (qI 9 N1) := hwf
        have hT : tkA tp n a = ((3, 3), p, b) := hA
        refine ri_ald a_X7_goesNext_146 rfl ?_
        refine ri_ald a_X7_goesNext_147 rfl ?_
        refine ri_getI a_X7_goesNext_148 fl_X7_119 kM_0_22 rfl iM_0 ?_
        refine ri_ald a_X7_goesNext_151 rfl ?_
        refine ri_getI a_X7_goesNext_152 fl_X7_116 kM_0_21 rfl iM_0 ?_
        refine ri_cVpk (as := [vi (N1 0 0 22), vi (N1 0 0 21)]) (rest := []) (d' := d - 1) a_X7_goesNext_155 mv_X7_wordFrom ml_X7_128 (rcM_0 iM_0) (by omega) (hwf2) (Nat.le_of_ble_eq_true rfl) rfl ?_
        refine ri_istk (ls' := [some (vo 0 0), some (vi (tp p)), some (vi 9)]) a_X7_goesNext_158 rfl ?_
        refine ri_ald a_X7_goesNext_159 rfl ?_
        refine ri_ild a_X7_goesNext_160 rfl ?_
        refine ri_ic a_X7_goesNext_161 ?_
        refine ri_icmp_ge a_X7_goesNext_162 (fun _ => ?_) (fun q => absurd q (by decide))
        refine ri_ild a_X7_goesNext_169 rfl ?_
        refine ri_ic a_X7_goesNext_170 ?_
        refine ri_icmp_ge a_X7_goesNext_172 (fun _ => ?_) (fun q => absurd q (by decide))
        refine ri_ild a_X7_goesNext_179 rfl ?_
        refine ri_ic a_X7_goesNext_180 ?_
        refine ri_icmp_ne a_X7_goesNext_182 (fun _ => ?_) (fun q => absurd q (by decide))
        refine ri_ic a_X7_goesNext_189 ?_
        refine ri_ild a_X7_goesNext_190 rfl ?_
        refine ri_iadd a_X7_goesNext_191 ?_
        refine ri_ic a_X7_goesNext_192 ?_
        refine ri_isub a_X7_goesNext_194 ?_
        refine ri_putI a_X7_goesNext_195 fp_X7_122 kM_0_23 rfl iM_0 (fun zM11 ezM11 => ?_)
        refine ri_ald a_X7_goesNext_198 rfl ?_
        refine ri_ild a_X7_goesNext_199 rfl ?_
        refine ri_ic a_X7_goesNext_200 ?_
        refine ri_icmp_ge a_X7_goesNext_201 (fun _ => ?_) (fun q => absurd q (by decide))
        refine ri_ild a_X7_goesNext_208 rfl ?_
        refine ri_ic a_X7_goesNext_209 ?_
        refine ri_isub a_X7_goesNext_210 ?_
        refine ri_putI a_X7_goesNext_211 fp_X7_125 kM_0_24 rfl iM_0 (fun zM12 ezM12 => ?_)
        refine ri_goto a_X7_goesNext_214 ?_
        refine ri_return a_X7_goesNext_403 rfl ?_
        refine rV ⟨by rw [ezM12, ezM11]; exact frK_up (frK_up hf (by decide)) (by decide), ?_⟩
        rw [hT, ezM12, ezM11]
        exact ⟨h21, h22, by rw [up_k (by decide), up_same]; show _ = rkT (3, 3); decide, fun q => absurd (show (3 : Nat) = 2 from q) (by decide), fun _ q2 => by first | exact absurd (show 3 < 3 from q2) (by decide) | (rw [up_same]; show _ = nI 3; decide), fun _ q2 => by first | exact absurd (show 6 ≤ 3 from q2) (by decide) | (rw [up_same]; show _ = nI (3 - 6); decide)⟩
      · have hwf2 : lr_Ok tM sM w (d - 1) jX7_wordFrom [vo 0 0, vi (N1 0 0 22), vi (N1 0 0 21)] N1 (qI 10 N1) := hwf
        have hT : tkA tp n a = ((3, 4), p, b) := hA
        refine ri_ald a_X7_goesNext_146 rfl ?_
        refine ri_ald a_X7_goesNext_147 rfl ?_
        refine ri_getI a_X7_goesNext_148 fl_X7_119 kM_0_22 rfl iM_0 ?_
        refine ri_ald a_X7_goesNext_151 rfl ?_
        refine ri_getI a_X7_goesNext_152 fl_X7_116 kM_0_21 rfl iM_0 ?_
        refine ri_cVpk (as := [vi (N1 0 0 22), vi (N1 0 0 21)]) (rest := []) (d' := d - 1) a_X7_goesNext_155 mv_X7_wordFrom ml_X7_128 (rcM_0 iM_0) (by omega) (hwf2) (Nat.le_of_ble_eq_true rfl) rfl ?_
        refine ri_istk (ls' := [some (vo 0 0), some (vi (tp p)), some (vi 10)]) a_X7_goesNext_158 rfl ?_
        refine ri_ald a_X7_goesNext_159 rfl ?_
        refine ri_ild a_X7_goesNext_160 rfl ?_
        refine ri_ic a_X7_goesNext_161 ?_
        refine ri_icmp_ge a_X7_goesNext_162 (fun _ => ?_) (fun q => absurd q (by decide))
        refine ri_ild a_X7_goesNext_169 rfl ?_
        refine ri_ic a_X7_goesNext_170 ?_
        refine ri_icmp_ge a_X7_goesNext_172 (fun _ => ?_) (fun q => absurd q (by decide))
        refine ri_ild a_X7_goesNext_179 rfl ?_
        refine ri_ic a_X7_goesNext_180 ?_
        refine ri_icmp_ne a_X7_goesNext_182 (fun _ => ?_) (fun q => absurd q (by decide))
        refine ri_ic a_X7_goesNext_189 ?_
        refine ri_ild a_X7_goesNext_190 rfl ?_
        refine ri_iadd a_X7_goesNext_191 ?_
        refine ri_ic a_X7_goesNext_192 ?_
        refine ri_isub a_X7_goesNext_194 ?_
        refine ri_putI a_X7_goesNext_195 fp_X7_122 kM_0_23 rfl iM_0 (fun zM11 ezM11 => ?_)
        refine ri_ald a_X7_goesNext_198 rfl ?_
        refine ri_ild a_X7_goesNext_199 rfl ?_
        refine ri_ic a_X7_goesNext_200 ?_
        refine ri_icmp_ge a_X7_goesNext_201 (fun _ => ?_) (fun q => absurd q (by decide))
        refine ri_ild a_X7_goesNext_208 rfl ?_
        refine ri_ic a_X7_goesNext_209 ?_
        refine ri_isub a_X7_goesNext_210 ?_
        refine ri_putI a_X7_goesNext_211 fp_X7_125 kM_0_24 rfl iM_0 (fun zM12 ezM12 => ?_)
        refine ri_goto a_X7_goesNext_214 ?_
        refine ri_return a_X7_goesNext_403 rfl ?_
        refine rV ⟨by rw [ezM12, ezM11]; exact frK_up (frK_up hf (by decide)) (by decide), ?_⟩
        rw [hT, ezM12, ezM11]
        exact ⟨h21, h22, by rw [up_k (by decide), up_same]; show _ = rkT (3, 4); decide, fun q => absurd (show (3 : Nat) = 2 from q) (by decide), fun _ q2 => by first | exact absurd (show 4 < 3 from q2) (by decide) | (rw [up_same]; show _ = nI 4; decide), fun _ q2 => by first | exact absurd (show 6 ≤ 4 from q2) (by decide) | (rw [up_same]; show _ = nI (4 - 6); decide)⟩
      · have hwf2 : lr_Ok tM sM w (d - 1) jX7_wordFrom [vo 0 0, vi (N1 0 0 22), vi (N1 0 0 21)] N1 (qI 11 N1) := hwf
        have hT : tkA tp n a = ((3, 5), p, b) := hA
        refine ri_ald a_X7_goesNext_146 rfl ?_
        refine ri_ald a_X7_goesNext_147 rfl ?_
        refine ri_getI a_X7_goesNext_148 fl_X7_119 kM_0_22 rfl iM_0 ?_
        refine ri_ald a_X7_goesNext_151 rfl ?_
        refine ri_getI a_X7_goesNext_152 fl_X7_116 kM_0_21 rfl iM_0 ?_
        refine ri_cVpk (as := [vi (N1 0 0 22), vi (N1 0 0 21)]) (rest := []) (d' := d - 1) a_X7_goesNext_155 mv_X7_wordFrom ml_X7_128 (rcM_0 iM_0) (by omega) (hwf2) (Nat.le_of_ble_eq_true rfl) rfl ?_
        refine ri_istk (ls' := [some (vo 0 0), some (vi (tp p)), some (vi 11)]) a_X7_goesNext_158 rfl ?_
        refine ri_ald a_X7_goesNext_159 rfl ?_
        refine ri_ild a_X7_goesNext_160 rfl ?_
        refine ri_ic a_X7_goesNext_161 ?_
        refine ri_icmp_ge a_X7_goesNext_162 (fun _ => ?_) (fun q => absurd q (by decide))
        refine ri_ild a_X7_goesNext_169 rfl ?_
        refine ri_ic a_X7_goesNext_170 ?_
        refine ri_icmp_ge a_X7_goesNext_172 (fun _ => ?_) (fun q => absurd q (by decide))
        refine ri_ild a_X7_goesNext_179 rfl ?_
        refine ri_ic a_X7_goesNext_180 ?_
        refine ri_icmp_ne a_X7_goesNext_182 (fun _ => ?_) (fun q => absurd q (by decide))
        refine ri_ic a_X7_goesNext_189 ?_
        refine ri_ild a_X7_goesNext_190 rfl ?_
        refine ri_iadd a_X7_goesNext_191 ?_
        refine ri_ic a_X7_goesNext_192 ?_
        refine ri_isub a_X7_goesNext_194 ?_
        refine ri_putI a_X7_goesNext_195 fp_X7_122 kM_0_23 rfl iM_0 (fun zM11 ezM11 => ?_)
        refine ri_ald a_X7_goesNext_198 rfl ?_
        refine ri_ild a_X7_goesNext_199 rfl ?_
        refine ri_ic a_X7_goesNext_200 ?_
        refine ri_icmp_ge a_X7_goesNext_201 (fun _ => ?_) (fun q => absurd q (by decide))
        refine ri_ild a_X7_goesNext_208 rfl ?_
        refine ri_ic a_X7_goesNext_209 ?_
        refine ri_isub a_X7_goesNext_210 ?_
        refine ri_putI a_X7_goesNext_211 fp_X7_125 kM_0_24 rfl iM_0 (fun zM12 ezM12 => ?_)
        refine ri_goto a_X7_goesNext_214 ?_
        refine ri_return a_X7_goesNext_403 rfl ?_
        refine rV ⟨by rw [ezM12, ezM11]; exact frK_up (frK_up hf (by decide)) (by decide), ?_⟩
        rw [hT, ezM12, ezM11]
        exact ⟨h21, h22, by rw [up_k (by decide), up_same]; show _ = rkT (3, 5); decide, fun q => absurd (show (3 : Nat) = 2 from q) (by decide), fun _ q2 => by first | exact absurd (show 5 < 3 from q2) (by decide) | (rw [up_same]; show _ = nI 5; decide), fun _ q2 => by first | exact absurd (show 6 ≤ 5 from q2) (by decide) | (rw [up_same]; show _ = nI (5 - 6); decide)⟩
      · have hwf2 : lr_Ok tM sM w (d - 1) jX7_wordFrom [vo 0 0, vi (N1 0 0 22), vi (N1 0 0 21)] N1 (qI 3 N1) := hwf
        have hT : tkA tp n a = ((3, 6), p, b) := hA
        refine ri_ald a_X7_goesNext_146 rfl ?_
        refine ri_ald a_X7_goesNext_147 rfl ?_
        refine ri_getI a_X7_goesNext_148 fl_X7_119 kM_0_22 rfl iM_0 ?_
        refine ri_ald a_X7_goesNext_151 rfl ?_
        refine ri_getI a_X7_goesNext_152 fl_X7_116 kM_0_21 rfl iM_0 ?_
        refine ri_cVpk (as := [vi (N1 0 0 22), vi (N1 0 0 21)]) (rest := []) (d' := d - 1) a_X7_goesNext_155 mv_X7_wordFrom ml_X7_128 (rcM_0 iM_0) (by omega) (hwf2) (Nat.le_of_ble_eq_true rfl) rfl ?_
        refine ri_istk (ls' := [some (vo 0 0), some (vi (tp p)), some (vi 3)]) a_X7_goesNext_158 rfl ?_
        refine ri_ald a_X7_goesNext_159 rfl ?_
        refine ri_ild a_X7_goesNext_160 rfl ?_
        refine ri_ic a_X7_goesNext_161 ?_
        refine ri_icmp_ge a_X7_goesNext_162 (fun _ => ?_) (fun q => absurd q (by decide))
        refine ri_ild a_X7_goesNext_169 rfl ?_
        refine ri_ic a_X7_goesNext_170 ?_
        refine ri_icmp_ge a_X7_goesNext_172 (fun q => absurd q (by decide)) (fun _ => ?_)
        refine ri_ic a_X7_goesNext_175 ?_
        refine ri_goto a_X7_goesNext_176 ?_
        refine ri_putI a_X7_goesNext_195 fp_X7_122 kM_0_23 rfl iM_0 (fun zM11 ezM11 => ?_)
        refine ri_ald a_X7_goesNext_198 rfl ?_
        refine ri_ild a_X7_goesNext_199 rfl ?_
        refine ri_ic a_X7_goesNext_200 ?_
        refine ri_icmp_ge a_X7_goesNext_201 (fun _ => ?_) (fun q => absurd q (by decide))
        refine ri_ild a_X7_goesNext_208 rfl ?_
        refine ri_ic a_X7_goesNext_209 ?_
        refine ri_isub a_X7_goesNext_210 ?_
        refine ri_putI a_X7_goesNext_211 fp_X7_125 kM_0_24 rfl iM_0 (fun zM12 ezM12 => ?_)
        refine ri_goto a_X7_goesNext_214 ?_
        refine ri_return a_X7_goesNext_403 rfl ?_
        refine rV ⟨by rw [ezM12, ezM11]; exact frK_up (frK_up hf (by decide)) (by decide), ?_⟩
        rw [hT, ezM12, ezM11]
        exact ⟨h21, h22, by rw [up_k (by decide), up_same]; show _ = rkT (3, 6); decide, fun q => absurd (show (3 : Nat) = 2 from q) (by decide), fun _ q2 => by first | exact absurd (show 6 < 3 from q2) (by decide) | (rw [up_same]; show _ = nI 6; decide), fun _ q2 => by first | exact absurd (show 6 ≤ 6 from q2) (by decide) | (rw [up_same]; show _ = nI (6 - 6); decide)⟩
      · have hwf2 : lr_Ok tM sM w (d - 1) jX7_wordFrom [vo 0 0, vi (N1 0 0 22), vi (N1 0 0 21)] N1 (qI 4 N1) := hwf
        have hT : tkA tp n a = ((3, 7), p, b) := hA
        refine ri_ald a_X7_goesNext_146 rfl ?_
        refine ri_ald a_X7_goesNext_147 rfl ?_
        refine ri_getI a_X7_goesNext_148 fl_X7_119 kM_0_22 rfl iM_0 ?_
        refine ri_ald a_X7_goesNext_151 rfl ?_
        refine ri_getI a_X7_goesNext_152 fl_X7_116 kM_0_21 rfl iM_0 ?_
        refine ri_cVpk (as := [vi (N1 0 0 22), vi (N1 0 0 21)]) (rest := []) (d' := d - 1) a_X7_goesNext_155 mv_X7_wordFrom ml_X7_128 (rcM_0 iM_0) (by omega) (hwf2) (Nat.le_of_ble_eq_true rfl) rfl ?_
        refine ri_istk (ls' := [some (vo 0 0), some (vi (tp p)), some (vi 4)]) a_X7_goesNext_158 rfl ?_
        refine ri_ald a_X7_goesNext_159 rfl ?_
        refine ri_ild a_X7_goesNext_160 rfl ?_
        refine ri_ic a_X7_goesNext_161 ?_
        refine ri_icmp_ge a_X7_goesNext_162 (fun _ => ?_) (fun q => absurd q (by decide))
        refine ri_ild a_X7_goesNext_169 rfl ?_
        refine ri_ic a_X7_goesNext_170 ?_
        refine ri_icmp_ge a_X7_goesNext_172 (fun q => absurd q (by decide)) (fun _ => ?_)
        refine ri_ic a_X7_goesNext_175 ?_
        refine ri_goto a_X7_goesNext_176 ?_
        refine ri_putI a_X7_goesNext_195 fp_X7_122 kM_0_23 rfl iM_0 (fun zM11 ezM11 => ?_)
        refine ri_ald a_X7_goesNext_198 rfl ?_
        refine ri_ild a_X7_goesNext_199 rfl ?_
        refine ri_ic a_X7_goesNext_200 ?_
        refine ri_icmp_ge a_X7_goesNext_201 (fun _ => ?_) (fun q => absurd q (by decide))
        refine ri_ild a_X7_goesNext_208 rfl ?_
        refine ri_ic a_X7_goesNext_209 ?_
        refine ri_isub a_X7_goesNext_210 ?_
        refine ri_putI a_X7_goesNext_211 fp_X7_125 kM_0_24 rfl iM_0 (fun zM12 ezM12 => ?_)
        refine ri_goto a_X7_goesNext_214 ?_
        refine ri_return a_X7_goesNext_403 rfl ?_
        refine rV ⟨by rw [ezM12, ezM11]; exact frK_up (frK_up hf (by decide)) (by decide), ?_⟩
        rw [hT, ezM12, ezM11]
        exact ⟨h21, h22, by rw [up_k (by decide), up_same]; show _ = rkT (3, 7); decide, fun q => absurd (show (3 : Nat) = 2 from q) (by decide), fun _ q2 => by first | exact absurd (show 7 < 3 from q2) (by decide) | (rw [up_same]; show _ = nI 7; decide), fun _ q2 => by first | exact absurd (show 6 ≤ 7 from q2) (by decide) | (rw [up_same]; show _ = nI (7 - 6); decide)⟩
      · have hwf2 : lr_Ok tM sM w (d - 1) jX7_wordFrom [vo 0 0, vi (N1 0 0 22), vi (N1 0 0 21)] N1 (qI 5 N1) := hwf
        have hT : tkA tp n a = ((3, 8), p, b) := hA
        refine ri_ald a_X7_goesNext_146 rfl ?_
        refine ri_ald a_X7_goesNext_147 rfl ?_
        refine ri_getI a_X7_goesNext_148 fl_X7_119 kM_0_22 rfl iM_0 ?_
        refine ri_ald a_X7_goesNext_151 rfl ?_
        refine ri_getI a_X7_goesNext_152 fl_X7_116 kM_0_21 rfl iM_0 ?_
        refine ri_cVpk (as := [vi (N1 0 0 22), vi (N1 0 0 21)]) (rest := []) (d' := d - 1) a_X7_goesNext_155 mv_X7_wordFrom ml_X7_128 (rcM_0 iM_0) (by omega) (hwf2) (Nat.le_of_ble_eq_true rfl) rfl ?_
        refine ri_istk (ls' := [some (vo 0 0), some (vi (tp p)), some (vi 5)]) a_X7_goesNext_158 rfl ?_
        refine ri_ald a_X7_goesNext_159 rfl ?_
        refine ri_ild a_X7_goesNext_160 rfl ?_
        refine ri_ic a_X7_goesNext_161 ?_
        refine ri_icmp_ge a_X7_goesNext_162 (fun _ => ?_) (fun q => absurd q (by decide))
        refine ri_ild a_X7_goesNext_169 rfl ?_
        refine ri_ic a_X7_goesNext_170 ?_
        refine ri_icmp_ge a_X7_goesNext_172 (fun q => absurd q (by decide)) (fun _ => ?_)
        refine ri_ic a_X7_goesNext_175 ?_
        refine ri_goto a_X7_goesNext_176 ?_
        refine ri_putI a_X7_goesNext_195 fp_X7_122 kM_0_23 rfl iM_0 (fun zM11 ezM11 => ?_)
        refine ri_ald a_X7_goesNext_198 rfl ?_
        refine ri_ild a_X7_goesNext_199 rfl ?_
        refine ri_ic a_X7_goesNext_200 ?_
        refine ri_icmp_ge a_X7_goesNext_201 (fun _ => ?_) (fun q => absurd q (by decide))
        refine ri_ild a_X7_goesNext_208 rfl ?_
        refine ri_ic a_X7_goesNext_209 ?_
        refine ri_isub a_X7_goesNext_210 ?_
        refine ri_putI a_X7_goesNext_211 fp_X7_125 kM_0_24 rfl iM_0 (fun zM12 ezM12 => ?_)
        refine ri_goto a_X7_goesNext_214 ?_
        refine ri_return a_X7_goesNext_403 rfl ?_
        refine rV ⟨by rw [ezM12, ezM11]; exact frK_up (frK_up hf (by decide)) (by decide), ?_⟩
        rw [hT, ezM12, ezM11]
        exact ⟨h21, h22, by rw [up_k (by decide), up_same]; show _ = rkT (3, 8); decide, fun q => absurd (show (3 : Nat) = 2 from q) (by decide), fun _ q2 => by first | exact absurd (show 8 < 3 from q2) (by decide) | (rw [up_same]; show _ = nI 8; decide), fun _ q2 => by first | exact absurd (show 6 ≤ 8 from q2) (by decide) | (rw [up_same]; show _ = nI (8 - 6); decide)⟩
      · have hwf2 : lr_Ok tM sM w (d - 1) jX7_wordFrom [vo 0 0, vi (N1 0 0 22), vi (N1 0 0 21)] N1 (qI 6 N1) := hwf
        have hT : tkA tp n a = ((3, 9), p, b) := hA
        refine ri_ald a_X7_goesNext_146 rfl ?_
        refine ri_ald a_X7_goesNext_147 rfl ?_
        refine ri_getI a_X7_goesNext_148 fl_X7_119 kM_0_22 rfl iM_0 ?_
        refine ri_ald a_X7_goesNext_151 rfl ?_
        refine ri_getI a_X7_goesNext_152 fl_X7_116 kM_0_21 rfl iM_0 ?_
        refine ri_cVpk (as := [vi (N1 0 0 22), vi (N1 0 0 21)]) (rest := []) (d' := d - 1) a_X7_goesNext_155 mv_X7_wordFrom ml_X7_128 (rcM_0 iM_0) (by omega) (hwf2) (Nat.le_of_ble_eq_true rfl) rfl ?_
        refine ri_istk (ls' := [some (vo 0 0), some (vi (tp p)), some (vi 6)]) a_X7_goesNext_158 rfl ?_
        refine ri_ald a_X7_goesNext_159 rfl ?_
        refine ri_ild a_X7_goesNext_160 rfl ?_
        refine ri_ic a_X7_goesNext_161 ?_
        refine ri_icmp_ge a_X7_goesNext_162 (fun _ => ?_) (fun q => absurd q (by decide))
        refine ri_ild a_X7_goesNext_169 rfl ?_
        refine ri_ic a_X7_goesNext_170 ?_
        refine ri_icmp_ge a_X7_goesNext_172 (fun q => absurd q (by decide)) (fun _ => ?_)
        refine ri_ic a_X7_goesNext_175 ?_
        refine ri_goto a_X7_goesNext_176 ?_
        refine ri_putI a_X7_goesNext_195 fp_X7_122 kM_0_23 rfl iM_0 (fun zM11 ezM11 => ?_)
        refine ri_ald a_X7_goesNext_198 rfl ?_
        refine ri_ild a_X7_goesNext_199 rfl ?_
        refine ri_ic a_X7_goesNext_200 ?_
        refine ri_icmp_ge a_X7_goesNext_201 (fun _ => ?_) (fun q => absurd q (by decide))
        refine ri_ild a_X7_goesNext_208 rfl ?_
        refine ri_ic a_X7_goesNext_209 ?_
        refine ri_isub a_X7_goesNext_210 ?_
        refine ri_putI a_X7_goesNext_211 fp_X7_125 kM_0_24 rfl iM_0 (fun zM12 ezM12 => ?_)
        refine ri_goto a_X7_goesNext_214 ?_
        refine ri_return a_X7_goesNext_403 rfl ?_
        refine rV ⟨by rw [ezM12, ezM11]; exact frK_up (frK_up hf (by decide)) (by decide), ?_⟩
        rw [hT, ezM12, ezM11]
        exact ⟨h21, h22, by rw [up_k (by decide), up_same]; show _ = rkT (3, 9); decide, fun q => absurd (show (3 : Nat) = 2 from q) (by decide), fun _ q2 => by first | exact absurd (show 9 < 3 from q2) (by decide) | (rw [up_same]; show _ = nI 9; decide), fun _ q2 => by first | exact absurd (show 6 ≤ 9 from q2) (by decide) | (rw [up_same]; show _ = nI (9 - 6); decide)⟩
      · have hwf2 : lr_Ok tM sM w (d - 1) jX7_wordFrom [vo 0 0, vi (N1 0 0 22), vi (N1 0 0 21)] N1 (qI 7 N1) := hwf
        have hT : tkA tp n a = ((3, 10), p, b) := hA
        refine ri_ald a_X7_goesNext_146 rfl ?_
        refine ri_ald a_X7_goesNext_147 rfl ?_
        refine ri_getI a_X7_goesNext_148 fl_X7_119 kM_0_22 rfl iM_0 ?_
        refine ri_ald a_X7_goesNext_151 rfl ?_
        refine ri_getI a_X7_goesNext_152 fl_X7_116 kM_0_21 rfl iM_0 ?_
        refine ri_cVpk (as := [vi (N1 0 0 22), vi (N1 0 0 21)]) (rest := []) (d' := d - 1) a_X7_goesNext_155 mv_X7_wordFrom ml_X7_128 (rcM_0 iM_0) (by omega) (hwf2) (Nat.le_of_ble_eq_true rfl) rfl ?_
        refine ri_istk (ls' := [some (vo 0 0), some (vi (tp p)), some (vi 7)]) a_X7_goesNext_158 rfl ?_
        refine ri_ald a_X7_goesNext_159 rfl ?_
        refine ri_ild a_X7_goesNext_160 rfl ?_
        refine ri_ic a_X7_goesNext_161 ?_
        refine ri_icmp_ge a_X7_goesNext_162 (fun _ => ?_) (fun q => absurd q (by decide))
        refine ri_ild a_X7_goesNext_169 rfl ?_
        refine ri_ic a_X7_goesNext_170 ?_
        refine ri_icmp_ge a_X7_goesNext_172 (fun q => absurd q (by decide)) (fun _ => ?_)
        refine ri_ic a_X7_goesNext_175 ?_
        refine ri_goto a_X7_goesNext_176 ?_
        refine ri_putI a_X7_goesNext_195 fp_X7_122 kM_0_23 rfl iM_0 (fun zM11 ezM11 => ?_)
        refine ri_ald a_X7_goesNext_198 rfl ?_
        refine ri_ild a_X7_goesNext_199 rfl ?_
        refine ri_ic a_X7_goesNext_200 ?_
        refine ri_icmp_ge a_X7_goesNext_201 (fun _ => ?_) (fun q => absurd q (by decide))
        refine ri_ild a_X7_goesNext_208 rfl ?_
        refine ri_ic a_X7_goesNext_209 ?_
        refine ri_isub a_X7_goesNext_210 ?_
        refine ri_putI a_X7_goesNext_211 fp_X7_125 kM_0_24 rfl iM_0 (fun zM12 ezM12 => ?_)
        refine ri_goto a_X7_goesNext_214 ?_
        refine ri_return a_X7_goesNext_403 rfl ?_
        refine rV ⟨by rw [ezM12, ezM11]; exact frK_up (frK_up hf (by decide)) (by decide), ?_⟩
        rw [hT, ezM12, ezM11]
        exact ⟨h21, h22, by rw [up_k (by decide), up_same]; show _ = rkT (3, 10); decide, fun q => absurd (show (3 : Nat) = 2 from q) (by decide), fun _ q2 => by first | exact absurd (show 10 < 3 from q2) (by decide) | (rw [up_same]; show _ = nI 10; decide), fun _ q2 => by first | exact absurd (show 6 ≤ 10 from q2) (by decide) | (rw [up_same]; show _ = nI (10 - 6); decide)⟩
      · have hwf2 : lr_Ok tM sM w (d - 1) jX7_wordFrom [vo 0 0, vi (N1 0 0 22), vi (N1 0 0 21)] N1 (qI 8 N1) := hwf
        have hT : tkA tp n a = ((3, 11), p, b) := hA
        refine ri_ald a_X7_goesNext_146 rfl ?_
        refine ri_ald a_X7_goesNext_147 rfl ?_
        refine ri_getI a_X7_goesNext_148 fl_X7_119 kM_0_22 rfl iM_0 ?_
        refine ri_ald a_X7_goesNext_151 rfl ?_
        refine ri_getI a_X7_goesNext_152 fl_X7_116 kM_0_21 rfl iM_0 ?_
        refine ri_cVpk (as := [vi (N1 0 0 22), vi (N1 0 0 21)]) (rest := []) (d' := d - 1) a_X7_goesNext_155 mv_X7_wordFrom ml_X7_128 (rcM_0 iM_0) (by omega) (hwf2) (Nat.le_of_ble_eq_true rfl) rfl ?_
        refine ri_istk (ls' := [some (vo 0 0), some (vi (tp p)), some (vi 8)]) a_X7_goesNext_158 rfl ?_
        refine ri_ald a_X7_goesNext_159 rfl ?_
        refine ri_ild a_X7_goesNext_160 rfl ?_
        refine ri_ic a_X7_goesNext_161 ?_
        refine ri_icmp_ge a_X7_goesNext_162 (fun _ => ?_) (fun q => absurd q (by decide))
        refine ri_ild a_X7_goesNext_169 rfl ?_
        refine ri_ic a_X7_goesNext_170 ?_
        refine ri_icmp_ge a_X7_goesNext_172 (fun q => absurd q (by decide)) (fun _ => ?_)
        refine ri_ic a_X7_goesNext_175 ?_
        refine ri_goto a_X7_goesNext_176 ?_
        refine ri_putI a_X7_goesNext_195 fp_X7_122 kM_0_23 rfl iM_0 (fun zM11 ezM11 => ?_)
        refine ri_ald a_X7_goesNext_198 rfl ?_
        refine ri_ild a_X7_goesNext_199 rfl ?_
        refine ri_ic a_X7_goesNext_200 ?_
        refine ri_icmp_ge a_X7_goesNext_201 (fun _ => ?_) (fun q => absurd q (by decide))
        refine ri_ild a_X7_goesNext_208 rfl ?_
        refine ri_ic a_X7_goesNext_209 ?_
        refine ri_isub a_X7_goesNext_210 ?_
        refine ri_putI a_X7_goesNext_211 fp_X7_125 kM_0_24 rfl iM_0 (fun zM12 ezM12 => ?_)
        refine ri_goto a_X7_goesNext_214 ?_
        refine ri_return a_X7_goesNext_403 rfl ?_
        refine rV ⟨by rw [ezM12, ezM11]; exact frK_up (frK_up hf (by decide)) (by decide), ?_⟩
        rw [hT, ezM12, ezM11]
        exact ⟨h21, h22, by rw [up_k (by decide), up_same]; show _ = rkT (3, 11); decide, fun q => absurd (show (3 : Nat) = 2 from q) (by decide), fun _ q2 => by first | exact absurd (show 11 < 3 from q2) (by decide) | (rw [up_same]; show _ = nI 11; decide), fun _ q2 => by first | exact absurd (show 6 ≤ 11 from q2) (by decide) | (rw [up_same]; show _ = nI (11 - 6); decide)⟩
      · have hwf2 : lr_Ok tM sM w (d - 1) jX7_wordFrom [vo 0 0, vi (N1 0 0 22), vi (N1 0 0 21)] N1 (qI 12 N1) := hwf
        have hT : tkA tp n a = ((1, 0), p, b) := hA
        refine ri_ald a_X7_goesNext_146 rfl ?_
        refine ri_ald a_X7_goesNext_147 rfl ?_
        refine ri_getI a_X7_goesNext_148 fl_X7_119 kM_0_22 rfl iM_0 ?_
        refine ri_ald a_X7_goesNext_151 rfl ?_
        refine ri_getI a_X7_goesNext_152 fl_X7_116 kM_0_21 rfl iM_0 ?_
        refine ri_cVpk (as := [vi (N1 0 0 22), vi (N1 0 0 21)]) (rest := []) (d' := d - 1) a_X7_goesNext_155 mv_X7_wordFrom ml_X7_128 (rcM_0 iM_0) (by omega) (hwf2) (Nat.le_of_ble_eq_true rfl) rfl ?_
        refine ri_istk (ls' := [some (vo 0 0), some (vi (tp p)), some (vi 12)]) a_X7_goesNext_158 rfl ?_
        refine ri_ald a_X7_goesNext_159 rfl ?_
        refine ri_ild a_X7_goesNext_160 rfl ?_
        refine ri_ic a_X7_goesNext_161 ?_
        refine ri_icmp_ge a_X7_goesNext_162 (fun _ => ?_) (fun q => absurd q (by decide))
        refine ri_ild a_X7_goesNext_169 rfl ?_
        refine ri_ic a_X7_goesNext_170 ?_
        refine ri_icmp_ge a_X7_goesNext_172 (fun _ => ?_) (fun q => absurd q (by decide))
        refine ri_ild a_X7_goesNext_179 rfl ?_
        refine ri_ic a_X7_goesNext_180 ?_
        refine ri_icmp_ne a_X7_goesNext_182 (fun q => absurd q (by decide)) (fun _ => ?_)
        refine ri_ic a_X7_goesNext_185 ?_
        refine ri_goto a_X7_goesNext_186 ?_
        refine ri_putI a_X7_goesNext_195 fp_X7_122 kM_0_23 rfl iM_0 (fun zM11 ezM11 => ?_)
        refine ri_ald a_X7_goesNext_198 rfl ?_
        refine ri_ild a_X7_goesNext_199 rfl ?_
        refine ri_ic a_X7_goesNext_200 ?_
        refine ri_icmp_ge a_X7_goesNext_201 (fun _ => ?_) (fun q => absurd q (by decide))
        refine ri_ild a_X7_goesNext_208 rfl ?_
        refine ri_ic a_X7_goesNext_209 ?_
        refine ri_isub a_X7_goesNext_210 ?_
        refine ri_putI a_X7_goesNext_211 fp_X7_125 kM_0_24 rfl iM_0 (fun zM12 ezM12 => ?_)
        refine ri_goto a_X7_goesNext_214 ?_
        refine ri_return a_X7_goesNext_403 rfl ?_
        refine rV ⟨by rw [ezM12, ezM11]; exact frK_up (frK_up hf (by decide)) (by decide), ?_⟩
        rw [hT, ezM12, ezM11]
        exact ⟨h21, h22, rfl, fun q => absurd (show (1 : Nat) = 2 from q) (by decide), fun q => absurd (show (1 : Nat) = 3 from q) (by decide), fun q => absurd (show (1 : Nat) = 3 from q) (by decide)⟩
    intro r
    induction r with
    | zero =>
      intro b N1 hb hpb hrn hlet hf h21 h22
      have : n = b := hb
      subst this
      have h9 := f9 N1 hf
      have hbe : n = e := by rw [← hrn, Nat.sub_self]; rfl
      refine ri_ald a_X7_goesNext_103 rfl ?_
      refine ri_getI a_X7_goesNext_104 fl_X7_116 kM_0_21 rfl iM_0 ?_
      refine ri_ald a_X7_goesNext_107 rfl ?_
      refine ri_getI a_X7_goesNext_108 fl_X7_85 kM_0_9 rfl iM_0 ?_
      refine ri_icmp_ge a_X7_goesNext_111 (fun zc11 => ?_) (fun zc11 => ?_)
      · exact fin n N1 hbe hpb (Nat.le_refl _) hlet hf h21 h22
      · exact absurd (by rw [h9, h21]; exact Int32.le_refl _) zc11
    | succ r ih =>
      intro b N1 hb hpb hrn hlet hf h21 h22
      have h9 := f9 N1 hf
      have h6 := f6 N1 hf
      have ez : n - b = r + 1 := by omega
      rw [ez] at hrn
      have ct : N1 6 0 (N1 0 0 21).toNatClampNeg = tp b := by rw [h6, h21, nI_clamp (by omega)]
      refine ri_ald a_X7_goesNext_103 rfl ?_
      refine ri_getI a_X7_goesNext_104 fl_X7_116 kM_0_21 rfl iM_0 ?_
      refine ri_ald a_X7_goesNext_107 rfl ?_
      refine ri_getI a_X7_goesNext_108 fl_X7_85 kM_0_9 rfl iM_0 ?_
      refine ri_icmp_ge a_X7_goesNext_111 (fun zc11 => ?_) (fun zc11 => ?_)
      · exact absurd zc11 (by rw [h9, h21]; exact nI_ge (by omega) (by omega))
      · refine ri_ald a_X7_goesNext_114 rfl ?_
        refine ri_getR (t' := 6) (i' := 0) a_X7_goesNext_115 fl_X7_25 kM_0_8 rfl iM_0 (Or.inr ⟨rfl, rfl, rfl⟩) ?_
        refine ri_ald a_X7_goesNext_118 rfl ?_
        refine ri_getI a_X7_goesNext_119 fl_X7_116 kM_0_21 rfl iM_0 ?_
        refine ri_iaload a_X7_goesNext_122 lM_6 rfl iM_6 (by rw [h21]; exact vp_in_nI (by omega) (by decide)) ?_
        refine ri_ic a_X7_goesNext_123 ?_
        refine ri_ic a_X7_goesNext_125 ?_
        refine ri_cSpb (as := [vi (N1 6 0 (N1 0 0 21).toNatClampNeg), vi 97, vi 122]) (rest := []) (d' := d - 1) a_X7_goesNext_127 ms_X7_in ml_X7_96 (by omega) (ok_X7_in (N1 6 0 (N1 0 0 21).toNatClampNeg) 97 122) (Nat.le_of_ble_eq_true rfl) rfl (fun zc12 => ?_) (fun zc12 => ?_)
        · refine ri_if_eq a_X7_goesNext_130 (fun q => absurd q (by decide)) (fun _ => ?_)
          refine ri_ald a_X7_goesNext_133 rfl ?_
          refine ri_dup a_X7_goesNext_134 (fun _ h => by cases h) ?_
          refine ri_getI a_X7_goesNext_135 fl_X7_116 kM_0_21 rfl iM_0 ?_
          refine ri_ic a_X7_goesNext_138 ?_
          refine ri_iadd a_X7_goesNext_139 ?_
          refine ri_putI a_X7_goesNext_140 fp_X7_116 kM_0_21 rfl iM_0 (fun zM13 ezM13 => ?_)
          refine ri_goto a_X7_goesNext_143 ?_
          rw [ct] at zc12
          rw [rnP_t (bL_i.mpr zc12)] at hrn
          rw [h21, nI_1] at ezM13
          refine ih (b + 1) zM13 (by omega) (by omega) (by rw [show n - (b + 1) = r by omega]; exact hrn) (fun k h1 h2 => ?_) (by rw [ezM13]; exact frK_up hf (by decide)) (by rw [ezM13, up_same]) (by rw [ezM13, up_k (by decide)]; exact h22)
          by_cases e : k = b
          · rw [e]; exact bL_i.mpr zc12
          · exact hlet k h1 (by omega)
        · refine ri_if_eq a_X7_goesNext_130 (fun _ => ?_) (fun q => absurd q (by decide))
          rw [ct] at zc12
          rw [rnP_f (fun q => zc12 (bL_i.mp q))] at hrn
          exact fin b N1 hrn hpb (by omega) hlet hf h21 h22
  -- a number
  have num : ¬ n ≤ p → bD (tp p) = true → ∀ r b N1, n = b + r → p ≤ b → rnP bD tp (n - b) b = rnP bD tp (n - p) p → (∀ k, p ≤ k → k < b → bD (tp k) = true) → frK N N1 → N1 0 0 21 = nI b → N1 0 0 22 = nI p → N1 0 0 24 = (if b - p ≤ 4 then nI (dcN tp p (b - p)) else 0) → lr_W tM sM w d jX7_goesNext 230 [some (vo 0 0), some (vi (tp p)), some (vi (nI (b - p)))] [] N1 (qV fun N' => frK N N' ∧ rtN N' (tkA tp n a)) := by
    intro hnp hD
    generalize he : rnP bD tp (n - p) p = e
    have hA := tkA_num hE hnp hD he
    have fin : ∀ b N1, b = e → frK N N1 → p ≤ b → b ≤ n → N1 0 0 21 = nI b → N1 0 0 22 = nI p → N1 0 0 24 = (if b - p ≤ 4 then nI (dcN tp p (b - p)) else 0) → lr_W tM sM w d jX7_goesNext 309 [some (vo 0 0), some (vi (tp p)), some (vi (nI (b - p)))] [] N1 (qV fun N' => frK N N' ∧ rtN N' (tkA tp n a)) := by
      intro b N1 hb hf hpb hbn h21 h22 h24
      subst hb
      refine ri_ald a_X7_goesNext_309 rfl ?_
      refine ri_ild a_X7_goesNext_310 rfl ?_
      refine ri_ic a_X7_goesNext_311 ?_
      refine ri_icmp_le a_X7_goesNext_312 (fun zc11 => ?_) (fun zc11 => ?_)
      · refine ri_ic a_X7_goesNext_319 ?_
        refine ri_putI a_X7_goesNext_320 fp_X7_122 kM_0_23 rfl iM_0 (fun zM12 ezM12 => ?_)
        refine ri_goto a_X7_goesNext_323 ?_
        refine ri_return a_X7_goesNext_403 rfl ?_
        rw [show (4 : Int32) = nI 4 from rfl, nI_leI (by omega) (by decide)] at zc11
        rw [if_pos zc11] at h24
        refine rV ⟨by rw [ezM12]; exact frK_up hf (by decide), ?_⟩
        rw [hA, if_neg (by omega), ezM12]
        exact ⟨h21, h22, rfl, fun _ => h24, fun q => absurd (show (2 : Nat) = 3 from q) (by decide), fun q => absurd (show (2 : Nat) = 3 from q) (by decide)⟩
      · refine ri_ic a_X7_goesNext_315 ?_
        refine ri_goto a_X7_goesNext_316 ?_
        refine ri_putI a_X7_goesNext_320 fp_X7_122 kM_0_23 rfl iM_0 (fun zM13 ezM13 => ?_)
        refine ri_goto a_X7_goesNext_323 ?_
        refine ri_return a_X7_goesNext_403 rfl ?_
        rw [show (4 : Int32) = nI 4 from rfl, nI_leI (by omega) (by decide)] at zc11
        refine rV ⟨by rw [ezM13]; exact frK_up hf (by decide), ?_⟩
        rw [hA, if_pos (by omega), ezM13]
        exact ⟨h21, h22, rfl, fun q => absurd (show (1 : Nat) = 2 from q) (by decide), fun q => absurd (show (1 : Nat) = 3 from q) (by decide), fun q => absurd (show (1 : Nat) = 3 from q) (by decide)⟩
    intro r
    induction r with
    | zero =>
      intro b N1 hb hpb hrn hdig hf h21 h22 h24
      have : n = b := hb
      subst this
      have h9 := f9 N1 hf
      have hbe : n = e := by rw [← hrn, Nat.sub_self]; rfl
      refine ri_ald a_X7_goesNext_230 rfl ?_
      refine ri_getI a_X7_goesNext_231 fl_X7_116 kM_0_21 rfl iM_0 ?_
      refine ri_ald a_X7_goesNext_234 rfl ?_
      refine ri_getI a_X7_goesNext_235 fl_X7_85 kM_0_9 rfl iM_0 ?_
      refine ri_icmp_ge a_X7_goesNext_238 (fun zc11 => ?_) (fun zc11 => ?_)
      · exact fin n N1 hbe hf hpb (Nat.le_refl _) h21 h22 h24
      · exact absurd (by rw [h9, h21]; exact Int32.le_refl _) zc11
    | succ r ih =>
      intro b N1 hb hpb hrn hdig hf h21 h22 h24
      have h9 := f9 N1 hf
      have h6 := f6 N1 hf
      have ez : n - b = r + 1 := by omega
      rw [ez] at hrn
      have ct : N1 6 0 (N1 0 0 21).toNatClampNeg = tp b := by rw [h6, h21, nI_clamp (by omega)]
      have e1 : b + 1 - p = b - p + 1 := by omega
      have i6 : vp_in (N1 0 0 21) 160 := by rw [h21]; exact vp_in_nI (by omega) (by decide)
      have go : ∀ N2, 48 ≤ tp b ∧ tp b ≤ 57 → frK N N2 → N2 0 0 21 = nI b → N2 0 0 22 = nI p → N2 0 0 24 = (if b + 1 - p ≤ 4 then nI (dcN tp p (b + 1 - p)) else 0) → lr_W tM sM w d jX7_goesNext 293 [some (vo 0 0), some (vi (tp p)), some (vi (nI (b - p)))] [] N2 (qV fun N' => frK N N' ∧ rtN N' (tkA tp n a)) := by
        intro N2 hdb hf2 k21 k22 k24
        rw [rnP_t (bD_i.mpr hdb)] at hrn
        refine ri_iinc (c0 := 1) (f := fun zx31 => [some (vo 0 0), some (vi (tp p)), some (vi zx31)]) a_X7_goesNext_293 rfl (by decide) (fun _ => rfl) (fun zx31 ezx31 => ?_)
        refine ri_ald a_X7_goesNext_296 rfl ?_
        refine ri_dup a_X7_goesNext_297 (fun _ h => by cases h) ?_
        refine ri_getI a_X7_goesNext_298 fl_X7_116 kM_0_21 rfl iM_0 ?_
        refine ri_ic a_X7_goesNext_301 ?_
        refine ri_iadd a_X7_goesNext_302 ?_
        refine ri_putI a_X7_goesNext_303 fp_X7_116 kM_0_21 rfl iM_0 (fun zM32 ezM32 => ?_)
        refine ri_goto a_X7_goesNext_306 ?_
        rw [k21, nI_1] at ezM32
        rw [ezx31, nI_1, ← e1]
        refine ih (b + 1) zM32 (by omega) (by omega) (by rw [show n - (b + 1) = r by omega]; exact hrn) (fun k q1 q2 => ?_) (by rw [ezM32]; exact frK_up hf2 (by decide)) (by rw [ezM32, up_same]) (by rw [ezM32, up_k (by decide)]; exact k22) (by rw [ezM32, up_k (by decide)]; exact k24)
        by_cases e : k = b
        · rw [e]; exact bD_i.mpr hdb
        · exact hdig k q1 (by omega)
      refine ri_ald a_X7_goesNext_230 rfl ?_
      refine ri_getI a_X7_goesNext_231 fl_X7_116 kM_0_21 rfl iM_0 ?_
      refine ri_ald a_X7_goesNext_234 rfl ?_
      refine ri_getI a_X7_goesNext_235 fl_X7_85 kM_0_9 rfl iM_0 ?_
      refine ri_icmp_ge a_X7_goesNext_238 (fun zc11 => ?_) (fun zc11 => ?_)
      · exact absurd zc11 (by rw [h9, h21]; exact nI_ge (by omega) (by omega))
      · refine ri_ald a_X7_goesNext_241 rfl ?_
        refine ri_getR (t' := 6) (i' := 0) a_X7_goesNext_242 fl_X7_25 kM_0_8 rfl iM_0 (Or.inr ⟨rfl, rfl, rfl⟩) ?_
        refine ri_ald a_X7_goesNext_245 rfl ?_
        refine ri_getI a_X7_goesNext_246 fl_X7_116 kM_0_21 rfl iM_0 ?_
        refine ri_iaload a_X7_goesNext_249 lM_6 rfl iM_6 i6 ?_
        refine ri_ic a_X7_goesNext_250 ?_
        refine ri_ic a_X7_goesNext_252 ?_
        refine ri_cSpb (as := [vi (N1 6 0 (N1 0 0 21).toNatClampNeg), vi 48, vi 57]) (rest := []) (d' := d - 1) a_X7_goesNext_254 ms_X7_in ml_X7_96 (by omega) (ok_X7_in (N1 6 0 (N1 0 0 21).toNatClampNeg) 48 57) (Nat.le_of_ble_eq_true rfl) rfl (fun zc12 => ?_) (fun zc12 => ?_)
        · refine ri_if_eq a_X7_goesNext_257 (fun q => absurd q (by decide)) (fun _ => ?_)
          refine ri_ald a_X7_goesNext_260 rfl ?_
          refine ri_ild a_X7_goesNext_261 rfl ?_
          refine ri_ic a_X7_goesNext_262 ?_
          refine ri_icmp_ge a_X7_goesNext_263 (fun zc13 => ?_) (fun zc13 => ?_)
          · refine ri_ic a_X7_goesNext_289 ?_
            refine ri_putI a_X7_goesNext_290 fp_X7_125 kM_0_24 rfl iM_0 (fun zM14 ezM14 => ?_)
            rw [ct] at zc12
            rw [show (4 : Int32) = nI 4 from rfl, nI_leI (by decide) (by omega)] at zc13
            refine go _ zc12 (by rw [ezM14]; exact frK_up hf (by decide)) (by rw [ezM14, up_k (by decide)]; exact h21) (by rw [ezM14, up_k (by decide)]; exact h22) ?_
            rw [ezM14, up_same, if_neg (by omega)]
          · refine ri_ic a_X7_goesNext_266 ?_
            refine ri_ald a_X7_goesNext_268 rfl ?_
            refine ri_getI a_X7_goesNext_269 fl_X7_125 kM_0_24 rfl iM_0 ?_
            refine ri_imul a_X7_goesNext_272 ?_
            refine ri_ald a_X7_goesNext_273 rfl ?_
            refine ri_getR (t' := 6) (i' := 0) a_X7_goesNext_274 fl_X7_25 kM_0_8 rfl iM_0 (Or.inr ⟨rfl, rfl, rfl⟩) ?_
            refine ri_ald a_X7_goesNext_277 rfl ?_
            refine ri_getI a_X7_goesNext_278 fl_X7_116 kM_0_21 rfl iM_0 ?_
            refine ri_iaload a_X7_goesNext_281 lM_6 rfl iM_6 i6 ?_
            refine ri_iadd a_X7_goesNext_282 ?_
            refine ri_ic a_X7_goesNext_283 ?_
            refine ri_isub a_X7_goesNext_285 ?_
            refine ri_goto a_X7_goesNext_286 ?_
            refine ri_putI a_X7_goesNext_290 fp_X7_125 kM_0_24 rfl iM_0 (fun zM15 ezM15 => ?_)
            rw [ct] at zc12
            rw [show (4 : Int32) = nI 4 from rfl, nI_leI (by decide) (by omega)] at zc13
            have hlt := dcN_lt tp p (b - p) (fun i hi => hdig (p + i) (by omega) (by omega))
            have hp3 : 10 ^ (b - p) ≤ 10 ^ 3 := Nat.pow_le_pow_right (by decide) (by omega)
            refine go _ zc12 (by rw [ezM15]; exact frK_up hf (by decide)) (by rw [ezM15, up_k (by decide)]; exact h21) (by rw [ezM15, up_k (by decide)]; exact h22) ?_
            rw [ezM15, up_same, if_pos (by omega), ct, h24, if_pos (by omega), Int32.mul_comm, dig_step zc12 _ (by omega), e1, dcN, show p + (b - p) = b by omega]
        · refine ri_if_eq a_X7_goesNext_257 (fun _ => ?_) (fun q => absurd q (by decide))
          rw [ct] at zc12
          rw [rnP_f (fun q => zc12 (bD_i.mp q))] at hrn
          exact fin b N1 hrn hf hpb (by omega) h21 h22 h24
  -- a sign, or what is none
  have sgy : ∀ N1, frK N N1 → N1 0 0 21 = nI p → N1 0 0 22 = nI p → tkA tp n a = ((4, (tp p).toNatClampNeg), p, p + 1) → bS (tp p) = true → lr_W tM sM w d jX7_goesNext 374 [some (vo 0 0), some (vi (tp p)), none] [] N1 (qV fun N' => frK N N' ∧ rtN N' (tkA tp n a)) := by
    intro N1 hf h21 h22 hA hS
    refine ri_ic a_X7_goesNext_374 ?_
    refine ri_goto a_X7_goesNext_375 ?_
    refine ri_istk (ls' := [some (vo 0 0), some (vi (tp p)), some (vi 1)]) a_X7_goesNext_379 rfl ?_
    refine ri_ald a_X7_goesNext_380 rfl ?_
    refine ri_ild a_X7_goesNext_381 rfl ?_
    refine ri_if_eq a_X7_goesNext_382 (fun q => absurd q (by decide)) (fun _ => ?_)
    refine ri_ild a_X7_goesNext_385 rfl ?_
    refine ri_goto a_X7_goesNext_386 ?_
    refine ri_putI a_X7_goesNext_390 fp_X7_122 kM_0_23 rfl iM_0 (fun zM11 ezM11 => ?_)
    refine ri_ald a_X7_goesNext_393 rfl ?_
    refine ri_dup a_X7_goesNext_394 (fun _ h => by cases h) ?_
    refine ri_getI a_X7_goesNext_395 fl_X7_116 kM_0_21 rfl iM_0 ?_
    refine ri_ic a_X7_goesNext_398 ?_
    refine ri_iadd a_X7_goesNext_399 ?_
    refine ri_putI a_X7_goesNext_400 fp_X7_116 kM_0_21 rfl iM_0 (fun zM12 ezM12 => ?_)
    refine ri_return a_X7_goesNext_403 rfl ?_
    have k21 : zM11 0 0 21 = nI p := by rw [ezM11]; exact h21
    rw [k21, nI_1] at ezM12
    refine rV ⟨by rw [ezM12, ezM11]; exact frK_up (frK_up hf (by decide)) (by decide), ?_⟩
    rw [hA, ezM12, ezM11]
    exact ⟨rfl, h22, (sg_nI hS).symm, fun q => absurd (show (4 : Nat) = 2 from q) (by decide), fun q => absurd (show (4 : Nat) = 3 from q) (by decide), fun q => absurd (show (4 : Nat) = 3 from q) (by decide)⟩
  have sgn : ∀ N1, frK N N1 → N1 0 0 21 = nI p → N1 0 0 22 = nI p → tkA tp n a = ((1, 0), p, p + 1) → lr_W tM sM w d jX7_goesNext 378 [some (vo 0 0), some (vi (tp p)), none] [] N1 (qV fun N' => frK N N' ∧ rtN N' (tkA tp n a)) := by
    intro N1 hf h21 h22 hA
    refine ri_ic a_X7_goesNext_378 ?_
    refine ri_istk (ls' := [some (vo 0 0), some (vi (tp p)), some (vi 0)]) a_X7_goesNext_379 rfl ?_
    refine ri_ald a_X7_goesNext_380 rfl ?_
    refine ri_ild a_X7_goesNext_381 rfl ?_
    refine ri_if_eq a_X7_goesNext_382 (fun _ => ?_) (fun q => absurd q (by decide))
    refine ri_ic a_X7_goesNext_389 ?_
    refine ri_putI a_X7_goesNext_390 fp_X7_122 kM_0_23 rfl iM_0 (fun zM11 ezM11 => ?_)
    refine ri_ald a_X7_goesNext_393 rfl ?_
    refine ri_dup a_X7_goesNext_394 (fun _ h => by cases h) ?_
    refine ri_getI a_X7_goesNext_395 fl_X7_116 kM_0_21 rfl iM_0 ?_
    refine ri_ic a_X7_goesNext_398 ?_
    refine ri_iadd a_X7_goesNext_399 ?_
    refine ri_putI a_X7_goesNext_400 fp_X7_116 kM_0_21 rfl iM_0 (fun zM12 ezM12 => ?_)
    refine ri_return a_X7_goesNext_403 rfl ?_
    have k21 : zM11 0 0 21 = nI p := by rw [ezM11]; exact h21
    rw [k21, nI_1] at ezM12
    refine rV ⟨by rw [ezM12, ezM11]; exact frK_up (frK_up hf (by decide)) (by decide), ?_⟩
    rw [hA, ezM12, ezM11]
    exact ⟨rfl, h22, rfl, fun q => absurd (show (1 : Nat) = 2 from q) (by decide), fun q => absurd (show (1 : Nat) = 3 from q) (by decide), fun q => absurd (show (1 : Nat) = 3 from q) (by decide)⟩
  -- behind the blanks
  have tok : ∀ N1, frK N N1 → N1 0 0 21 = nI p → lr_W tM sM w d jX7_goesNext 52 [some (vo 0 0), none, none] [] N1 (qV fun N' => frK N N' ∧ rtN N' (tkA tp n a)) := by
    intro N1 hf h21
    refine ri_ald a_X7_goesNext_52 rfl ?_
    refine ri_ald a_X7_goesNext_53 rfl ?_
    refine ri_getI a_X7_goesNext_54 fl_X7_116 kM_0_21 rfl iM_0 ?_
    refine ri_putI a_X7_goesNext_57 fp_X7_119 kM_0_22 rfl iM_0 (fun zM11 ezM11 => ?_)
    refine ri_ald a_X7_goesNext_60 rfl ?_
    refine ri_ic a_X7_goesNext_61 ?_
    refine ri_putI a_X7_goesNext_62 fp_X7_122 kM_0_23 rfl iM_0 (fun zM12 ezM12 => ?_)
    refine ri_ald a_X7_goesNext_65 rfl ?_
    refine ri_ic a_X7_goesNext_66 ?_
    refine ri_putI a_X7_goesNext_67 fp_X7_125 kM_0_24 rfl iM_0 (fun zM13 ezM13 => ?_)
    rw [h21] at ezM11
    have hf2 : frK N zM13 := by rw [ezM13, ezM12, ezM11]; exact frK_up (frK_up (frK_up hf (by decide)) (by decide)) (by decide)
    have k21 : zM13 0 0 21 = nI p := by rw [ezM13, ezM12, ezM11]; exact h21
    have k22 : zM13 0 0 22 = nI p := by rw [ezM13, ezM12, ezM11]; rfl
    have k23 : zM13 0 0 23 = 0 := by rw [ezM13, ezM12, ezM11]; rfl
    have k24 : zM13 0 0 24 = 0 := by rw [ezM13, ezM12, ezM11]; rfl
    have h9 := f9 _ hf2
    have h6 := f6 _ hf2
    have ct : zM13 6 0 (zM13 0 0 21).toNatClampNeg = tp p := by rw [h6, k21, nI_clamp (by omega)]
    refine ri_ald a_X7_goesNext_70 rfl ?_
    refine ri_getI a_X7_goesNext_71 fl_X7_116 kM_0_21 rfl iM_0 ?_
    refine ri_ald a_X7_goesNext_74 rfl ?_
    refine ri_getI a_X7_goesNext_75 fl_X7_85 kM_0_9 rfl iM_0 ?_
    refine ri_icmp_ne a_X7_goesNext_78 (fun zc21 => ?_) (fun zc21 => ?_)
    · rw [k21, h9, nI_eq (by omega) (by omega)] at zc21
      have hnp : ¬ n ≤ p := by omega
      refine ri_ald a_X7_goesNext_82 rfl ?_
      refine ri_getR (t' := 6) (i' := 0) a_X7_goesNext_83 fl_X7_25 kM_0_8 rfl iM_0 (Or.inr ⟨rfl, rfl, rfl⟩) ?_
      refine ri_ald a_X7_goesNext_86 rfl ?_
      refine ri_getI a_X7_goesNext_87 fl_X7_116 kM_0_21 rfl iM_0 ?_
      refine ri_iaload a_X7_goesNext_90 lM_6 rfl iM_6 (by rw [k21]; exact vp_in_nI (by omega) (by decide)) ?_
      rw [ct]
      refine ri_istk (ls' := [some (vo 0 0), some (vi (tp p)), none]) a_X7_goesNext_91 rfl ?_
      refine ri_ild a_X7_goesNext_92 rfl ?_
      refine ri_ic a_X7_goesNext_93 ?_
      refine ri_ic a_X7_goesNext_95 ?_
      refine ri_cSpb (as := [vi (tp p), vi 97, vi 122]) (rest := []) (d' := d - 1) a_X7_goesNext_97 ms_X7_in ml_X7_96 (by omega) (ok_X7_in (tp p) 97 122) (Nat.le_of_ble_eq_true rfl) rfl (fun zc41 => ?_) (fun zc41 => ?_)
      · refine ri_if_eq a_X7_goesNext_100 (fun q => absurd q (by decide)) (fun _ => ?_)
        have hL := bL_i.mpr zc41
        have hD : ¬ bD (tp p) = true := fun q => by
          rw [bD_i] at q
          have q2 := Int32.le_trans zc41.1 q.2
          exact absurd q2 (by decide)
        exact wrd hnp hD hL (n - p) p _ (by omega) (Nat.le_refl _) rfl (fun k q1 q2 => by omega) hf2 k21 k22
      · refine ri_if_eq a_X7_goesNext_100 (fun _ => ?_) (fun q => absurd q (by decide))
        refine ri_ild a_X7_goesNext_217 rfl ?_
        refine ri_ic a_X7_goesNext_218 ?_
        refine ri_ic a_X7_goesNext_220 ?_
        refine ri_cSpb (as := [vi (tp p), vi 48, vi 57]) (rest := []) (d' := d - 1) a_X7_goesNext_222 ms_X7_in ml_X7_96 (by omega) (ok_X7_in (tp p) 48 57) (Nat.le_of_ble_eq_true rfl) rfl (fun zc42 => ?_) (fun zc42 => ?_)
        · refine ri_if_eq a_X7_goesNext_225 (fun q => absurd q (by decide)) (fun _ => ?_)
          refine ri_ic a_X7_goesNext_228 ?_
          refine ri_istk (ls' := [some (vo 0 0), some (vi (tp p)), some (vi 0)]) a_X7_goesNext_229 rfl ?_
          have := num hnp (bD_i.mpr zc42) (n - p) p zM13 (by omega) (Nat.le_refl _) rfl (fun k q1 q2 => by omega) hf2 k21 k22 (by rw [Nat.sub_self, if_pos (Nat.zero_le _), k24]; rfl)
          rw [Nat.sub_self] at this
          exact this
        · refine ri_if_eq a_X7_goesNext_225 (fun _ => ?_) (fun q => absurd q (by decide))
          refine ri_ild a_X7_goesNext_326 rfl ?_
          refine ri_ic a_X7_goesNext_327 ?_
          refine ri_icmp_eq a_X7_goesNext_329 (fun zc43 => ?_) (fun zc43 => ?_)
          · have hD : ¬ bD (tp p) = true := fun q => zc42 (bD_i.mp q)
            have hL : ¬ bL (tp p) = true := fun q => zc41 (bL_i.mp q)
            have hA := tkA_sgn hE hnp hD hL
            first
            | (have hS : bS (tp p) = true := by rw [bS_i]; unfold isSg; simp only [*, true_or, or_true]
               exact sgy _ hf2 k21 k22 (by rw [hA, if_pos hS]) hS)
            | (have hS : ¬ bS (tp p) = true := by rw [bS_i]; unfold isSg; simp only [*, or_self, not_false_eq_true]
               refine sgn _ hf2 k21 k22 ?_
               rw [hA, if_neg hS])
          · refine ri_ild a_X7_goesNext_332 rfl ?_
            refine ri_ic a_X7_goesNext_333 ?_
            refine ri_icmp_eq a_X7_goesNext_335 (fun zc44 => ?_) (fun zc44 => ?_)
            · have hD : ¬ bD (tp p) = true := fun q => zc42 (bD_i.mp q)
              have hL : ¬ bL (tp p) = true := fun q => zc41 (bL_i.mp q)
              have hA := tkA_sgn hE hnp hD hL
              first
              | (have hS : bS (tp p) = true := by rw [bS_i]; unfold isSg; simp only [*, true_or, or_true]
                 exact sgy _ hf2 k21 k22 (by rw [hA, if_pos hS]) hS)
              | (have hS : ¬ bS (tp p) = true := by rw [bS_i]; unfold isSg; simp only [*, or_self, not_false_eq_true]
                 refine sgn _ hf2 k21 k22 ?_
                 rw [hA, if_neg hS])
            · refine ri_ild a_X7_goesNext_338 rfl ?_
              refine ri_ic a_X7_goesNext_339 ?_
              refine ri_icmp_eq a_X7_goesNext_341 (fun zc45 => ?_) (fun zc45 => ?_)
              · have hD : ¬ bD (tp p) = true := fun q => zc42 (bD_i.mp q)
                have hL : ¬ bL (tp p) = true := fun q => zc41 (bL_i.mp q)
                have hA := tkA_sgn hE hnp hD hL
                first
                | (have hS : bS (tp p) = true := by rw [bS_i]; unfold isSg; simp only [*, true_or, or_true]
                   exact sgy _ hf2 k21 k22 (by rw [hA, if_pos hS]) hS)
                | (have hS : ¬ bS (tp p) = true := by rw [bS_i]; unfold isSg; simp only [*, or_self, not_false_eq_true]
                   refine sgn _ hf2 k21 k22 ?_
                   rw [hA, if_neg hS])
              · refine ri_ild a_X7_goesNext_344 rfl ?_
                refine ri_ic a_X7_goesNext_345 ?_
                refine ri_icmp_eq a_X7_goesNext_347 (fun zc46 => ?_) (fun zc46 => ?_)
                · have hD : ¬ bD (tp p) = true := fun q => zc42 (bD_i.mp q)
                  have hL : ¬ bL (tp p) = true := fun q => zc41 (bL_i.mp q)
                  have hA := tkA_sgn hE hnp hD hL
                  first
                  | (have hS : bS (tp p) = true := by rw [bS_i]; unfold isSg; simp only [*, true_or, or_true]
                     exact sgy _ hf2 k21 k22 (by rw [hA, if_pos hS]) hS)
                  | (have hS : ¬ bS (tp p) = true := by rw [bS_i]; unfold isSg; simp only [*, or_self, not_false_eq_true]
                     refine sgn _ hf2 k21 k22 ?_
                     rw [hA, if_neg hS])
                · refine ri_ild a_X7_goesNext_350 rfl ?_
                  refine ri_ic a_X7_goesNext_351 ?_
                  refine ri_icmp_eq a_X7_goesNext_353 (fun zc47 => ?_) (fun zc47 => ?_)
                  · have hD : ¬ bD (tp p) = true := fun q => zc42 (bD_i.mp q)
                    have hL : ¬ bL (tp p) = true := fun q => zc41 (bL_i.mp q)
                    have hA := tkA_sgn hE hnp hD hL
                    first
                    | (have hS : bS (tp p) = true := by rw [bS_i]; unfold isSg; simp only [*, true_or, or_true]
                       exact sgy _ hf2 k21 k22 (by rw [hA, if_pos hS]) hS)
                    | (have hS : ¬ bS (tp p) = true := by rw [bS_i]; unfold isSg; simp only [*, or_self, not_false_eq_true]
                       refine sgn _ hf2 k21 k22 ?_
                       rw [hA, if_neg hS])
                  · refine ri_ild a_X7_goesNext_356 rfl ?_
                    refine ri_ic a_X7_goesNext_357 ?_
                    refine ri_icmp_eq a_X7_goesNext_359 (fun zc48 => ?_) (fun zc48 => ?_)
                    · have hD : ¬ bD (tp p) = true := fun q => zc42 (bD_i.mp q)
                      have hL : ¬ bL (tp p) = true := fun q => zc41 (bL_i.mp q)
                      have hA := tkA_sgn hE hnp hD hL
                      first
                      | (have hS : bS (tp p) = true := by rw [bS_i]; unfold isSg; simp only [*, true_or, or_true]
                         exact sgy _ hf2 k21 k22 (by rw [hA, if_pos hS]) hS)
                      | (have hS : ¬ bS (tp p) = true := by rw [bS_i]; unfold isSg; simp only [*, or_self, not_false_eq_true]
                         refine sgn _ hf2 k21 k22 ?_
                         rw [hA, if_neg hS])
                    · refine ri_ild a_X7_goesNext_362 rfl ?_
                      refine ri_ic a_X7_goesNext_363 ?_
                      refine ri_icmp_eq a_X7_goesNext_365 (fun zc49 => ?_) (fun zc49 => ?_)
                      · have hD : ¬ bD (tp p) = true := fun q => zc42 (bD_i.mp q)
                        have hL : ¬ bL (tp p) = true := fun q => zc41 (bL_i.mp q)
                        have hA := tkA_sgn hE hnp hD hL
                        first
                        | (have hS : bS (tp p) = true := by rw [bS_i]; unfold isSg; simp only [*, true_or, or_true]
                           exact sgy _ hf2 k21 k22 (by rw [hA, if_pos hS]) hS)
                        | (have hS : ¬ bS (tp p) = true := by rw [bS_i]; unfold isSg; simp only [*, or_self, not_false_eq_true]
                           refine sgn _ hf2 k21 k22 ?_
                           rw [hA, if_neg hS])
                      · refine ri_ild a_X7_goesNext_368 rfl ?_
                        refine ri_ic a_X7_goesNext_369 ?_
                        refine ri_icmp_ne a_X7_goesNext_371 (fun zc50 => ?_) (fun zc50 => ?_)
                        · have hD : ¬ bD (tp p) = true := fun q => zc42 (bD_i.mp q)
                          have hL : ¬ bL (tp p) = true := fun q => zc41 (bL_i.mp q)
                          have hA := tkA_sgn hE hnp hD hL
                          first
                          | (have hS : bS (tp p) = true := by rw [bS_i]; unfold isSg; simp only [*, true_or, or_true]
                             exact sgy _ hf2 k21 k22 (by rw [hA, if_pos hS]) hS)
                          | (have hS : ¬ bS (tp p) = true := by rw [bS_i]; unfold isSg; simp only [*, or_self, not_false_eq_true]
                             refine sgn _ hf2 k21 k22 ?_
                             rw [hA, if_neg hS])
                        · have hD : ¬ bD (tp p) = true := fun q => zc42 (bD_i.mp q)
                          have hL : ¬ bL (tp p) = true := fun q => zc41 (bL_i.mp q)
                          have hA := tkA_sgn hE hnp hD hL
                          first
                          | (have hS : bS (tp p) = true := by rw [bS_i]; unfold isSg; simp only [*, true_or, or_true]
                             exact sgy _ hf2 k21 k22 (by rw [hA, if_pos hS]) hS)
                          | (have hS : ¬ bS (tp p) = true := by rw [bS_i]; unfold isSg; simp only [*, or_self, not_false_eq_true]
                             refine sgn _ hf2 k21 k22 ?_
                             rw [hA, if_neg hS])
    · refine ri_return a_X7_goesNext_81 rfl ?_
      rw [k21, h9, nI_eq (by omega) (by omega)] at zc21
      refine rV ⟨hf2, ?_⟩
      rw [tkA_end hE (by omega)]
      exact ⟨k21, k22, k23, fun q => absurd (show (0 : Nat) = 2 from q) (by decide), fun q => absurd (show (0 : Nat) = 3 from q) (by decide), fun q => absurd (show (0 : Nat) = 3 from q) (by decide)⟩
  have blk0 : ∀ r b N1, n = b + r → a ≤ b → b ≤ p → rnP bB tp (n - b) b = p → frK N N1 → N1 0 0 21 = nI b → lr_W tM sM w d jX7_goesNext 0 [some (vo 0 0), none, none] [] N1 (qV fun N' => frK N N' ∧ rtN N' (tkA tp n a)) := by
    intro r
    induction r with
    | zero =>
      intro b N1 hb hab hbp hrn hf h21
      have : n = b := hb
      subst this
      have h9 := f9 N1 hf
      have hbe : n = p := by rw [← hrn, Nat.sub_self]; rfl
      refine ri_ald a_X7_goesNext_0 rfl ?_
      refine ri_getI a_X7_goesNext_1 fl_X7_116 kM_0_21 rfl iM_0 ?_
      refine ri_ald a_X7_goesNext_4 rfl ?_
      refine ri_getI a_X7_goesNext_5 fl_X7_85 kM_0_9 rfl iM_0 ?_
      refine ri_icmp_ge a_X7_goesNext_8 (fun zc11 => ?_) (fun zc11 => ?_)
      · exact tok N1 hf (by rw [h21, hbe])
      · exact absurd (by rw [h9, h21]; exact Int32.le_refl _) zc11
    | succ r ih =>
      intro b N1 hb hab hbp hrn hf h21
      have h9 := f9 N1 hf
      have h6 := f6 N1 hf
      have ez : n - b = r + 1 := by omega
      rw [ez] at hrn
      have ct : N1 6 0 (N1 0 0 21).toNatClampNeg = tp b := by rw [h6, h21, nI_clamp (by omega)]
      have i6 : vp_in (N1 0 0 21) 160 := by rw [h21]; exact vp_in_nI (by omega) (by decide)
      have go : tp b = 32 ∨ tp b = 10 → lr_W tM sM w d jX7_goesNext 39 [some (vo 0 0), none, none] [] N1 (qV fun N' => frK N N' ∧ rtN N' (tkA tp n a)) := by
        intro hbl
        rw [rnP_t (bB_i.mpr hbl)] at hrn
        have hle2 := rnP_le bB tp r (b + 1)
        refine ri_ald a_X7_goesNext_39 rfl ?_
        refine ri_dup a_X7_goesNext_40 (fun _ h => by cases h) ?_
        refine ri_getI a_X7_goesNext_41 fl_X7_116 kM_0_21 rfl iM_0 ?_
        refine ri_ic a_X7_goesNext_44 ?_
        refine ri_iadd a_X7_goesNext_45 ?_
        refine ri_putI a_X7_goesNext_46 fp_X7_116 kM_0_21 rfl iM_0 (fun zM21 ezM21 => ?_)
        refine ri_goto a_X7_goesNext_49 ?_
        rw [h21, nI_1] at ezM21
        exact ih (b + 1) zM21 (by omega) (by omega) (by omega) (by rw [show n - (b + 1) = r by omega]; exact hrn) (by rw [ezM21]; exact frK_up hf (by decide)) (by rw [ezM21, up_same])
      refine ri_ald a_X7_goesNext_0 rfl ?_
      refine ri_getI a_X7_goesNext_1 fl_X7_116 kM_0_21 rfl iM_0 ?_
      refine ri_ald a_X7_goesNext_4 rfl ?_
      refine ri_getI a_X7_goesNext_5 fl_X7_85 kM_0_9 rfl iM_0 ?_
      refine ri_icmp_ge a_X7_goesNext_8 (fun zc11 => ?_) (fun zc11 => ?_)
      · exact absurd zc11 (by rw [h9, h21]; exact nI_ge (by omega) (by omega))
      · refine ri_ald a_X7_goesNext_11 rfl ?_
        refine ri_getR (t' := 6) (i' := 0) a_X7_goesNext_12 fl_X7_25 kM_0_8 rfl iM_0 (Or.inr ⟨rfl, rfl, rfl⟩) ?_
        refine ri_ald a_X7_goesNext_15 rfl ?_
        refine ri_getI a_X7_goesNext_16 fl_X7_116 kM_0_21 rfl iM_0 ?_
        refine ri_iaload a_X7_goesNext_19 lM_6 rfl iM_6 i6 ?_
        refine ri_ic a_X7_goesNext_20 ?_
        refine ri_icmp_eq a_X7_goesNext_22 (fun zc12 => ?_) (fun zc12 => ?_)
        · rw [ct] at *
          first
          | exact go (Or.inl (by assumption))
          | exact go (Or.inr (by assumption))
        · refine ri_ald a_X7_goesNext_25 rfl ?_
          refine ri_getR (t' := 6) (i' := 0) a_X7_goesNext_26 fl_X7_25 kM_0_8 rfl iM_0 (Or.inr ⟨rfl, rfl, rfl⟩) ?_
          refine ri_ald a_X7_goesNext_29 rfl ?_
          refine ri_getI a_X7_goesNext_30 fl_X7_116 kM_0_21 rfl iM_0 ?_
          refine ri_iaload a_X7_goesNext_33 lM_6 rfl iM_6 i6 ?_
          refine ri_ic a_X7_goesNext_34 ?_
          refine ri_icmp_ne a_X7_goesNext_36 (fun zc13 => ?_) (fun zc13 => ?_)
          · rw [ct] at *
            rw [rnP_f (fun q => by rcases bB_i.mp q with q | q <;> contradiction)] at hrn
            exact tok N1 hf (by rw [h21, hrn])
          · rw [ct] at *
            first
            | exact go (Or.inl (by assumption))
            | exact go (Or.inr (by assumption))
  refine lr_ok (by decide +kernel) rfl ?_
  exact blk0 (n - a) a N (by omega) (Nat.le_refl _) hle.1 hE frK_rf hat

