/-! class: Law.value: a text's part, computed -/
theorem nI_m1 (n : Nat) : nI (n + 1) + (-1) = nI n := by
  have h := nI_pred n
  rw [Int32.sub_eq_add_neg] at h
  exact h
/-- the stack, top first, in a row of numbers, bottom first -/
def stk (f : Nat → Int32) : List Int32 → Prop
  | [] => True
  | v :: r => f r.length = v ∧ stk f r
theorem stk_upd {f : Nat → Int32} {k : Nat} {x : Int32} : ∀ {st : List Int32}, stk f st → st.length ≤ k → stk (upd f k x) st := by
  intro st
  induction st with
  | nil => intro _ _; exact True.intro
  | cons v r ih =>
    intro h hk
    simp only [List.length_cons] at hk
    exact ⟨by rw [← h.1]; exact if_neg (by omega), ih h.2 (by omega)⟩
theorem stk_push {f : Nat → Int32} {st : List Int32} {x : Int32} (h : stk f st) : stk (upd f st.length x) (x :: st) := ⟨if_pos rfl, stk_upd h (Nat.le_refl _)⟩
theorem tkC_0 {o : Op} (h : o.1 = 0) : encC o = nI o.2 ∧ tkC o = - nI o.2 := by
  have e : tkC o = - nI o.2 := by simp only [tkC, h]
  exact ⟨by rw [encC, e, Int32.neg_neg], e⟩
theorem tkC_1 {o : Op} (h : o.1 = 1) : tkC o = nI (10 + o.2) := by simp only [tkC, h]
theorem tkC_2 {o : Op} (h : o.1 = 2) : tkC o = if o.2 = 0 then 9 else 126 := by simp only [tkC, h]
theorem tkC_3 {o : Op} (h : o.1 = 3) : tkC o = opc o.2 := by simp only [tkC, h]
theorem nneg_le {n : Nat} (h : n ≤ 9999) : - nI n ≤ 0 := by
  rw [Int32.le_iff_toInt_le, Int32.toInt_neg, nI_toInt (by omega), Int32.toInt_zero, Int.bmod_eq_of_le (by omega) (by omega)]
  omega
theorem tk_pos {o : Op} (hok : opOk o) (h : 0 < tkC o) : ¬ o.1 = 0 := by
  intro e
  rcases hok with ⟨_, h2⟩ | ⟨h1, _⟩ | ⟨h1, _⟩ | ⟨h1, _⟩ <;> try omega
  rw [(tkC_0 e).2] at h
  exact Int32.not_lt.mpr (nneg_le h2) h
theorem tk_kinds {o : Op} (hok : opOk o) : (o.1 = 0 ∧ tkC o ≤ 0) ∨ (o.1 = 1 ∧ ¬ tkC o ≤ 0 ∧ 10 ≤ tkC o ∧ tkC o ≤ 15) ∨ (o.1 = 2 ∧ ¬ tkC o ≤ 0 ∧ ¬ (10 ≤ tkC o ∧ tkC o ≤ 15) ∧ (tkC o = 9 ∨ tkC o = 126)) ∨ (o.1 = 3 ∧ ¬ tkC o ≤ 0 ∧ ¬ (10 ≤ tkC o ∧ tkC o ≤ 15) ∧ ¬ tkC o = 9 ∧ ¬ tkC o = 126) := by
  obtain ⟨a, b⟩ := o
  rcases hok with ⟨h1, h2⟩ | ⟨h1, h2⟩ | ⟨h1, h2⟩ | ⟨h1, h2⟩ <;> dsimp only at h1 h2 <;> subst h1
  · exact Or.inl ⟨rfl, nneg_le h2⟩
  · refine Or.inr (Or.inl ⟨rfl, ?_⟩)
    have : b = 0 ∨ b = 1 ∨ b = 2 ∨ b = 3 ∨ b = 4 ∨ b = 5 := by omega
    rcases this with rfl | rfl | rfl | rfl | rfl | rfl <;> decide
  · refine Or.inr (Or.inr (Or.inl ⟨rfl, ?_⟩))
    have : b = 0 ∨ b = 1 := by omega
    rcases this with rfl | rfl <;> decide
  · refine Or.inr (Or.inr (Or.inr ⟨rfl, ?_⟩))
    have : b = 0 ∨ b = 1 ∨ b = 2 ∨ b = 3 ∨ b = 4 ∨ b = 5 ∨ b = 6 := by omega
    rcases this with rfl | rfl | rfl | rfl | rfl | rfl | rfl <;> decide
theorem ok_X1_value0 {w : Wd} {d : Nat} (hd : 1 ≤ d) {M : Mem} {t c q pt lo hi : Nat} (ht : t < 6) (hc : c < 3) (hq : q < 8) (hpt : pt < 3) (rung : Int32) (ops : List Op)
    (hlo : (pt = 0 ∧ lo = 0) ∨ (0 < pt ∧ M 10 t (pt - 1) = nI lo)) (hhi : M 10 t pt = nI hi) (h160 : hi ≤ 160) (hlen : lo + ops.length = hi) (hcode : ∀ k o, ops[k]? = some o → M 9 t (lo + k) = encC o) (hwf : wfd 32 ops 0) :
    lr_Ok tC s0 w d jX1_value [vo 8 t, vi (nI pt), vo 1 c, vi (nI q), vi rung] M (fun r M' => r = some (vi (evA (nmV (vwC M c) q rung) ops [])) ∧ ∀ t, sC t = false → M' t = M t) := by
  have hpin : vp_in (nI pt) 3 := vp_in_nI hpt (by decide)
  have loop : ∀ (os : List Op) (st : List Int32) (i : Nat) (M1 : Mem) (j7 j8 : Option AV), (∀ k o, os[k]? = some o → M 9 t (i + k) = encC o) → i + os.length = hi → wfd 32 os st.length → st.length ≤ 32 → stk (M1 11 t) st → (∀ t, sC t = false → M1 t = M t) →
      lr_W tC s0 w d jX1_value 21 [some (vo 8 t), some (vi (nI pt)), some (vo 1 c), some (vi (nI q)), some (vi rung), some (vi (nI st.length)), some (vi (nI i)), j7, j8] [] M1 (fun r M' => r = some (vi (evA (nmV (vwC M c) q rung) os st)) ∧ ∀ t, sC t = false → M' t = M t) := by
    intro os
    induction os with
    | nil =>
      intro st i M1 j7 j8 hseg hi2 hw h32 hst hag
      have hlen1 : st.length = 1 := hw
      have e10 : M1 10 = M 10 := hag 10 rfl
      have ei : hi = i := by simpa using hi2.symm
      subst ei
      obtain ⟨v, rfl⟩ : ∃ v, st = [v] := by
        match st, hlen1 with
        | [v], _ => exact ⟨v, rfl⟩
      refine ri_ild a_X1_value_21 rfl ?_
      refine ri_ald a_X1_value_23 rfl ?_
      refine ri_getR (t' := 10) (i' := t) a_X1_value_24 fl_X1_15 kC_8_1 rfl (iC_8 (by assumption)) (Or.inl ⟨rfl, rfl, rfl⟩) ?_
      refine ri_ild a_X1_value_27 rfl ?_
      refine ri_iaload a_X1_value_28 lC_10 rfl (iC_10 (by assumption)) ?_ ?_
      · exact hpin
      refine ri_icmp_ge a_X1_value_29 (fun zc11 => ?_) (fun zc11 => ?_)
      · refine ri_ild a_X1_value_216 rfl ?_
        refine ri_ic a_X1_value_218 ?_
        refine ri_icmp_ge a_X1_value_219 (fun zc12 => ?_) (fun zc12 => ?_)
        · refine ri_ald a_X1_value_226 rfl ?_
          refine ri_getR (t' := 11) (i' := t) a_X1_value_227 fl_X1_18 kC_8_2 rfl (iC_8 (by assumption)) (Or.inl ⟨rfl, rfl, rfl⟩) ?_
          refine ri_ild a_X1_value_230 rfl ?_
          refine ri_ic a_X1_value_232 ?_
          refine ri_isub a_X1_value_233 ?_
          refine ri_iaload a_X1_value_234 lC_11 rfl (iC_11 (by assumption)) ?_ ?_
          · exact vp_in_lit (show (0 : Int32) ≤ nI 1 - 1 by decide) (show (nI 1 - 1).toNatClampNeg < 32 by decide)
          refine ri_ireturn a_X1_value_235 rfl rfl ?_
          refine ⟨?_, hag⟩
          have h0 : M1 11 t 0 = v := hst.1
          show some (vi (M1 11 t (nI 1 - 1).toNatClampNeg)) = some (vi v)
          rw [show (nI 1 - 1).toNatClampNeg = 0 by decide, h0]
        · refine ri_ic a_X1_value_222 ?_
          refine ri_goto a_X1_value_223 ?_
          refine ri_ireturn a_X1_value_235 rfl rfl ?_
          exact absurd (show (1 : Int32) ≤ nI 1 by decide) zc12
      · exact absurd (by rw [e10, nI_clamp (by omega), hhi]; exact Int32.le_refl _) zc11
    | cons o os ih =>
      intro st i M1 j7 j8 hseg hi2 hw h32 hst hag
      have e9 : M1 9 = M 9 := hag 9 rfl
      have e10 : M1 10 = M 10 := hag 10 rfl
      simp only [List.length_cons] at hi2
      have hseg2 : ∀ k o', os[k]? = some o' → M 9 t (i + 1 + k) = encC o' := fun k o' h => by
        have := hseg (k + 1) o' (by simpa using h)
        rwa [show i + (k + 1) = i + 1 + k by omega] at this
      have hco : M1 9 t (nI i).toNatClampNeg = encC o := by
        rw [e9, nI_clamp (by omega)]
        exact hseg 0 o rfl
      obtain ⟨hok, hw⟩ := hw
      have hnmq : nmV (vwC M1 c) q rung = nmV (vwC M c) q rung := by
        unfold vwC
        rw [hag 2 rfl, hag 3 rfl, hag 4 rfl, hag 5 rfl, hag 1 rfl]
      have hiin : vp_in (nI i) 160 := vp_in_nI (by omega) (by decide)
      -- behind a push
      have push : ∀ (x : Int32) (j7 : Option AV) (M2 : Mem), st.length < 32 → M2 = up M1 11 t (nI st.length).toNatClampNeg x → opSt (nmV (vwC M c) q rung) o st = x :: st → wfd 32 os (st.length + 1) →
          lr_W tC s0 w d jX1_value 21 [some (vo 8 t), some (vi (nI pt)), some (vo 1 c), some (vi (nI q)), some (vi rung), some (vi (nI st.length + 1)), some (vi (nI i + 1)), j7, j8] [] M2 (fun r M' => r = some (vi (evA (nmV (vwC M c) q rung) (o :: os) st)) ∧ ∀ t, sC t = false → M' t = M t) := by
        intro x j7 M2 hl hzM2 hop hw2
        rw [evA, hop, nI_1, nI_1]
        rw [nI_clamp (by omega)] at hzM2
        refine ih (x :: st) (i + 1) M2 j7 j8 hseg2 (by omega) hw2 (by simp only [List.length_cons]; omega) ?_ ?_
        · rw [hzM2, up_at]
          exact stk_push hst
        · intro t' ht'
          rw [← hag t' ht', hzM2]
          unfold up
          rw [if_neg (fun e => by subst e; cases ht')]
      -- one that changes the top alone
      have una : ∀ (x : Int32), x = tkC o → o.1 = 2 → lr_W tC s0 w d jX1_value 115 [some (vo 8 t), some (vi (nI pt)), some (vo 1 c), some (vi (nI q)), some (vi rung), some (vi (nI st.length)), some (vi (nI i)), some (vi x), j8] [] M1 (fun r M' => r = some (vi (evA (nmV (vwC M c) q rung) (o :: os) st)) ∧ ∀ t, sC t = false → M' t = M t) := by
        intro x hx hk2
        rw [hk2] at hw
        match st, hw, hst, h32 with
        | v :: r, hw, hst, h32 =>
        simp only [List.length_cons] at hw h32
        have e1 : nI (v :: r).length - 1 = nI r.length := by rw [List.length_cons]; exact nI_pred _
        have hti : vp_in (nI (v :: r).length - 1) 32 := by rw [e1]; exact vp_in_nI (by omega) (by decide)
        have back : ∀ (y : Int32) (j8 : Option AV) (M2 : Mem), M2 = up M1 11 t (nI (v :: r).length - 1).toNatClampNeg y → y = unF o.2 v → lr_W tC s0 w d jX1_value 21 [some (vo 8 t), some (vi (nI pt)), some (vo 1 c), some (vi (nI q)), some (vi rung), some (vi (nI (v :: r).length)), some (vi (nI i + 1)), some (vi x), j8] [] M2 (fun r' M' => r' = some (vi (evA (nmV (vwC M c) q rung) (o :: os) (v :: r))) ∧ ∀ t, sC t = false → M' t = M t) := by
          intro y j8 M2 hzM2 hy
          rw [e1, nI_clamp (by omega)] at hzM2
          have hop : opSt (nmV (vwC M c) q rung) o (v :: r) = y :: r := by simp only [opSt, hk2, hy]
          rw [evA, hop, nI_1]
          refine ih (y :: r) (i + 1) M2 (some (vi x)) j8 hseg2 (by omega) hw.2 (by simp only [List.length_cons]; omega) ?_ ?_
          · rw [hzM2, up_at]
            exact stk_push hst.2
          · intro t' ht'
            rw [← hag t' ht', hzM2]
            unfold up
            rw [if_neg (fun e => by subst e; cases ht')]
        have hv : M1 11 t (nI (v :: r).length - 1).toNatClampNeg = v := by rw [e1, nI_clamp (by omega)]; exact hst.1
        have hxx : (o.2 = 0 ∧ ¬ x = 126) ∨ (o.2 = 1 ∧ x = 126) := by
          rcases hok with h | h | h | h <;> try omega
          have : o.2 = 0 ∨ o.2 = 1 := by omega
          rcases this with h0 | h0
          · exact Or.inl ⟨h0, by rw [hx, tkC_2 hk2, if_pos h0]; decide⟩
          · exact Or.inr ⟨h0, by rw [hx, tkC_2 hk2, if_neg (by omega)]⟩
        refine ri_ild a_X1_value_115 rfl ?_
        refine ri_ic a_X1_value_117 ?_
        refine ri_icmp_ge a_X1_value_118 (fun zc21 => ?_) (fun zc21 => ?_)
        · refine ri_ald a_X1_value_123 rfl ?_
          refine ri_getR (t' := 11) (i' := t) a_X1_value_124 fl_X1_18 kC_8_2 rfl (iC_8 (by assumption)) (Or.inl ⟨rfl, rfl, rfl⟩) ?_
          refine ri_ild a_X1_value_127 rfl ?_
          refine ri_ic a_X1_value_129 ?_
          refine ri_isub a_X1_value_130 ?_
          refine ri_iaload a_X1_value_131 lC_11 rfl (iC_11 (by assumption)) ?_ ?_
          · exact hti
          refine ri_ist (f := fun zx22 => [some (vo 8 t), some (vi (nI pt)), some (vo 1 c), some (vi (nI q)), some (vi rung), some (vi (nI (v :: r).length)), some (vi (nI i)), some (vi x), some (vi zx22)]) a_X1_value_132 (fun _ => rfl) (fun zx22 ezx22 => ?_)
          refine ri_ald a_X1_value_134 rfl ?_
          refine ri_getR (t' := 11) (i' := t) a_X1_value_135 fl_X1_18 kC_8_2 rfl (iC_8 (by assumption)) (Or.inl ⟨rfl, rfl, rfl⟩) ?_
          refine ri_ild a_X1_value_138 rfl ?_
          refine ri_ic a_X1_value_140 ?_
          refine ri_isub a_X1_value_141 ?_
          refine ri_ild a_X1_value_142 rfl ?_
          refine ri_ic a_X1_value_144 ?_
          refine ri_icmp_ne a_X1_value_146 (fun zc23 => ?_) (fun zc23 => ?_)
          · refine ri_ild a_X1_value_155 rfl ?_
            refine ri_if_ne a_X1_value_157 (fun zc24 => ?_) (fun zc24 => ?_)
            · refine ri_ic a_X1_value_164 ?_
              refine ri_iastore a_X1_value_165 lC_11 rfl (iC_11 (by assumption)) ?_ (fun zM25 ezM25 => ?_)
              · exact hti
              refine ri_goto a_X1_value_166 ?_
              refine ri_iinc (c0 := 1) (f := fun zx26 => [some (vo 8 t), some (vi (nI pt)), some (vo 1 c), some (vi (nI q)), some (vi rung), some (vi (nI (v :: r).length)), some (vi zx26), some (vi x), some (vi zx22)]) a_X1_value_210 rfl (by decide) (fun _ => rfl) (fun zx26 ezx26 => ?_)
              refine ri_goto a_X1_value_213 ?_
              rw [ezx26]
              refine back _ _ _ ezM25 ?_
              rw [hv] at ezx22
              rcases hxx with ⟨h0, h1⟩ | ⟨h0, h1⟩
              · rw [unF, h0, if_pos rfl, if_neg (by rw [← ezx22]; exact zc24)]
              · exact absurd h1 zc23
            · refine ri_ic a_X1_value_160 ?_
              refine ri_goto a_X1_value_161 ?_
              refine ri_iastore a_X1_value_165 lC_11 rfl (iC_11 (by assumption)) ?_ (fun zM27 ezM27 => ?_)
              · exact hti
              refine ri_goto a_X1_value_166 ?_
              refine ri_iinc (c0 := 1) (f := fun zx28 => [some (vo 8 t), some (vi (nI pt)), some (vo 1 c), some (vi (nI q)), some (vi rung), some (vi (nI (v :: r).length)), some (vi zx28), some (vi x), some (vi zx22)]) a_X1_value_210 rfl (by decide) (fun _ => rfl) (fun zx28 ezx28 => ?_)
              refine ri_goto a_X1_value_213 ?_
              rw [ezx28]
              refine back _ _ _ ezM27 ?_
              rw [hv] at ezx22
              rcases hxx with ⟨h0, h1⟩ | ⟨h0, h1⟩
              · rw [unF, h0, if_pos rfl, if_pos (by rw [← ezx22]; exact zc24)]
              · exact absurd h1 zc23
          · refine ri_ild a_X1_value_149 rfl ?_
            refine ri_ineg a_X1_value_151 ?_
            refine ri_goto a_X1_value_152 ?_
            refine ri_iastore a_X1_value_165 lC_11 rfl (iC_11 (by assumption)) ?_ (fun zM29 ezM29 => ?_)
            · exact hti
            refine ri_goto a_X1_value_166 ?_
            refine ri_iinc (c0 := 1) (f := fun zx30 => [some (vo 8 t), some (vi (nI pt)), some (vo 1 c), some (vi (nI q)), some (vi rung), some (vi (nI (v :: r).length)), some (vi zx30), some (vi x), some (vi zx22)]) a_X1_value_210 rfl (by decide) (fun _ => rfl) (fun zx30 ezx30 => ?_)
            refine ri_goto a_X1_value_213 ?_
            rw [ezx30]
            refine back _ _ _ ezM29 ?_
            rw [hv] at ezx22
            rcases hxx with ⟨h0, h1⟩ | ⟨h0, h1⟩
            · exact absurd zc23 h1
            · rw [unF, h0, if_neg (by decide), ezx22]
        · refine ri_ic a_X1_value_121 ?_
          refine ri_ireturn a_X1_value_122 rfl rfl ?_
          exact absurd (by rw [show (1 : Int32) = nI 1 from rfl, nI_leI (by omega) (by simp only [List.length_cons]; omega)]; simp only [List.length_cons]; omega) zc21
      -- one that joins two
      have bin : ∀ (x : Int32), x = tkC o → o.1 = 3 → lr_W tC s0 w d jX1_value 169 [some (vo 8 t), some (vi (nI pt)), some (vo 1 c), some (vi (nI q)), some (vi rung), some (vi (nI st.length)), some (vi (nI i)), some (vi x), j8] [] M1 (fun r M' => r = some (vi (evA (nmV (vwC M c) q rung) (o :: os) st)) ∧ ∀ t, sC t = false → M' t = M t) := by
        intro x hx hk3
        rw [hk3] at hw
        match st, hw, hst, h32 with
        | [], hw, hst, h32 => exact absurd hw.1 (by simp)
        | [v], hw, hst, h32 => exact absurd hw.1 (by simp)
        | b :: a :: r, hw, hst, h32 =>
        simp only [List.length_cons] at hw h32
        have e0 : nI (b :: a :: r).length + (-1) = nI (r.length + 1) := by simp only [List.length_cons]; exact nI_m1 _
        have e1 : nI (r.length + 1) - 1 = nI r.length := nI_pred _
        have ho6 : o.2 ≤ 6 := by rcases hok with h | h | h | h <;> omega
        refine ri_ild a_X1_value_169 rfl ?_
        refine ri_ic a_X1_value_171 ?_
        refine ri_icmp_ge a_X1_value_172 (fun zc21 => ?_) (fun zc21 => ?_)
        · refine ri_iinc (c0 := (-1)) (f := fun zx22 => [some (vo 8 t), some (vi (nI pt)), some (vo 1 c), some (vi (nI q)), some (vi rung), some (vi zx22), some (vi (nI i)), some (vi x), j8]) a_X1_value_177 rfl (by decide) (fun _ => rfl) (fun zx22 ezx22 => ?_)
          refine ri_ald a_X1_value_180 rfl ?_
          refine ri_getR (t' := 11) (i' := t) a_X1_value_181 fl_X1_18 kC_8_2 rfl (iC_8 (by assumption)) (Or.inl ⟨rfl, rfl, rfl⟩) ?_
          refine ri_ild a_X1_value_184 rfl ?_
          refine ri_ic a_X1_value_186 ?_
          refine ri_isub a_X1_value_187 ?_
          refine ri_ild a_X1_value_188 rfl ?_
          refine ri_ald a_X1_value_190 rfl ?_
          refine ri_getR (t' := 11) (i' := t) a_X1_value_191 fl_X1_18 kC_8_2 rfl (iC_8 (by assumption)) (Or.inl ⟨rfl, rfl, rfl⟩) ?_
          refine ri_ild a_X1_value_194 rfl ?_
          refine ri_ic a_X1_value_196 ?_
          refine ri_isub a_X1_value_197 ?_
          refine ri_iaload a_X1_value_198 lC_11 rfl (iC_11 (by assumption)) ?_ ?_
          · rw [ezx22, e0, e1]; exact vp_in_nI (by omega) (by decide)
          refine ri_ald a_X1_value_199 rfl ?_
          refine ri_getR (t' := 11) (i' := t) a_X1_value_200 fl_X1_18 kC_8_2 rfl (iC_8 (by assumption)) (Or.inl ⟨rfl, rfl, rfl⟩) ?_
          refine ri_ild a_X1_value_203 rfl ?_
          refine ri_iaload a_X1_value_205 lC_11 rfl (iC_11 (by assumption)) ?_ ?_
          · rw [ezx22, e0]; exact vp_in_nI (by omega) (by decide)
          refine ri_cSpi (as := [vi x, vi (M1 11 t (zx22 - 1).toNatClampNeg), vi (M1 11 t zx22.toNatClampNeg)]) (rest := [vi (zx22 - 1), vo 11 t]) (d' := d - 1) a_X1_value_206 ms_X1_joined ml_X1_35 (by omega) (ok_X1_joined x (M1 11 t (zx22 - 1).toNatClampNeg) (M1 11 t zx22.toNatClampNeg)) (Nat.le_of_ble_eq_true rfl) rfl (fun zy23 ezy23 => ?_)
          refine ri_iastore a_X1_value_209 lC_11 rfl (iC_11 (by assumption)) ?_ (fun zM24 ezM24 => ?_)
          · rw [ezx22, e0, e1]; exact vp_in_nI (by omega) (by decide)
          refine ri_iinc (c0 := 1) (f := fun zx25 => [some (vo 8 t), some (vi (nI pt)), some (vo 1 c), some (vi (nI q)), some (vi rung), some (vi zx22), some (vi zx25), some (vi x), j8]) a_X1_value_210 rfl (by decide) (fun _ => rfl) (fun zx25 ezx25 => ?_)
          refine ri_goto a_X1_value_213 ?_
          rw [ezx22, e0, e1, nI_clamp (by omega), nI_clamp (by omega), show M1 11 t r.length = a from hst.2.1, show M1 11 t (r.length + 1) = b from hst.1, hx, tkC_3 hk3, joinC_opc ho6] at ezy23
          rw [ezx22, e0, e1, nI_clamp (by omega)] at ezM24
          have hop : opSt (nmV (vwC M c) q rung) o (b :: a :: r) = zy23 :: r := by simp only [opSt, hk3, ezy23]
          rw [evA, hop, ezx22, e0, ezx25, nI_1]
          refine ih (zy23 :: r) (i + 1) zM24 (some (vi x)) j8 hseg2 (by omega) (by simpa using hw.2) (by simp only [List.length_cons]; omega) ?_ ?_
          · rw [ezM24, up_at]
            exact stk_push hst.2.2
          · intro t' ht'
            rw [← hag t' ht', ezM24]
            unfold up
            rw [if_neg (fun e => by subst e; cases ht')]
        · refine ri_ic a_X1_value_175 ?_
          refine ri_ireturn a_X1_value_176 rfl rfl ?_
          exact absurd (by rw [show (2 : Int32) = nI 2 from rfl, nI_leI (by omega) (by simp only [List.length_cons]; omega)]; simp only [List.length_cons]; omega) zc21
      refine ri_ild a_X1_value_21 rfl ?_
      refine ri_ald a_X1_value_23 rfl ?_
      refine ri_getR (t' := 10) (i' := t) a_X1_value_24 fl_X1_15 kC_8_1 rfl (iC_8 (by assumption)) (Or.inl ⟨rfl, rfl, rfl⟩) ?_
      refine ri_ild a_X1_value_27 rfl ?_
      refine ri_iaload a_X1_value_28 lC_10 rfl (iC_10 (by assumption)) ?_ ?_
      · exact hpin
      refine ri_icmp_ge a_X1_value_29 (fun zc11 => ?_) (fun zc11 => ?_)
      · exact absurd zc11 (by rw [e10, nI_clamp (by omega), hhi, nI_leI (by omega) (by omega)]; omega)
      · refine ri_ald a_X1_value_32 rfl ?_
        refine ri_getR (t' := 9) (i' := t) a_X1_value_33 fl_X1_9 kC_8_0 rfl (iC_8 (by assumption)) (Or.inl ⟨rfl, rfl, rfl⟩) ?_
        refine ri_ild a_X1_value_36 rfl ?_
        refine ri_iaload a_X1_value_38 lC_9 rfl (iC_9 (by assumption)) ?_ ?_
        · exact hiin
        refine ri_ineg a_X1_value_39 ?_
        refine ri_ist (f := fun zx12 => [some (vo 8 t), some (vi (nI pt)), some (vo 1 c), some (vi (nI q)), some (vi rung), some (vi (nI st.length)), some (vi (nI i)), some (vi zx12), j8]) a_X1_value_40 (fun _ => rfl) (fun zx12 ezx12 => ?_)
        refine ri_ild a_X1_value_42 rfl ?_
        refine ri_if_le a_X1_value_44 (fun zc13 => ?_) (fun zc13 => ?_)
        · rw [hco, encC, Int32.neg_neg] at ezx12
          have hk0 : o.1 = 0 := by
            rcases tk_kinds hok with h | h | h | h
            · exact h.1
            · exact absurd (ezx12 ▸ zc13) h.2.1
            · exact absurd (ezx12 ▸ zc13) h.2.1
            · exact absurd (ezx12 ▸ zc13) h.2.1
          have hop : opSt (nmV (vwC M c) q rung) o st = nI o.2 :: st := by simp only [opSt, hk0]
          rw [hk0] at hw
          refine ri_ild a_X1_value_55 rfl ?_
          refine ri_ic a_X1_value_57 ?_
          refine ri_icmp_lt a_X1_value_59 (fun zc21 => ?_) (fun zc21 => ?_)
          · refine ri_ald a_X1_value_64 rfl ?_
            refine ri_getR (t' := 11) (i' := t) a_X1_value_65 fl_X1_18 kC_8_2 rfl (iC_8 (by assumption)) (Or.inl ⟨rfl, rfl, rfl⟩) ?_
            refine ri_ild a_X1_value_68 rfl ?_
            refine ri_ild a_X1_value_70 rfl ?_
            refine ri_if_gt a_X1_value_72 (fun zc22 => ?_) (fun zc22 => ?_)
            · exact absurd zc22 (Int32.not_lt.mpr zc13)
            · refine ri_ald a_X1_value_75 rfl ?_
              refine ri_getR (t' := 9) (i' := t) a_X1_value_76 fl_X1_9 kC_8_0 rfl (iC_8 (by assumption)) (Or.inl ⟨rfl, rfl, rfl⟩) ?_
              refine ri_ild a_X1_value_79 rfl ?_
              refine ri_iaload a_X1_value_81 lC_9 rfl (iC_9 (by assumption)) ?_ ?_
              · exact hiin
              refine ri_goto a_X1_value_82 ?_
              refine ri_iastore a_X1_value_94 lC_11 rfl (iC_11 (by assumption)) ?_ (fun zM23 ezM23 => ?_)
              · exact vp_in_nI hw.1 (by decide)
              refine ri_iinc (c0 := 1) (f := fun zx24 => [some (vo 8 t), some (vi (nI pt)), some (vo 1 c), some (vi (nI q)), some (vi rung), some (vi zx24), some (vi (nI i)), some (vi zx12), j8]) a_X1_value_95 rfl (by decide) (fun _ => rfl) (fun zx24 ezx24 => ?_)
              refine ri_goto a_X1_value_98 ?_
              refine ri_iinc (c0 := 1) (f := fun zx25 => [some (vo 8 t), some (vi (nI pt)), some (vo 1 c), some (vi (nI q)), some (vi rung), some (vi zx24), some (vi zx25), some (vi zx12), j8]) a_X1_value_210 rfl (by decide) (fun _ => rfl) (fun zx25 ezx25 => ?_)
              refine ri_goto a_X1_value_213 ?_
              rw [ezx24, ezx25]
              exact push _ _ _ hw.1 ezM23 (by rw [hop, hco, (tkC_0 hk0).1]) hw.2
          · refine ri_ic a_X1_value_62 ?_
            refine ri_ireturn a_X1_value_63 rfl rfl ?_
            exact absurd (by rw [show (32 : Int32) = nI 32 from rfl, nI_ltI (by omega) (by omega)]; exact hw.1) zc21
        · refine ri_ild a_X1_value_47 rfl ?_
          refine ri_cSpb (as := [vi zx12]) (rest := []) (d' := d - 1) a_X1_value_49 ms_X5_isName ml_X1_25 (by omega) (ok_X5_isName zx12) (Nat.le_of_ble_eq_true rfl) rfl (fun zc14 => ?_) (fun zc14 => ?_)
          · refine ri_if_eq a_X1_value_52 (fun q => absurd q (by decide)) (fun _ => ?_)
            rw [hco, encC, Int32.neg_neg] at ezx12
            have hk1 : o.1 = 1 := by
              rcases tk_kinds hok with h | h | h | h
              · exact absurd (ezx12 ▸ h.2) zc13
              · exact h.1
              · exact absurd (ezx12 ▸ zc14) h.2.2.1
              · exact absurd (ezx12 ▸ zc14) h.2.2.1
            have hop : opSt (nmV (vwC M c) q rung) o st = nmV (vwC M c) q rung o.2 :: st := by simp only [opSt, hk1]
            have ho5 : o.2 ≤ 5 := by rcases hok with h | h | h | h <;> omega
            rw [hk1] at hw
            refine ri_ild a_X1_value_55 rfl ?_
            refine ri_ic a_X1_value_57 ?_
            refine ri_icmp_lt a_X1_value_59 (fun zc21 => ?_) (fun zc21 => ?_)
            · refine ri_ald a_X1_value_64 rfl ?_
              refine ri_getR (t' := 11) (i' := t) a_X1_value_65 fl_X1_18 kC_8_2 rfl (iC_8 (by assumption)) (Or.inl ⟨rfl, rfl, rfl⟩) ?_
              refine ri_ild a_X1_value_68 rfl ?_
              refine ri_ild a_X1_value_70 rfl ?_
              refine ri_if_gt a_X1_value_72 (fun zc22 => ?_) (fun zc22 => ?_)
              · refine ri_ild a_X1_value_85 rfl ?_
                refine ri_ald a_X1_value_87 rfl ?_
                refine ri_ild a_X1_value_88 rfl ?_
                refine ri_ild a_X1_value_89 rfl ?_
                refine ri_cSpi (as := [vi zx12, vo 1 c, vi (nI q), vi rung]) (rest := [vi (nI st.length), vo 11 t]) (d' := d - 1) a_X1_value_91 ms_X1_named ml_X1_31 (by omega) (ok_X1_named (fun _ _ => rfl) hc hq ho5 rung zx12 (ezx12.trans (tkC_1 hk1))) (Nat.le_of_ble_eq_true rfl) rfl (fun zy23 ezy23 => ?_)
                refine ri_iastore a_X1_value_94 lC_11 rfl (iC_11 (by assumption)) ?_ (fun zM24 ezM24 => ?_)
                · exact vp_in_nI hw.1 (by decide)
                refine ri_iinc (c0 := 1) (f := fun zx25 => [some (vo 8 t), some (vi (nI pt)), some (vo 1 c), some (vi (nI q)), some (vi rung), some (vi zx25), some (vi (nI i)), some (vi zx12), j8]) a_X1_value_95 rfl (by decide) (fun _ => rfl) (fun zx25 ezx25 => ?_)
                refine ri_goto a_X1_value_98 ?_
                refine ri_iinc (c0 := 1) (f := fun zx26 => [some (vo 8 t), some (vi (nI pt)), some (vo 1 c), some (vi (nI q)), some (vi rung), some (vi zx25), some (vi zx26), some (vi zx12), j8]) a_X1_value_210 rfl (by decide) (fun _ => rfl) (fun zx26 ezx26 => ?_)
                refine ri_goto a_X1_value_213 ?_
                rw [ezx25, ezx26]
                exact push _ _ _ hw.1 ezM24 (by rw [hop, ezy23, hnmq]) hw.2
              · exact absurd (Int32.not_le.mp zc13) zc22
            · refine ri_ic a_X1_value_62 ?_
              refine ri_ireturn a_X1_value_63 rfl rfl ?_
              exact absurd (by rw [show (32 : Int32) = nI 32 from rfl, nI_ltI (by omega) (by omega)]; exact hw.1) zc21
          · refine ri_if_eq a_X1_value_52 (fun _ => ?_) (fun q => absurd q (by decide))
            refine ri_ild a_X1_value_101 rfl ?_
            refine ri_ic a_X1_value_103 ?_
            refine ri_icmp_eq a_X1_value_105 (fun zc15 => ?_) (fun zc15 => ?_)
            · rw [hco, encC, Int32.neg_neg] at ezx12
              exact una _ ezx12 (by
                rcases tk_kinds hok with h | h | h | h
                · exact absurd (ezx12 ▸ h.2) zc13
                · exact absurd h.2.2 (ezx12 ▸ zc14)
                · exact h.1
                · exact absurd (ezx12 ▸ zc15) h.2.2.2.1)
            · refine ri_ild a_X1_value_108 rfl ?_
              refine ri_ic a_X1_value_110 ?_
              refine ri_icmp_ne a_X1_value_112 (fun zc16 => ?_) (fun zc16 => ?_)
              · rw [hco, encC, Int32.neg_neg] at ezx12
                exact bin _ ezx12 (by
                  rcases tk_kinds hok with h | h | h | h
                  · exact absurd (ezx12 ▸ h.2) zc13
                  · exact absurd h.2.2 (ezx12 ▸ zc14)
                  · rcases h.2.2.2 with h | h
                    · exact absurd h (ezx12 ▸ zc15)
                    · exact absurd h (ezx12 ▸ zc16)
                  · exact h.1)
              · rw [hco, encC, Int32.neg_neg] at ezx12
                exact una _ ezx12 (by
                  rcases tk_kinds hok with h | h | h | h
                  · exact absurd (ezx12 ▸ h.2) zc13
                  · exact absurd h.2.2 (ezx12 ▸ zc14)
                  · exact h.1
                  · exact absurd (ezx12 ▸ zc16) h.2.2.2.2)
  refine lr_ok (ls := [some (vo 8 t), some (vi (nI pt)), some (vo 1 c), some (vi (nI q)), some (vi rung), none, none, none, none]) (by decide +kernel) rfl ?_
  refine ri_ic a_X1_value_0 ?_
  refine ri_istk (ls' := [some (vo 8 t), some (vi (nI pt)), some (vo 1 c), some (vi (nI q)), some (vi rung), some (vi 0), none, none, none]) a_X1_value_1 rfl ?_
  refine ri_ild a_X1_value_3 rfl ?_
  refine ri_if_ne a_X1_value_4 (fun zc1 => ?_) (fun zc1 => ?_)
  · refine ri_ald a_X1_value_11 rfl ?_
    refine ri_getR (t' := 10) (i' := t) a_X1_value_12 fl_X1_15 kC_8_1 rfl (iC_8 (by assumption)) (Or.inl ⟨rfl, rfl, rfl⟩) ?_
    refine ri_ild a_X1_value_15 rfl ?_
    refine ri_ic a_X1_value_16 ?_
    refine ri_isub a_X1_value_17 ?_
    refine ri_iaload a_X1_value_18 lC_10 rfl (iC_10 (by assumption)) ?_ ?_
    · rcases hlo with ⟨h0, _⟩ | ⟨h0, _⟩
      · rw [h0] at zc1
        exact absurd nI_0 zc1
      · obtain ⟨k, rfl⟩ : ∃ k, pt = k + 1 := ⟨pt - 1, by omega⟩
        rw [nI_pred]
        exact vp_in_nI (by omega) (by decide)
    refine ri_ist (f := fun zx2 => [some (vo 8 t), some (vi (nI pt)), some (vo 1 c), some (vi (nI q)), some (vi rung), some (vi 0), some (vi zx2), none, none]) a_X1_value_19 (fun _ => rfl) (fun zx2 ezx2 => ?_)
    rcases hlo with ⟨h0, _⟩ | ⟨h0, h1⟩
    · rw [h0] at zc1
      exact absurd nI_0 zc1
    · obtain ⟨k, rfl⟩ : ∃ k, pt = k + 1 := ⟨pt - 1, by omega⟩
      rw [nI_pred, nI_clamp (by omega)] at ezx2
      rw [ezx2, show M 10 t k = nI lo from h1]
      have L := loop ops [] lo M none none hcode hlen hwf (Nat.zero_le _) True.intro (fun _ _ => rfl)
      rw [List.length_nil, nI_0] at L
      exact L
  · refine ri_ic a_X1_value_7 ?_
    refine ri_goto a_X1_value_8 ?_
    refine ri_istk (ls' := [some (vo 8 t), some (vi (nI pt)), some (vo 1 c), some (vi (nI q)), some (vi rung), some (vi 0), some (vi 0), none, none]) a_X1_value_19 rfl ?_
    rcases hlo with ⟨_, rfl⟩ | ⟨h0, h1⟩
    · have L := loop ops [] 0 M none none hcode hlen hwf (Nat.zero_le _) True.intro (fun _ _ => rfl)
      rw [List.length_nil, nI_0] at L
      exact L
    · exact absurd zc1 (nI_ne0 h0 (by omega))

