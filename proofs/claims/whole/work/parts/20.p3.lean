/-! texts: the two ways agree; how long, how deep what is read is -/
def XS (t : Tok) : Prop := (True ∧ oMul t = none) ∧ oSum t = none
theorem oCmp_sg {t : Tok} {o : Op} (h : oCmp t = some o) : ∃ g, bSg t = some g ∧ rk g = 4 ∧ sOp g = o ∧ t ≠ (4, 59) ∧ t ≠ (4, 41) ∧ decide (g ≤ 12) = false ∧ opn [g] = 0 ∧ t.1 ≠ 0 := by
  unfold oCmp at h
  split at h
  · rename_i e; cases h; subst e; exact ⟨14, by decide⟩
  · split at h
    · rename_i e; cases h; subst e; exact ⟨15, by decide⟩
    · cases h
theorem sim_not {tp : Nat → Int32} {n c : Nat} {rec : PRec} {sum : PS → PR} (hnone : rec = none → c = 5) (hsome : ∀ r, rec = some r → c ≠ 5 ∧ ∀ f s K o, okS n s → opn K = c + 1 → tpr K 4 → n + 2 ≤ f + s.2.1 → simQ tp n 3 XS f s K o true (r.2.2 s))
    (hsum : ∀ f s K o mn, okS n s → opn K = c → tpr K 5 → (mn = false ∨ s.1 ≠ (3, 5)) → n + 2 ≤ f + s.2.1 → simQ tp n 5 XS f s K o mn (sum s)) :
    ∀ f s K o, okS n s → opn K = c → tpr K 4 → n + 2 ≤ f + s.2.1 → simQ tp n 3 XS f s K o true (pNot tp n rec sum s) := by
  intro f s K o hs hK htp hf
  have hsn := hs.1
  obtain ⟨f1, rfl⟩ : ∃ f1, f = f1 + 1 := ⟨f - 1, by omega⟩
  obtain ⟨hn1, hn2⟩ := pnx_ok tp hs
  unfold pNot
  split
  · rename_i h
    have hlt := hs.2.2.2 (by rw [h]; decide)
    have hq : qgo tp n (f1 + 1) s K o true true = if opn K = 5 then .inl s.2.1 else qgo tp n f1 (pnx tp n s) (13 :: K) o true true := by rw [qgo, if_neg (by rw [h]; decide), if_neg (by rw [h]; decide), if_pos ⟨h, rfl⟩]
    cases hrec : rec with
    | none =>
      show qgo tp n (f1 + 1) s K o true true = .inl s.2.1
      rw [hq, if_pos (by rw [hK]; exact hnone hrec)]
    | some r =>
      obtain ⟨hc, hnot⟩ := hsome r hrec
      rw [if_neg (by rw [hK]; exact hc)] at hq
      have hh := hnot f1 (pnx tp n s) (13 :: K) o hn1 (by show 1 + opn K = c + 1; omega) (by show rk 13 < 4; decide) (by omega)
      dsimp only
      cases hres : r.2.2 (pnx tp n s) with
      | inl p => rw [hres] at hh; exact hq.trans hh
      | inr x =>
        rw [hres] at hh
        obtain ⟨b1, b2, b3, f2, K2, o2, mn2, b4, b5, b6, b7⟩ := hh
        refine ⟨b1, b2, by dsimp only; omega, f2, K2, o2, mn2, hq.trans b4, by dsimp only; omega, ?_, b7⟩
        rw [b6, unw, if_pos (by decide)]
        simp [sOp]
  · rename_i h35
    have hh := hsum (f1 + 1) s K o true hs hK (tpr_le htp (by decide)) (Or.inr h35) hf
    cases hres : sum s with
    | inl p => rw [hres] at hh; exact hh
    | inr x =>
      rw [hres] at hh
      obtain ⟨b1, b2, b3, f2, K2, o2, mn2, b4, b5, b6, b7⟩ := hh
      rw [unw_top (tpr_le htp (by decide))] at b6
      dsimp only
      cases hcm : oCmp x.1.1 with
      | none =>
        refine ⟨b1, b2, b3, f2, K2, o2, mn2, b4, b5, ?_, fun _ q => absurd hcm q⟩
        rw [← unw_unw (show 3 ≤ 5 by decide), b6]
      | some op =>
        obtain ⟨g, g1, g2, g3, g4, g5, g6, g7, g8⟩ := oCmp_sg hcm
        have hlx := b2.2.2.2 g8
        have hxn := b2.1
        obtain ⟨f3, rfl⟩ : ∃ f3, f2 = f3 + 1 := ⟨f2 - 1, by omega⟩
        obtain ⟨hx1, hx2⟩ := pnx_ok tp b2
        have htis : tis K 4 = false := by
          cases K with
          | nil => rfl
          | cons a t => exact decide_eq_false (Nat.ne_of_lt htp)
        have hst : qgo tp n (f3 + 1) x.1 K2 o2 false mn2 = qgo tp n f3 (pnx tp n x.1) (g :: K) (o ++ x.2) true false := by
          rw [qgo, if_neg g4, if_neg g5, g1]
          dsimp only
          rw [g2, if_pos rfl, b6, htis, g6]
          simp
        have hopn2 : opn (g :: K) = c := by
          have : opn (g :: K) = opn [g] + opn K := by simp [opn]
          omega
        have h2 := hsum f3 (pnx tp n x.1) (g :: K) (o ++ x.2) false hx1 hopn2 (by show rk g < 5; omega) (Or.inl rfl) (by omega)
        dsimp only
        cases hr2 : sum (pnx tp n x.1) with
        | inl p => rw [hr2] at h2; exact (b4.trans hst).trans h2
        | inr y =>
          rw [hr2] at h2
          obtain ⟨d1, d2, d3, f4, K4, o4, mn4, d4, d5, d6, d7⟩ := h2
          rw [unw_top (show tpr (g :: K) 5 by show rk g < 5; omega)] at d6
          have hyn := d2.1
          refine ⟨d1, d2, by dsimp only; omega, f4, K4, o4, mn4, (b4.trans hst).trans d4, by dsimp only; omega, ?_, ?_⟩
          · rw [← unw_unw (show 3 ≤ 5 by decide), d6, unw, if_pos (by omega), g3]
            simp
          · intro _ hc
            obtain ⟨f5, rfl⟩ : ∃ f5, f4 = f5 + 1 := ⟨f4 - 1, by omega⟩
            cases hcy : oCmp y.1.1 with
            | none => exact absurd hcy hc
            | some op2 =>
              obtain ⟨g', e1, e2, e3, e4, e5, e6, e7, e8⟩ := oCmp_sg hcy
              rw [qgo, if_neg e4, if_neg e5, e1]
              dsimp only
              rw [e2, if_pos rfl, d6, if_pos ⟨rfl, by simp [tis, g2]⟩]
def SmA (tp : Nat → Int32) (n b : Nat) : Prop := (∀ f s K o mn, okS n s → opn K = 5 - b → (mn = false ∨ s.1 ≠ (3, 5)) → n + 2 ≤ f + s.2.1 → simQ tp n 7 (fun _ => True) f s K o mn (pOne tp n (pRec tp n b) s)) ∧
  (∀ f s K o, okS n s → opn K = 5 - b → tpr K 4 → n + 2 ≤ f + s.2.1 → simQ tp n 3 XS f s K o true (lvN tp n (pRec tp n b) s)) ∧
  (∀ f s K o, okS n s → opn K = 5 - b → tpr K 1 → n + 2 ≤ f + s.2.1 → simQ tp n 1 XE f s K o true (lvE tp n (pRec tp n b) s))
theorem sim_levels {tp : Nat → Int32} {n b : Nat} (hn : n ≤ 160) (hone : ∀ f s K o mn, okS n s → opn K = 5 - b → (mn = false ∨ s.1 ≠ (3, 5)) → n + 2 ≤ f + s.2.1 → simQ tp n 7 (fun _ => True) f s K o mn (pOne tp n (pRec tp n b) s))
    (hnone : pRec tp n b = none → 5 - b = 5) (hsome : ∀ r, pRec tp n b = some r → 5 - b ≠ 5 ∧ ∀ f s K o, okS n s → opn K = 5 - b + 1 → tpr K 4 → n + 2 ≤ f + s.2.1 → simQ tp n 3 XS f s K o true (r.2.2 s)) : SmA tp n b := by
  have hterm := sim_bin (X := fun _ => True) (Cd := fun mn t => mn = false ∨ t ≠ (3, 5)) (iso := oMul) hn (show 6 < 7 by decide) (by decide) (fun q => absurd q (by decide))
    (fun t o h => by
      unfold oMul at h
      split at h
      · rename_i e; cases h; subst e; exact ⟨18, rfl, rfl, rfl, by decide, by decide, fun _ => Or.inl rfl, rfl⟩
      · cases h) rfl (fun t o h => by
      unfold oMul at h
      split at h
      · rename_i e; subst e; decide
      · cases h) (fun f s K o mn h1 h2 _ h4 h5 => hone f s K o mn h1 h2 h4 h5)
  have hsum := sim_bin (Cd := fun mn t => mn = false ∨ t ≠ (3, 5)) (iso := oSum) hn (show 5 < 6 by decide) (by decide) (fun q => absurd q (by decide))
    (fun t o h => by
      unfold oSum at h
      split at h
      · rename_i e; cases h; subst e; exact ⟨16, rfl, rfl, rfl, by decide, by decide, fun _ => Or.inl rfl, rfl⟩
      · split at h
        · rename_i e; cases h; subst e; exact ⟨17, rfl, rfl, rfl, by decide, by decide, fun _ => Or.inl rfl, rfl⟩
        · cases h) rfl (fun t o h => by
      unfold oSum at h
      split at h
      · rename_i e; subst e; decide
      · split at h
        · rename_i e; subst e; decide
        · cases h) hterm
  have hnot := sim_not hnone hsome hsum
  have hboth := sim_bin (Cd := fun mn _ => mn = true) (iso := oAnd) hn (show 2 < 3 by decide) (by decide) (fun _ => by decide)
    (fun t o h => by
      unfold oAnd at h
      split at h
      · rename_i e; cases h; subst e; exact ⟨12, rfl, rfl, rfl, by decide, by decide, fun _ => rfl, rfl⟩
      · cases h) rfl (fun t o h => by
      unfold oAnd at h
      split at h
      · rename_i e; subst e; decide
      · cases h) (fun f s K o mn h1 h2 h3 h4 h5 => by
        subst h4
        exact hnot f s K o h1 h2 (tpr_le h3 (by decide)) h5)
  have heith := sim_bin (Cd := fun mn _ => mn = true) (iso := oOr) hn (show 1 < 2 by decide) (by decide) (fun _ => by decide)
    (fun t o h => by
      unfold oOr at h
      split at h
      · rename_i e; cases h; subst e; exact ⟨11, rfl, rfl, rfl, by decide, by decide, fun _ => rfl, rfl⟩
      · cases h) rfl (fun t o h => by
      unfold oOr at h
      split at h
      · rename_i e; subst e; decide
      · cases h) hboth
  exact ⟨hone, hnot, fun f s K o h1 h2 h3 h4 => heith f s K o true h1 h2 h3 rfl h4⟩
theorem sim_all {tp : Nat → Int32} {n : Nat} (hn : n ≤ 160) : ∀ b, b ≤ 5 → SmA tp n b := by
  intro b
  induction b with
  | zero =>
    intro _
    exact sim_levels hn (sim_one (fun _ => rfl) (fun r h => by cases h)) (fun _ => rfl) (fun r h => by cases h)
  | succ b ih =>
    intro hb
    have ihb := ih (by omega)
    have e1 : 5 - (b + 1) + 1 = 5 - b := by omega
    refine sim_levels hn (sim_one (fun h => by cases h) (fun r h => ?_)) (fun h => by cases h) (fun r h => ?_)
    · cases h
      exact ⟨by omega, by rw [e1]; exact ihb.2.2, by rw [e1]; exact ihb.1⟩
    · cases h
      exact ⟨by omega, by rw [e1]; exact ihb.2.1⟩
/-- an E with its ; -/
def pEx (tp : Nat → Int32) (n : Nat) (s : PS) : PR := match lvE tp n (pRec tp n 5) s with
  | .inl p => .inl p
  | .inr x => if x.1.1 = (4, 59) then .inr x else .inl x.1.2.1
theorem qgo_eq {tp : Nat → Int32} {n f : Nat} {s : PS} (hn : n ≤ 160) (hs : okS n s) (hf : n + 2 ≤ f + s.2.1) : qgo tp n f s [] [] true true = pEx tp n s := by
  have h := (sim_all (tp := tp) hn 5 (Nat.le_refl _)).2.2 f s [] [] hs rfl True.intro hf
  unfold pEx
  cases hres : lvE tp n (pRec tp n 5) s with
  | inl p => rw [hres] at h; exact h
  | inr x =>
    rw [hres] at h
    obtain ⟨b1, b2, b3, f2, K2, o2, mn2, b4, b5, b6, b7⟩ := h
    have hxn := b2.1
    obtain ⟨f3, rfl⟩ : ∃ f3, f2 = f3 + 1 := ⟨f2 - 1, by omega⟩
    rw [show unw 1 [] ([] ++ x.2) = ([], x.2) from rfl] at b6
    dsimp only
    rw [b4]
    by_cases h59 : x.1.1 = (4, 59)
    · rw [qgo, if_pos h59, if_pos h59, b6]
      rfl
    · rw [if_neg h59]
      by_cases hcmp : oCmp x.1.1 = none
      · rw [qgo, if_neg h59]
        by_cases h41 : x.1.1 = (4, 41)
        · rw [if_pos h41, b6]
        · rw [if_neg h41]
          cases hb : bSg x.1.1 with
          | none => rfl
          | some g => exact absurd hcmp (XE_sg b1 hb)
      · exact b7 (by decide) hcmp

