/-! texts: how long and how deep what is read is -/
def okT (t : Tok) : Prop := t.1 ≤ 4 ∧ (t.1 = 2 → t.2 ≤ 9999) ∧ (t.1 = 3 → t.2 < 12) ∧ (t.1 = 4 → t.2 = 40 ∨ t.2 = 41 ∨ t.2 = 59 ∨ t.2 = 43 ∨ t.2 = 45 ∨ t.2 = 42 ∨ t.2 = 60 ∨ t.2 = 61) ∧ (t.1 ≤ 1 → t.2 = 0)
theorem okT_0 : okT (0, 0) := by unfold okT; decide
theorem okT_1 : okT (1, 0) := by unfold okT; decide
theorem okT_2 {v : Nat} (h : v ≤ 9999) : okT (2, v) := by unfold okT; simp; exact h
theorem okT_3 {v : Nat} (h : v < 12) : okT (3, v) := by unfold okT; simp; exact h
theorem okT_4 {v : Nat} (h : v = 40 ∨ v = 41 ∨ v = 59 ∨ v = 43 ∨ v = 45 ∨ v = 42 ∨ v = 60 ∨ v = 61) : okT (4, v) := by unfold okT; simp; exact h
theorem tkA_okT (tp : Nat → Int32) (n a : Nat) : okT (tkA tp n a).1 := by
  unfold tkA
  dsimp only
  split
  · exact okT_0
  · split
    · dsimp only
      split
      · exact okT_1
      · rename_i h4
        refine okT_2 ?_
        have hlt := dcN_lt tp (rnP bB tp (n - a) a) (rnP bD tp (n - rnP bB tp (n - a) a) (rnP bB tp (n - a) a) - rnP bB tp (n - a) a) (fun i hi => rnP_in bD tp (n - rnP bB tp (n - a) a) (rnP bB tp (n - a) a) (rnP bB tp (n - a) a + i) (by omega) (by omega))
        have hp : 10 ^ (rnP bD tp (n - rnP bB tp (n - a) a) (rnP bB tp (n - a) a) - rnP bB tp (n - a) a) ≤ 10 ^ 4 := Nat.pow_le_pow_right (by decide) (by omega)
        omega
    · split
      · dsimp only
        split
        · rename_i hk
          exact okT_3 hk
        · exact okT_1
      · dsimp only
        split
        · rename_i hs
          refine okT_4 ?_
          rw [bS_i] at hs
          rcases hs with h | h | h | h | h | h | h | h <;> rw [h] <;> decide
        · exact okT_1
def gd (d : Nat) (ops : List Op) : Prop := ∀ m rest, m + d ≤ 32 → wfd 32 rest (m + 1) → wfd 32 (ops ++ rest) m
theorem gd_le {d d' : Nat} {ops : List Op} (h : gd d ops) (hd : d ≤ d') : gd d' ops := fun m rest h1 h2 => h m rest (by omega) h2
theorem gd_bin {d d1 d2 k : Nat} {a b : List Op} (ha : gd d1 a) (hb : gd d2 b) (h1 : d1 ≤ d) (h2 : d2 + 1 ≤ d) (hk : k ≤ 6) : gd d (a ++ b ++ [(3, k)]) := by
  intro m rest hm hw
  rw [List.append_assoc, List.append_assoc]
  refine ha m _ (by omega) ?_
  refine hb (m + 1) _ (by omega) ?_
  exact ⟨Or.inr (Or.inr (Or.inr ⟨rfl, hk⟩)), show 2 ≤ m + 1 + 1 by omega, by simpa using hw⟩
theorem gd_un {d k : Nat} {a : List Op} (ha : gd d a) (hk : k ≤ 1) : gd d (a ++ [(2, k)]) := by
  intro m rest hm hw
  rw [List.append_assoc]
  refine ha m _ hm ?_
  exact ⟨Or.inr (Or.inr (Or.inl ⟨rfl, hk⟩)), show 1 ≤ m + 1 by omega, hw⟩
/-- what a reader promises of what it has read -/
def Gd (n d : Nat) (sub : PS → PR) : Prop := ∀ s x, okS n s → okT s.1 → sub s = .inr x → okS n x.1 ∧ okT x.1.1 ∧ x.2.length + s.2.1 ≤ x.1.2.1 ∧ gd d x.2
theorem Gd_le {n d d' : Nat} {sub : PS → PR} (h : Gd n d sub) (hd : d ≤ d') : Gd n d' sub := fun s x a b c => by
  obtain ⟨h1, h2, h3, h4⟩ := h s x a b c
  exact ⟨h1, h2, h3, gd_le h4 hd⟩
theorem pnx_okT (tp : Nat → Int32) (n : Nat) (s : PS) : okT (pnx tp n s).1 := tkA_okT tp n s.2.2
theorem Gd_loop {tp : Nat → Int32} {n d d0 : Nat} {iso : Tok → Option Op} {sub : PS → PR} (hiso : ∀ t o, iso t = some o → t.1 ≠ 0 ∧ o.1 = 3 ∧ o.2 ≤ 6) (hsub : Gd n d sub) (hd : d + 1 ≤ d0) :
    ∀ L s acc s0 x, okS n s → okT s.1 → acc.length + s0 ≤ s.2.1 → gd d0 acc → pL tp n iso sub L s acc = .inr x → okS n x.1 ∧ okT x.1.1 ∧ x.2.length + s0 ≤ x.1.2.1 ∧ gd d0 x.2 := by
  intro L
  induction L with
  | zero => intro s acc s0 x h1 h2 h3 h4 h; cases h; exact ⟨h1, h2, h3, h4⟩
  | succ L ih =>
    intro s acc s0 x h1 h2 h3 h4 h
    rw [pL] at h
    cases hi : iso s.1 with
    | none => rw [hi] at h; cases h; exact ⟨h1, h2, h3, h4⟩
    | some o =>
      rw [hi] at h
      dsimp only at h
      obtain ⟨g1, g2, g3⟩ := hiso _ _ hi
      have hlt := h1.2.2.2 g1
      obtain ⟨hn1, hn2⟩ := pnx_ok tp h1
      cases hr : sub (pnx tp n s) with
      | inl p => rw [hr] at h; cases h
      | inr y =>
        rw [hr] at h
        dsimp only at h
        obtain ⟨b1, b2, b3, b4⟩ := hsub _ _ hn1 (pnx_okT tp n s) hr
        obtain ⟨o1, o2⟩ := o
        dsimp only at g2 g3
        subst g2
        refine ih _ _ s0 x b1 b2 ?_ (gd_bin h4 b4 (Nat.le_refl _) hd g3) h
        simp only [List.length_append, List.length_cons, List.length_nil]
        omega
theorem Gd_bin {tp : Nat → Int32} {n d : Nat} {iso : Tok → Option Op} {sub : PS → PR} (hiso : ∀ t o, iso t = some o → t.1 ≠ 0 ∧ o.1 = 3 ∧ o.2 ≤ 6) (hsub : Gd n d sub) : Gd n (d + 1) (pB tp n iso sub) := by
  intro s x h1 h2 h
  unfold pB at h
  cases hr : sub s with
  | inl p => rw [hr] at h; cases h
  | inr y =>
    rw [hr] at h
    obtain ⟨b1, b2, b3, b4⟩ := hsub s y h1 h2 hr
    exact Gd_loop hiso hsub (Nat.le_refl _) 160 y.1 y.2 s.2.1 x b1 b2 b3 (gd_le b4 (by omega)) h
theorem oMul_k {t : Tok} {o : Op} (h : oMul t = some o) : t.1 ≠ 0 ∧ o.1 = 3 ∧ o.2 ≤ 6 := by
  unfold oMul at h
  split at h
  · rename_i e; cases h; subst e; decide
  · cases h
theorem oSum_k {t : Tok} {o : Op} (h : oSum t = some o) : t.1 ≠ 0 ∧ o.1 = 3 ∧ o.2 ≤ 6 := by
  unfold oSum at h
  split at h
  · rename_i e; cases h; subst e; decide
  · split at h
    · rename_i e; cases h; subst e; decide
    · cases h
theorem oCmp_k {t : Tok} {o : Op} (h : oCmp t = some o) : t.1 ≠ 0 ∧ o.1 = 3 ∧ o.2 ≤ 6 := by
  unfold oCmp at h
  split at h
  · rename_i e; cases h; subst e; decide
  · split at h
    · rename_i e; cases h; subst e; decide
    · cases h
theorem oAnd_k {t : Tok} {o : Op} (h : oAnd t = some o) : t.1 ≠ 0 ∧ o.1 = 3 ∧ o.2 ≤ 6 := by
  unfold oAnd at h
  split at h
  · rename_i e; cases h; subst e; decide
  · cases h
theorem oOr_k {t : Tok} {o : Op} (h : oOr t = some o) : t.1 ≠ 0 ∧ o.1 = 3 ∧ o.2 ≤ 6 := by
  unfold oOr at h
  split at h
  · rename_i e; cases h; subst e; decide
  · cases h
theorem gd_num {v : Nat} (hv : v ≤ 9999) : gd 1 [(0, v)] := fun m rest hm hw => ⟨Or.inl ⟨rfl, hv⟩, show m < 32 by omega, hw⟩
theorem gd_nam {v : Nat} (hv : v ≤ 5) : gd 1 [(1, v)] := fun m rest hm hw => ⟨Or.inr (Or.inl ⟨rfl, hv⟩), show m < 32 by omega, hw⟩
theorem Gd_one {tp : Nat → Int32} {n d : Nat} {rec : PRec} (hd : 1 ≤ d) (hrec : ∀ r, rec = some r → Gd n d r.1 ∧ Gd n d r.2.1) : Gd n d (pOne tp n rec) := by
  intro s x h1 h2 h
  obtain ⟨hn1, hn2⟩ := pnx_ok tp h1
  unfold pOne at h
  split at h
  · rename_i hk
    cases h
    have hlt := h1.2.2.2 (by omega)
    exact ⟨hn1, pnx_okT tp n s, by simp only [List.length_cons, List.length_nil]; omega, gd_le (gd_num (h2.2.1 hk)) hd⟩
  · split at h
    · rename_i hk
      cases h
      have hlt := h1.2.2.2 (by omega)
      have := h2.2.2.1 hk.1
      exact ⟨hn1, pnx_okT tp n s, by simp only [List.length_cons, List.length_nil]; omega, gd_le (gd_nam (by omega)) hd⟩
    · split at h
      · rename_i hk
        have hlt := h1.2.2.2 (by rw [hk]; decide)
        cases hr : rec with
        | none => rw [hr] at h; cases h
        | some r =>
          rw [hr] at h
          dsimp only at h
          cases hy : r.2.1 (pnx tp n s) with
          | inl p => rw [hy] at h; cases h
          | inr y =>
            rw [hy] at h
            cases h
            obtain ⟨b1, b2, b3, b4⟩ := (hrec r hr).2 _ _ hn1 (pnx_okT tp n s) hy
            refine ⟨b1, b2, ?_, gd_un b4 (by decide)⟩
            simp only [List.length_append, List.length_cons, List.length_nil]
            omega
      · split at h
        · rename_i hk
          have hlt := h1.2.2.2 (by rw [hk]; decide)
          cases hr : rec with
          | none => rw [hr] at h; cases h
          | some r =>
            rw [hr] at h
            dsimp only at h
            cases hy : r.1 (pnx tp n s) with
            | inl p => rw [hy] at h; cases h
            | inr y =>
              rw [hy] at h
              dsimp only at h
              obtain ⟨b1, b2, b3, b4⟩ := (hrec r hr).1 _ _ hn1 (pnx_okT tp n s) hy
              split at h
              · rename_i h41
                cases h
                have hly := b1.2.2.2 (by rw [h41]; decide)
                obtain ⟨hm1, hm2⟩ := pnx_ok tp b1
                exact ⟨hm1, pnx_okT tp n y.1, by dsimp only; omega, b4⟩
              · cases h
        · cases h
theorem Gd_not {tp : Nat → Int32} {n d : Nat} {rec : PRec} {sum : PS → PR} (hsum : Gd n d sum) (hrec : ∀ r, rec = some r → Gd n (d + 1) r.2.2) : Gd n (d + 1) (pNot tp n rec sum) := by
  intro s x h1 h2 h
  obtain ⟨hn1, hn2⟩ := pnx_ok tp h1
  unfold pNot at h
  split at h
  · rename_i hk
    have hlt := h1.2.2.2 (by rw [hk]; decide)
    cases hr : rec with
    | none => rw [hr] at h; cases h
    | some r =>
      rw [hr] at h
      dsimp only at h
      cases hy : r.2.2 (pnx tp n s) with
      | inl p => rw [hy] at h; cases h
      | inr y =>
        rw [hy] at h
        cases h
        obtain ⟨b1, b2, b3, b4⟩ := hrec r hr _ _ hn1 (pnx_okT tp n s) hy
        refine ⟨b1, b2, ?_, gd_un b4 (by decide)⟩
        simp only [List.length_append, List.length_cons, List.length_nil]
        omega
  · cases hy : sum s with
    | inl p => rw [hy] at h; cases h
    | inr y =>
      rw [hy] at h
      dsimp only at h
      obtain ⟨b1, b2, b3, b4⟩ := hsum _ _ h1 h2 hy
      cases hc : oCmp y.1.1 with
      | none => rw [hc] at h; cases h; exact ⟨b1, b2, b3, gd_le b4 (by omega)⟩
      | some o =>
        rw [hc] at h
        dsimp only at h
        obtain ⟨g1, g2, g3⟩ := oCmp_k hc
        have hly := b1.2.2.2 g1
        obtain ⟨hm1, hm2⟩ := pnx_ok tp b1
        cases hz : sum (pnx tp n y.1) with
        | inl p => rw [hz] at h; cases h
        | inr z =>
          rw [hz] at h
          cases h
          obtain ⟨d1, d2, d3, d4⟩ := hsum _ _ hm1 (pnx_okT tp n y.1) hz
          obtain ⟨o1, o2⟩ := o
          dsimp only at g2 g3
          subst g2
          refine ⟨d1, d2, ?_, gd_bin b4 d4 (by omega) (Nat.le_refl _) g3⟩
          simp only [List.length_append, List.length_cons, List.length_nil]
          omega
def GdA (tp : Nat → Int32) (n b : Nat) : Prop := Gd n (5 * b + 1) (pOne tp n (pRec tp n b)) ∧ Gd n (5 * b + 4) (lvN tp n (pRec tp n b)) ∧ Gd n (5 * b + 6) (lvE tp n (pRec tp n b))
theorem Gd_all (tp : Nat → Int32) (n : Nat) : ∀ b, GdA tp n b := by
  have lev : ∀ b, Gd n (5 * b + 1) (pOne tp n (pRec tp n b)) → (∀ r, pRec tp n b = some r → Gd n (5 * b + 4) r.2.2) → GdA tp n b := by
    intro b h1 h2
    have ht := Gd_bin (tp := tp) (fun t o => oMul_k) h1
    have hs := Gd_bin (tp := tp) (fun t o => oSum_k) ht
    have hn := Gd_not (tp := tp) (rec := pRec tp n b) hs h2
    have hb := Gd_bin (tp := tp) (fun t o => oAnd_k) hn
    have he := Gd_bin (tp := tp) (fun t o => oOr_k) hb
    exact ⟨h1, hn, he⟩
  intro b
  induction b with
  | zero => exact lev 0 (Gd_one (by decide) (fun r h => by cases h)) (fun r h => by cases h)
  | succ b ih =>
    refine lev (b + 1) (Gd_one (by omega) (fun r h => ?_)) (fun r h => ?_)
    · cases h
      exact ⟨Gd_le ih.2.2 (by omega), Gd_le ih.1 (by omega)⟩
    · cases h
      exact Gd_le ih.2.1 (by omega)
theorem pEx_ok {tp : Nat → Int32} {n : Nat} {s : PS} {x : PS × List Op} (h1 : okS n s) (h2 : okT s.1) (h : pEx tp n s = .inr x) : okS n x.1 ∧ x.1.1 = (4, 59) ∧ x.2.length + s.2.1 ≤ x.1.2.1 ∧ wfd 32 x.2 0 := by
  unfold pEx at h
  cases hy : lvE tp n (pRec tp n 5) s with
  | inl p => rw [hy] at h; cases h
  | inr y =>
    rw [hy] at h
    dsimp only at h
    obtain ⟨b1, b2, b3, b4⟩ := (Gd_all tp n 5).2.2 _ _ h1 h2 hy
    split at h
    · rename_i h59
      cases h
      exact ⟨b1, h59, b3, by simpa using b4 0 [] (by decide) rfl⟩
    · cases h

