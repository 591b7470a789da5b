/-! both: the tape, the texts -/
theorem Cq_tp {tc n k z z' : Nat} {O : Nat → Nat} {LL : Nat → List (List Op)} {M N M' N' : Mem} (h : Cq tc n k z O LL M N) (hM : ∀ t i j, t ≠ 13 → ¬ (t = 12 ∧ j = 1) → M' t i j = M t i j) (hN : ∀ t i j, t ≠ 6 → ¬ (t = 0 ∧ j = 9) → N' t i j = N t i j) (hs : tpJ z' M' N') : Cq tc n k z' O LL M' N' := by
  obtain ⟨h1, h2, h3, h4, h5, h6⟩ := h
  have eN : ∀ t, t ≠ 6 → t ≠ 0 → N' t 0 = N t 0 := fun t a b => funext fun j => hN t 0 j a (by omega)
  have e0 : ∀ j, j ≠ 9 → N' 0 0 j = N 0 0 j := fun j a => hN 0 0 j (by decide) (by omega)
  refine ⟨?_, ?_, ?_, hs, ?_, ?_⟩
  · unfold curJ
    rw [eN 1 (by decide) (by decide), eN 2 (by decide) (by decide), eN 3 (by decide) (by decide), eN 4 (by decide) (by decide), eN 5 (by decide) (by decide), e0 0 (by decide), e0 6 (by decide), e0 7 (by decide), e0 13 (by decide)]
    exact crJ_M h1 (fun t j a b => hM t 0 j (by omega) (by omega))
  · unfold imJ imgJ
    rw [eN 1 (by decide) (by decide), eN 2 (by decide) (by decide), eN 9 (by decide) (by decide), eN 10 (by decide) (by decide), e0 14 (by decide), hM 0 0 3 (by omega) (by omega)]
    rcases h2 with q | ⟨q1, q2, n', k', O', q3, q4⟩
    · exact Or.inl q
    · exact Or.inr ⟨q1, q2, n', k', O', q3, crJ_M q4 (fun t j a b => hM t 1 j (by omega) (by omega))⟩
  · obtain ⟨a, b, c, d⟩ := h3
    exact ⟨a, by rw [hM 0 0 6 (by omega) (by omega)]; exact b, by rw [e0 12 (by decide)]; exact c, fun t ht => ⟨tx_fr (d t ht).1 (funext fun j => hM 9 t j (by omega) (by omega)) (funext fun j => hM 10 t j (by omega) (by omega)), txN_fr (d t ht).2 (eN 7 (by decide) (by decide)) (eN 8 (by decide) (by decide))⟩⟩
  · intro q hq
    obtain ⟨a, ⟨m, b1, b2, b3⟩, c⟩ := h5 q hq
    exact ⟨by rw [hM 19 q 1 (by omega) (by omega), eN 11 (by decide) (by decide)]; exact a, ⟨m, b1, by rw [hM 19 q 2 (by omega) (by omega)]; exact b2, by rw [eN 12 (by decide) (by decide)]; exact b3⟩, fun i hi => by rw [hM 20 q i (by omega) (by omega), eN 13 (by decide) (by decide)]; exact c i hi⟩
  · intro w hw c hc
    rw [eN 15 (by decide) (by decide)]
    exact h6 w hw c hc
theorem Cq_feed {tc n k z : Nat} {O : Nat → Nat} {LL : Nat → List (List Op)} {M N : Mem} {g : Nat → Int32} (h : Cq tc n k z O LL M N) : ∀ i, z + i ≤ 160 → Cq tc n k (z + i) O LL (fdM M z g i) (feM N z g i) := by
  intro i
  induction i with
  | zero => intro _; exact h
  | succ i ih =>
    intro hi
    have hq := ih (by omega)
    obtain ⟨t1, t2, t3, t4⟩ := hq.2.2.2.1
    rw [fdM, feM]
    refine Cq_tp hq (fun t i' j a b => by rw [up_apply, if_neg (by omega), up_apply, if_neg (by omega)]) (fun t i' j a b => by rw [up_apply, if_neg (by omega), up_apply, if_neg (by omega)]) ⟨hi, by rw [up_same]; rfl, by rw [up_same]; rfl, funext fun j => ?_⟩
    have e1 : ∀ x y, up (up (fdM M z g i) 13 0 (z + i) x) 12 0 1 y 13 0 j = if j = z + i then x else fdM M z g i 13 0 j := fun x y => by
      rw [up_apply, if_neg (by omega), up_apply]
      simp
    have e2 : ∀ x y, up (up (feM N z g i) 6 0 (z + i) x) 0 0 9 y 6 0 j = if j = z + i then x else feM N z g i 6 0 j := fun x y => by
      rw [up_apply, if_neg (by omega), up_apply]
      simp
    rw [e1, e2, t4]
theorem st_feed (x a b c e f : Int32) : St kI jX6_feed jX7_feed [vi x, vi a, vi b, vi c, vi e, vi f] := by
  intro w w' d d' M N hd hd' hC
  obtain ⟨tc, n, k, z, O, LL, hq⟩ := id hC
  obtain ⟨t1, t2, t3, t4⟩ := hq.2.2.2.1
  refine ⟨_, _, ok_X6_feed (by omega) t2 t1 x a b c e f, ok_X7_feed (by omega) t3 t1 x a b c e f, ?_⟩
  rintro r M' r' N' ⟨y, h1, h2⟩ ⟨y', h1', h2'⟩
  have keep : y = y' → M' = M → N' = N → (∃ v, kI v ∧ r = some v ∧ r' = some v) ∧ Cp M' N' := by
    rintro rfl rfl rfl
    exact st_fin ⟨_, rfl⟩ h1 h1' hC
  by_cases ha : (1 ≤ x ∧ x ≤ 5) ∧ byt a ∧ byt b ∧ byt c ∧ byt e ∧ byt f
  · rw [if_pos ha] at h2 h2'
    by_cases hb : nI z + x ≤ 160
    · rw [if_pos hb] at h2 h2'
      obtain ⟨eY, eM⟩ := h2
      obtain ⟨eY', eN⟩ := h2'
      obtain ⟨m, hm, rfl⟩ := nI_of2 (n := 5) (M := 5) (by decide) (Int32.not_lt.mpr (Int32.le_trans (by decide) ha.1.1)) ha.1.2
      rw [nI_add] at hb
      have hzm : z + m ≤ 160 := (nI_leI (b := 160) (by omega) (by decide)).1 hb
      rw [nI_clamp (by omega)] at eM eN
      refine st_fin ⟨_, rfl⟩ (by rw [h1, eY]) (by rw [h1', eY']) ⟨tc, n, k, z + m, O, LL, ?_⟩
      rw [eM, eN]
      exact Cq_feed hq m hzm
    · rw [if_neg hb] at h2 h2'
      exact keep (h2.1.trans h2'.1.symm) h2.2 h2'.2
  · rw [if_neg ha] at h2 h2'
    exact keep (h2.1.trans h2'.1.symm) h2.2 h2'.2
theorem crJ_tc {tc tc' n k c : Nat} {O : Nat → Nat} {M : Mem} {kd mo rw fe od : Nat → Int32} {cn ck cr cl : Int32} (h : crJ tc n k O M c kd mo rw fe od cn ck cr cl) (ht : tc ≤ tc') : crJ tc' n k O M c kd mo rw fe od cn ck cr cl := by
  obtain ⟨a, b, c1, d, f, g, t, h1, h2⟩ := h
  exact ⟨a, b, c1, d, f, g, t, by omega, h2⟩
theorem Cq_tx {tc tc' n k z : Nat} {O : Nat → Nat} {LL LL' : Nat → List (List Op)} {M N M' N' : Mem} (h : Cq tc n k z O LL M N) (hM : ∀ t i j, t ≠ 12 → t ≠ 8 → ¬ (t = 9 ∧ i = tc) → ¬ (t = 10 ∧ i = tc) → ¬ (t = 0 ∧ j = 6) → M' t i j = M t i j) (hN : ∀ t i j, t ≠ 16 → ¬ (t = 7 ∧ i = 0 ∧ 200 * tc ≤ j ∧ j < 200 * tc + 200) → ¬ (t = 8 ∧ i = 0 ∧ 4 * tc ≤ j ∧ j < 4 * tc + 4) → ¬ (t = 0 ∧ (j = 9 ∨ j = 12 ∨ 21 ≤ j)) → N' t i j = N t i j) (ht : tc ≤ tc') (ht6 : tc' ≤ 6) (hc : M' 0 0 6 = nI tc') (hc' : N' 0 0 12 = nI tc') (hold : ∀ t, t < tc → LL' t = LL t) (hnew : ∀ t, tc ≤ t → t < tc' → tx M' t (LL' t) ∧ txN N' t (LL' t)) (hz : M' 12 0 1 = 0) (hz' : N' 0 0 9 = 0) : Cq tc' n k 0 O LL' M' N' := by
  obtain ⟨h1, h2, h3, h4, h5, h6⟩ := h
  have eN : ∀ t, t ≠ 7 → t ≠ 8 → t ≠ 0 → t ≠ 16 → N' t 0 = N t 0 := fun t a b c e => funext fun j => hN t 0 j e (by omega) (by omega) (by omega)
  have e0 : ∀ j, j < 21 → j ≠ 9 → j ≠ 12 → N' 0 0 j = N 0 0 j := fun j a b c => hN 0 0 j (by decide) (by omega) (by omega) (by omega)
  refine ⟨?_, ?_, ⟨ht6, hc, hc', fun t ht2 => ?_⟩, ⟨by omega, hz, hz', ?_⟩, ?_, ?_⟩
  · unfold curJ
    rw [eN 1 (by decide) (by decide) (by decide) (by decide), eN 2 (by decide) (by decide) (by decide) (by decide), eN 3 (by decide) (by decide) (by decide) (by decide), eN 4 (by decide) (by decide) (by decide) (by decide), eN 5 (by decide) (by decide) (by decide) (by decide), e0 0 (by decide) (by decide) (by decide), e0 6 (by decide) (by decide) (by decide), e0 7 (by decide) (by decide) (by decide), e0 13 (by decide) (by decide) (by decide)]
    exact crJ_tc (crJ_M h1 (fun t j a b => hM t 0 j (by omega) (by omega) (by omega) (by omega) (by omega))) ht
  · unfold imJ imgJ
    rw [eN 1 (by decide) (by decide) (by decide) (by decide), eN 2 (by decide) (by decide) (by decide) (by decide), eN 9 (by decide) (by decide) (by decide) (by decide), eN 10 (by decide) (by decide) (by decide) (by decide), e0 14 (by decide) (by decide) (by decide), hM 0 0 3 (by omega) (by omega) (by omega) (by omega) (by omega)]
    rcases h2 with q | ⟨q1, q2, n', k', O', q3, q4⟩
    · exact Or.inl q
    · exact Or.inr ⟨q1, q2, n', k', O', q3, crJ_tc (crJ_M q4 (fun t j a b => hM t 1 j (by omega) (by omega) (by omega) (by omega) (by omega))) ht⟩
  · rcases Nat.lt_or_ge t tc with q | q
    · rw [hold t q]
      obtain ⟨d1, d2⟩ := h3.2.2.2 t q
      refine ⟨tx_fr d1 (funext fun j => hM 9 t j (by omega) (by omega) (by omega) (by omega) (by omega)) (funext fun j => hM 10 t j (by omega) (by omega) (by omega) (by omega) (by omega)), ?_⟩
      obtain ⟨f1, f2, f3, f4, f5⟩ := d2
      refine ⟨f1, fun i o ho => ?_, fun j hj => ?_, f4, f5⟩
      · have hi := (List.getElem?_eq_some_iff.1 ho).1
        rw [hN 7 0 _ (by omega) (by omega) (by omega) (by omega)]
        exact f2 i o ho
      · rw [hN 8 0 _ (by omega) (by omega) (by omega) (by omega)]
        exact f3 j hj
    · exact hnew t q ht2
  · rw [eN 6 (by decide) (by decide) (by decide) (by decide), ← h4.2.2.2]
    exact funext fun j => hM 13 0 j (by omega) (by omega) (by omega) (by omega) (by omega)
  · intro q hq
    obtain ⟨a, ⟨m, b1, b2, b3⟩, c⟩ := h5 q hq
    exact ⟨by rw [hM 19 q 1 (by omega) (by omega) (by omega) (by omega) (by omega), eN 11 (by decide) (by decide) (by decide) (by decide)]; exact a, ⟨m, b1, by rw [hM 19 q 2 (by omega) (by omega) (by omega) (by omega) (by omega)]; exact b2, by rw [eN 12 (by decide) (by decide) (by decide) (by decide)]; exact b3⟩, fun i hi => by rw [hM 20 q i (by omega) (by omega) (by omega) (by omega) (by omega), eN 13 (by decide) (by decide) (by decide) (by decide)]; exact c i hi⟩
  · intro w hw c hc
    rw [eN 15 (by decide) (by decide) (by decide) (by decide)]
    exact h6 w hw c hc
theorem st_text : St kI jX6_text jX7_text [] := by
  intro w w' d d' M N hd hd' hC
  obtain ⟨tc, n, k, z, O, LL, hq⟩ := id hC
  obtain ⟨x1, x2, x3, x4⟩ := hq.2.2.1
  obtain ⟨t1, t2, t3, t4⟩ := hq.2.2.2.1
  refine ⟨_, _, ok_X6_text (by omega) t2 t1 x2 x1, ok_X7_text (by omega) hq.2.2.2.2.2 t3 t1 x3 x1, ?_⟩
  rintro r M' r' N' ⟨y, h1, h2⟩ ⟨y', h1', h2'⟩
  by_cases h6 : tc = 6
  · rw [if_pos h6] at h2 h2'
    obtain ⟨rfl, rfl⟩ := h2
    obtain ⟨rfl, rfl⟩ := h2'
    exact st_fin ⟨_, rfl⟩ h1 h1' hC
  · rw [if_neg h6] at h2 h2'
    rw [t4] at h2
    cases hres : pTx (N 6 0) z with
    | inl p =>
      rw [hres] at h2 h2'
      obtain ⟨rfl, b2, b3, b4⟩ := h2
      obtain ⟨rfl, c2, c3, c4⟩ := h2'
      refine st_fin ⟨_, rfl⟩ h1 h1' ⟨tc, n, k, 0, O, LL, Cq_tx (tc' := tc) (LL' := LL) hq (fun t i j a b c e f => b3 t i j (by omega) (by omega) c e) (fun t i j a b c e => c3 t i j a b c (by omega)) (Nat.le_refl _) x1 ?_ ?_ (fun _ _ => rfl) (fun t a b => absurd b (by omega)) b4 c4⟩
      · rw [b3 0 0 6 (by omega) (by omega) (by omega) (by omega)]; exact x2
      · rw [c3 0 0 12 (by omega) (by omega) (by omega) (by omega)]; exact x3
    | inr L =>
      rw [hres] at h2 h2'
      obtain ⟨rfl, b2, b3, b4⟩ := h2
      obtain ⟨rfl, c2, c3, c4⟩ := h2'
      refine st_fin ⟨_, rfl⟩ h1 h1' ⟨tc + 1, n, k, 0, O, fun t => if t = tc then L else LL t, Cq_tx (tc' := tc + 1) (LL' := fun t => if t = tc then L else LL t) hq (fun t i j a b c e f => ?_) (fun t i j a b c e => ?_) (by omega) (by omega) ?_ ?_ (fun t ht => if_neg (by omega)) (fun t a b => ?_) b4 c4⟩
      · rw [b3 t i j (by omega) (by omega) c e, up_apply, if_neg (by omega)]
      · rw [c3 t i j a b c (by omega), up_apply, if_neg (by omega)]
      · rw [b3 0 0 6 (by omega) (by omega) (by omega) (by omega), up_same]
      · rw [c3 0 0 12 (by omega) (by omega) (by omega) (by omega), up_same]
      · have e : t = tc := by omega
        subst e
        rw [if_pos rfl]
        exact ⟨b2, c2⟩

