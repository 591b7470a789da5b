/-! both: whose; calls that write a sheet -/
theorem fnd_none {f : Nat → Int32} {p : Int32} : ∀ r i, (∀ q, i ≤ q → q < i + r → f q ≠ p) → fnd f p r i = -1 := by
  intro r
  induction r with
  | zero => intro i _; rfl
  | succ r ih =>
    intro i h
    rw [fnd, if_neg (h i (Nat.le_refl _) (by omega))]
    exact ih (i + 1) (fun q a b => h q (by omega) (by omega))
theorem sumB_ext {h h' : Nat → Nat} : ∀ r p, (∀ q, p ≤ q → q < p + r → h q = h' q) → sumB h r p = sumB h' r p := by
  intro r
  induction r with
  | zero => intro p _; rfl
  | succ r ih =>
    intro p e
    rw [sumB, sumB, e p (Nat.le_refl _) (by omega), ih (p + 1) (fun q a b => e q (by omega) (by omega))]
theorem firB_ext {h h' : Nat → Option (List Nat)} : ∀ r p, (∀ q, p ≤ q → q < p + r → h q = h' q) → firB h r p = firB h' r p := by
  intro r
  induction r with
  | zero => intro p _; rfl
  | succ r ih =>
    intro p e
    rw [firB, firB, e p (Nat.le_refl _) (by omega), ih (p + 1) (fun q a b => e q (by omega) (by omega))]
theorem ag_okW {L : List (List Op)} {n : Nat} {V V' : Vw} {g g' : Nat → Int32} {al : Int32} {R : List Nat} {q : Nat} (h : vag n V V') (hq : q < n) (hg : ∀ j, j ≤ R.length → g j = g' j) : okW L V g al R q ↔ okW L V' g' al R q := by
  unfold okW
  rw [ag_fit h hq hg]
theorem ag_cy {L : List (List Op)} {n : Nat} {V V' : Vw} {g g' : Nat → Int32} {al : Int32} (h : vag n V V') (hg : ∀ j, j < 40 → g j = g' j) : ∀ f R, R.length + f ≤ 40 → cyF L V g al n f R = cyF L V' g' al n f R ∧ fyF L V g al n f R = fyF L V' g' al n f R := by
  intro f
  induction f with
  | zero => intro R _; exact ⟨rfl, rfl⟩
  | succ f ih =>
    intro R hR
    rw [cyF, cyF, fyF, fyF]
    refine ⟨sumB_ext n 0 (fun q _ hq => ?_), firB_ext n 0 (fun q _ hq => ?_)⟩
    all_goals
      have e := ag_okW (L := L) (al := al) (R := R) (q := q) (g := g) (g' := g') h (by omega) (fun j hj => hg j (by omega))
      have i := ih (R ++ [q]) (by rw [List.length_append, List.length_singleton]; omega)
      by_cases t : okW L V' g' al R q
      · first
          | rw [if_pos t, if_pos (e.2 t), i.1]
          | rw [if_pos t, if_pos (e.2 t), i.2]
      · rw [if_neg t, if_neg (fun z => t (e.1 z))]
theorem st_whose (s x : Int32) : St kI jX6_whose jX7_whose [vi s, vi x] := by
  by_cases hs : 0 ≤ s ∧ s ≤ 3
  · obtain ⟨q, hq4, rfl⟩ := sh4 hs
    intro w w' d d' M N hd hd' hC
    obtain ⟨tc, n, k, z, O, LL, hq⟩ := id hC
    obtain ⟨L, v1, v2, v3, v4, v5, v6, v7, v8, v9, v10, v11, v12⟩ := Cq_vw hq
    obtain ⟨⟨a1, a2, a3⟩, bb, ⟨c1, c2, c3⟩, dd, -⟩ := id hq.1
    obtain ⟨s1, ⟨m, m1, m2, m3⟩, s3⟩ := hq.2.2.2.2.1 q hq4
    refine ⟨_, _, ok_X6_whose (by omega) v1 hq4 m2 m1 a2 a1 c2 c1 x, ok_X7_whose (by omega) v2 hq4 m3 m1 a3 v6 a1 x, ?_⟩
    rintro r M' r' N' ⟨y, h1, h2, rfl⟩ ⟨y', h1', h2', rfl⟩
    refine st_fin ⟨_, rfl⟩ h1 ?_ ⟨tc, n, k, z, O, LL, Cq_fr hq (frT_V (Or.inr rfl) h2) h2'⟩
    rw [h1', s1, m2, m3, c2, c3]
    by_cases h : nI m ≤ nI k
    · have hmk := mk_of (M := M) m1 c1 h
      rw [if_pos h, if_pos h]
      have hal := bitsF_out (fun i hi => (v6.2.2 i hi).1) v7 a1
      rw [wh_eq a1 (by omega), ← v10]
      rw [← v10] at hal
      have hfix := (@waL_fix L (vwC M 0) (M 20 q) (bitsF (M 7 0) k) m 256 (M 24 0)).2
      generalize waL L (vwC M 0) (M 20 q) (bitsF (M 7 0) k) m 256 (M 24 0) = W at hfix ⊢
      have hag := ag_cy (L := L) (al := bitsF (M 7 0) k) v3 s3 m [] (by rw [List.length_nil]; omega)
      have w0 := wa_cy (L := L) (V := vwC M 0) (g := M 20 q) a1 (show m ≤ 8 by omega) hal hfix m [] 0 (by rw [List.length_nil]; omega) stO_0
      have hfd : ∀ p, p < n → (¬ fnd (M 7 0) (nI p) k 0 = -1 ↔ bt (bitsF (M 7 0) k) p = true) := fun p hp => by
        rw [bitsF_bt (O := O) (fun i hi => ⟨(dd i hi).1, by have := v7 i hi; omega⟩) p (by omega)]
        constructor
        · intro h0
          apply Classical.byContradiction
          intro h9
          refine h0 (fnd_none k 0 (fun i _ hi e => h9 ⟨i, by omega, ?_⟩))
          rw [(dd i (by omega)).1] at e
          exact (nI_eq (by have := v7 i (by omega); omega) (by omega)).1 e
        · rintro ⟨i, hi, e⟩ h0
          exact fnd_no k 0 h0 (by omega) i (Nat.zero_le _) (by omega) (by rw [(dd i hi).1, e])
      have f0 := fd_fy (L := L) (V := vwC M 0) (g := M 20 q) a1 (show m ≤ 8 by omega) hal hfd hfix m [] 0 (by rw [List.length_nil]; omega) stO_0
      rw [w0, hag.1, show fdF L (vwC M 0) (M 20 q) (fun p => fnd (M 7 0) (nI p) k 0) W n m 0 0 0 = oD (fyF L (vwC M 0) (M 20 q) (bitsF (M 7 0) k) n m []) 0 from f0, hag.2]
      rfl
    · rw [if_neg h, if_neg h]
  · exact st_no (fun w d M hd => no_X6_whose hd hs x) (fun w d N hd => no_X7_whose hd hs x)
/-- only sheets have changed -/
theorem Cq_sh {tc n k z : Nat} {O : Nat → Nat} {LL : Nat → List (List Op)} {M N M' N' : Mem} (h : Cq tc n k z O LL M N) (hM : ∀ t i j, t ≠ 19 → t ≠ 20 → M' t i j = M t i j) (hN : ∀ t i j, t ≠ 11 → t ≠ 12 → t ≠ 13 → N' t i j = N t i j) (hs : shJ M' N') : Cq tc n k z O LL M' N' := by
  obtain ⟨h1, h2, h3, h4, h5, h6⟩ := h
  have eN : ∀ t, t ≠ 11 → t ≠ 12 → t ≠ 13 → N' t 0 = N t 0 := fun t a b c => funext fun j => hN t 0 j a b c
  have e0 : ∀ j, N' 0 0 j = N 0 0 j := fun j => hN 0 0 j (by decide) (by decide) (by decide)
  refine ⟨?_, ?_, ?_, ?_, hs, ?_⟩
  · unfold curJ
    rw [eN 1 (by decide) (by decide) (by decide), eN 2 (by decide) (by decide) (by decide), eN 3 (by decide) (by decide) (by decide), eN 4 (by decide) (by decide) (by decide), eN 5 (by decide) (by decide) (by decide), e0 0, e0 6, e0 7, e0 13]
    exact crJ_M h1 (fun t j a b => hM t 0 j (by omega) (by omega))
  · unfold imJ imgJ
    rw [eN 1 (by decide) (by decide) (by decide), eN 2 (by decide) (by decide) (by decide), eN 9 (by decide) (by decide) (by decide), eN 10 (by decide) (by decide) (by decide), e0 14, hM 0 0 3 (by omega) (by omega)]
    rcases h2 with q | ⟨q1, q2, n', k', O', q3, q4⟩
    · exact Or.inl q
    · exact Or.inr ⟨q1, q2, n', k', O', q3, crJ_M q4 (fun t j a b => hM t 1 j (by omega) (by omega))⟩
  · obtain ⟨a, b, c, d⟩ := h3
    exact ⟨a, by rw [hM 0 0 6 (by omega) (by omega)]; exact b, by rw [e0 12]; exact c, fun t ht => ⟨tx_fr (d t ht).1 (funext fun j => hM 9 t j (by omega) (by omega)) (funext fun j => hM 10 t j (by omega) (by omega)), txN_fr (d t ht).2 (eN 7 (by decide) (by decide) (by decide)) (eN 8 (by decide) (by decide) (by decide))⟩⟩
  · obtain ⟨a, b, c, d⟩ := h4
    exact ⟨a, by rw [hM 12 0 1 (by omega) (by omega)]; exact b, by rw [e0 9]; exact c, by rw [eN 6 (by decide) (by decide) (by decide), ← d]; exact funext fun j => hM 13 0 j (by omega) (by omega)⟩
  · intro w hw c hc
    rw [eN 15 (by decide) (by decide) (by decide)]
    exact h6 w hw c hc

