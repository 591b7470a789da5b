/-! both: calls that change the crew -/
theorem crJ_cg {tc n k c : Nat} {O : Nat → Nat} {M : Mem} {kd mo rw fe od kd' mo' : Nat → Int32} {cn ck cr cl : Int32} (h : crJ tc n k O M c kd mo rw fe od cn ck cr cl) (e : ∀ q, q < n → kd' q = kd q ∧ mo' q = mo q) : crJ tc n k O M c kd' mo' rw fe od cn ck cr cl := by
  obtain ⟨a, b, r⟩ := h
  refine ⟨a, fun q hq => ?_, r⟩
  rw [(e q hq).1, (e q hq).2]
  exact b q hq
theorem Cq_cur {tc n k z n' k' : Nat} {O O' : Nat → Nat} {LL : Nat → List (List Op)} {M N M' N' : Mem} (h : Cq tc n k z O LL M N) (hc : curJ tc n' k' O' M' N') (hn : n ≤ n') (hM : ∀ t i j, ¬ ((1 ≤ t ∧ t ≤ 7) ∧ i = 0) → M' t i j = M t i j) (hN : ∀ t i j, ¬ (1 ≤ t ∧ t ≤ 5) → ¬ (t = 0 ∧ (j = 0 ∨ j = 6 ∨ j = 7 ∨ j = 13 ∨ 21 ≤ j)) → t < 16 → N' t i j = N t i j) (hk : ∀ q, q < n → N' 1 0 q = N 1 0 q ∧ N' 2 0 q = N 2 0 q) : Cq tc n' k' z O' LL M' N' := by
  obtain ⟨-, h2, h3, h4, h5, h6⟩ := h
  have eM : ∀ t i, ¬ ((1 ≤ t ∧ t ≤ 7) ∧ i = 0) → M' t i = M t i := fun t i a => funext fun j => hM t i j a
  have eN : ∀ t, 6 ≤ t → t < 16 → N' t 0 = N t 0 := fun t a b => funext fun j => hN t 0 j (by omega) (by omega) b
  refine ⟨hc, ?_, ?_, ?_, ?_, ?_⟩
  · unfold imJ
    rw [hM 0 0 3 (by omega), hN 0 0 14 (by omega) (by omega) (by omega)]
    rcases h2 with q | ⟨q1, q2, n2, k2, O2, q3, q4⟩
    · exact Or.inl q
    · refine Or.inr ⟨q1, q2, n2, k2, O2, by omega, ?_⟩
      unfold imgJ
      rw [eN 9 (by decide) (by decide), eN 10 (by decide) (by decide)]
      exact crJ_cg (crJ_M q4 (fun t j a b => hM t 1 j (by omega))) (fun q hq => hk q (by omega))
  · obtain ⟨a, b, c, d⟩ := h3
    exact ⟨a, by rw [hM 0 0 6 (by omega)]; exact b, by rw [hN 0 0 12 (by omega) (by omega) (by omega)]; exact c, fun t ht => ⟨tx_fr (d t ht).1 (eM 9 t (by omega)) (eM 10 t (by omega)), txN_fr (d t ht).2 (eN 7 (by decide) (by decide)) (eN 8 (by decide) (by decide))⟩⟩
  · obtain ⟨a, b, c, d⟩ := h4
    exact ⟨a, by rw [hM 12 0 1 (by omega)]; exact b, by rw [hN 0 0 9 (by omega) (by omega) (by omega)]; exact c, by rw [eN 6 (by decide) (by decide), ← d]; exact eM 13 0 (by omega)⟩
  · intro q hq
    obtain ⟨a, ⟨m, b1, b2, b3⟩, c⟩ := h5 q hq
    exact ⟨by rw [hM 19 q 1 (by omega), eN 11 (by decide) (by decide)]; exact a, ⟨m, b1, by rw [hM 19 q 2 (by omega)]; exact b2, by rw [eN 12 (by decide) (by decide)]; exact b3⟩, fun i hi => by rw [hM 20 q i (by omega), eN 13 (by decide) (by decide)]; exact c i hi⟩
  · intro w hw c hc
    rw [eN 15 (by decide) (by decide)]
    exact h6 w hw c hc
theorem st_told (p x : Int32) : St kI jX6_told jX7_told [vi p, vi x] := by
  intro w w' d d' M N hd hd' hC
  obtain ⟨tc, n, k, z, O, LL, hq⟩ := id hC
  obtain ⟨L, v1, v2, v3, v4, v5, v6, v7, v8, v9, v10, v11, v12⟩ := Cq_vw hq
  obtain ⟨⟨a1, a2, a3⟩, b, ⟨c1, c2, c3⟩, -⟩ := hq.1
  refine ⟨_, _, ok_X6_told (by omega) a2 a1 c2 c1 p x, ok_X7_told (by omega) a3 a1 c3 c1 p x, ?_⟩
  rintro r M' r' N' ⟨h1, rfl⟩ ⟨h2, rfl⟩
  refine st_fin ⟨_, rfl⟩ h1 ?_ hC
  rw [h2]
  unfold tolV
  rw [a2]
  by_cases h : 0 ≤ p ∧ p < nI n
  · obtain ⟨q, rfl, hqn⟩ := inP h rfl a1
    obtain ⟨⟨e1, e2, e3, e4, e5⟩, _⟩ := b q hqn
    rw [if_pos h, if_pos h, nI_clamp (by omega), e1, e2, e3, e4, e5, v11]
  · rw [if_neg h, if_neg h]
theorem st_taken (i kind : Int32) : St kI jX6_taken jX7_taken [vi i, vi kind] := by
  intro w w' d d' M N hd hd' hC
  obtain ⟨tc, n, k, z, O, LL, hq⟩ := id hC
  obtain ⟨L, v1, v2, v3, v4, v5, v6, v7, v8, v9, v10, v11, v12⟩ := Cq_vw hq
  obtain ⟨⟨a1, a2, a3⟩, b, ⟨c1, c2, c3⟩, -⟩ := hq.1
  refine ⟨_, _, ok_X6_taken (by omega) a2 a1 c2 c1 i kind, ok_X7_taken (by omega) a3 a1 c3 c1 i kind, ?_⟩
  rintro r M' r' N' ⟨h1, rfl⟩ ⟨h2, rfl⟩
  refine st_fin ⟨_, rfl⟩ h1 ?_ hC
  rw [h2]
  unfold takV takG
  rw [a2]
  by_cases h : 0 ≤ i - i / 8 * 8 ∧ i - i / 8 * 8 < nI n
  · obtain ⟨q, e, hqn⟩ := inP h rfl a1
    rw [e, v11, nI_clamp (by omega), (b q hqn).1.1]
  · rw [if_pos h, if_pos h]
theorem st_put (p x v : Int32) : St kI jX6_put jX7_put [vi p, vi x, vi v] := by
  intro w w' d d' M N hd hd' hC
  obtain ⟨tc, n, k, z, O, LL, hq⟩ := id hC
  obtain ⟨⟨a1, a2, a3⟩, b, rest⟩ := id hq.1
  refine ⟨_, _, ok_X6_put (by omega) a2 a1 p x v, ok_X7_put (by omega) a3 a1 p x v, ?_⟩
  rintro r M' r' N' ⟨y, h1, h2⟩ ⟨y', h1', h2'⟩
  rw [a2] at h2
  by_cases h : 0 ≤ p ∧ p < nI n
  · rw [if_pos h] at h2 h2'
    obtain ⟨q, rfl, hqn⟩ := inP h rfl a1
    rw [nI_clamp (by omega)] at h2 h2'
    obtain ⟨⟨e1, e2, e3, e4, e5⟩, _⟩ := b q hqn
    by_cases hv : (0 ≤ x ∧ x ≤ 1) ∧ 0 ≤ v ∧ v ≤ (if x = 0 then 99 else 999)
    · rw [if_pos hv] at h2 h2'
      rcases p01 hv.1 with rfl | rfl
      · rw [if_pos rfl] at h2
        obtain ⟨rfl, rfl⟩ := h2
        obtain ⟨rfl, rfl⟩ := h2'
        have ev : v ≤ 99 := hv.2.2
        obtain ⟨v, hv99, rfl⟩ := nI_of2 (n := 99) (M := 99) (by decide) (Int32.not_lt.mpr hv.2.1) ev
        rw [show (0 : Int32).toNatClampNeg = 0 from rfl, Nat.add_zero] at h1' ⊢
        refine st_fin ⟨_, rfl⟩ h1 (by rw [h1', e3]) ⟨tc, n, k, z, O, LL, Cq_cur hq ⟨⟨a1, a2, a3⟩, fun s hs => ?_, rest⟩ (Nat.le_refl _) (fun t i j a => by rw [up_apply, if_neg (by omega)]) (fun t i j a _ _ => by rw [up_apply, if_neg (by omega)]) (fun s _ => ⟨rfl, rfl⟩)⟩
        obtain ⟨⟨f1, f2, f3, f4, f5⟩, g1, g2, g3⟩ := b s hs
        have e : up N 3 0 (2 * q) (nI v) 3 0 (2 * s) = up M 4 0 q (nI v) 4 0 s := by
          rw [up_apply, up_apply]
          by_cases t : s = q
          · rw [if_pos (by omega), if_pos (by omega)]
          · rw [if_neg (by omega), if_neg (by omega), f3]
        refine ⟨⟨f1, f2, e.symm, by rw [up_apply (t' := 3), if_neg (by omega)]; exact f4, f5⟩, g1, ?_, g3⟩
        rw [e, up_apply]
        by_cases t : s = q
        · rw [if_pos (by omega)]; exact ⟨v, hv99, rfl⟩
        · rw [if_neg (by omega), f3]; exact g2
      · rw [if_neg (by decide)] at h2
        obtain ⟨rfl, rfl⟩ := h2
        obtain ⟨rfl, rfl⟩ := h2'
        rw [show (1 : Int32).toNatClampNeg = 1 from rfl] at h1' ⊢
        refine st_fin ⟨_, rfl⟩ h1 (by rw [h1', e4]) ⟨tc, n, k, z, O, LL, Cq_cur hq ⟨⟨a1, a2, a3⟩, fun s hs => ?_, rest⟩ (Nat.le_refl _) (fun t i j a => by rw [up_apply, if_neg (by omega)]) (fun t i j a _ _ => by rw [up_apply, if_neg (by omega)]) (fun s _ => ⟨rfl, rfl⟩)⟩
        obtain ⟨⟨f1, f2, f3, f4, f5⟩, g1, g2, g3⟩ := b s hs
        have e : up N 3 0 (2 * q + 1) v 3 0 (2 * s + 1) = up M 5 0 q v 5 0 s := by
          rw [up_apply, up_apply]
          by_cases t : s = q
          · rw [if_pos (by omega), if_pos (by omega)]
          · rw [if_neg (by omega), if_neg (by omega), f4]
        have e2 : up N 3 0 (2 * q + 1) v 3 0 (2 * s) = N 3 0 (2 * s) := by rw [up_apply, if_neg (by omega)]
        rw [e2]
        exact ⟨⟨f1, f2, f3, e.symm, f5⟩, g1, g2, g3⟩
    · rw [if_neg hv] at h2 h2'
      obtain ⟨rfl, rfl⟩ := h2
      obtain ⟨rfl, rfl⟩ := h2'
      exact st_fin ⟨_, rfl⟩ h1 h1' hC
  · rw [if_neg h] at h2 h2'
    obtain ⟨rfl, rfl⟩ := h2
    obtain ⟨rfl, rfl⟩ := h2'
    exact st_fin ⟨_, rfl⟩ h1 h1' hC
/-- one comes on top -/
theorem cur_top {tc n k : Nat} {O : Nat → Nat} {M N : Mem} {p : Nat} (h : curJ tc n k O M N) (hp : p < n) (hk8 : k < 8) (hno : ∀ q, q < k → O q ≠ p) : curJ tc n (k + 1) (tpC O k p) (up (up M 7 0 k (nI p)) 1 0 7 (nI (k + 1))) (up (up N 5 0 k (nI p)) 0 0 6 (nI (k + 1))) := by
  obtain ⟨a, b, ⟨c1, c2, c3⟩, d, f, g, t, e1, e2, e3⟩ := h
  refine ⟨a, b, ⟨by omega, by rw [up_same], by rw [up_same]⟩, fun i hi => ?_, tpC_inj f hno, g, t, e1, e2, e3⟩
  have eM : up (up M 7 0 k (nI p)) 1 0 7 (nI (k + 1)) 7 0 i = if i = k then nI p else M 7 0 i := by
    rw [up_apply, if_neg (by omega), up_apply]
    simp
  have eN : up (up N 5 0 k (nI p)) 0 0 6 (nI (k + 1)) 5 0 i = if i = k then nI p else N 5 0 i := by
    rw [up_apply, if_neg (by omega), up_apply]
    simp
  rw [eM, eN]
  unfold tpC
  by_cases e : i = k
  · rw [if_pos e, if_pos e, if_pos e]
    exact ⟨rfl, rfl, hp⟩
  · rw [if_neg e, if_neg e, if_neg e]
    exact d i (by omega)
theorem fno {n k : Nat} {O : Nat → Nat} {N : Mem} (hO : orN N O k n) {p : Nat} (hf : fnd (N 5 0) (nI p) k 0 = -1) : ∀ q, q < k → O q ≠ p := fun q hq e => fnd_no k 0 hf (by have := hO.2.1; omega) q (Nat.zero_le _) (by omega) (by rw [(hO.2.2 q hq).1, e])
theorem st_door (p : Int32) : St kI jX6_door jX7_door [vi p] := by
  intro w w' d d' M N hd hd' hC
  obtain ⟨tc, n, k, z, O, LL, hq⟩ := id hC
  obtain ⟨L, v1, v2, v3, v4, v5, v6, v7, v8, v9, v10, v11, v12⟩ := Cq_vw hq
  obtain ⟨⟨a1, a2, a3⟩, b, ⟨c1, c2, c3⟩, dd, f, -⟩ := id hq.1
  refine ⟨_, _, ok_X6_door (by omega) a2 a1 c2 c1 p, ok_X7_door (by omega) a3 a1 c3 c1 p (fun hp => hk7_of v6 f a1 hp), ?_⟩
  rintro r M' r' N' ⟨y, h1, h2⟩ ⟨y', h1', h2'⟩
  rw [a2, v11] at h2
  by_cases h : 0 ≤ p ∧ p < nI n
  · rw [if_pos h] at h2 h2'
    by_cases hf : fnd (N 5 0) p k 0 = -1
    · have hk8 := hk7_of v6 f a1 h hf
      rw [if_pos hf] at h2 h2'
      rw [if_pos hk8] at h2
      obtain ⟨rfl, rfl⟩ := h2
      obtain ⟨rfl, rfl⟩ := h2'
      obtain ⟨q, rfl, hqn⟩ := inP h rfl a1
      rw [up_same] at h1
      exact st_fin ⟨_, rfl⟩ h1 h1' ⟨tc, n, k + 1, z, tpC O k q, LL, Cq_cur hq (cur_top hq.1 hqn hk8 (fno v6 hf)) (Nat.le_refl _) (fun t i j a => by rw [up_apply, if_neg (by omega), up_apply, if_neg (by omega)]) (fun t i j a c _ => by rw [up_apply, if_neg (by omega), up_apply, if_neg (by omega)]) (fun s _ => ⟨rfl, rfl⟩)⟩
    · rw [if_neg hf] at h2 h2'
      obtain ⟨rfl, rfl⟩ := h2
      obtain ⟨rfl, rfl⟩ := h2'
      exact st_fin ⟨_, rfl⟩ h1 h1' hC
  · rw [if_neg h] at h2 h2'
    obtain ⟨rfl, rfl⟩ := h2
    obtain ⟨rfl, rfl⟩ := h2'
    exact st_fin ⟨_, rfl⟩ h1 h1' hC
theorem st_fire (p win : Int32) : St kI jX6_fire jX7_fire [vi p, vi win] := by
  intro w w' d d' M N hd hd' hC
  obtain ⟨tc, n, k, z, O, LL, hq⟩ := id hC
  obtain ⟨L, v1, v2, v3, v4, v5, v6, v7, v8, v9, v10, v11, v12⟩ := Cq_vw hq
  obtain ⟨⟨a1, a2, a3⟩, b, ⟨c1, c2, c3⟩, dd, f, -⟩ := id hq.1
  refine ⟨_, _, ok_X6_fire (by omega) v1 a2 a1 c2 c1 v5 p win (by rw [a2, v11]; exact fun hp => hk7_of v6 f a1 hp), ok_X7_fire (by omega) v2 a3 a1 v6 p win (fun hp => hk7_of v6 f a1 hp), ?_⟩
  rintro r M' r' N' ⟨y, h1, h2⟩ ⟨y', h1', h2'⟩
  rw [a2, v11, ag_hi v3 k v7, ag_wk v3 v4 v7] at h2
  by_cases h : 0 ≤ p ∧ p < nI n
  · rw [if_pos h] at h2 h2'
    by_cases hw : 0 ≤ win ∧ win ≤ 999
    · rw [if_pos hw] at h2 h2'
      by_cases hf : fnd (N 5 0) p k 0 = -1
      · rw [if_pos hf] at h2 h2'
        by_cases hg : win ≤ hiS L (vwM N) O k ∧ wkV L (vwM N) (N 4 0) O k = -1
        · rw [if_pos hg] at h2 h2'
          have hk8 := hk7_of v6 f a1 h hf
          obtain ⟨rfl, rfl⟩ := h2
          obtain ⟨rfl, hfr⟩ := h2'
          obtain ⟨q, rfl, hqn⟩ := inP h rfl a1
          have hq2 := Cq_cur hq (cur_top hq.1 hqn hk8 (fno v6 hf)) (Nat.le_refl _) (fun t i j a => by rw [up_apply, if_neg (by omega), up_apply, if_neg (by omega)]) (fun t i j a c _ => by rw [up_apply, if_neg (by omega), up_apply, if_neg (by omega)]) (fun s _ => ⟨rfl, rfl⟩)
          exact st_fin ⟨_, rfl⟩ h1 h1' ⟨tc, n, k + 1, z, tpC O k q, LL, Cq_fr (Cq_ru (u := 0) hq2 (by decide)) frV_rf hfr⟩
        · rw [if_neg hg] at h2 h2'
          obtain ⟨rfl, rfl⟩ := h2
          obtain ⟨rfl, hfr⟩ := h2'
          exact st_fin ⟨_, rfl⟩ h1 h1' ⟨tc, n, k, z, O, LL, Cq_fr hq frV_rf hfr⟩
      · rw [if_neg hf] at h2 h2'
        obtain ⟨rfl, rfl⟩ := h2
        obtain ⟨rfl, rfl⟩ := h2'
        exact st_fin ⟨_, rfl⟩ h1 h1' hC
    · rw [if_neg hw] at h2 h2'
      obtain ⟨rfl, rfl⟩ := h2
      obtain ⟨rfl, rfl⟩ := h2'
      exact st_fin ⟨_, rfl⟩ h1 h1' hC
  · rw [if_neg h] at h2 h2'
    obtain ⟨rfl, rfl⟩ := h2
    obtain ⟨rfl, rfl⟩ := h2'
    exact st_fin ⟨_, rfl⟩ h1 h1' hC

