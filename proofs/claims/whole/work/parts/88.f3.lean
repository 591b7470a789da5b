/-! both: more calls alike -/
theorem lp_n0 {s : Type} {f g : Nat → s → s} {x : s} : lp f 0 0 x = lp g 0 0 x := rfl
theorem ag_nxT {L : List (List Op)} {V V' : Vw} {F F' : Nat → Int32} {O : Nat → Nat} {k n p : Nat} {fd fd' : Nat → Int32} {s : Int32 × Int32} (h : vag n V V') (hF : fag n F F') (hO : rin O k n) (hp : p < n) (hfd : fd p = fd' p) : nxT L V F O k fd p s = nxT L V' F' O k fd' p s := by
  have e1 := ag_hi (L := L) h (k + 1) (tpO_in (O := O) (k := k) (p := p) hO hp)
  have e2 := ag_wk (L := L) h hF (tpO_in (O := O) (k := k) (p := p) hO hp)
  unfold nxT nxG
  simp only [e1, e2, hfd]
theorem st_next (x : Int32) : St kI jX6_next jX7_next [vi x] := by
  intro w w' d d' M N hd hd' hC
  obtain ⟨tc, n, k, z, O, LL, hq⟩ := id hC
  obtain ⟨L, v1, v2, v3, v4, v5, v6, v7, v8, v9, v10, v11, v12⟩ := Cq_vw hq
  obtain ⟨⟨a1, a2, a3⟩, b, ⟨c1, c2, c3⟩, dd, f, -⟩ := hq.1
  have hk7 : ∀ p, p < n → fnd (N 5 0) (nI p) k 0 = -1 → k < 8 := fun p hp => hk7_of v6 f a1 ⟨nI_pos' (by omega), nI_lt hp (by omega)⟩
  refine ⟨_, _, ok_X6_next (by omega) v1 a2 a1 c2 c1 v5 x, ok_X7_next (by omega) v2 a3 a1 v6 hk7 x, ?_⟩
  rintro r M' r' N' ⟨y, h1, h2, rfl⟩ ⟨y', h1', h2', rfl⟩
  refine st_fin ⟨_, rfl⟩ h1 ?_ ⟨tc, n, k, z, O, LL, Cq_fr hq (frT_V (Or.inl rfl) h2) h2'⟩
  rw [h1']
  by_cases h : 0 ≤ x ∧ x ≤ 1
  · rw [if_pos h, if_pos h]
    have key : nxJ (hiS L (vwC M 0) O k) (lp (nxT L (vwC M 0) (M 6 0) O k (fun p => fnd (M 7 0) (nI p) k 0)) (if k < 8 then n else 0) 0 (-1, hiS L (vwC M 0) O k)) (lp (nxU L (vwM N) (N 4 0) O k (fun p => fnd (N 5 0) (nI p) k 0)) n 0 (-1, -1)) := by
      by_cases hk8 : k < 8
      · rw [if_pos hk8, lp_ext n 0 _ (g := nxT L (vwM N) (N 4 0) O k (fun p => fnd (N 5 0) (nI p) k 0)) (fun i y _ hi => ag_nxT v3 v4 v7 (by omega) (v11 _))]
        exact nx_eq hk8 v9 a1 v7 n 0 _ _ (by omega) (Or.inl ⟨rfl, rfl, rfl⟩)
      · rw [if_neg hk8]
        have : lp (nxU L (vwM N) (N 4 0) O k (fun p => fnd (N 5 0) (nI p) k 0)) n 0 (-1, -1) = lp (fun _ (s : Int32 × Int32) => s) n 0 (-1, -1) := by
          refine lp_ext n 0 _ (fun i y _ hi => ?_)
          unfold nxU
          rw [if_neg (fun q => hk8 (hk7 i (by omega) q))]
        have idl : ∀ r p (s : Int32 × Int32), lp (fun _ (s : Int32 × Int32) => s) r p s = s := by
          intro r
          induction r with
          | zero => intro p s; rfl
          | succ r ih => intro p s; rw [lp, ih]
        rw [this, idl]
        exact Or.inl ⟨rfl, rfl, rfl⟩
    generalize lp (nxT L (vwC M 0) (M 6 0) O k (fun p => fnd (M 7 0) (nI p) k 0)) (if k < 8 then n else 0) 0 (-1, hiS L (vwC M 0) O k) = s at key ⊢
    generalize lp (nxU L (vwM N) (N 4 0) O k (fun p => fnd (N 5 0) (nI p) k 0)) n 0 (-1, -1) = u at key ⊢
    rcases key with ⟨e1, e2, e3⟩ | ⟨e1, e2, -⟩
    · rw [e2, e1, e3, if_pos rfl, ag_hi v3 k v7]
    · rw [← e2, if_neg e1]
  · rw [if_neg h, if_neg h]
theorem st_rusts (x : Int32) : St kI jX6_rusts jX7_rusts [vi x] := by
  intro w w' d d' M N hd hd' hC
  obtain ⟨tc, n, k, z, O, LL, hq⟩ := id hC
  obtain ⟨L, v1, v2, v3, v4, v5, v6, v7, v8, v9, v10, v11, v12⟩ := Cq_vw hq
  obtain ⟨⟨a1, a2, a3⟩, b, ⟨c1, c2, c3⟩, dd, f, ⟨g1, u, g2, g3⟩, -⟩ := hq.1
  refine ⟨_, _, ok_X6_rusts (by omega) v1 c2 c1 v5 x, ok_X7_rusts (by omega) v2 a1 v6 x, ?_⟩
  rintro r M' r' N' ⟨y, h1, h2, rfl⟩ ⟨y', h1', rfl, rfl⟩
  refine st_fin ⟨_, rfl⟩ h1 ?_ ⟨tc, n, k, z, O, LL, Cq_fr hq (frC_V h2) (fun _ _ _ _ _ => rfl)⟩
  rw [h1']
  by_cases h : 0 ≤ x ∧ x ≤ 999
  · rw [if_pos h, if_pos h]
    congr 2
    refine (rsF_ext 100 0 (fun i _ hi => ?_)).symm
    rw [g1, g3, mi_wi g2 (by omega), ag_hi (vag_rs v3) k v7]
  · rw [if_neg h, if_neg h]
theorem p01 {x : Int32} (h : 0 ≤ x ∧ x ≤ 1) : x = 0 ∨ x = 1 := by
  obtain ⟨j, hj, rfl⟩ := nI_of2 (n := 1) (M := 1) (by decide) (Int32.not_lt.mpr h.1) h.2
  rcases (show j = 0 ∨ j = 1 by omega) with rfl | rfl
  · exact Or.inl rfl
  · exact Or.inr rfl
theorem st_come (a x : Int32) : St kL jX6_come jX7_come [vi a, vi x] := by
  intro w w' d d' M N hd hd' hC
  obtain ⟨tc, n, k, z, O, LL, hq⟩ := id hC
  obtain ⟨L, v1, v2, v3, v4, v5, v6, v7, v8, v9, v10, v11, v12⟩ := Cq_vw hq
  obtain ⟨⟨a1, a2, a3⟩, b, ⟨c1, c2, c3⟩, dd, f, -⟩ := hq.1
  refine ⟨_, _, ok_X6_come (by omega) v1 c2 c1 v5 a x, ok_X7_come (by omega) v2 a1 v6 a x, ?_⟩
  rintro r M' r' N' ⟨h1, rfl⟩ ⟨h2, rfl⟩
  refine st_fin ⟨_, rfl⟩ h1 ?_ hC
  rw [h2, c2]
  by_cases h : (0 ≤ a ∧ a ≤ nI k) ∧ 0 ≤ x ∧ x ≤ 1
  · rw [if_pos h, if_pos h]
    obtain ⟨a, ha, rfl⟩ := nI_of (Int32.not_lt.mpr h.1.1)
    have hak : a ≤ k := (nI_leI ha (by omega)).1 h.1.2
    rw [nI_clamp ha, co_eq (by omega) (p01 h.2), ag_co v3 a (fun i hi => v7 i (by omega))]
  · rw [if_neg h, if_neg h]
theorem st_reach (a x : Int32) : St kL jX6_reach jX7_reach [vi a, vi x] := by
  intro w w' d d' M N hd hd' hC
  obtain ⟨tc, n, k, z, O, LL, hq⟩ := id hC
  obtain ⟨L, v1, v2, v3, v4, v5, v6, v7, v8, v9, v10, v11, v12⟩ := Cq_vw hq
  obtain ⟨⟨a1, a2, a3⟩, b, ⟨c1, c2, c3⟩, dd, f, -⟩ := hq.1
  refine ⟨_, _, ok_X6_reach (by omega) v1 c2 c1 v5 a x, ok_X7_reach (by omega) v2 a3 a1 v6 a x, ?_⟩
  rintro r M' r' N' ⟨h2, h1⟩ ⟨h2', h1'⟩
  refine st_fin ⟨_, rfl⟩ h1 ?_ ⟨tc, n, k, z, O, LL, Cq_fr hq (frT_V (Or.inl rfl) h2) h2'⟩
  rw [h1']
  by_cases h : (0 ≤ a ∧ a ≤ 999) ∧ 0 ≤ x ∧ x ≤ 1
  · rw [if_pos h, if_pos h]
    have hk2 : 2 ^ k ≤ 2 ^ 8 := Nat.pow_le_pow_right (by decide) c1
    rw [lo_eq (fun i _ => ag_re v3 v4 v7 i) (Nat.two_pow_pos k) (by omega) (p01 h.2)]
  · rw [if_neg h, if_neg h]
theorem st_chain (x : Int32) : St kI jX6_chain jX7_chain [vi x] := by
  intro w w' d d' M N hd hd' hC
  obtain ⟨tc, n, k, z, O, LL, hq⟩ := id hC
  obtain ⟨L, v1, v2, v3, v4, v5, v6, v7, v8, v9, v10, v11, v12⟩ := Cq_vw hq
  obtain ⟨⟨a1, a2, a3⟩, b, ⟨c1, c2, c3⟩, dd, f, ⟨g1, -⟩, -⟩ := id hq.1
  refine ⟨_, _, ok_X6_chain (by omega) v1 a2 a1 c2 c1 v5 f x, ok_X7_chain (by omega) v2 a3 a1 v6 f x, ?_⟩
  rintro r M' r' N' ⟨y, h1, h2, rfl⟩ ⟨y', h1', h2', rfl⟩
  have hC2 : Cp M' N' := by
    have hq1 : Cq tc n k z O LL M (fun t i j => if t = 5 ∧ i = 0 ∧ k ≤ j then N' 5 0 j else N t i j) := by
      obtain ⟨⟨b1, b2, b3, b4, b5⟩, r2, r3, r4, r5, r6⟩ := hq
      refine ⟨⟨b1, b2, b3, fun i hi => ?_, b5⟩, r2, r3, r4, r5, r6⟩
      obtain ⟨s1, s2, s3⟩ := b4 i hi
      exact ⟨s1, by dsimp only; rw [if_neg (by omega)]; exact s2, s3⟩
    refine ⟨tc, n, k, z, O, LL, Cq_fr hq1 (frC_V h2) (fun t i j a b => ?_)⟩
    by_cases e : t = 5 ∧ i = 0 ∧ k ≤ j
    · rw [if_pos e, e.1, e.2.1]
    · rw [if_neg e]
      exact h2' t i j a b e
  refine st_fin ⟨_, rfl⟩ h1 ?_ hC2
  rw [h1']
  by_cases h : 0 ≤ x ∧ x ≤ 999
  · rw [if_pos h, if_pos h, ch_eq0 a1 c1 v7 f, ag_ch v3 v4 _ _ _ _ v7, g1]
  · rw [if_neg h, if_neg h]
theorem st_drawn (s x : Int32) : St kI jX6_drawn jX7_drawn [vi s, vi x] := by
  intro w w' d d' M N hd hd' hC
  obtain ⟨tc, n, k, z, O, LL, hq⟩ := id hC
  obtain ⟨L, v1, v2, v3, v4, v5, v6, v7, v8, v9, v10, v11, v12⟩ := Cq_vw hq
  obtain ⟨⟨a1, a2, a3⟩, b, ⟨c1, c2, c3⟩, dd, f, -⟩ := hq.1
  refine ⟨_, _, ok_X6_drawn (by omega) v1 c2 c1 v5 s x, ok_X7_drawn (by omega) v2 a3 a1 v6 s x, ?_⟩
  rintro r M' r' N' ⟨y, h1, h2, rfl⟩ ⟨y', h1', h2', rfl⟩
  refine st_fin ⟨_, rfl⟩ h1 ?_ ⟨tc, n, k, z, O, LL, Cq_fr hq (frT_V (Or.inl rfl) h2) h2'⟩
  rw [h1']
  by_cases h : (0 ≤ s ∧ s ≤ 99999) ∧ 0 ≤ x ∧ x ≤ 2
  · rw [if_pos h, if_pos h, show drQ M k L O s = drV L (vwM N) O k s from ag_drV v3 v7 s, ag_mea v3 v4 (rin_get (drV_in v7 s))]
  · rw [if_neg h, if_neg h]
theorem st_odds (s ns win x : Int32) : St kL jX6_odds jX7_odds [vi s, vi ns, vi win, vi x] := by
  intro w w' d d' M N hd hd' hC
  obtain ⟨tc, n, k, z, O, LL, hq⟩ := id hC
  obtain ⟨L, v1, v2, v3, v4, v5, v6, v7, v8, v9, v10, v11, v12⟩ := Cq_vw hq
  obtain ⟨⟨a1, a2, a3⟩, b, ⟨c1, c2, c3⟩, dd, f, -⟩ := hq.1
  refine ⟨_, _, ok_X6_odds (by omega) v1 c2 c1 v5 s ns win x, ok_X7_odds (by omega) v2 a3 a1 v6 s ns win x, ?_⟩
  rintro r M' r' N' ⟨h2, h1⟩ ⟨h2', h1'⟩
  refine st_fin ⟨_, rfl⟩ h1 ?_ ⟨tc, n, k, z, O, LL, Cq_fr hq (frT_V (Or.inl rfl) h2) h2'⟩
  rw [h1']
  by_cases h : ((0 ≤ s ∧ s ≤ 99999) ∧ 1 ≤ ns ∧ ns ≤ 60) ∧ (0 ≤ win ∧ win ≤ 999) ∧ 0 ≤ x ∧ x ≤ 1
  · rw [if_pos h, if_pos h]
    obtain ⟨m, hm, rfl⟩ := nI_of2 (n := 60) (M := 60) (by decide) (Int32.not_lt.mpr (Int32.le_trans (by decide) h.1.2.1)) h.1.2.2
    have hm1 : 1 ≤ m := (nI_leI (a := 1) (by decide) (by omega)).1 h.1.2.1
    rw [nI_clamp (by omega), lo_eq (h := ofG L (vwM N) (N 4 0) O k s win) (fun i _ => ?_) (by omega) (by omega) (p01 h.2.2)]
    unfold odG ofG
    rw [show drQ M k L O (s + nI i) = drV L (vwM N) O k (s + nI i) from ag_drV v3 v7 _, ag_hi v3 _ (rin_get (drV_in v7 _)), ag_wk v3 v4 (rin_get (drV_in v7 _))]
  · rw [if_neg h, if_neg h]

