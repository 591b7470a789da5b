/-! both: one call of each, alike -/
def kI (v : AV) : Prop := ∃ y : Int32, v = vi y
def kL (v : AV) : Prop := ∃ y : Int64, v = vl y
/-- called alike, both answer alike, and hold alike -/
def St (K : AV → Prop) (jC jM : MI) (as : List AV) : Prop := ∀ (w w' : Wd) (d d' : Nat) (M N : Mem), 58 ≤ d → 10 ≤ d' → Cp M N → ∃ Q1 Q2, lr_Ok tC sC w d jC (vo 0 0 :: as) M Q1 ∧ lr_Ok tM sM w' d' jM (vo 0 0 :: as) N Q2 ∧ ∀ r M' r' N', Q1 r M' → Q2 r' N' → (∃ v, K v ∧ r = some v ∧ r' = some v) ∧ Cp M' N'
/-- what follows of what they hold alike -/
def vwJ (n k : Nat) (O : Nat → Nat) (L : List (List Op)) (M N : Mem) : Prop := lawC M 0 L ∧ lawN N L ∧ vag n (vwC M 0) (vwM N) ∧ fag n (M 6 0) (N 4 0) ∧ rowA (M 7 0) O k ∧ orN N O k n ∧ rin O k n ∧ bnd L (vwM N) n ∧ bnr L (vwM N) n ∧ bitsF (M 7 0) k = bitsF (N 5 0) k ∧ (∀ p, fnd (M 7 0) p k 0 = fnd (N 5 0) p k 0) ∧ k ≤ n
theorem Cq_vw {tc n k z : Nat} {O : Nat → Nat} {LL : Nat → List (List Op)} {M N : Mem} (h : Cq tc n k z O LL M N) : ∃ L, vwJ n k O L M N := by
  obtain ⟨⟨⟨a1, a2, a3⟩, b, ⟨c1, c2, c3⟩, d, f, ⟨g1, u, g2, g3⟩, t, h1, h2, h3⟩, -, ⟨x1, x2, x3, x4⟩, -, -, -⟩ := h
  have hin : rin O k n := fun i hi => (d i hi).2.2
  have hV : bnd (LL t) (vwM N) n ∧ bnr (LL t) (vwM N) n := V_bnd (fun q hq => ⟨(b q hq).2.1, (b q hq).2.2.1⟩)
  refine ⟨LL t, ⟨t, by omega, h2, (x4 t h1).1⟩, ⟨t, by omega, h3, (x4 t h1).2⟩, ⟨fun q hq => ?_, ?_⟩, fun q hq => (b q hq).1.2.2.2.2, fun i hi => ⟨(d i hi).1, by have := hin i hi; omega⟩, ⟨c3, c1, fun i hi => (d i hi).2⟩, hin, hV.1, hV.2, bitsF_eq k (fun q hq => (d q hq).1.trans (d q hq).2.1.symm), fun p => fnd_eq k 0 (fun q hq => (d q (by omega)).1.trans (d q (by omega)).2.1.symm), pigO n k O hin f⟩
  · obtain ⟨⟨e1, e2, e3, e4, e5⟩, _⟩ := b q hq
    exact ⟨e1, e2, e3, e4⟩
  · show (M 1 0 8, M 1 0 7) = (N 0 0 7, N 0 0 6)
    rw [g1, c2, c3]
theorem hk7_of {n k : Nat} {O : Nat → Nat} {N : Mem} (hO : orN N O k n) (hi : injO O k) (hn8 : n ≤ 8) {p : Int32} (hp : 0 ≤ p ∧ p < nI n) (hf : fnd (N 5 0) p k 0 = -1) : k < 8 := by
  obtain ⟨p, h31, rfl⟩ := nI_of (Int32.not_lt.mpr hp.1)
  have hpn : p < n := (nI_ltI h31 (by omega)).1 hp.2
  have hk := hO.2.1
  have hno : ∀ q, q < k → O q ≠ p := fun q hq e => fnd_no k 0 hf (by omega) q (Nat.zero_le _) (by omega) (by rw [(hO.2.2 q hq).1, e])
  have := pigO n (k + 1) (tpC O k p) (tpC_lt (fun i hi => (hO.2.2 i hi).2) hpn) (tpC_inj hi hno)
  omega
theorem st_fin {K : AV → Prop} {v : AV} {r r' : Option AV} {M' N' : Mem} (hK : K v) (h1 : r = some v) (h2 : r' = some v) (h3 : Cp M' N') : (∃ v, K v ∧ r = some v ∧ r' = some v) ∧ Cp M' N' := ⟨⟨v, hK, h1, h2⟩, h3⟩
theorem st_count (x : Int32) : St kI jX6_count jX7_count [vi x] := by
  intro w w' d d' M N hd hd' hC
  refine ⟨_, _, ok_X6_count x, ok_X7_count x, ?_⟩
  rintro r M' r' N' ⟨h1, rfl⟩ ⟨h2, rfl⟩
  refine st_fin ⟨_, rfl⟩ h1 ?_ hC
  rw [h2]
  obtain ⟨tc, n, k, z, O, LL, ⟨⟨a1, a2, a3⟩, b, ⟨c1, c2, c3⟩, d, f, ⟨g1, u, g2, g3⟩, t, e1, e2, e3⟩, -, ⟨x1, x2, x3, x4⟩, ⟨z1, z2, z3, z4⟩, -, -⟩ := hC
  unfold cntV cntM
  rw [a2, a3, c2, c3, g1, x2, x3, e2, e3, z2, z3]
theorem Cq_ru {tc n k z : Nat} {O : Nat → Nat} {LL : Nat → List (List Op)} {M N : Mem} {u : Nat} (h : Cq tc n k z O LL M N) (hu : u ≤ 999) : Cq tc n k z O LL (up M 1 0 8 (nI u)) (up N 0 0 7 (nI u)) := by
  obtain ⟨⟨⟨a1, a2, a3⟩, b, ⟨c1, c2, c3⟩, d, f, ⟨g1, u', g2, g3⟩, t, e1, e2, e3⟩, h2, h3, h4, h5, h6⟩ := h
  refine ⟨⟨⟨a1, a2, a3⟩, b, ⟨c1, c2, c3⟩, d, f, ⟨by rw [up_same, up_same], u, hu, by rw [up_same]⟩, t, e1, e2, e3⟩, ?_, h3, h4, h5, h6⟩
  rcases h2 with q | ⟨q1, q2, n', k', O', q3, q4⟩
  · exact Or.inl q
  · exact Or.inr ⟨q1, q2, n', k', O', q3, crJ_M q4 (fun t j a b => by rw [up_apply, if_neg (by omega)])⟩
theorem st_winters (x : Int32) : St kI jX6_winters jX7_winters [vi x] := by
  intro w w' d d' M N hd hd' hC
  refine ⟨_, _, ok_X6_winters (by omega) x, ok_X7_winters (by omega) x, ?_⟩
  rintro r M' r' N' ⟨y, h1, h2⟩ ⟨y', h1', h2'⟩
  by_cases h : 0 ≤ x ∧ x ≤ 999
  · rw [if_pos h] at h2 h2'
    obtain ⟨rfl, rfl⟩ := h2
    obtain ⟨rfl, rfl⟩ := h2'
    obtain ⟨tc, n, k, z, O, LL, hq⟩ := hC
    obtain ⟨u, hu, rfl⟩ := nI_of2 (n := 999) (M := 999) (by decide) (Int32.not_lt.mpr h.1) h.2
    refine st_fin ⟨_, rfl⟩ h1 ?_ ⟨tc, n, k, z, O, LL, Cq_ru hq hu⟩
    rw [h1', hq.1.2.2.2.2.2.1.1]
  · rw [if_neg h] at h2 h2'
    obtain ⟨rfl, rfl⟩ := h2
    obtain ⟨rfl, rfl⟩ := h2'
    exact st_fin ⟨_, rfl⟩ h1 h1' hC
theorem st_force (x : Int32) : St kI jX6_force jX7_force [vi x] := by
  intro w w' d d' M N hd hd' hC
  refine ⟨_, _, ok_X6_force (by omega) x, ok_X7_force (by omega) x, ?_⟩
  rintro r M' r' N' ⟨y, h1, h2⟩ ⟨y', h1', h2'⟩
  obtain ⟨tc, n, k, z, O, LL, hq⟩ := id hC
  obtain ⟨⟨⟨a1, a2, a3⟩, b, ⟨c1, c2, c3⟩, d, f, ⟨g1, u', g2, g3⟩, t, e1, e2, e3⟩, hi, ⟨x1, x2, x3, x4⟩, h4, h5, h6⟩ := hq
  rw [x2] at h2
  rw [x3] at h2'
  by_cases h : 0 ≤ x ∧ x ≤ nI tc - 1
  · rw [if_pos h] at h2 h2'
    obtain ⟨rfl, rfl⟩ := h2
    obtain ⟨rfl, rfl⟩ := h2'
    obtain ⟨s, hs, rfl⟩ := nI_of (Int32.not_lt.mpr h.1)
    obtain ⟨tc, rfl⟩ : ∃ t', tc = t' + 1 := ⟨tc - 1, by omega⟩
    have hst : s < tc + 1 := by
      have := h.2
      rw [nI_pred, nI_leI hs (by omega)] at this
      omega
    refine st_fin ⟨_, rfl⟩ h1 ?_ ⟨tc + 1, n, k, z, O, LL, ⟨⟨a1, a2, a3⟩, b, ⟨c1, c2, c3⟩, d, f, ⟨g1, u', g2, g3⟩, s, hst, by rw [up_same], by rw [up_same]⟩, ?_, ⟨x1, x2, x3, x4⟩, h4, h5, h6⟩
    · rw [h1', e2, e3]
    · rcases hi with q | ⟨q1, q2, n', k', O', q3, q4⟩
      · exact Or.inl q
      · exact Or.inr ⟨q1, q2, n', k', O', q3, crJ_M q4 (fun t j a b => by rw [up_apply, if_neg (by omega)])⟩
  · rw [if_neg h] at h2 h2'
    obtain ⟨rfl, rfl⟩ := h2
    obtain ⟨rfl, rfl⟩ := h2'
    exact st_fin ⟨_, rfl⟩ h1 h1' hC
theorem st_asks (a p b : Int32) : St kI jX6_asks jX7_asks [vi a, vi p, vi b] := by
  intro w w' d d' M N hd hd' hC
  obtain ⟨tc, n, k, z, O, LL, hq⟩ := id hC
  obtain ⟨L, v1, v2, v3, v4, v5, v6, v7, v8, v9, v10, v11, v12⟩ := Cq_vw hq
  obtain ⟨⟨a1, a2, a3⟩, -⟩ := hq.1
  refine ⟨_, _, ok_X6_asks (by omega) v1 a2 a1 a p b, ok_X7_asks (by omega) v2 a3 a1 a p b, ?_⟩
  rintro r M' r' N' ⟨h1, rfl⟩ ⟨h2, rfl⟩
  refine st_fin ⟨_, rfl⟩ h1 ?_ hC
  rw [h2, a2]
  by_cases h : (0 ≤ a ∧ a ≤ 2) ∧ (0 ≤ p ∧ p < nI n) ∧ 0 ≤ b ∧ b ≤ 7
  · obtain ⟨p, hp31, rfl⟩ := nI_of (Int32.not_lt.mpr h.2.1.1)
    have hpn : p < n := (nI_ltI hp31 (by omega)).1 h.2.1.2
    rw [if_pos h, if_pos h, nI_clamp hp31, ag_say v3 hpn]
  · rw [if_neg h, if_neg h]
theorem st_ladder (x : Int32) : St kI jX6_ladder jX7_ladder [vi x] := by
  intro w w' d d' M N hd hd' hC
  obtain ⟨tc, n, k, z, O, LL, hq⟩ := id hC
  obtain ⟨L, v1, v2, v3, v4, v5, v6, v7, v8, v9, v10, v11, v12⟩ := Cq_vw hq
  obtain ⟨⟨a1, a2, a3⟩, b, ⟨c1, c2, c3⟩, -⟩ := hq.1
  refine ⟨_, _, ok_X6_ladder (by omega) v1 c2 c1 v5 x, ok_X7_ladder (by omega) v2 a3 a1 v6 x, ?_⟩
  rintro r M' r' N' ⟨h1, rfl⟩ ⟨y, h2, h3, rfl⟩
  refine st_fin ⟨_, rfl⟩ h1 ?_ ⟨tc, n, k, z, O, LL, Cq_fr hq frV_rf h3⟩
  rw [h2]
  by_cases h : 0 ≤ x ∧ x ≤ 2
  · rw [if_pos h, if_pos h, ag_mea v3 v4 v7]
  · rw [if_neg h, if_neg h]
theorem st_highest (a x : Int32) : St kI jX6_highest jX7_highest [vi a, vi x] := by
  intro w w' d d' M N hd hd' hC
  obtain ⟨tc, n, k, z, O, LL, hq⟩ := id hC
  obtain ⟨L, v1, v2, v3, v4, v5, v6, v7, v8, v9, v10, v11, v12⟩ := Cq_vw hq
  obtain ⟨⟨a1, a2, a3⟩, b, ⟨c1, c2, c3⟩, -⟩ := hq.1
  refine ⟨_, _, ok_X6_highest (by omega) v1 a2 a1 c2 c1 a x, ok_X7_highest (by omega) v2 a3 a1 c3 c1 a x, ?_⟩
  rintro r M' r' N' ⟨y, h1, h2, h3⟩ ⟨y', h1', h2', rfl⟩
  have hC2 : Cp M' N' := ⟨tc, n, k, z, O, LL, Cq_fr hq (frQ_V h2) h2'⟩
  by_cases h : (0 ≤ a ∧ a ≤ 5) ∧ 0 ≤ x ∧ x ≤ 1
  · rw [if_pos h] at h3
    rw [if_pos h] at h1'
    obtain ⟨u, ⟨M1, hm, rfl⟩, rfl⟩ := h3
    obtain ⟨a, ha, rfl⟩ := nI_of2 (n := 5) (M := 5) (by decide) (Int32.not_lt.mpr h.1.1) h.1.2
    rw [nI_clamp (by omega), v10, seF_go (msP_ag hm v3 v4) v8 a1 (bitsF_out (fun i hi => (v6.2.2 i hi).1) v7 a1) ha] at h1
    rw [nI_clamp (by omega)] at h1'
    exact st_fin ⟨_, rfl⟩ h1 h1' hC2
  · rw [if_neg h] at h3
    rw [if_neg h] at h1'
    subst h3
    exact st_fin ⟨_, rfl⟩ h1 h1' hC2
theorem feF_ext2 {g h : Nat → Int32} {win : Int32} : ∀ r m, (∀ j, j < m + r → g j = h j) → feF g win r m = feF h win r m := by
  intro r
  induction r with
  | zero => intro m _; rfl
  | succ r ih =>
    intro m e
    rw [feF, feF, e m (by omega), ih (m + 1) (fun j hj => e j (by omega))]
theorem st_fewest (x : Int32) : St kI jX6_fewest jX7_fewest [vi x] := by
  intro w w' d d' M N hd hd' hC
  obtain ⟨tc, n, k, z, O, LL, hq⟩ := id hC
  obtain ⟨L, v1, v2, v3, v4, v5, v6, v7, v8, v9, v10, v11, v12⟩ := Cq_vw hq
  obtain ⟨⟨a1, a2, a3⟩, b, ⟨c1, c2, c3⟩, -⟩ := hq.1
  refine ⟨_, _, ok_X6_fewest (by omega) v1 a2 a1 c2 c1 x, ok_X7_fewest (by omega) v2 a3 a1 c3 c1 x, ?_⟩
  rintro r M' r' N' ⟨y, h1, h2, h3⟩ ⟨y', h1', h2', rfl⟩
  have hC2 : Cp M' N' := ⟨tc, n, k, z, O, LL, Cq_fr hq (frQ_V h2) h2'⟩
  by_cases h : 0 ≤ x ∧ x ≤ 999
  · rw [if_pos h] at h3
    rw [if_pos h] at h1'
    obtain ⟨M1, hm, rfl⟩ := h3
    have e : feF (fun m => (seF M1 (bitsF (M 7 0) k) m).1) x 6 0 = feF (fun m => (goB L (vwM N) (N 4 0) (bitsF (N 5 0) k) n m).1) x 6 0 := by
      refine feF_ext2 6 0 (fun j hj => ?_)
      rw [v10, seF_go (msP_ag hm v3 v4) v8 a1 (bitsF_out (fun i hi => (v6.2.2 i hi).1) v7 a1) (by omega)]
    rw [e, fe_eq] at h1
    exact st_fin ⟨_, rfl⟩ h1 h1' hC2
  · rw [if_neg h] at h3
    rw [if_neg h] at h1'
    subst h3
    exact st_fin ⟨_, rfl⟩ h1 h1' hC2
theorem st_missed (x : Int32) : St kI jX6_missed jX7_missed [vi x] := by
  intro w w' d d' M N hd hd' hC
  obtain ⟨tc, n, k, z, O, LL, hq⟩ := id hC
  obtain ⟨L, v1, v2, v3, v4, v5, v6, v7, v8, v9, v10, v11, v12⟩ := Cq_vw hq
  obtain ⟨⟨a1, a2, a3⟩, b, ⟨c1, c2, c3⟩, -⟩ := hq.1
  refine ⟨_, _, ok_X6_missed (by omega) v1 a2 a1 c2 c1 v5 x, ok_X7_missed (by omega) v2 a3 a1 v6 x, ?_⟩
  rintro r M' r' N' ⟨y, h1, h2, h3⟩ ⟨y', h1', h2', rfl⟩
  have hC2 : Cp M' N' := ⟨tc, n, k, z, O, LL, Cq_fr hq (frQ_V h2) h2'⟩
  by_cases h : 0 ≤ x ∧ x ≤ 1
  · rw [if_pos h] at h3
    rw [if_pos h] at h1'
    obtain ⟨M1, hm, rfl⟩ := h3
    rw [v10, mi_eq (msP_ag hm v3 v4) v8 a1 (bitsF_out (fun i hi => (v6.2.2 i hi).1) v7 a1) v7] at h1
    exact st_fin ⟨_, rfl⟩ h1 h1' hC2
  · rw [if_neg h] at h3
    rw [if_neg h] at h1'
    subst h3
    exact st_fin ⟨_, rfl⟩ h1 h1' hC2

