/-! both: calls that look at a sheet -/
theorem tkr_in {g : Nat → Int32} {n : Nat} (hn : n ≤ 8) : ∀ r i st, tkr g (nI n) r i st = true → ∀ j, i ≤ j → j < i + r → g j = nI (g j).toNatClampNeg ∧ (g j).toNatClampNeg < n := by
  intro r
  induction r with
  | zero => intro i st _ j a b; omega
  | succ r ih =>
    intro i st h j a b
    rw [tkr] at h
    split at h
    · rename_i hc
      by_cases e : j = i
      · subst e
        obtain ⟨q, e1, e2⟩ := inP hc.1 rfl hn
        rw [e1, nI_clamp (by omega)]
        exact ⟨rfl, e2⟩
      · exact ih (i + 1) _ h j (by omega) (by omega)
    · cases h
theorem tkr_ext {g g' : Nat → Int32} {p : Int32} : ∀ r i st, (∀ j, j < i + r → g j = g' j) → tkr g p r i st = tkr g' p r i st := by
  intro r
  induction r with
  | zero => intro i st _; rfl
  | succ r ih =>
    intro i st h
    rw [tkr, tkr, h i (by omega), ih (i + 1) _ (fun j hj => h j (by omega))]
theorem fo_q {L : List (List Op)} {n m k : Nat} {V V' : Vw} {O : Nat → Nat} {g g' : Nat → Int32} (h : vag n V V') (hO : rin O k n) (hmk : m ≤ k) (hg : ∀ i, i < m → g i = g' i) : foF L V O g (min m k) 0 0 = foF L V' O g' m 0 0 := by
  rw [Nat.min_eq_left hmk]
  exact ag_fo h m 0 0 (fun j hj => hO j (by omega)) (fun j hj => hg j (by omega))
theorem sh4 {s : Int32} (h : 0 ≤ s ∧ s ≤ 3) : ∃ q, q < 4 ∧ s = nI q := by
  obtain ⟨q, hq, e⟩ := nI_of2 (n := 3) (M := 3) (by decide) (Int32.not_lt.mpr h.1) h.2
  exact ⟨q, by omega, e⟩
theorem st_no {j1 j2 : MI} {as : List AV} (h1 : ∀ (w : Wd) d M, 5 ≤ d → lr_Ok tC sC w d j1 (vo 0 0 :: as) M (qI (-2) M)) (h2 : ∀ (w : Wd) d N, 5 ≤ d → lr_Ok tM sM w d j2 (vo 0 0 :: as) N (qI (-2) N)) : St kI j1 j2 as := by
  intro w w' d d' M N hd hd' hC
  refine ⟨_, _, h1 w d M (by omega), h2 w' d' N (by omega), ?_⟩
  rintro r M' r' N' ⟨a, rfl⟩ ⟨b, rfl⟩
  exact st_fin ⟨_, rfl⟩ a b hC
theorem st_stand (s x : Int32) : St kI jX6_stand jX7_stand [vi s, vi x] := by
  by_cases hs : 0 ≤ s ∧ s ≤ 3
  · obtain ⟨q, hq4, rfl⟩ := sh4 hs
    intro w w' d d' M N hd hd' hC
    obtain ⟨tc, n, k, z, O, LL, hq⟩ := id hC
    obtain ⟨L, v1, v2, v3, v4, v5, v6, v7, v8, v9, v10, v11, v12⟩ := Cq_vw hq
    obtain ⟨⟨a1, a2, a3⟩, bb, -⟩ := id hq.1
    obtain ⟨s1, ⟨m, m1, m2, m3⟩, s3⟩ := hq.2.2.2.2.1 q hq4
    have et : tkr (shN N q) (nI n) m 0 0 = tkr (M 20 q) (M 1 0 6) m 0 0 := by rw [a2]; exact tkr_ext m 0 0 (fun j hj => (s3 j (by omega)).symm)
    have hin : tkr (M 20 q) (M 1 0 6) m 0 0 = true → ∀ i, i < m → M 20 q i = nI (M 20 q i).toNatClampNeg ∧ (M 20 q i).toNatClampNeg < n := fun h i hi => by
      rw [a2] at h
      exact tkr_in a1 m 0 0 h i (Nat.zero_le _) (by omega)
    refine ⟨_, _, ok_X6_stand (by omega) v1 hq4 m2 m1 a2 a1 x (fun i => (M 20 q i).toNatClampNeg) (fun _ h i hi => ⟨(hin h i hi).1, Nat.lt_of_lt_of_le (hin h i hi).2 a1⟩), ok_X7_stand (by omega) v2 hq4 m3 m1 a3 a1 x (fun i => (M 20 q i).toNatClampNeg) (fun _ h i hi => ?_), ?_⟩
    · rw [et] at h
      rw [← show M 20 q i = shN N q i from s3 i (by omega)]
      exact hin h i hi
    · rintro r M' r' N' ⟨y, h1, h2, rfl⟩ ⟨y', h1', h2', rfl⟩
      refine st_fin ⟨_, rfl⟩ h1 ?_ ⟨tc, n, k, z, O, LL, Cq_fr hq (frT_V (Or.inl rfl) h2) h2'⟩
      rw [h1', s1, et]
      by_cases h : m ≤ 8 ∧ tkr (M 20 q) (M 1 0 6) m 0 0 = true
      · rw [if_pos h, if_pos h, ag_mea v3 v4 (fun i hi => (hin h.2 i hi).2)]
      · rw [if_neg h, if_neg h]
  · exact st_no (fun w d M hd => no_X6_stand hd hs x) (fun w d N hd => no_X7_stand (by omega) hs x)
theorem mk_of {M : Mem} {m k : Nat} (hm : m ≤ 40) (hk8 : k ≤ 8) (h : nI m ≤ nI k) : m ≤ k := (nI_leI (by omega) (by omega)).1 h
theorem st_judge (s : Int32) : St kI jX6_judge jX7_judge [vi s] := by
  by_cases hs : 0 ≤ s ∧ s ≤ 3
  · obtain ⟨q, hq4, rfl⟩ := sh4 hs
    intro w w' d d' M N hd hd' hC
    obtain ⟨tc, n, k, z, O, LL, hq⟩ := id hC
    obtain ⟨L, v1, v2, v3, v4, v5, v6, v7, v8, v9, v10, v11, v12⟩ := Cq_vw hq
    obtain ⟨⟨a1, a2, a3⟩, bb, ⟨c1, c2, c3⟩, -⟩ := id hq.1
    obtain ⟨s1, ⟨m, m1, m2, m3⟩, s3⟩ := hq.2.2.2.2.1 q hq4
    refine ⟨_, _, ok_X6_judge (by omega) v1 hq4 m2 m1 c2 c1 v5, ok_X7_judge (by omega) v2 hq4 m3 m1 v6 a1, ?_⟩
    rintro r M' r' N' ⟨h1, eM⟩ ⟨h2, eN⟩
    obtain rfl := eM.symm
    obtain rfl := eN.symm
    refine st_fin ⟨_, rfl⟩ h1 ?_ hC
    rw [h2, s1, m2, m3, c2, c3]
    by_cases h : nI m ≤ nI k
    · rw [if_pos h, if_pos h, fo_q v3 v7 (mk_of (M := M) m1 c1 h) (fun i hi => s3 i (by omega))]
      rfl
    · rw [if_neg h, if_neg h]
  · exact st_no (fun w d M hd => no_X6_judge hd hs) (fun w d N hd => no_X7_judge hd hs)
theorem st_kinds (s p x : Int32) : St kI jX6_kinds jX7_kinds [vi s, vi p, vi x] := by
  by_cases hs : 0 ≤ s ∧ s ≤ 3
  · obtain ⟨q, hq4, rfl⟩ := sh4 hs
    intro w w' d d' M N hd hd' hC
    obtain ⟨tc, n, k, z, O, LL, hq⟩ := id hC
    obtain ⟨L, v1, v2, v3, v4, v5, v6, v7, v8, v9, v10, v11, v12⟩ := Cq_vw hq
    obtain ⟨⟨a1, a2, a3⟩, bb, ⟨c1, c2, c3⟩, -⟩ := id hq.1
    obtain ⟨s1, ⟨m, m1, m2, m3⟩, s3⟩ := hq.2.2.2.2.1 q hq4
    refine ⟨_, _, ok_X6_kinds (by omega) v1 hq4 m2 m1 a2 a1 c2 c1 v5 p x, ok_X7_kinds (by omega) v2 hq4 m3 m1 a3 v6 a1 p x, ?_⟩
    rintro r M' r' N' ⟨y, h1, h2, rfl⟩ ⟨y', h1', eN, rfl⟩
    obtain rfl := eN.symm
    refine st_fin ⟨_, rfl⟩ h1 ?_ ⟨tc, n, k, z, O, LL, Cq_fr hq (frC_V h2) (fun _ _ _ _ _ => rfl)⟩
    rw [h1', s1, m2, m3, c2, c3, a2]
    by_cases h : nI m ≤ nI k
    · have hmk := mk_of (M := M) m1 c1 h
      rw [if_pos h, if_pos h]
      have e1 : bitA (kdG M L O q (min m k) p.toNatClampNeg) 6 0 0 = bitA (fun v => foF L (kdV (vwM N) p.toNatClampNeg (nI v)) O (shN N q) m 0 0 = -1) 6 0 0 := bitA_ext 6 0 0 (fun i _ _ => by
        unfold kdG
        rw [fo_q (g' := shN N q) (vag_kd v3) v7 hmk (fun i hi => s3 i (by omega))])
      have e2 : bitA (moG M L O q (min m k) p.toNatClampNeg) 10 0 0 = bitA (fun v => foF L (moV (vwM N) p.toNatClampNeg (nI v)) O (shN N q) m 0 0 = -1) 10 0 0 := bitA_ext 10 0 0 (fun i _ _ => by
        unfold moG
        rw [fo_q (g' := shN N q) (vag_mo v3) v7 hmk (fun i hi => s3 i (by omega))])
      rw [e1, e2]
    · rw [if_neg h, if_neg h]
  · exact st_no (fun w d M hd => no_X6_kinds hd hs p x) (fun w d N hd => no_X7_kinds hd hs p x)
theorem st_heights (s p x : Int32) : St kI jX6_heights jX7_heights [vi s, vi p, vi x] := by
  by_cases hs : 0 ≤ s ∧ s ≤ 3
  · obtain ⟨q, hq4, rfl⟩ := sh4 hs
    intro w w' d d' M N hd hd' hC
    obtain ⟨tc, n, k, z, O, LL, hq⟩ := id hC
    obtain ⟨L, v1, v2, v3, v4, v5, v6, v7, v8, v9, v10, v11, v12⟩ := Cq_vw hq
    obtain ⟨⟨a1, a2, a3⟩, bb, ⟨c1, c2, c3⟩, -⟩ := id hq.1
    obtain ⟨s1, ⟨m, m1, m2, m3⟩, s3⟩ := hq.2.2.2.2.1 q hq4
    refine ⟨_, _, ok_X6_heights (by omega) v1 hq4 m2 m1 a2 a1 c2 c1 v5 p x, ok_X7_heights (by omega) v2 hq4 m3 m1 a3 v6 a1 p x, ?_⟩
    rintro r M' r' N' ⟨y, h1, h2, rfl⟩ ⟨y', h1', eN, rfl⟩
    obtain rfl := eN.symm
    refine st_fin ⟨_, rfl⟩ h1 ?_ ⟨tc, n, k, z, O, LL, Cq_fr hq (frC_V h2) (fun _ _ _ _ _ => rfl)⟩
    rw [h1', s1, m2, m3, c2, c3, a2]
    by_cases h : nI m ≤ nI k
    · have hmk := mk_of (M := M) m1 c1 h
      rw [if_pos h, if_pos h]
      have e1 : yeF (hgG M L O q (min m k) p.toNatClampNeg) 100 (0, -1) = yuF (fun v => foF L (hgV (vwM N) p.toNatClampNeg (nI v)) O (shN N q) m 0 0 = -1) 100 0 (0, -1) := by
        rw [ye_eq]
        exact yuF_ext 100 0 _ (fun i _ _ => by
          unfold hgG
          rw [fo_q (g' := shN N q) (vag_hg v3) v7 hmk (fun i hi => s3 i (by omega))])
      rw [e1]
    · rw [if_neg h, if_neg h]
  · exact st_no (fun w d M hd => no_X6_heights hd hs p x) (fun w d N hd => no_X7_heights hd hs p x)
theorem st_years (s x : Int32) : St kI jX6_years jX7_years [vi s, vi x] := by
  by_cases hs : 0 ≤ s ∧ s ≤ 3
  · obtain ⟨q, hq4, rfl⟩ := sh4 hs
    intro w w' d d' M N hd hd' hC
    obtain ⟨tc, n, k, z, O, LL, hq⟩ := id hC
    obtain ⟨L, v1, v2, v3, v4, v5, v6, v7, v8, v9, v10, v11, v12⟩ := Cq_vw hq
    obtain ⟨⟨a1, a2, a3⟩, bb, ⟨c1, c2, c3⟩, -⟩ := id hq.1
    obtain ⟨s1, ⟨m, m1, m2, m3⟩, s3⟩ := hq.2.2.2.2.1 q hq4
    refine ⟨_, _, ok_X6_years (by omega) v1 hq4 m2 m1 c2 c1 v5 x, ok_X7_years (by omega) v2 hq4 m3 m1 v6 a1 x, ?_⟩
    rintro r M' r' N' ⟨y, h1, h2, rfl⟩ ⟨y', h1', eN, rfl⟩
    obtain rfl := eN.symm
    refine st_fin ⟨_, rfl⟩ h1 ?_ ⟨tc, n, k, z, O, LL, Cq_fr hq (frC_V h2) (fun _ _ _ _ _ => rfl)⟩
    rw [h1', s1, m2, m3, c2, c3]
    by_cases h : nI m ≤ nI k
    · have hmk := mk_of (M := M) m1 c1 h
      rw [if_pos h, if_pos h]
      have e1 : yeF (yrG M L O q (min m k)) 100 (0, -1) = yuF (fun v => foF L (rsV (vwM N) (nI v)) O (shN N q) m 0 0 = -1) 100 0 (0, -1) := by
        rw [ye_eq]
        exact yuF_ext 100 0 _ (fun i _ _ => by
          unfold yrG
          rw [fo_q (g' := shN N q) (vag_rs v3) v7 hmk (fun i hi => s3 i (by omega))])
      rw [e1]
    · rw [if_neg h, if_neg h]
  · exact st_no (fun w d M hd => no_X6_years hd hs x) (fun w d N hd => no_X7_years hd hs x)
theorem st_laws (s : Int32) : St kI jX6_laws jX7_laws [vi s] := by
  by_cases hs : 0 ≤ s ∧ s ≤ 3
  · obtain ⟨q, hq4, rfl⟩ := sh4 hs
    intro w w' d d' M N hd hd' hC
    obtain ⟨tc, n, k, z, O, LL, hq⟩ := id hC
    obtain ⟨L, v1, v2, v3, v4, v5, v6, v7, v8, v9, v10, v11, v12⟩ := Cq_vw hq
    obtain ⟨⟨a1, a2, a3⟩, bb, ⟨c1, c2, c3⟩, -⟩ := id hq.1
    obtain ⟨x1, x2, x3, x4⟩ := hq.2.2.1
    obtain ⟨s1, ⟨m, m1, m2, m3⟩, s3⟩ := hq.2.2.2.2.1 q hq4
    refine ⟨_, _, ok_X6_laws (by omega) x2 x1 (fun t ht => (x4 t ht).1) hq4 m2 m1 c2 c1 v5, ok_X7_laws (by omega) x3 x1 (fun t ht => (x4 t ht).2) hq4 m3 m1 v6 a1, ?_⟩
    rintro r M' r' N' ⟨y, h1, h2, rfl⟩ ⟨y', h1', eN, rfl⟩
    obtain rfl := eN.symm
    refine st_fin ⟨_, rfl⟩ h1 ?_ ⟨tc, n, k, z, O, LL, Cq_fr hq (frC_V h2) (fun _ _ _ _ _ => rfl)⟩
    rw [h1', s1, m2, m3, c2, c3]
    by_cases h : nI m ≤ nI k
    · have hmk := mk_of (M := M) m1 c1 h
      rw [if_pos h, if_pos h]
      have e1 : bitA (laG M LL O q (min m k)) tc 0 0 = bitA (fun t => foF (LL t) (vwM N) O (shN N q) m 0 0 = -1) tc 0 0 := bitA_ext tc 0 0 (fun i _ _ => by
        unfold laG
        rw [fo_q (g' := shN N q) v3 v7 hmk (fun i hi => s3 i (by omega))])
      rw [e1]
    · rw [if_neg h, if_neg h]
  · exact st_no (fun w d M hd => no_X6_laws hd hs) (fun w d N hd => no_X7_laws hd hs)

