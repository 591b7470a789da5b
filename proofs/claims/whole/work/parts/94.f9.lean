/-! both: calls that write a sheet -/
theorem st_cell (s i v : Int32) : St kI jX6_cell jX7_cell [vi s, vi i, vi v] := by
  by_cases hs : 0 ≤ s ∧ s ≤ 3
  · obtain ⟨q, hq4, rfl⟩ := sh4 hs
    intro w w' d d' M N hd hd' hC
    obtain ⟨tc, n, k, z, O, LL, hq⟩ := id hC
    have hsh := hq.2.2.2.2.1
    obtain ⟨s1, ⟨m, m1, m2, m3⟩, s3⟩ := hsh q hq4
    refine ⟨_, _, ok_X6_cell (by omega) hq4 m2 m1 i v, ok_X7_cell (by omega) hq4 m3 m1 i v, ?_⟩
    rintro r M' r' N' ⟨y, h1, h2⟩ ⟨y', h1', h2'⟩
    rw [s1, m2] at h2
    by_cases ha : N 11 0 q = -1
    · rw [if_pos ha] at h2 h2'
      obtain ⟨rfl, rfl⟩ := h2
      obtain ⟨rfl, rfl⟩ := h2'
      exact st_fin ⟨_, rfl⟩ h1 h1' hC
    · rw [if_neg ha] at h2 h2'
      by_cases hi : 0 ≤ i ∧ i < nI m
      · rw [if_pos hi] at h2 h2'
        obtain ⟨rfl, rfl⟩ := h2
        obtain ⟨rfl, rfl⟩ := h2'
        obtain ⟨i, hi31, rfl⟩ := nI_of (Int32.not_lt.mpr hi.1)
        have him : i < m := (nI_ltI hi31 (by omega)).1 hi.2
        rw [nI_clamp hi31]
        refine st_fin ⟨_, rfl⟩ h1 h1' ⟨tc, n, k, z, O, LL, Cq_sh hq (fun t i' j a b => by rw [up_apply, if_neg (by omega)]) (fun t i' j a b c => by rw [up_apply, if_neg (by omega)]) (fun s hs4 => ?_)⟩
        obtain ⟨e1, ⟨m', e2, e3, e4⟩, e5⟩ := hsh s hs4
        refine ⟨e1, ⟨m', e2, e3, e4⟩, fun j hj => ?_⟩
        rw [up_apply, up_apply]
        by_cases t : s = q ∧ j = i
        · rw [if_pos ⟨rfl, t.1, t.2⟩, if_pos (by omega)]
        · rw [if_neg (by omega), if_neg (by omega)]
          exact e5 j hj
      · rw [if_neg hi] at h2 h2'
        obtain ⟨rfl, rfl⟩ := h2
        obtain ⟨rfl, rfl⟩ := h2'
        exact st_fin ⟨_, rfl⟩ h1 h1' hC
  · exact st_no (fun w d M hd => no_X6_cell (by omega) hs i v) (fun w d N hd => no_X7_cell (by omega) hs i v)
/-- a sheet, written anew -/
theorem sh_new {M N : Mem} {q m : Nat} (h : shJ M N) (hm : m ≤ 40) {so : Int32} {g f : Nat → Int32} (hg : ∀ j, j < 40 → f j = g j) (hq : q < 4) : shJ (upr (up (up M 19 q 1 so) 19 q 2 (nI m)) 20 q f) (shS (up (up N 11 0 q so) 12 0 q (nI m)) q 40 g) := by
  intro s hs
  obtain ⟨e1, ⟨m', e2, e3, e4⟩, e5⟩ := h s hs
  unfold shS
  simp only [upr_apply, up_apply]
  by_cases t : s = q
  · subst t
    refine ⟨?_, ⟨m, hm, ?_, ?_⟩, fun j hj => ?_⟩
    · simp
    · simp
    · simp
    · simp only [and_self, true_and, if_true]
      rw [if_pos (by omega), Nat.add_sub_cancel_left]
      exact hg j hj
  · refine ⟨?_, ⟨m', e2, ?_, ?_⟩, fun j hj => ?_⟩
    · simp [t, e1]
    · simp [t, e3]
    · simp [t, e4]
    · simp only [and_self, true_and, if_true]
      have hn : ¬ (40 * q ≤ 40 * s + j ∧ 40 * s + j < 40 * q + 40) := by omega
      simp [t, hn, e5 j hj]
theorem st_sheet (s so x : Int32) : St kI jX6_sheet jX7_sheet [vi s, vi so, vi x] := by
  by_cases hs : 0 ≤ s ∧ s ≤ 3
  · obtain ⟨q, hq4, rfl⟩ := sh4 hs
    intro w w' d d' M N hd hd' hC
    obtain ⟨tc, n, k, z, O, LL, hq⟩ := id hC
    have hsh := hq.2.2.2.2.1
    refine ⟨_, _, ok_X6_sheet (by omega) hq4 so x, ok_X7_sheet (by omega) hq4 so x, ?_⟩
    rintro r M' r' N' ⟨y, h1, h2⟩ ⟨y', h1', h2'⟩
    have new : ∀ so m, m ≤ 40 → Cp (zer M q so (nI m)) (shZ N q so (nI m)) := fun so m hm => by
      unfold zer shZ
      refine ⟨tc, n, k, z, O, LL, Cq_sh hq (fun t i j a b => ?_) (fun t i j a b c => ?_) (sh_new hsh hm (fun j hj => if_pos hj) hq4)⟩
      · simp only [upr_apply, up_apply]
        repeat (first | rw [if_neg (by omega)])
      · unfold shS
        simp only [upr_apply, up_apply]
        repeat (first | rw [if_neg (by omega)])
    by_cases ha : so = -1
    · rw [if_pos ha] at h2 h2'
      obtain ⟨rfl, rfl⟩ := h2
      obtain ⟨rfl, rfl⟩ := h2'
      exact st_fin ⟨_, rfl⟩ h1 h1' (new (-1) 0 (by decide))
    · rw [if_neg ha] at h2 h2'
      by_cases hx : (0 ≤ so ∧ so ≤ 2) ∧ x ≤ 40
      · rw [if_pos hx] at h2 h2'
        by_cases h0 : x < 0
        · rw [if_pos h0] at h2 h2'
          obtain ⟨rfl, rfl⟩ := h2
          obtain ⟨rfl, rfl⟩ := h2'
          exact st_fin ⟨_, rfl⟩ h1 h1' hC
        · rw [if_neg h0] at h2 h2'
          obtain ⟨rfl, rfl⟩ := h2
          obtain ⟨rfl, rfl⟩ := h2'
          obtain ⟨m, hm, rfl⟩ := nI_of2 (n := 40) (M := 40) (by decide) h0 hx.2
          exact st_fin ⟨_, rfl⟩ h1 h1' (new so m hm)
      · rw [if_neg hx] at h2 h2'
        obtain ⟨rfl, rfl⟩ := h2
        obtain ⟨rfl, rfl⟩ := h2'
        exact st_fin ⟨_, rfl⟩ h1 h1' hC
  · exact st_no (fun w d M hd => no_X6_sheet (by omega) hs so x) (fun w d N hd => no_X7_sheet (by omega) hs so x)
theorem flM_eq {L : List (List Op)} {V : Vw} {O : Nat → Nat} {M : Mem} {q : Nat} : ∀ i t s j, flM L V O M q i t s j = if t = 20 ∧ s = q ∧ j < i then hiS L V O (j + 1) else M t s j := by
  intro i
  induction i with
  | zero => intro t s j; rw [flM, if_neg (by omega)]
  | succ i ih =>
    intro t s j
    rw [flM, up_apply, ih]
    by_cases e : t = 20 ∧ s = q ∧ j = i
    · rw [if_pos e, if_pos (by omega), e.2.2]
    · rw [if_neg e]
      by_cases e2 : t = 20 ∧ s = q ∧ j < i
      · rw [if_pos e2, if_pos (by omega)]
      · rw [if_neg e2, if_neg (by omega)]
theorem st_film (s : Int32) : St kI jX6_film jX7_film [vi s] := by
  by_cases hs : 0 ≤ s ∧ s ≤ 3
  · obtain ⟨q, hq4, rfl⟩ := sh4 hs
    intro w w' d d' M N hd hd' hC
    obtain ⟨tc, n, k, z, O, LL, hq⟩ := id hC
    obtain ⟨L, v1, v2, v3, v4, v5, v6, v7, v8, v9, v10, v11, v12⟩ := Cq_vw hq
    obtain ⟨⟨a1, a2, a3⟩, bb, ⟨c1, c2, c3⟩, dd, -⟩ := id hq.1
    have hsh := hq.2.2.2.2.1
    refine ⟨_, _, ok_X6_film (by omega) v1 hq4 c2 c1 v5, ok_X7_film (by omega) v2 hq4 v6 a1, ?_⟩
    rintro r M' r' N' ⟨y, h1, rfl, rfl⟩ ⟨y', h1', rfl, rfl⟩
    have e : flM L (vwC M 0) O (zer M q 2 (nI k)) q k = upr (up (up M 19 q 1 2) 19 q 2 (nI k)) 20 q (fun j => if j < k then hiS L (vwC M 0) O (j + 1) else if j < 40 then 0 else M 20 q j) := by
      funext t s j
      rw [flM_eq, upr_apply]
      unfold zer
      rw [upr_apply]
      by_cases t1 : t = 20 ∧ s = q
      · by_cases t2 : j < k
        · rw [if_pos ⟨t1.1, t1.2, t2⟩, if_pos t1, if_pos t2]
        · rw [if_neg (by omega), if_pos t1, if_pos t1, if_neg t2]
      · rw [if_neg (by omega), if_neg t1, if_neg t1]
    rw [e]
    refine st_fin ⟨_, rfl⟩ h1 h1' ⟨tc, n, k, z, O, LL, Cq_sh hq (fun t i j a b => ?_) (fun t i j a b c => ?_) (sh_new hsh (by omega) (fun j hj => ?_) hq4)⟩
    · simp only [upr_apply, up_apply]
      repeat (first | rw [if_neg (by omega)])
    · unfold shS
      simp only [upr_apply, up_apply]
      repeat (first | rw [if_neg (by omega)])
    · unfold fiG
      by_cases t : j < k
      · rw [if_pos t, if_pos t, ag_hi v3 (j + 1) (fun i hi => v7 i (by omega))]
      · rw [if_neg t, if_neg t, if_pos hj]
  · exact st_no (fun w d M hd => no_X6_film (by omega) hs) (fun w d N hd => no_X7_film (by omega) hs)
theorem st_copy (s i o j x : Int32) : St kI jX6_copy jX7_copy [vi s, vi i, vi o, vi j, vi x] := by
  by_cases hs : (0 ≤ s ∧ s ≤ 3) ∧ 0 ≤ o ∧ o ≤ 3
  · obtain ⟨q, hq4, rfl⟩ := sh4 hs.1
    obtain ⟨o, ho4, rfl⟩ := sh4 hs.2
    intro w w' d d' M N hd hd' hC
    obtain ⟨tc, n, k, z, O, LL, hq⟩ := id hC
    have hsh := hq.2.2.2.2.1
    obtain ⟨s1, ⟨m, m1, m2, m3⟩, s3⟩ := hsh q hq4
    obtain ⟨u1, ⟨p, p1, p2, p3⟩, u3⟩ := hsh o ho4
    refine ⟨_, _, ok_X6_copy (by omega) hq4 ho4 m2 m1 p2 p1 i j x, ok_X7_copy (by omega) hq4 ho4 m3 m1 p3 p1 i j x, ?_⟩
    rintro r M' r' N' ⟨y, h1, h2⟩ ⟨y', h1', h2'⟩
    rw [s1, u1, m2, p2] at h2
    have keep : y = y' → M' = M → N' = N → (∃ v, kI v ∧ r = some v ∧ r' = some v) ∧ Cp M' N' := by
      rintro rfl rfl rfl
      exact st_fin ⟨_, rfl⟩ h1 h1' hC
    by_cases ha : N 11 0 q = -1 ∨ N 11 0 o = -1
    · rw [if_pos ha] at h2 h2'
      exact keep (h2.1.trans h2'.1.symm) h2.2 h2'.2
    · rw [if_neg ha] at h2 h2'
      by_cases hb : N 11 0 q = N 11 0 o
      · rw [if_pos hb] at h2 h2'
        have hc : ((0 ≤ i ∧ 0 ≤ x ∧ x ≤ nI m ∧ i ≤ nI m - x) ∧ 0 ≤ j ∧ 0 ≤ x ∧ x ≤ nI p ∧ j ≤ nI p - x) ↔ cpC m p i j x := by
          unfold cpC
          constructor
          · rintro ⟨⟨g1, g2, g3, g4⟩, g5, g6, g7, g8⟩
            exact ⟨⟨g1, g5, g2⟩, (cpc2 m1 g1 g2).1 ⟨g3, g4⟩, (cpc2 p1 g5 g2).1 ⟨g7, g8⟩⟩
          · rintro ⟨⟨g1, g2, g3⟩, g4, g5⟩
            obtain ⟨e1, e2⟩ := (cpc2 m1 g1 g3).2 g4
            obtain ⟨e3, e4⟩ := (cpc2 p1 g2 g3).2 g5
            exact ⟨⟨g1, g3, e1, e2⟩, g2, g3, e3, e4⟩
        by_cases hd : cpC m p i j x
        · rw [if_pos (hc.2 hd)] at h2
          rw [if_pos hd] at h2'
          obtain ⟨eY, rfl⟩ := h2
          obtain ⟨eY', rfl⟩ := h2'
          obtain ⟨-, b1, b2⟩ := hd
          refine st_fin ⟨x, rfl⟩ (by rw [h1, eY]) (by rw [h1', eY']) ⟨tc, n, k, z, O, LL, Cq_sh hq (fun t i' j' a b => by rw [upr_apply, if_neg (by omega)]) (fun t i' j' a b c => by unfold cpG; rw [upr_apply, if_neg (by omega)]) (fun s hs4 => ?_)⟩
          obtain ⟨e1, ⟨m', e2, e3, e4⟩, e5⟩ := hsh s hs4
          refine ⟨e1, ⟨m', e2, e3, e4⟩, fun a h40 => ?_⟩
          unfold cpG va_cpy
          rw [upr_apply, upr_apply]
          rw [if_pos (show (13 : Nat) = 13 ∧ (0 : Nat) = 0 from ⟨rfl, rfl⟩)]
          by_cases t : s = o
          · subst t
            rw [if_pos ⟨rfl, rfl⟩]
            by_cases t2 : j.toNatClampNeg ≤ a ∧ a < j.toNatClampNeg + x.toNatClampNeg
            · rw [if_pos t2, if_pos (by omega), s3 _ (by omega)]
              congr 1
              omega
            · rw [if_neg t2, if_neg (by omega)]
              exact e5 a h40
          · rw [if_neg (fun z => t z.2), if_neg (by omega)]
            exact e5 a h40
        · rw [if_neg (fun t => hd (hc.1 t))] at h2
          rw [if_neg hd] at h2'
          exact keep (h2.1.trans h2'.1.symm) h2.2 h2'.2
      · rw [if_neg hb] at h2 h2'
        exact keep (h2.1.trans h2'.1.symm) h2.2 h2'.2
  · exact st_no (fun w d M hd => no_X6_copy (by omega) hs i j x) (fun w d N hd => no_X7_copy (by omega) hs i j x)
theorem pbL_ext {g g' : Nat → Int32} {m : Nat} (hm : m ≤ 40) {fr : Int32} (h : ∀ i, i < 40 → g i = g' i) : ∀ r k n c, pbL g (nI m) fr r k n c = pbL g' (nI m) fr r k n c := by
  intro r
  induction r with
  | zero => intro k n c; rfl
  | succ r ih =>
    intro k n c
    rw [pbL, pbL]
    by_cases hp : pbC (nI m) (fr + 2 * nI k)
    · obtain ⟨a, ha31, e⟩ := nI_of (Int32.not_lt.mpr hp.1)
      have h2 : 2 ≤ m := (nI_leI (a := 2) (by decide) (by omega)).1 hp.2.1
      have h3 : a ≤ m - 2 := by
        have := hp.2.2
        rw [e, show nI m - 2 = nI (m - 2) by
          apply Int32.toInt_inj.mp
          rw [show (2 : Int32) = nI 2 from rfl, nI_subI (by omega) (by decide), nI_toInt (by omega)]
          omega, nI_leI ha31 (by omega)] at this
        exact this
      rw [if_pos hp, if_pos hp, e, nI_clamp ha31, h a (by omega), h (a + 1) (by omega), ih, ih]
    · rw [if_neg hp, if_neg hp]
theorem Cq_pb {tc k z : Nat} {O : Nat → Nat} {LL : Nat → List (List Op)} {g : Nat → Int32} {m fr : Int32} : ∀ r i n c (M N : Mem), Cq tc n k z O LL M N → ∃ n', Cq tc n' k z O LL (jnM M n (pbL g m fr r i n c).2) (jnN N n (pbL g m fr r i n c).2) := by
  intro r
  induction r with
  | zero => intro i n c M N h; exact ⟨n, h⟩
  | succ r ih =>
    intro i n c M N h
    rw [pbL]
    split
    · split
      · rename_i hp
        exact ih (i + 1) (n + 1) (c + 1) _ _ (Cq_join h hp.2 hp.1)
      · exact ih (i + 1) n c M N h
    · exact ⟨n, h⟩
theorem st_peopleBy (s so fr x : Int32) : St kI jX6_peopleBy jX7_peopleBy [vi s, vi so, vi fr, vi x] := by
  by_cases hs : 0 ≤ s ∧ s ≤ 3
  · obtain ⟨q, hq4, rfl⟩ := sh4 hs
    intro w w' d d' M N hd hd' hC
    obtain ⟨tc, n, k, z, O, LL, hq⟩ := id hC
    obtain ⟨⟨a1, a2, a3⟩, -⟩ := id hq.1
    obtain ⟨s1, ⟨m, m1, m2, m3⟩, s3⟩ := hq.2.2.2.2.1 q hq4
    refine ⟨_, _, ok_X6_peopleBy (by omega) hq4 m2 m1 a2 a1 so fr x, ok_X7_peopleBy (by omega) hq4 m3 m1 a3 a1 so fr x, ?_⟩
    rintro r M' r' N' ⟨y, h1, h2⟩ ⟨y', h1', h2'⟩
    rw [s1, m2, pbL_ext (g' := shN N q) m1 s3] at h2
    have keep : y = y' → M' = M → N' = N → (∃ v, kI v ∧ r = some v ∧ r' = some v) ∧ Cp M' N' := by
      rintro rfl rfl rfl
      exact st_fin ⟨_, rfl⟩ h1 h1' hC
    by_cases ha : (0 ≤ so ∧ so ≤ 2) ∧ 0 ≤ x ∧ x ≤ 8
    · rw [if_pos ha] at h2 h2'
      by_cases hb : N 11 0 q = -1
      · rw [if_pos hb] at h2 h2'
        exact keep (h2.1.trans h2'.1.symm) h2.2 h2'.2
      · rw [if_neg hb] at h2 h2'
        by_cases hc : N 11 0 q = so
        · rw [if_pos hc] at h2 h2'
          obtain ⟨rfl, rfl⟩ := h2
          obtain ⟨rfl, rfl⟩ := h2'
          obtain ⟨n', hn'⟩ := Cq_pb (g := shN N q) (m := nI m) (fr := fr) x.toNatClampNeg 0 n 0 M N hq
          exact st_fin ⟨_, rfl⟩ h1 h1' ⟨tc, n', k, z, O, LL, hn'⟩
        · rw [if_neg hc] at h2 h2'
          exact keep (h2.1.trans h2'.1.symm) h2.2 h2'.2
    · rw [if_neg ha] at h2 h2'
      exact keep (h2.1.trans h2'.1.symm) h2.2 h2'.2
  · exact st_no (fun w d M hd => no_X6_peopleBy (by omega) hs so fr x) (fun w d N hd => no_X7_peopleBy (by omega) hs so fr x)

