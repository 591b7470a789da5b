/-! both: images -/
theorem blk_in {M : Mem} {c e t j : Nat} (h : (2 ≤ t ∧ t ≤ 7 ∧ j < 8) ∨ (t = 1 ∧ 6 ≤ j ∧ j ≤ 9)) : blk M c e t c j = M t e j := if_pos ⟨rfl, h⟩
theorem blk_out {M : Mem} {c e t i j : Nat} (h : ¬ (i = c ∧ 1 ≤ t ∧ t ≤ 7)) : blk M c e t i j = M t i j := if_neg (fun q => h ⟨q.1, by omega, by omega⟩)
/-- a crew that is taken over, whole -/
theorem crJ_blk {tc n k c e : Nat} {O : Nat → Nat} {M M' : Mem} {kd mo rw fe od : Nat → Int32} {cn ck cr cl : Int32} (h : crJ tc n k O M e kd mo rw fe od cn ck cr cl) (hb : ∀ t j, 1 ≤ t → t ≤ 7 → M' t c j = blk M c e t c j) : crJ tc n k O M' c kd mo rw fe od cn ck cr cl := by
  obtain ⟨⟨a1, a2, a3⟩, b, ⟨c1, c2, c3⟩, d, f, ⟨g1, g2⟩, t, h1, h2, h3⟩ := h
  have e1 : ∀ j, 6 ≤ j → j ≤ 9 → M' 1 c j = M 1 e j := fun j p q => by rw [hb 1 j (by decide) (by decide), blk_in (by omega)]
  have e2 : ∀ t j, 2 ≤ t → t ≤ 7 → j < 8 → M' t c j = M t e j := fun t j p q r => by rw [hb t j (by omega) q, blk_in (by omega)]
  refine ⟨⟨a1, by rw [e1 6 (by decide) (by decide)]; exact a2, a3⟩, fun q hq => ?_, ⟨c1, by rw [e1 7 (by decide) (by decide)]; exact c2, c3⟩, fun i hi => by rw [e2 7 i (by decide) (by decide) (by omega)]; exact d i hi, f, ⟨by rw [e1 8 (by decide) (by decide)]; exact g1, g2⟩, t, h1, by rw [e1 9 (by decide) (by decide)]; exact h2, h3⟩
  rw [e2 2 q (by decide) (by decide) (by omega), e2 3 q (by decide) (by decide) (by omega), e2 4 q (by decide) (by decide) (by omega), e2 5 q (by decide) (by decide) (by omega), e2 6 q (by decide) (by decide) (by omega)]
  exact b q hq
/-- what the reference holds, written elsewhere -/
theorem crJ_re {tc n k c : Nat} {O : Nat → Nat} {M : Mem} {kd mo rw fe od kd' mo' rw' fe' od' : Nat → Int32} {cn ck cr cl : Int32} (h : crJ tc n k O M c kd mo rw fe od cn ck cr cl) (e1 : ∀ q, q < n → kd' q = kd q ∧ mo' q = mo q) (e2 : ∀ j, j < 16 → rw' j = rw j) (e3 : ∀ j, j < 8 → fe' j = fe j ∧ od' j = od j) : crJ tc n k O M c kd' mo' rw' fe' od' cn ck cr cl := by
  obtain ⟨a, b, c1, d, r⟩ := h
  refine ⟨a, fun q hq => ?_, c1, fun i hi => ?_, r⟩
  · rw [(e1 q hq).1, (e1 q hq).2, e2 _ (by omega), e2 _ (by omega), (e3 q (by omega)).1]
    exact b q hq
  · rw [(e3 i (by omega)).2]
    exact d i hi
theorem st_image : St kI jX6_image jX7_image [] := by
  intro w w' d d' M N hd hd' hC
  obtain ⟨tc, n, k, z, O, LL, hq⟩ := id hC
  refine ⟨_, _, ok_X6_image (by omega), ok_X7_image, ?_⟩
  rintro r M' r' N' ⟨y, h1, rfl, rfl⟩ ⟨y', h1', rfl, rfl⟩
  obtain ⟨h1c, h2, h3, h4, h5, h6⟩ := hq
  obtain ⟨⟨a1, a2, a3⟩, -⟩ := id h1c
  have n4 : ∀ t i j, t ≠ 9 → t ≠ 10 → ¬ (t = 0 ∧ j = 14) → imM N t i j = N t i j := fun t i j p1 p2 p3 => by
    unfold imM
    simp only [up_apply, upr_apply]
    repeat (first | rw [if_neg (by omega)])
  have n9 : ∀ j, imM N 9 0 j = imA N 16 8 j := fun j => by
    unfold imM
    simp only [up_apply, upr_apply, and_self, if_true]
    repeat (first | rw [if_neg (by omega)])
  have m4 : ∀ t i j, ¬ (i = 1 ∧ 1 ≤ t ∧ t ≤ 7) → ¬ (t = 0 ∧ j = 3) → up (blk M 1 0) 0 0 3 1 t i j = M t i j := fun t i j p1 p2 => by rw [up_apply, if_neg (by omega), blk_out p1]
  have f4 : ∀ t, t ≠ 9 → t ≠ 10 → t ≠ 0 → imM N t 0 = N t 0 := fun t p1 p2 p3 => funext fun j => n4 t 0 j p1 p2 (by omega)
  obtain ⟨o3, o4, o5, o6⟩ := oth_fr (M' := up (blk M 1 0) 0 0 3 1) (N' := imM N) ⟨h3, h4, h5, h6⟩ (fun t i j p1 p2 => m4 t i j (by omega) p2) (fun t i j p1 p2 p3 p4 p5 => n4 t i j p2 p3 (by omega))
  refine st_fin ⟨_, rfl⟩ h1 (by rw [h1', a2, a3]) ⟨tc, n, k, z, O, LL, ?_, ?_, o3, o4, o5, o6⟩
  · unfold curJ
    rw [f4 1 (by decide) (by decide) (by decide), f4 2 (by decide) (by decide) (by decide), f4 3 (by decide) (by decide) (by decide), f4 4 (by decide) (by decide) (by decide), f4 5 (by decide) (by decide) (by decide), n4 0 0 0 (by omega) (by omega) (by omega), n4 0 0 6 (by omega) (by omega) (by omega), n4 0 0 7 (by omega) (by omega) (by omega), n4 0 0 13 (by omega) (by omega) (by omega)]
    exact crJ_M h1c (fun t j p1 p2 => m4 t 0 j (by omega) (by omega))
  · refine Or.inr ⟨by rw [up_same], ?_, n, k, O, Nat.le_refl _, ?_⟩
    · rfl
    · have t0 : imM N 10 0 0 = N 0 0 0 ∧ imM N 10 0 1 = N 0 0 6 ∧ imM N 10 0 2 = N 0 0 7 ∧ imM N 10 0 3 = N 0 0 13 := ⟨rfl, rfl, rfl, rfl⟩
      unfold imgJ
      rw [f4 1 (by decide) (by decide) (by decide), f4 2 (by decide) (by decide) (by decide), t0.1, t0.2.1, t0.2.2.1, t0.2.2.2]
      refine crJ_re (crJ_blk (c := 1) h1c (fun t j p1 p2 => by rw [up_apply, if_neg (by omega)])) (fun q _ => ⟨rfl, rfl⟩) (fun j hj => ?_) (fun j hj => ⟨?_, ?_⟩)
      · rw [n9, imA, if_pos hj]
      · rw [n9, imA, if_neg (by omega), if_pos (by omega), Nat.add_sub_cancel_left]
      · rw [n9, imA, if_neg (by omega), if_neg (by omega), if_pos (by omega), Nat.add_sub_cancel_left]
theorem st_back : St kI jX6_back jX7_back [] := by
  intro w w' d d' M N hd hd' hC
  obtain ⟨tc, n, k, z, O, LL, hq⟩ := id hC
  refine ⟨_, _, ok_X6_back (by omega), ok_X7_back, ?_⟩
  rintro r M' r' N' ⟨y, h1, h2e⟩ ⟨y', h1', h2e'⟩
  obtain ⟨h1c, h2, h3, h4, h5, h6⟩ := hq
  rcases h2 with ⟨q1, q2⟩ | ⟨q1, q2, n', k', O', q3, q4⟩
  · rw [if_pos q1] at h2e
    rw [if_pos q2] at h2e'
    obtain ⟨rfl, rfl⟩ := h2e
    obtain ⟨rfl, rfl⟩ := h2e'
    exact st_fin ⟨_, rfl⟩ h1 h1' hC
  · rw [if_neg (by rw [q1]; decide)] at h2e
    rw [if_neg (by rw [q2]; decide)] at h2e'
    obtain ⟨rfl, rfl⟩ := h2e
    obtain ⟨rfl, rfl⟩ := h2e'
    obtain ⟨⟨a1, a2, a3⟩, -⟩ := id q4
    have n4 : ∀ t i j, t ≠ 3 → t ≠ 4 → t ≠ 5 → ¬ (t = 0 ∧ (j = 0 ∨ j = 6 ∨ j = 7 ∨ j = 13)) → baM N t i j = N t i j := fun t i j p1 p2 p3 p4 => by
      unfold baM baA
      simp only [up_apply, upr_apply]
      repeat (first | rw [if_neg (by omega)])
    have f4 : ∀ t, t ≠ 3 → t ≠ 4 → t ≠ 5 → t ≠ 0 → baM N t 0 = N t 0 := fun t p1 p2 p3 p4 => funext fun j => n4 t 0 j p1 p2 p3 (by omega)
    have n3 : (∀ j, j < 16 → baM N 3 0 j = N 9 0 j) ∧ ∀ j, j < 8 → baM N 4 0 j = N 9 0 (16 + j) ∧ baM N 5 0 j = N 9 0 (24 + j) := by
      unfold baM baA
      simp only [up_apply, upr_apply, and_self, if_true]
      refine ⟨fun j hj => ?_, fun j hj => ⟨?_, ?_⟩⟩
      all_goals (repeat (first | rw [if_neg (by omega)] | rw [if_pos (by omega)]))
    have t0 : baM N 0 0 0 = N 10 0 0 ∧ baM N 0 0 6 = N 10 0 1 ∧ baM N 0 0 7 = N 10 0 2 ∧ baM N 0 0 13 = N 10 0 3 := ⟨rfl, rfl, rfl, rfl⟩
    have m4 : ∀ t i j, ¬ (i = 0 ∧ 1 ≤ t ∧ t ≤ 7) → blk M 0 1 t i j = M t i j := fun t i j p => blk_out p
    obtain ⟨o3, o4, o5, o6⟩ := oth_fr (M' := blk M 0 1) (N' := baM N) ⟨h3, h4, h5, h6⟩ (fun t i j p1 p2 => m4 t i j (by omega)) (fun t i j p1 p2 p3 p4 p5 => n4 t i j (by omega) (by omega) (by omega) (by omega))
    refine st_fin ⟨_, rfl⟩ h1 (by rw [h1', a2, a3]) ⟨tc, n', k', z, O', LL, ?_, ?_, o3, o4, o5, o6⟩
    · unfold curJ
      rw [f4 1 (by decide) (by decide) (by decide) (by decide), f4 2 (by decide) (by decide) (by decide) (by decide), t0.1, t0.2.1, t0.2.2.1, t0.2.2.2]
      exact crJ_re (crJ_blk (c := 0) q4 (fun t j p1 p2 => rfl)) (fun q _ => ⟨rfl, rfl⟩) (fun j hj => n3.1 j hj) (fun j hj => ⟨(n3.2 j hj).1, (n3.2 j hj).2⟩)
    · refine Or.inr ⟨by rw [m4 0 0 3 (by omega)]; exact q1, by rw [n4 0 0 14 (by omega) (by omega) (by omega) (by omega)]; exact q2, n', k', O', Nat.le_refl _, ?_⟩
      unfold imgJ
      rw [f4 1 (by decide) (by decide) (by decide) (by decide), f4 2 (by decide) (by decide) (by decide) (by decide), f4 9 (by decide) (by decide) (by decide) (by decide), f4 10 (by decide) (by decide) (by decide) (by decide)]
      exact crJ_M q4 (fun t j p1 p2 => m4 t 1 j (by omega))

