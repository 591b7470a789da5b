/-! both: alike at the start -/
theorem inC_at {M : Mem} (h : inC M) : (∀ t i k, ¬ (t = 12 ∧ i = 0) → ¬ (t = 8 ∧ i = 0 ∧ k = 3) → ¬ (t = 9 ∧ i = 0) → ¬ (t = 10 ∧ i = 0) → ¬ (t = 0 ∧ i = 0 ∧ k = 6) → ¬ (t = 13 ∧ i = 0) → M t i k = m6 t i k) ∧ M 0 0 6 = 1 ∧ M 12 0 1 = 0 ∧ M 13 0 = tap0 ∧ tx M 0 L0 := by
  obtain ⟨Mh, M1, h1, h2, h3, h4, rfl⟩ := h
  refine ⟨fun t i k a b c d e f => ?_, up_same .., ?_, ?_, tx_fr h4 ?_ ?_⟩
  · rw [up_apply, if_neg e, h2 t i k a b c d, h1.2.1 t i k f (fun z => a ⟨z.1, z.2.1⟩)]
  · rw [up_apply, if_neg (by decide), h3]
  · funext k
    rw [up_apply, if_neg (by omega), h2 13 0 k (by omega) (by omega) (by omega) (by omega), heard_tap h1]
  · exact up_of (by decide)
  · exact up_of (by decide)
theorem inM_at {N : Mem} (h : inM N) : (∀ t i k, t ≠ 16 → ¬ (t = 7 ∧ i = 0 ∧ k < 200) → ¬ (t = 8 ∧ i = 0 ∧ k < 4) → ¬ (t = 0 ∧ i = 0 ∧ (k = 9 ∨ k = 12 ∨ (21 ≤ k ∧ k ≤ 29))) → N t i k = n7 t i k) ∧ N 0 0 12 = 1 ∧ N 0 0 9 = 0 ∧ txN N 0 L0 := by
  obtain ⟨h1, h2, h3⟩ := h
  refine ⟨fun t i k a b c d => ?_, ?_, h3, h1⟩
  · rw [h2 t i k a (by omega) (by omega) (by omega), up_apply, if_neg (by omega)]
  · rw [h2 0 0 12 (by omega) (by omega) (by omega) (by omega), up_same]
theorem srt_at : ∀ q, q < 4 → m6 19 q 1 = n7 11 0 q := by decide +kernel
theorem Cp_0 {M N : Mem} (hM : inC M) (hN : inM N) : Cp M N := by
  obtain ⟨a1, a2, a3, a4, a5⟩ := inC_at hM
  obtain ⟨b1, b2, b3, b4⟩ := inM_at hN
  have c1 : ∀ j, j < 21 → j ≠ 9 → j ≠ 12 → N 0 0 j = 0 := fun j x y z => by
    rw [b1 0 0 j (by omega) (by omega) (by omega) (by omega)]
    show (bif Nat.beq j 9 then (50 : Int32) else 0) = 0
    rw [show Nat.beq j 9 = false from by
      cases hb : Nat.beq j 9 with
      | false => rfl
      | true => exact absurd (Nat.eq_of_beq_eq_true hb) y]
    rfl
  refine ⟨1, 0, 0, 0, fun _ => 0, fun _ => L0, ⟨⟨Nat.zero_le _, ?_, ?_⟩, fun q hq => absurd hq (Nat.not_lt_zero q), ⟨Nat.zero_le _, ?_, ?_⟩, fun q hq => absurd hq (Nat.not_lt_zero q), ?_, ⟨?_, 0, by decide, ?_⟩, 0, by decide, ?_, ?_⟩, Or.inl ⟨?_, ?_⟩, ⟨by decide, a2, b2, fun t ht => ?_⟩, ⟨by decide, a3, b3, ?_⟩, fun q hq => ⟨?_, ⟨0, by decide, ?_, ?_⟩, fun i hi => ?_⟩, ?_⟩
  · exact a1 1 0 6 (by omega) (by omega) (by omega) (by omega) (by omega) (by omega)
  · exact c1 0 (by omega) (by omega) (by omega)
  · exact a1 1 0 7 (by omega) (by omega) (by omega) (by omega) (by omega) (by omega)
  · exact c1 6 (by omega) (by omega) (by omega)
  · intro i j hi
    exact absurd hi (Nat.not_lt_zero i)
  · rw [c1 7 (by omega) (by omega) (by omega)]
    exact a1 1 0 8 (by omega) (by omega) (by omega) (by omega) (by omega) (by omega)
  · exact c1 7 (by omega) (by omega) (by omega)
  · exact a1 1 0 9 (by omega) (by omega) (by omega) (by omega) (by omega) (by omega)
  · exact c1 13 (by omega) (by omega) (by omega)
  · exact a1 0 0 3 (by omega) (by omega) (by omega) (by omega) (by omega) (by omega)
  · exact c1 14 (by omega) (by omega) (by omega)
  · have e : t = 0 := by omega
    subst e
    exact ⟨a5, b4⟩
  · rw [a4]
    funext k
    rw [b1 6 0 k (by omega) (by omega) (by omega) (by omega)]
    rfl
  · rw [a1 19 q 1 (by omega) (by omega) (by omega) (by omega) (by omega) (by omega), b1 11 0 q (by omega) (by omega) (by omega) (by omega)]
    exact srt_at q hq
  · exact a1 19 q 2 (by omega) (by omega) (by omega) (by omega) (by omega) (by omega)
  · rw [b1 12 0 q (by omega) (by omega) (by omega) (by omega)]
    rfl
  · rw [a1 20 q i (by omega) (by omega) (by omega) (by omega) (by omega) (by omega), b1 13 0 (40 * q + i) (by omega) (by omega) (by omega) (by omega)]
    rfl
  · intro k hk c hc
    rw [b1 15 0 (8 * k + c) (by omega) (by omega) (by omega) (by omega)]
    exact wdN_7 k hk c hc
