/-! the class and the reference: what they hold alike -/
def pOK (n : Nat) (mo hi fe : Int32) : Prop := (∃ a, a ≤ 9 ∧ mo = nI a) ∧ (∃ a, a ≤ 99 ∧ hi = nI a) ∧ ∀ b, n ≤ b → b < 8 → bt fe b = false
/-- a crew of the class, and what the reference holds of it -/
def crJ (tc n k : Nat) (O : Nat → Nat) (M : Mem) (c : Nat) (kd mo rw fe od : Nat → Int32) (cn ck cr cl : Int32) : Prop :=
  (n ≤ 8 ∧ M 1 c 6 = nI n ∧ cn = nI n) ∧ (∀ q, q < n → (M 2 c q = kd q ∧ M 3 c q = mo q ∧ M 4 c q = rw (2 * q) ∧ M 5 c q = rw (2 * q + 1) ∧ M 6 c q = fe q) ∧ pOK n (mo q) (rw (2 * q)) (fe q)) ∧ (k ≤ 8 ∧ M 1 c 7 = nI k ∧ ck = nI k) ∧ (∀ i, i < k → M 7 c i = nI (O i) ∧ od i = nI (O i) ∧ O i < n) ∧ injO O k ∧ (M 1 c 8 = cr ∧ ∃ u, u ≤ 999 ∧ cr = nI u) ∧ ∃ t, t < tc ∧ M 1 c 9 = nI t ∧ cl = nI t
abbrev curJ (tc n k : Nat) (O : Nat → Nat) (M N : Mem) : Prop := crJ tc n k O M 0 (N 1 0) (N 2 0) (N 3 0) (N 4 0) (N 5 0) (N 0 0 0) (N 0 0 6) (N 0 0 7) (N 0 0 13)
abbrev imgJ (tc n k : Nat) (O : Nat → Nat) (M N : Mem) : Prop := crJ tc n k O M 1 (N 1 0) (N 2 0) (N 9 0) (fun q => N 9 0 (16 + q)) (fun i => N 9 0 (24 + i)) (N 10 0 0) (N 10 0 1) (N 10 0 2) (N 10 0 3)
def imJ (tc n : Nat) (M N : Mem) : Prop := (M 0 0 3 = 0 ∧ N 0 0 14 = 0) ∨ (M 0 0 3 = 1 ∧ N 0 0 14 = 1 ∧ ∃ n' k' O', n' ≤ n ∧ imgJ tc n' k' O' M N)
def shJ (M N : Mem) : Prop := ∀ q, q < 4 → M 19 q 1 = N 11 0 q ∧ (∃ m, m ≤ 40 ∧ M 19 q 2 = nI m ∧ N 12 0 q = nI m) ∧ ∀ i, i < 40 → M 20 q i = N 13 0 (40 * q + i)
def txJ (tc : Nat) (LL : Nat → List (List Op)) (M N : Mem) : Prop := tc ≤ 6 ∧ M 0 0 6 = nI tc ∧ N 0 0 12 = nI tc ∧ ∀ t, t < tc → tx M t (LL t) ∧ txN N t (LL t)
def tpJ (z : Nat) (M N : Mem) : Prop := z ≤ 160 ∧ M 12 0 1 = nI z ∧ N 0 0 9 = nI z ∧ M 13 0 = N 6 0
def Cq (tc n k z : Nat) (O : Nat → Nat) (LL : Nat → List (List Op)) (M N : Mem) : Prop := curJ tc n k O M N ∧ imJ tc n M N ∧ txJ tc LL M N ∧ tpJ z M N ∧ shJ M N ∧ wdN N
def Cp (M N : Mem) : Prop := ∃ tc n k z O LL, Cq tc n k z O LL M N
/-- nothing has changed that counts -/
def frV (M M' : Mem) : Prop := ∀ t i k, (t = 0 ∨ ((1 ≤ t ∧ t ≤ 7) ∧ i < 2) ∨ t = 9 ∨ t = 10 ∨ (t = 12 ∧ k = 1) ∨ t = 13 ∨ t = 19 ∨ t = 20) → M' t i k = M t i k
theorem frV_rf {M : Mem} : frV M M := fun _ _ _ _ => rfl
theorem frT_V {M M' : Mem} {x : Nat} (hx : x = 23 ∨ x = 24) (h : frT x M M') : frV M M' := fun t i k a => by rw [h t (by omega)]
theorem frQ_V {M M' : Mem} (h : frQ M M') : frV M M' := fun t i k a => by rw [h t (by omega) (by omega) (by omega) (by omega) (by omega)]
theorem frC_V {M M' : Mem} (h : frC M M') : frV M M' := fun t i k a => h t i k (by omega)
theorem crJ_M {tc n k c : Nat} {O : Nat → Nat} {M M' : Mem} {kd mo rw fe od : Nat → Int32} {cn ck cr cl : Int32} (h : crJ tc n k O M c kd mo rw fe od cn ck cr cl) (e : ∀ t j, 1 ≤ t → t ≤ 7 → M' t c j = M t c j) : crJ tc n k O M' c kd mo rw fe od cn ck cr cl := by
  obtain ⟨⟨a1, a2, a3⟩, b, ⟨c1, c2, c3⟩, d, f, ⟨g1, g2⟩, t, h1, h2, h3⟩ := h
  refine ⟨⟨a1, by rw [e 1 6 (by decide) (by decide)]; exact a2, a3⟩, fun q hq => ?_, ⟨c1, by rw [e 1 7 (by decide) (by decide)]; exact c2, c3⟩, fun i hi => by rw [e 7 i (by decide) (by decide)]; exact d i hi, f, ⟨by rw [e 1 8 (by decide) (by decide)]; exact g1, g2⟩, t, h1, by rw [e 1 9 (by decide) (by decide)]; exact h2, h3⟩
  rw [e 2 q (by decide) (by decide), e 3 q (by decide) (by decide), e 4 q (by decide) (by decide), e 5 q (by decide) (by decide), e 6 q (by decide) (by decide)]
  exact b q hq
theorem tx_fr {M M' : Mem} {t : Nat} {L : List (List Op)} (h : tx M t L) (e9 : M' 9 t = M 9 t) (e10 : M' 10 t = M 10 t) : tx M' t L := by
  unfold tx txS at h ⊢
  rw [e9, e10]
  exact h
theorem txN_fr {N N' : Mem} {t : Nat} {L : List (List Op)} (h : txN N t L) (e7 : N' 7 0 = N 7 0) (e8 : N' 8 0 = N 8 0) : txN N' t L := by
  unfold txN at h ⊢
  rw [e7, e8]
  exact h
theorem Cq_fr {tc n k z : Nat} {O : Nat → Nat} {LL : Nat → List (List Op)} {M N M' N' : Mem} (h : Cq tc n k z O LL M N) (hM : frV M M') (hN : frN N N') : Cq tc n k z O LL M' N' := by
  obtain ⟨h1, h2, h3, h4, h5, h6⟩ := h
  have eN : ∀ t, 1 ≤ t → t < 16 → N' t 0 = N t 0 := fun t a b => funext fun j => hN t 0 j b (fun q => by omega)
  have e0 : ∀ j, j < 21 → N' 0 0 j = N 0 0 j := fun j a => hN 0 0 j (by decide) (by omega)
  refine ⟨?_, ?_, ?_, ?_, ?_, ?_⟩
  · unfold curJ
    rw [eN 1 (by decide) (by decide), eN 2 (by decide) (by decide), eN 3 (by decide) (by decide), eN 4 (by decide) (by decide), eN 5 (by decide) (by decide), e0 0 (by decide), e0 6 (by decide), e0 7 (by decide), e0 13 (by decide)]
    exact crJ_M h1 (fun t j a b => hM t 0 j (by omega))
  · unfold imJ imgJ
    rw [eN 1 (by decide) (by decide), eN 2 (by decide) (by decide), eN 9 (by decide) (by decide), eN 10 (by decide) (by decide), e0 14 (by decide), hM 0 0 3 (by omega)]
    rcases h2 with q | ⟨q1, q2, n', k', O', q3, q4⟩
    · exact Or.inl q
    · exact Or.inr ⟨q1, q2, n', k', O', q3, crJ_M q4 (fun t j a b => hM t 1 j (by omega))⟩
  · obtain ⟨a, b, c, d⟩ := h3
    exact ⟨a, by rw [hM 0 0 6 (by omega)]; exact b, by rw [e0 12 (by decide)]; exact c, fun t ht => ⟨tx_fr (d t ht).1 (funext fun j => hM 9 t j (by omega)) (funext fun j => hM 10 t j (by omega)), txN_fr (d t ht).2 (eN 7 (by decide) (by decide)) (eN 8 (by decide) (by decide))⟩⟩
  · obtain ⟨a, b, c, d⟩ := h4
    exact ⟨a, by rw [hM 12 0 1 (by omega)]; exact b, by rw [e0 9 (by decide)]; exact c, by rw [eN 6 (by decide) (by decide), ← d]; exact funext fun j => hM 13 0 j (by omega)⟩
  · intro q hq
    obtain ⟨a, ⟨m, b1, b2, b3⟩, c⟩ := h5 q hq
    exact ⟨by rw [hM 19 q 1 (by omega), eN 11 (by decide) (by decide)]; exact a, ⟨m, b1, by rw [hM 19 q 2 (by omega)]; exact b2, by rw [eN 12 (by decide) (by decide)]; exact b3⟩, fun i hi => by rw [hM 20 q i (by omega), eN 13 (by decide) (by decide)]; exact c i hi⟩
  · intro w hw c hc
    rw [eN 15 (by decide) (by decide)]
    exact h6 w hw c hc
/-- what follows -/
theorem sayV_le (L : List (List Op)) (V : Vw) (q : Nat) (r : Int32) : (∃ z, z ≤ 99 ∧ sayV L V 0 q r = nI z) ∧ ∃ z, z ≤ 999 ∧ sayV L V 1 q r = nI z := by
  have key : ∀ pt, sayV L V pt q r ≤ mxV pt := by
    intro pt
    unfold sayV
    rw [← clp_eq (mxV_pos pt)]
    split
    · split
      · assumption
      · exact Int32.le_refl _
    · exact mxV_pos pt
  refine ⟨?_, ?_⟩
  · obtain ⟨z, hz, e⟩ := nI_of2 (n := 99) (M := 99) (by decide) (Int32.not_lt.mpr (clp_nn (mxV 0) _)) (key 0)
    exact ⟨z, hz, e⟩
  · obtain ⟨z, hz, e⟩ := nI_of2 (n := 999) (M := 999) (by decide) (Int32.not_lt.mpr (clp_nn (mxV 1) _)) (key 1)
    exact ⟨z, hz, e⟩
theorem half_eq : ∀ a, a < 1000 → nI a / 2 = nI (a / 2) := by decide +kernel
theorem sub3_eq : ∀ a, a < 100 → (if 0 < nI a - 3 then nI a - 3 else 0) = nI (a - 3) := by decide +kernel
theorem V_bnd {L : List (List Op)} {V : Vw} {n : Nat} (h : ∀ q, q < n → (∃ a, a ≤ 9 ∧ V.2.1 q = nI a) ∧ ∃ a, a ≤ 99 ∧ V.2.2.1 q = nI a) : bnd L V n ∧ bnr L V n := by
  refine ⟨fun p hp => ?_, fun p hp r _ => ?_⟩
  · obtain ⟨⟨a, ha, ea⟩, b, hb, eb⟩ := h p hp
    refine ⟨?_, fun r _ => ?_⟩
    · unfold weiV
      rw [eb, half_eq b (by omega), half_eq (b / 2) (by omega)]
      split
      · exact ⟨b / 2 + 9, by omega, nI_add _ 9⟩
      · split
        · exact ⟨b / 2 / 2, by omega, rfl⟩
        · split
          · exact ⟨b, by omega, rfl⟩
          · exact ⟨b / 2, by omega, rfl⟩
    · obtain ⟨-, z, hz, ez⟩ := sayV_le L V p (nI r)
      unfold beaV
      rw [ez, ea, half_eq z (by omega)]
      have e10 : nI z + 10 * nI a = nI (z + 10 * a) := by rw [show (10 : Int32) = nI 10 from rfl, nI_mul, nI_add]
      rw [e10]
      split
      · exact ⟨z + 10 * a, by omega, rfl⟩
      · split
        · exact ⟨z / 2, by omega, rfl⟩
        · split
          · exact ⟨2 * (z + 10 * a), by omega, by rw [show (2 : Int32) = nI 2 from rfl, nI_mul]⟩
          · split
            · exact ⟨z / 2, by omega, rfl⟩
            · exact ⟨z, by omega, rfl⟩
  · obtain ⟨⟨a, ha, ea⟩, b, hb, eb⟩ := h p hp
    obtain ⟨⟨z, hz, ez⟩, -⟩ := sayV_le L V p (nI r)
    unfold risV
    rw [ez, ea, half_eq z (by omega), sub3_eq z (by omega)]
    split
    · exact ⟨z + a, by omega, nI_add _ _⟩
    · split
      · exact ⟨z / 2, by omega, rfl⟩
      · split
        · split
          · exact ⟨z, by omega, rfl⟩
          · exact ⟨z - 3, by omega, rfl⟩
        · exact ⟨z, by omega, rfl⟩

