/-! both: fewest, missed, next -/
theorem msP_ag {L : List (List Op)} {V V' : Vw} {F F' : Nat → Int32} {n : Nat} {M : Mem} (h : msP L V F n M) (hV : vag n V V') (hF : fag n F F') : msP L V' F' n M := fun p hp => by
  obtain ⟨a, b, c⟩ := h p hp
  exact ⟨by rw [a, ag_wei hV hp], by rw [b, hF p hp], fun r hr => by rw [← ag_ris hV hp, ← ag_bea hV hp]; exact c r hr⟩
theorem bnd_ag {L : List (List Op)} {V V' : Vw} {n : Nat} (h : bnd L V n) (hV : vag n V V') : bnd L V' n := fun p hp => by
  obtain ⟨a, b⟩ := h p hp
  exact ⟨by rw [← ag_wei hV hp]; exact a, fun r hr => by rw [← ag_bea hV hp]; exact b r hr⟩
theorem mem_trB {g : Nat → List (List Nat)} {R : List Nat} : ∀ r p, R ∈ trB g r p ↔ ∃ q, p ≤ q ∧ q < p + r ∧ R ∈ g q := by
  intro r
  induction r with
  | zero => intro p; exact ⟨fun h => (by cases h), fun ⟨q, a, b, _⟩ => absurd a (by omega)⟩
  | succ r ih =>
    intro p
    rw [trB, List.mem_append, ih (p + 1)]
    constructor
    · rintro (h | ⟨q, a, b, c⟩)
      · exact ⟨p, Nat.le_refl _, by omega, h⟩
      · exact ⟨q, by omega, by omega, c⟩
    · rintro ⟨q, a, b, c⟩
      by_cases e : q = p
      · exact Or.inl (e ▸ c)
      · exact Or.inr ⟨q, by omega, by omega, c⟩
theorem trT_len {L : List (List Op)} {V : Vw} {F : Nat → Int32} {al : Int32} {n : Nat} : ∀ m R R', R' ∈ trT L V F al n m R → R.length < R'.length ∧ R'.length ≤ R.length + m := by
  intro m
  induction m with
  | zero => intro R R' h; cases h
  | succ m ih =>
    intro R R' h
    rw [trT, mem_trB] at h
    obtain ⟨q, _, _, h⟩ := h
    split at h
    · rcases List.mem_cons.1 h with e | e
      · rw [e, List.length_append, List.length_singleton]; omega
      · have := ih _ _ e
        rw [List.length_append, List.length_singleton] at this
        omega
    · cases h
theorem trT_sub {L : List (List Op)} {V : Vw} {F : Nat → Int32} {al : Int32} {n : Nat} : ∀ m k R R', m ≤ k → (R' ∈ trT L V F al n m R ↔ R' ∈ trT L V F al n k R ∧ R'.length ≤ R.length + m) := by
  intro m
  induction m with
  | zero =>
    intro k R R' _
    exact ⟨fun h => (by cases h), fun h => by have := trT_len k R R' h.1; omega⟩
  | succ m ih =>
    intro k R R' hk
    obtain ⟨k, rfl⟩ : ∃ k', k = k' + 1 := ⟨k - 1, by omega⟩
    have key : ∀ q, (R' ∈ (if okR L V F al R q then (R ++ [q]) :: trT L V F al n m (R ++ [q]) else []) ↔ R' ∈ (if okR L V F al R q then (R ++ [q]) :: trT L V F al n k (R ++ [q]) else []) ∧ R'.length ≤ R.length + (m + 1)) := by
      intro q
      have hi := ih k (R ++ [q]) R' (by omega)
      rw [List.length_append, List.length_singleton] at hi
      split
      · rw [List.mem_cons, List.mem_cons, hi]
        constructor
        · rintro (h | h)
          · exact ⟨Or.inl h, by rw [h, List.length_append, List.length_singleton]; omega⟩
          · exact ⟨Or.inr h.1, by omega⟩
        · rintro ⟨h | h, h2⟩
          · exact Or.inl h
          · exact Or.inr ⟨h, by omega⟩
      · exact ⟨fun h => (by cases h), fun h => (by cases h.1)⟩
    rw [trT, trT, mem_trB, mem_trB]
    constructor
    · rintro ⟨q, a, b, c⟩
      exact ⟨⟨q, a, b, ((key q).1 c).1⟩, ((key q).1 c).2⟩
    · rintro ⟨⟨q, a, b, c⟩, c2⟩
      exact ⟨q, a, b, (key q).2 ⟨c, c2⟩⟩
theorem upB_le {L : List (List Op)} {V : Vw} {x : Int32} : ∀ (l : List (List Nat)) (s : Int32 × Int32), x ≤ (l.foldl (upB L V) s).1 ↔ x ≤ s.1 ∨ ∃ R ∈ l, x ≤ hiS L V (liF R) R.length := by
  intro l
  induction l with
  | nil => intro s; exact ⟨fun h => Or.inl h, fun h => h.elim id (fun ⟨_, a, _⟩ => by cases a)⟩
  | cons R l ih =>
    intro s
    rw [List.foldl_cons, ih]
    have e : x ≤ (upB L V s R).1 ↔ x ≤ s.1 ∨ x ≤ hiS L V (liF R) R.length := by
      unfold upB
      split
      · rename_i h
        exact ⟨fun q => Or.inr q, fun q => q.elim (fun t => Int32.le_trans t (Int32.le_of_lt h)) id⟩
      · rename_i h
        exact ⟨fun q => Or.inl q, fun q => q.elim id (fun t => Int32.le_trans t (Int32.not_lt.mp h))⟩
    rw [e]
    constructor
    · rintro ((h | h) | ⟨R', a, b⟩)
      · exact Or.inl h
      · exact Or.inr ⟨R, List.mem_cons_self, h⟩
      · exact Or.inr ⟨R', List.mem_cons_of_mem _ a, b⟩
    · rintro (h | ⟨R', a, b⟩)
      · exact Or.inl (Or.inl h)
      · rcases List.mem_cons.1 a with t | t
        · exact Or.inl (Or.inr (t ▸ b))
        · exact Or.inr ⟨R', t, b⟩
theorem upH_le {L : List (List Op)} {V : Vw} {x : Int32} {i : Nat} : ∀ (l : List (List Nat)) (h : Nat → Int32), x ≤ l.foldl (upH L V) h i ↔ x ≤ h i ∨ ∃ R ∈ l, R.length = i ∧ x ≤ hiS L V (liF R) R.length := by
  intro l
  induction l with
  | nil => intro s; exact ⟨fun h => Or.inl h, fun h => h.elim id (fun ⟨_, a, _⟩ => by cases a)⟩
  | cons R l ih =>
    intro g
    rw [List.foldl_cons, ih]
    have e : x ≤ upH L V g R i ↔ x ≤ g i ∨ (R.length = i ∧ x ≤ hiS L V (liF R) R.length) := by
      unfold upH
      by_cases h0 : i = R.length
      · subst h0
        rw [if_pos rfl]
        split
        · rename_i h
          exact ⟨fun q => Or.inr ⟨rfl, q⟩, fun q => q.elim (fun t => Int32.le_trans t (Int32.le_of_lt h)) (fun t => t.2)⟩
        · rename_i h
          exact ⟨fun q => Or.inl q, fun q => q.elim id (fun t => Int32.le_trans t.2 (Int32.not_lt.mp h))⟩
      · rw [if_neg h0]
        exact ⟨fun q => Or.inl q, fun q => q.elim id (fun t => absurd t.1.symm h0)⟩
    rw [e]
    constructor
    · rintro ((h | h) | ⟨R', a, b⟩)
      · exact Or.inl h
      · exact Or.inr ⟨R, List.mem_cons_self, h⟩
      · exact Or.inr ⟨R', List.mem_cons_of_mem _ a, b⟩
    · rintro (h | ⟨R', a, b⟩)
      · exact Or.inl (Or.inl h)
      · rcases List.mem_cons.1 a with t | t
        · exact Or.inl (Or.inr (t ▸ b))
        · exact Or.inr ⟨R', t, b⟩
theorem feF_ext {g h : Nat → Int32} {win : Int32} : ∀ r m, (∀ j, m ≤ j → j < m + r → (win ≤ g j ↔ ∃ i, m ≤ i ∧ i ≤ j ∧ win ≤ h i)) → feF g win r m = feF h win r m := by
  intro r
  induction r with
  | zero => intro m _; rfl
  | succ r ih =>
    intro m hj
    rw [feF, feF]
    have h0 := hj m (Nat.le_refl _) (by omega)
    have e0 : win ≤ g m ↔ win ≤ h m := by
      rw [h0]
      exact ⟨fun ⟨i, a, b, c⟩ => by rw [show m = i by omega]; exact c, fun c => ⟨m, Nat.le_refl _, Nat.le_refl _, c⟩⟩
    by_cases q : win ≤ h m
    · rw [if_pos q, if_pos (e0.2 q)]
    · rw [if_neg q, if_neg (fun t => q (e0.1 t))]
      refine ih (m + 1) (fun j a b => ?_)
      rw [hj j (by omega) (by omega)]
      constructor
      · rintro ⟨i, c1, c2, c3⟩
        by_cases e : i = m
        · exact absurd (e ▸ c3) q
        · exact ⟨i, by omega, c2, c3⟩
      · rintro ⟨i, c1, c2, c3⟩
        exact ⟨i, by omega, c2, c3⟩
theorem fe_eq {L : List (List Op)} {V : Vw} {F : Nat → Int32} {al : Int32} {n : Nat} {win : Int32} : feF (fun m => (goB L V F al n m).1) win 6 0 = feF (goH L V F al n 5) win 6 0 := by
  refine feF_ext 6 0 (fun j _ hj => ?_)
  unfold goB
  rw [upB_le]
  constructor
  · rintro (h | ⟨R, a, b⟩)
    · refine ⟨0, Nat.zero_le _, Nat.zero_le _, ?_⟩
      unfold goH
      rw [upH_le]
      exact Or.inl h
    · have h2 := (trT_sub j 5 [] R (by omega)).1 a
      rw [List.length_nil] at h2
      refine ⟨R.length, Nat.zero_le _, by omega, ?_⟩
      unfold goH
      rw [upH_le]
      exact Or.inr ⟨R, h2.1, rfl, b⟩
  · rintro ⟨i, _, hi, h⟩
    unfold goH at h
    rw [upH_le] at h
    rcases h with h | ⟨R, a, b, c⟩
    · exact Or.inl h
    · exact Or.inr ⟨R, (trT_sub j 5 [] R (by omega)).2 ⟨a, by rw [List.length_nil]; omega⟩, c⟩
theorem lp_ext {s : Type} {f g : Nat → s → s} : ∀ r p x, (∀ i y, p ≤ i → i < p + r → f i y = g i y) → lp f r p x = lp g r p x := by
  intro r
  induction r with
  | zero => intro p x _; rfl
  | succ r ih =>
    intro p x h
    rw [lp, lp, h p x (Nat.le_refl _) (by omega), ih (p + 1) _ (fun i y a b => h i y (by omega) (by omega))]
theorem mi_eq {L : List (List Op)} {V : Vw} {F : Nat → Int32} {n k : Nat} {M : Mem} {al : Int32} {O : Nat → Nat} (h : msP L V F n M) (hB : bnd L V n) (hn8 : n ≤ 8) (hal : ∀ q, n ≤ q → q < 8 → bt al q = false) (hO : rin O k n) (x : Int32 × Int32) : lp (miT M al O) k 0 x = lp (miU L V F al n O) k 0 x := by
  refine lp_ext k 0 x (fun i y _ hi => ?_)
  have hoi := hO i (by omega)
  unfold miT miU
  rw [seF_go h hB hn8 (fun q a b => by rw [bt_clr _ (by omega) b, hal q a b]; rfl) (by decide)]
theorem bitsF_bt {f : Nat → Int32} {O : Nat → Nat} {k : Nat} : (∀ i, i < k → f i = nI (O i) ∧ O i < 8) → ∀ q, q < 8 → (bt (bitsF f k) q = true ↔ ∃ i, i < k ∧ O i = q) := by
  induction k with
  | zero => intro _ q _; rw [bitsF, bt_0]; exact ⟨fun h => (by cases h), fun ⟨_, a, _⟩ => absurd a (by omega)⟩
  | succ k ih =>
    intro h q hq
    have := ih (fun i hi => h i (by omega)) q hq
    rw [bitsF, (h k (by omega)).1, bt_set _ (h k (by omega)).2 hq, Bool.or_eq_true, this, decide_eq_true_eq]
    constructor
    · rintro (⟨i, a, b⟩ | b)
      · exact ⟨i, by omega, b⟩
      · exact ⟨k, by omega, b.symm⟩
    · rintro ⟨i, a, b⟩
      by_cases e : i = k
      · exact Or.inr (by rw [← b, e])
      · exact Or.inl ⟨i, by omega, b⟩
theorem bitsF_out {f : Nat → Int32} {O : Nat → Nat} {k n : Nat} (h : ∀ i, i < k → f i = nI (O i)) (hO : rin O k n) (hn8 : n ≤ 8) : ∀ q, n ≤ q → q < 8 → bt (bitsF f k) q = false := by
  intro q a b
  have := (bitsF_bt (fun i hi => ⟨h i hi, by have := hO i hi; omega⟩) q b).1
  cases hb : bt (bitsF f k) q with
  | false => rfl
  | true =>
    obtain ⟨i, c, e⟩ := this hb
    have := hO i c
    omega
/-- what is added to the height lies within bounds -/
def bnr (L : List (List Op)) (V : Vw) (n : Nat) : Prop := ∀ p, p < n → ∀ r, r < 8 → ∃ b, b ≤ 1000 ∧ risV L V p (nI r) = nI b
theorem hi_nn {L : List (List Op)} {V : Vw} {n : Nat} {R : Nat → Nat} (hB : bnr L V n) : ∀ m, m ≤ 8 → rin R m n → ∃ z, z ≤ 1000 * m ∧ hiS L V R m = nI z := by
  intro m
  induction m with
  | zero => intro _ _; exact ⟨0, by omega, rfl⟩
  | succ m ih =>
    intro hm hR
    obtain ⟨z, h1, h2⟩ := ih (by omega) (fun i hi => hR i (by omega))
    obtain ⟨b, h3, h4⟩ := hB (R m) (hR m (by omega)) m (by omega)
    exact ⟨z + b, by omega, by rw [hiS, h2, h4, nI_add]⟩
theorem tpO_in {O : Nat → Nat} {k p n : Nat} (hO : rin O k n) (hp : p < n) : rin (tpO O k p) (k + 1) n := by
  intro i hi
  unfold tpO
  split
  · exact hp
  · exact hO i (by omega)
/-- the reader's s and the class's: alike once one is found -/
def nxJ (h : Int32) (s u : Int32 × Int32) : Prop := (s.1 = -1 ∧ u = (-1, -1) ∧ s.2 = h) ∨ (s.1 ≠ -1 ∧ s = u ∧ ∃ z, z < 2 ^ 31 ∧ s.2 = nI z)
theorem nx_eq {L : List (List Op)} {V : Vw} {F : Nat → Int32} {O : Nat → Nat} {k n : Nat} {fd : Nat → Int32} {h : Int32} (hk : k < 8) (hB : bnr L V n) (hn8 : n ≤ 8) (hO : rin O k n) : ∀ r p s u, p + r ≤ n → nxJ h s u → nxJ h (lp (nxT L V F O k fd) r p s) (lp (nxU L V F O k fd) r p u) := by
  intro r
  induction r with
  | zero => intro p s u _ h; exact h
  | succ r ih =>
    intro p s u hp hj
    rw [lp, lp]
    refine ih (p + 1) _ _ (by omega) ?_
    obtain ⟨z, hz1, hz⟩ := hi_nn hB (k + 1) (by omega) (tpO_in (O := O) (k := k) (p := p) hO (by omega))
    unfold nxT nxU nxG
    rw [hz]
    by_cases h1 : fd p = -1
    · rw [if_pos h1]
      by_cases h2 : wkV L V F (tpO O k p) (k + 1) = -1
      · rw [if_pos h2]
        rcases hj with ⟨e1, e2, e3⟩ | ⟨e1, e2, y, hy, e3⟩
        · rw [if_pos ⟨⟨h1, h2⟩, Or.inl e1⟩, e2]
          have : (-1 : Int32) < nI z := by
            rw [Int32.lt_iff_toInt_lt, nI_toInt (by omega)]
            exact Int.lt_of_lt_of_le (by decide) (Int.natCast_nonneg z)
          rw [if_pos this]
          exact Or.inr ⟨nI_m1n (by omega), rfl, z, by omega, rfl⟩
        · rw [← e2]
          by_cases h3 : s.2 < nI z
          · rw [if_pos ⟨⟨h1, h2⟩, Or.inr h3⟩, if_pos h3]
            exact Or.inr ⟨nI_m1n (by omega), rfl, z, by omega, rfl⟩
          · rw [if_neg (fun q => q.2.elim (fun t => e1 t) h3), if_neg h3]
            exact Or.inr ⟨e1, rfl, y, hy, e3⟩
      · rw [if_neg (fun q => h2 q.1.2), if_neg h2]
        rcases hj with ⟨e1, e2, e3⟩ | ⟨e1, e2, y, hy, e3⟩
        · rw [e2, if_neg (by decide)]
          exact Or.inl ⟨e1, rfl, e3⟩
        · rw [← e2, e3, if_neg (by
            rw [Int32.not_lt, Int32.le_iff_toInt_le, nI_toInt hy]
            exact Int.le_trans (by decide) (Int.natCast_nonneg y))]
          exact Or.inr ⟨e1, rfl, y, hy, e3⟩
    · rw [if_neg (fun q => h1 q.1.1), if_neg h1]
      exact hj

