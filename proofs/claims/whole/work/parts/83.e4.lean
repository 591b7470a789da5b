/-! both: whose -/
def sumB (h : Nat → Nat) : Nat → Nat → Nat
  | 0, _ => 0
  | r + 1, p => h p + sumB h r (p + 1)
def firB (h : Nat → Option (List Nat)) : Nat → Nat → Option (List Nat)
  | 0, _ => none
  | r + 1, p => match h p with
    | some x => some x
    | none => firB h r (p + 1)
/-- how many rows stand on R, f rungs more; the first of them -/
def cyF (L : List (List Op)) (V : Vw) (g : Nat → Int32) (al : Int32) (n : Nat) : Nat → List Nat → Nat
  | 0, _ => 1
  | f + 1, R => sumB (fun q => if okW L V g al R q then cyF L V g al n f (R ++ [q]) else 0) n 0
def fyF (L : List (List Op)) (V : Vw) (g : Nat → Int32) (al : Int32) (n : Nat) : Nat → List Nat → Option (List Nat)
  | 0, R => some R
  | f + 1, R => firB (fun q => if okW L V g al R q then fyF L V g al n f (R ++ [q]) else none) n 0
def oD (o : Option (List Nat)) (y : Int32) : Int32 := match o with
  | some R => dgL R
  | none => y
theorem sumB_le {h : Nat → Nat} {b : Nat} (hb : ∀ q, h q ≤ b) : ∀ r p, sumB h r p ≤ r * b := by
  intro r
  induction r with
  | zero => intro p; rw [sumB]; omega
  | succ r ih =>
    intro p
    have := ih (p + 1)
    have := hb p
    rw [sumB, Nat.succ_mul]
    omega
theorem cy_le {L : List (List Op)} {V : Vw} {g : Nat → Int32} {al : Int32} {n : Nat} (hn8 : n ≤ 8) : ∀ f R, cyF L V g al n f R ≤ 8 ^ f := by
  intro f
  induction f with
  | zero => intro R; exact Nat.le_refl _
  | succ f ih =>
    intro R
    rw [cyF]
    refine Nat.le_trans (sumB_le (b := 8 ^ f) (fun q => ?_) n 0) ?_
    · split
      · exact ih _
      · exact Nat.zero_le _
    · rw [Nat.pow_succ, Nat.mul_comm]
      exact Nat.mul_le_mul_left _ hn8
theorem cf_none {h : Nat → Nat} {k : Nat → Option (List Nat)} (hk : ∀ q, k q = none ↔ h q = 0) : ∀ r p, firB k r p = none ↔ sumB h r p = 0 := by
  intro r
  induction r with
  | zero => intro p; exact ⟨fun _ => rfl, fun _ => rfl⟩
  | succ r ih =>
    intro p
    rw [firB, sumB]
    have := hk p
    cases hq : k p with
    | some x =>
      have h0 : h p ≠ 0 := fun z => by rw [hq] at this; exact absurd (this.2 z) (fun t => by cases t)
      exact ⟨fun z => (by cases z), fun z => absurd z (by omega)⟩
    | none =>
      have h0 := this.1 hq
      dsimp only
      rw [ih, h0, Nat.zero_add]
theorem fy_none {L : List (List Op)} {V : Vw} {g : Nat → Int32} {al : Int32} {n : Nat} : ∀ f R, fyF L V g al n f R = none ↔ cyF L V g al n f R = 0 := by
  intro f
  induction f with
  | zero => intro R; exact ⟨fun h => (by cases h), fun h => absurd (show (1 : Nat) = 0 from h) (by decide)⟩
  | succ f ih =>
    intro R
    rw [fyF, cyF]
    refine cf_none (fun q => ?_) n 0
    split
    · exact ih _
    · exact ⟨fun _ => rfl, fun _ => rfl⟩
theorem tw_fold {L : List (List Op)} {V : Vw} {g : Nat → Int32} {al : Int32} {n m : Nat} (hn8 : n ≤ 8) (hm8 : m ≤ 8) : ∀ f (R : List Nat) (a : Nat) (y : Int32), R.length + f = m → a + cyF L V g al n f R < 2 ^ 31 → (R :: twT L V g al n f R).foldl (upW m) (nI a, y) = (nI (a + cyF L V g al n f R), if a = 0 then oD (fyF L V g al n f R) y else y) := by
  intro f
  induction f with
  | zero =>
    intro R a y hl ha
    rw [twT, List.foldl_cons, List.foldl_nil, upW, if_pos (by omega)]
    dsimp only
    rw [cyF, nI_1]
    by_cases h : a = 0
    · subst h
      rfl
    · rw [if_neg h, if_neg (show ¬ nI a = 0 from fun q => h ((nI_eq (a := a) (b := 0) (by omega) (by decide)).1 q))]
  | succ f ih =>
    intro R a y hl ha
    rw [List.foldl_cons, upW, if_neg (by omega), twT]
    rw [cyF] at ha ⊢
    rw [fyF]
    have key : ∀ r p a y, a + sumB (fun q => if okW L V g al R q then cyF L V g al n f (R ++ [q]) else 0) r p < 2 ^ 31 → (trB (fun q => if okW L V g al R q then (R ++ [q]) :: twT L V g al n f (R ++ [q]) else []) r p).foldl (upW m) (nI a, y) = (nI (a + sumB (fun q => if okW L V g al R q then cyF L V g al n f (R ++ [q]) else 0) r p), if a = 0 then oD (firB (fun q => if okW L V g al R q then fyF L V g al n f (R ++ [q]) else none) r p) y else y) := by
      intro r
      induction r with
      | zero =>
        intro p a y _
        rw [trB, sumB, firB, List.foldl_nil, Nat.add_zero]
        split <;> rfl
      | succ r ihr =>
        intro p a y hlt
        rw [sumB] at hlt ⊢
        rw [trB, firB, List.foldl_append]
        by_cases hok : okW L V g al R p
        · simp only [if_pos hok] at hlt ⊢
          rw [ih (R ++ [p]) a y (by rw [List.length_append, List.length_singleton]; omega) (by omega), ihr (p + 1) _ _ (by omega), Nat.add_assoc]
          have hno := @fy_none L V g al n f (R ++ [p])
          congr 1
          by_cases h0 : a = 0
          · subst h0
            rw [if_pos rfl, if_pos rfl, Nat.zero_add]
            cases hfy : fyF L V g al n f (R ++ [p]) with
            | none =>
              rw [if_pos (hno.1 hfy)]
              rfl
            | some x =>
              rw [if_neg (fun z => by rw [hno.2 z] at hfy; cases hfy)]
          · rw [if_neg (by omega), if_neg h0, if_neg h0]
        · simp only [if_neg hok] at hlt ⊢
          rw [List.foldl_nil, ihr (p + 1) _ _ (by omega), Nat.zero_add]
    exact key n 0 a y ha
theorem wh_eq {L : List (List Op)} {V : Vw} {g : Nat → Int32} {al : Int32} {n m : Nat} (hn8 : n ≤ 8) (hm8 : m ≤ 8) : whN L V g al n m = (nI (cyF L V g al n m []), oD (fyF L V g al n m []) 0) := by
  unfold whN
  by_cases h : m = 0
  · subst h
    rfl
  · rw [if_neg h]
    have hp : (8 : Nat) ^ m ≤ 8 ^ 8 := Nat.pow_le_pow_right (by decide) hm8
    have hc := @cy_le L V g al n hn8 m []
    have := tw_fold (L := L) (V := V) (g := g) (al := al) hn8 hm8 m [] 0 0 (by rw [List.length_nil]; omega) (by omega)
    rw [List.foldl_cons, upW, if_neg (by rw [List.length_nil]; omega), if_pos rfl, Nat.zero_add] at this
    exact this
/-- the sets -/
theorem waV_ext {L : List (List Op)} {V : Vw} {g : Nat → Int32} {al : Int32} {m : Nat} {v v' : Nat → Int32} {set : Nat} (h : ∀ s, set < s → v s = v' s) : waV L V g al m v set = waV L V g al m v' set := by
  have key : ∀ r p x, waS al (fun p => fitF L V g p (popc set)) v set r p x = waS al (fun p => fitF L V g p (popc set)) v' set r p x := by
    intro r
    induction r with
    | zero => intro p x; rfl
    | succ r ih =>
      intro p x
      rw [waS, waS, ih]
      by_cases e : set ||| 2 ^ p = set
      · have e1 : ∀ v : Nat → Int32, (if ¬ (al >>> (nI p &&& 31)) &&& 1 = 0 ∧ ¬ set ||| 2 ^ p = set ∧ 0 < v (set ||| 2 ^ p) ∧ fitF L V g p (popc set) then x + v (set ||| 2 ^ p) else x) = x := fun v => if_neg (fun q => q.2.1 e)
        rw [e1, e1]
      · have hle : set ≤ set ||| 2 ^ p := Nat.left_le_or
        rw [h (set ||| 2 ^ p) (by omega)]
  unfold waV
  rw [key]
theorem waL_fix {L : List (List Op)} {V : Vw} {g : Nat → Int32} {al : Int32} {m : Nat} : ∀ k v, (∀ s, k ≤ s → waL L V g al m k v s = v s) ∧ ∀ s, s < k → waL L V g al m k v s = waV L V g al m (waL L V g al m k v) s := by
  intro k
  induction k with
  | zero => intro v; exact ⟨fun _ _ => rfl, fun s h => absurd h (by omega)⟩
  | succ k ih =>
    intro v
    rw [waL]
    obtain ⟨h1, h2⟩ := ih (fun x => if x = k then waV L V g al m v k else v x)
    refine ⟨fun s hs => ?_, fun s hs => ?_⟩
    · rw [h1 s (by omega), if_neg (by omega)]
    · by_cases e : s = k
      · subst e
        rw [h1 s (Nat.le_refl _), if_pos rfl]
        refine waV_ext (fun t ht => ?_)
        rw [h1 t (by omega), if_neg (by omega)]
      · exact h2 s (by omega)
theorem popc_or : ∀ s, s < 256 → ∀ p, p < 8 → s.testBit p = false → popc (s ||| 2 ^ p) = popc s + 1 := by decide +kernel
theorem or_same : ∀ s, s < 256 → ∀ p, p < 8 → (s ||| 2 ^ p = s ↔ s.testBit p = true) := by decide +kernel
def stO (set : Nat) (R : List Nat) : Prop := set < 256 ∧ popc set = R.length ∧ ∀ q, q < 8 → set.testBit q = decide (q ∈ R)
theorem stO_0 : stO 0 [] := ⟨by decide, by decide, fun q _ => by simp⟩
theorem stO_push {set p : Nat} {R : List Nat} (h : stO set R) (hp : p < 8) (hn : p ∉ R) : stO (set ||| 2 ^ p) (R ++ [p]) := by
  obtain ⟨h1, h2, h3⟩ := h
  refine ⟨(lgr_eq set h1 p hp).2, ?_, fun q hq => ?_⟩
  · rw [popc_or set h1 p hp (by rw [h3 p hp]; simp [hn]), h2, List.length_append, List.length_singleton]
  · rw [Nat.testBit_or, h3 q hq, Nat.testBit_two_pow]
    by_cases e : p = q
    · subst e
      simp
    · have : ¬ q = p := fun z => e z.symm
      simp [e, this]
theorem wa_cy {L : List (List Op)} {V : Vw} {g : Nat → Int32} {al : Int32} {n m : Nat} {W : Nat → Int32} (hn8 : n ≤ 8) (hm8 : m ≤ 8) (hal : ∀ q, n ≤ q → q < 8 → bt al q = false) (hW : ∀ s, s < 256 → W s = waV L V g al m W s) : ∀ f R set, R.length + f = m → stO set R → W set = nI (cyF L V g al n f R) := by
  intro f
  induction f with
  | zero =>
    intro R set hl hs
    rw [hW set hs.1, waV, if_neg (by have := hs.2.1; omega), if_pos (by have := hs.2.1; omega)]
    rfl
  | succ f ih =>
    intro R set hl hs
    rw [hW set hs.1, waV, if_pos (by have := hs.2.1; omega), cyF, hs.2.1]
    have hp31 : (8 : Nat) ^ f < 2 ^ 31 := Nat.lt_of_le_of_lt (Nat.pow_le_pow_right (by decide) (show f ≤ 8 by omega)) (by decide)
    have key : ∀ r p a, p + r ≤ 8 → waS al (fun p => fitF L V g p R.length) W set r p (nI a) = nI (a + sumB (fun q => if q < n ∧ okW L V g al R q then cyF L V g al n f (R ++ [q]) else 0) r p) := by
      intro r
      induction r with
      | zero => intro p a _; rw [waS, sumB, Nat.add_zero]
      | succ r ihr =>
        intro p a hp
        have e : (if ¬ (al >>> (nI p &&& 31)) &&& 1 = 0 ∧ ¬ set ||| 2 ^ p = set ∧ 0 < W (set ||| 2 ^ p) ∧ fitF L V g p R.length then nI a + W (set ||| 2 ^ p) else nI a) = nI (a + if p < n ∧ okW L V g al R p then cyF L V g al n f (R ++ [p]) else 0) := by
          have b1 := bt_sh al (show p < 32 by omega)
          have b2 := or_same set hs.1 p (by omega)
          have b3 := hs.2.2 p (by omega)
          by_cases hok : p < n ∧ okW L V g al R p
          · have hnR := hok.2.1.2
            have hw := ih (R ++ [p]) (set ||| 2 ^ p) (by rw [List.length_append, List.length_singleton]; omega) (stO_push hs (by omega) hnR)
            rw [if_pos hok, hw]
            by_cases h0 : cyF L V g al n f (R ++ [p]) = 0
            · rw [h0, if_neg (fun q => absurd q.2.2.1 (by decide))]
              rfl
            · have hcl := @cy_le L V g al n hn8 f (R ++ [p])
              rw [if_pos ⟨fun q => (by rw [b1, hok.2.1.1] at q; cases q), fun q => (by rw [b2, b3] at q; exact hnR (of_decide_eq_true q)), nI_lt (a := 0) (by omega) (by omega), hok.2.2⟩, nI_add]
          · rw [if_neg hok, if_neg (fun q => hok ?_)]
            · rfl
            · have c1 : bt al p = true := by
                cases hb : bt al p with
                | true => rfl
                | false => exact absurd (b1.2 hb) q.1
              have c2 : p < n := Nat.lt_of_not_le (fun z => by rw [hal p z (by omega)] at c1; cases c1)
              exact ⟨c2, ⟨c1, fun z => q.2.1 (b2.2 (by rw [b3]; exact decide_eq_true z))⟩, q.2.2.2⟩
        rw [waS, sumB, e, ihr (p + 1) _ (by omega), Nat.add_assoc]
    have := key 8 0 0 (by decide)
    rw [Nat.zero_add] at this
    refine Eq.trans this ?_
    congr 1
    have ext : ∀ r p, p + r ≤ 8 → sumB (fun q => if q < n ∧ okW L V g al R q then cyF L V g al n f (R ++ [q]) else 0) r p = sumB (fun q => if okW L V g al R q then cyF L V g al n f (R ++ [q]) else 0) (min r (n - p)) p := by
      intro r
      induction r with
      | zero => intro p _; rw [Nat.zero_min]; rfl
      | succ r ihr =>
        intro p hp
        rcases Nat.lt_or_ge p n with h | h
        · rw [show min (r + 1) (n - p) = min r (n - (p + 1)) + 1 by omega, sumB, sumB, ihr (p + 1) (by omega)]
          simp only [h, true_and]
        · have := ihr (p + 1) (by omega)
          rw [show n - (p + 1) = 0 by omega, Nat.min_zero, sumB] at this
          rw [show n - p = 0 by omega, Nat.min_zero, sumB, sumB, if_neg (by omega), this]
    rw [ext 8 0 (by decide), show min 8 (n - 0) = n by omega]
theorem fd_fy {L : List (List Op)} {V : Vw} {g : Nat → Int32} {al : Int32} {n m : Nat} {W fd : Nat → Int32} (hn8 : n ≤ 8) (hm8 : m ≤ 8) (hal : ∀ q, n ≤ q → q < 8 → bt al q = false) (hfd : ∀ p, p < n → (¬ fd p = -1 ↔ bt al p = true)) (hW : ∀ s, s < 256 → W s = waV L V g al m W s) : ∀ f R set, R.length + f = m → stO set R → fdF L V g fd W n f R.length set (dgL R) = oD (fyF L V g al n f R) 0 := by
  intro f
  induction f with
  | zero => intro R set _ _; rfl
  | succ f ih =>
    intro R set hl hs
    have hp31 : (8 : Nat) ^ f < 2 ^ 31 := Nat.lt_of_le_of_lt (Nat.pow_le_pow_right (by decide) (show f ≤ 8 by omega)) (by decide)
    rw [fdF, fyF]
    have key : ∀ r p, p + r ≤ n → (match ffO L V g fd W set R.length r p with
        | none => 0
        | some p => fdF L V g fd W n f (R.length + 1) (set ||| 2 ^ p) (dgL R * 10 + nI p + 1)) = oD (firB (fun q => if okW L V g al R q then fyF L V g al n f (R ++ [q]) else none) r p) 0 := by
      intro r
      induction r with
      | zero => intro p _; rfl
      | succ r ihr =>
        intro p hp
        have b2 := or_same set hs.1 p (by omega)
        have b3 := hs.2.2 p (by omega)
        have hcl := @cy_le L V g al n hn8 f (R ++ [p])
        have hno := @fy_none L V g al n f (R ++ [p])
        rw [ffO, firB]
        by_cases hok : okW L V g al R p
        · have hnR := hok.1.2
          have hst := stO_push hs (show p < 8 by omega) hnR
          have hw := wa_cy hn8 hm8 hal hW f (R ++ [p]) (set ||| 2 ^ p) (by rw [List.length_append, List.length_singleton]; omega) hst
          rw [if_pos hok]
          cases hfy : fyF L V g al n f (R ++ [p]) with
          | none =>
            rw [if_neg (fun q => by
              have := q.2.2.1
              rw [hw, hno.1 hfy] at this
              exact absurd this (by decide))]
            exact ihr (p + 1) (by omega)
          | some x =>
            have h0 : cyF L V g al n f (R ++ [p]) ≠ 0 := fun z => by rw [hno.2 z] at hfy; cases hfy
            rw [if_pos ⟨(hfd p (by omega)).2 hok.1.1, fun q => (by rw [b2, b3] at q; exact hnR (of_decide_eq_true q)), by rw [hw]; exact nI_lt (a := 0) (by omega) (by omega), hok.2⟩]
            have := ih (R ++ [p]) (set ||| 2 ^ p) (by rw [List.length_append, List.length_singleton]; omega) hst
            rw [hfy, List.length_append, List.length_singleton] at this
            have ed : dgL (R ++ [p]) = dgL R * 10 + nI p + 1 := by
              unfold dgL
              rw [List.foldl_append, Int32.mul_comm]
              rfl
            rw [ed] at this
            exact this
        · rw [if_neg hok, if_neg (fun q => hok ⟨⟨(hfd p (by omega)).1 q.1, fun z => q.2.1 (b2.2 (by rw [b3]; exact decide_eq_true z))⟩, q.2.2.2⟩)]
          exact ihr (p + 1) (by omega)
    exact key n 0 (by omega)

