/-! both: the search -/
def gdS (L : List (List Op)) (V : Vw) (F : Nat → Int32) (R : Nat → Nat) : Nat → Int32 → Prop
  | 0, _ => True
  | m + 1, a => ¬ (beaV L V (R m) (nI m) < a ∨ (0 < m ∧ ¬ (F (R m) >>> (nI (R (m - 1)) &&& 31)) &&& 1 = 0)) ∧ gdS L V F R m (a + weiV V (R m))
theorem wk_gds {L : List (List Op)} {V : Vw} {F : Nat → Int32} {R : Nat → Nat} : ∀ m, m ≤ 1000 → ∀ s, (wkS L V F R m s).1 = -1 ↔ s.1 = -1 ∧ gdS L V F R m s.2 := by
  intro m
  induction m with
  | zero => intro _ s; exact ⟨fun h => ⟨h, trivial⟩, fun h => h.1⟩
  | succ m ih =>
    intro hm s
    rw [wkS, ih (by omega), gdS]
    unfold wkT
    dsimp only
    by_cases h : beaV L V (R m) (nI m) < s.2 ∨ (0 < m ∧ ¬ (F (R m) >>> (nI (R (m - 1)) &&& 31)) &&& 1 = 0)
    · rw [if_pos h]
      exact ⟨fun q => absurd q.1 (nI_m1n (by omega)), fun q => absurd h q.2.1⟩
    · rw [if_neg h]
      exact ⟨fun q => ⟨q.1, h, q.2⟩, fun q => ⟨q.1, q.2.2⟩⟩
theorem wk_gd {L : List (List Op)} {V : Vw} {F : Nat → Int32} {R : Nat → Nat} {m : Nat} (hm : m ≤ 1000) : wkV L V F R m = -1 ↔ gdS L V F R m 0 := by
  unfold wkV
  rw [wk_gds m hm]
  exact ⟨fun h => h.2, fun h => ⟨rfl, h⟩⟩
theorem gdS_R {L : List (List Op)} {V : Vw} {F : Nat → Int32} {R R' : Nat → Nat} : ∀ m a, (∀ i, i < m → R i = R' i) → (gdS L V F R m a ↔ gdS L V F R' m a) := by
  intro m
  induction m with
  | zero => intro a _; exact Iff.rfl
  | succ m ih =>
    intro a h
    rw [gdS, gdS, ih _ (fun i hi => h i (by omega)), h m (by omega), h (m - 1) (by omega)]
theorem hiS_R {L : List (List Op)} {V : Vw} {R R' : Nat → Nat} : ∀ m, (∀ i, i < m → R i = R' i) → hiS L V R m = hiS L V R' m := by
  intro m
  induction m with
  | zero => intro _; rfl
  | succ m ih =>
    intro h
    rw [hiS, hiS, ih (fun i hi => h i (by omega)), h m (by omega)]
/-- what bears and weighs lies within bounds -/
def bnd (L : List (List Op)) (V : Vw) (n : Nat) : Prop := ∀ p, p < n → (∃ w, w ≤ 1000 ∧ weiV V p = nI w) ∧ ∀ r, r < 8 → ∃ b, b ≤ 100000 ∧ beaV L V p (nI r) = nI b
def spOK (L : List (List Op)) (V : Vw) (F : Nat → Int32) (R : List Nat) (spare : Int32) : Prop := ∃ z, z < 2 ^ 31 ∧ spare = nI z ∧ ∀ x, x ≤ 1000000 → (x ≤ z ↔ gdS L V F (liF R) R.length (nI x))
/-- no quarrel of p with the one below -/
abbrev fdK (F : Nat → Int32) (R : List Nat) (p : Nat) : Prop := ¬ (0 < R.length ∧ ¬ (F p >>> (nI (liF R (R.length - 1)) &&& 31)) &&& 1 = 0)
theorem gd_ext {L : List (List Op)} {V : Vw} {F : Nat → Int32} {R : List Nat} {p x b w : Nat} (hb : beaV L V p (nI R.length) = nI b) (hw : weiV V p = nI w) (hx : x < 2 ^ 31) (hb2 : b < 2 ^ 31) : gdS L V F (liF (R ++ [p])) (R.length + 1) (nI x) ↔ (x ≤ b ∧ fdK F R p) ∧ gdS L V F (liF R) R.length (nI (x + w)) := by
  rw [gdS, liF_eq, hb, hw, nI_ltI hb2 hx, nI_add, gdS_R (R := liF (R ++ [p])) (R' := liF R) R.length _ (fun i hi => liF_lt hi)]
  unfold fdK
  have e : 0 < R.length → liF (R ++ [p]) (R.length - 1) = liF R (R.length - 1) := fun h => liF_lt (by omega)
  constructor
  · rintro ⟨h1, h2⟩
    refine ⟨⟨Nat.le_of_not_lt (fun q => h1 (Or.inl q)), fun q => h1 (Or.inr ⟨q.1, ?_⟩)⟩, h2⟩
    rw [e q.1]
    exact q.2
  · rintro ⟨⟨h1, h2⟩, h3⟩
    refine ⟨fun q => ?_, h3⟩
    rcases q with q | q
    · omega
    · exact h2 ⟨q.1, by rw [← e q.1]; exact q.2⟩
theorem trB_ext {g : Nat → List (List Nat)} {n m : Nat} (hg : ∀ p, n ≤ p → p < m → g p = []) : ∀ r p, p + r ≤ m → trB g r p = trB g (min r (n - p)) p := by
  intro r
  induction r with
  | zero => intro p _; rw [Nat.zero_min]
  | succ r ih =>
    intro p hp
    rcases Nat.lt_or_ge p n with h | h
    · rw [show min (r + 1) (n - p) = min r (n - (p + 1)) + 1 by omega, trB, trB, ih (p + 1) (by omega)]
    · have e := ih (p + 1) (by omega)
      rw [show n - (p + 1) = 0 by omega, Nat.min_zero] at e
      rw [show n - p = 0 by omega, Nat.min_zero, trB, trB, hg p h (by omega), e]
      rfl
theorem lp_fold {s : Type} {h : s → List Nat → s} {f : Nat → s → s} {g : Nat → List (List Nat)} {m : Nat} (hfg : ∀ p x, p < m → f p x = (g p).foldl h x) : ∀ r p x, p + r ≤ m → lp f r p x = (trB g r p).foldl h x := by
  intro r
  induction r with
  | zero => intro p x _; rfl
  | succ r ih =>
    intro p x hp
    rw [lp, trB, List.foldl_append, ih (p + 1) _ (by omega), hfg p x (by omega)]
def tbX (L : List (List Op)) (V : Vw) (F : Nat → Int32) (n : Nat) (al : Int32) (X : Sx) : Prop := X.1 = al ∧ ∀ p, p < n → X.2.2.2.1 p = weiV V p ∧ X.2.2.2.2 p = F p ∧ ∀ r, r < 5 → X.2.1 (p * 5 + r) = risV L V p (nI r) ∧ X.2.2.1 (p * 5 + r) = beaV L V p (nI r)
theorem bt_not (x y : Int32) {q : Nat} (hq : q < 8) : bt (x &&& (y ^^^ -1)) q = (bt x q && !bt y q) := by
  unfold bt
  rw [Int32.toBitVec_and, BitVec.getLsbD_and, Int32.toBitVec_xor, BitVec.getLsbD_xor]
  have : ((-1 : Int32).toBitVec).getLsbD q = true := by
    revert q
    decide +kernel
  rw [this]
  cases x.toBitVec.getLsbD q <;> cases y.toBitVec.getLsbD q <;> rfl
theorem se_eq {L : List (List Op)} {V : Vw} {F : Nat → Int32} {n : Nat} {al : Int32} {X : Sx} (hX : tbX L V F n al X) (hB : bnd L V n) (hn8 : n ≤ 8) (hal : ∀ q, n ≤ q → q < 8 → bt al q = false) : ∀ f R used below high dg spare s, R.length + f ≤ 5 → (∀ q ∈ R, q < n) → tkOK used R → (R.length = 0 → below = -1) → (0 < R.length → below = nI (liF R (R.length - 1))) → high = hiS L V (liF R) R.length → dg = dgL R → spOK L V F R spare → clF X f R.length used below high dg spare s = (trT L V F al n f R).foldl (upB L V) s := by
  obtain ⟨hX1, hX2⟩ := hX
  intro f
  induction f with
  | zero => intro R used below high dg spare s _ _ _ _ _ _ _ _; rfl
  | succ f ih =>
    intro R used below high dg spare s h5 hRn hus hb0 hb1 hhi hdg hsp
    obtain ⟨z, hz31, hz, hsx⟩ := hsp
    rw [clF, trT]
    have key : ∀ p x, p < 8 → (if ((X.1 &&& (used ^^^ -1)) >>> (nI p &&& 31)) &&& 1 = 0 ∨ (¬ below = -1 ∧ ¬ (X.2.2.2.2 p >>> (below &&& 31)) &&& 1 = 0) ∨ spare < X.2.2.2.1 p then x
      else clF X f (R.length + 1) (used ||| (1 <<< (nI p &&& 31))) (nI p) (high + X.2.1 (p * 5 + R.length)) (dg * 10 + nI p + 1) (miF (spare - X.2.2.2.1 p) (X.2.2.1 (p * 5 + R.length)))
        (if x.1 < high + X.2.1 (p * 5 + R.length) then (high + X.2.1 (p * 5 + R.length), dg * 10 + nI p + 1) else x)) = (if okR L V F al R p then (R ++ [p]) :: trT L V F al n f (R ++ [p]) else []).foldl (upB L V) x := by
      intro p x hp8
      have hc : ((X.1 &&& (used ^^^ -1)) >>> (nI p &&& 31)) &&& 1 = 0 ↔ ¬ cnd al R p := by
        rw [bt_sh _ (by omega : p < 32), bt_not _ _ hp8, hX1, hus p hp8]
        unfold cnd
        cases bt al p <;> by_cases q : p ∈ R <;> simp [q]
      by_cases hcd : cnd al R p
      · have hpn : p < n := Nat.lt_of_not_le (fun q => by
          have := hcd.1
          rw [hal p q hp8] at this
          cases this)
        obtain ⟨x3, x4, x5⟩ := hX2 p hpn
        obtain ⟨x1, x2⟩ := x5 R.length (by omega)
        obtain ⟨⟨w, hw1, hw⟩, hbb⟩ := hB p hpn
        obtain ⟨b, hb2, hb⟩ := hbb R.length (by omega)
        have hgx := fun x hx => gd_ext (L := L) (V := V) (F := F) (R := R) (p := p) (x := x) hb hw hx (by omega)
        have hfk : (¬ below = -1 ∧ ¬ (F p >>> (below &&& 31)) &&& 1 = 0) ↔ ¬ fdK F R p := by
          unfold fdK
          rcases Nat.eq_zero_or_pos R.length with q | q
          · rw [hb0 q]
            exact ⟨fun z => absurd rfl z.1, fun z => absurd (fun y => absurd y.1 (by omega)) z⟩
          · rw [hb1 q]
            have h7 : liF R (R.length - 1) < n := hRn _ (liF_mem (by omega))
            exact ⟨fun z y => y ⟨q, z.2⟩, fun z => ⟨nI_m1n (by omega), fun y => z (fun t => t.2 y)⟩⟩
        have hok : okR L V F al R p ↔ (fdK F R p ∧ w ≤ z) := by
          unfold okR
          rw [List.length_append, List.length_singleton, wk_gd (by omega), show (0 : Int32) = nI 0 from rfl, hgx 0 (by decide), hsx w (by omega), Nat.zero_add]
          exact ⟨fun q => ⟨q.2.1.2, q.2.2⟩, fun q => ⟨hcd, ⟨Nat.zero_le _, q.1⟩, q.2⟩⟩
        have hlt : spare < X.2.2.2.1 p ↔ ¬ w ≤ z := by rw [x3, hw, hz, nI_ltI hz31 (by omega)]; omega
        rw [← x4] at hfk
        by_cases hacc : fdK F R p ∧ w ≤ z
        · rw [if_pos (hok.2 hacc), if_neg (fun q => by
            rcases q with q | q | q
            · exact hc.1 q hcd
            · exact hfk.1 q hacc.1
            · exact hlt.1 q hacc.2)]
          have hhi2 : high + X.2.1 (p * 5 + R.length) = hiS L V (liF (R ++ [p])) (R ++ [p]).length := by
            rw [List.length_append, List.length_singleton, hiS, liF_eq, hhi, x1, hiS_R (R := liF (R ++ [p])) (R' := liF R) R.length (fun i hi => liF_lt hi)]
          have hdg2 : dg * 10 + nI p + 1 = dgL (R ++ [p]) := by
            unfold dgL
            rw [List.foldl_append, hdg, Int32.mul_comm]
            rfl
          have hlen : (R ++ [p]).length = R.length + 1 := by rw [List.length_append, List.length_singleton]
          have hsp2 : miF (spare - X.2.2.2.1 p) (X.2.2.1 (p * 5 + R.length)) = nI (min (z - w) b) := by
            have e : nI z - nI w = nI (z - w) := by
              apply Int32.toInt_inj.mp
              rw [nI_subI hz31 (by omega), nI_toInt (by omega)]
              omega
            rw [x3, x2, hw, hb, hz, e]
            unfold miF
            have hg : nI (z - w) > nI b ↔ b < z - w := nI_ltI (by omega) (by omega)
            by_cases q : b < z - w
            · rw [if_pos (hg.2 q), Nat.min_eq_right (by omega)]
            · rw [if_neg (fun t => q (hg.1 t)), Nat.min_eq_left (by omega)]
          have := ih (R ++ [p]) (used ||| (1 <<< (nI p &&& 31))) (nI p) (hiS L V (liF (R ++ [p])) (R ++ [p]).length) (dgL (R ++ [p])) (nI (min (z - w) b)) (upB L V x (R ++ [p])) (by omega) (fun q hq => by
              rcases List.mem_append.1 hq with t | t
              · exact hRn q t
              · rw [List.mem_singleton.1 t]; exact hpn) (tkOK_push hus hp8) (fun q => by omega) (fun _ => by rw [hlen, Nat.add_sub_cancel, liF_eq]) rfl rfl ⟨min (z - w) b, by omega, rfl, fun y hy => ?_⟩
          · rw [hlen] at this
            rw [List.foldl_cons, hhi2, hdg2, hsp2, ← this, upB, hlen]
          · rw [hlen, hgx y (by omega)]
            by_cases q : y ≤ b
            · rw [← hsx (y + w) (by omega)]
              exact ⟨fun t => ⟨⟨q, hacc.1⟩, by omega⟩, fun t => by omega⟩
            · exact ⟨fun t => absurd t (by omega), fun t => absurd t.1.1 q⟩
        · rw [if_neg (fun q => hacc (hok.1 q)), if_pos (by
            by_cases q : fdK F R p
            · exact Or.inr (Or.inr (hlt.2 (fun t => hacc ⟨q, t⟩)))
            · exact Or.inr (Or.inl (hfk.2 q)))]
          rfl
      · rw [if_pos (Or.inl (hc.2 hcd)), if_neg (fun q => hcd q.1)]
        rfl
    rw [lp_fold (m := 8) key 8 0 s (by decide)]
    rw [trB_ext (n := n) (m := 8) (fun p hp h8 => if_neg (fun q => by
      have := q.1.1
      rw [hal p hp h8] at this
      cases this)) 8 0 (by decide), show min 8 (n - 0) = n by omega]
/-- the whole search -/
theorem spOK_0 {L : List (List Op)} {V : Vw} {F : Nat → Int32} : spOK L V F [] 1000000 := ⟨1000000, by decide, rfl, fun x hx => ⟨fun _ => trivial, fun _ => by omega⟩⟩
theorem msP_X {L : List (List Op)} {V : Vw} {F : Nat → Int32} {n : Nat} {M : Mem} {al : Int32} (h : msP L V F n M) : tbX L V F n al (al, M 15 0, M 16 0, M 17 0, M 18 0) := ⟨rfl, fun p hp => h p hp⟩
theorem seF_go {L : List (List Op)} {V : Vw} {F : Nat → Int32} {n m : Nat} {M : Mem} {al : Int32} (h : msP L V F n M) (hB : bnd L V n) (hn8 : n ≤ 8) (hal : ∀ q, n ≤ q → q < 8 → bt al q = false) (hm : m ≤ 5) : seF M al m = goB L V F al n m := by
  unfold seF goB
  exact se_eq (msP_X h) hB hn8 hal m [] 0 (-1) 0 0 1000000 (0, -1) (by rw [List.length_nil]; omega) (fun _ h => by cases h) (fun q _ => by rw [bt_0]; rfl) (fun _ => rfl) (fun q => absurd q (by decide)) rfl rfl spOK_0

