/-! both: fractions, chain -/
theorem eu_eq : ∀ m n c r, r < 2 ^ m → 2 * m + 1 ≤ n → c < 2 ^ 63 → r < 2 ^ 63 → euL n (lN c) (lN r) = lN (Nat.gcd c r) := by
  have z0 : (0 : Int64) = lN 0 := rfl
  have stop : ∀ n c, 1 ≤ n → euL n (lN c) (lN 0) = lN (Nat.gcd c 0) := by
    intro n c hn
    obtain ⟨n, rfl⟩ : ∃ n', n = n' + 1 := ⟨n - 1, by omega⟩
    rw [euL, if_pos (show lN 0 = 0 from rfl), Nat.gcd_zero_right]
  have step : ∀ n c r, 0 < r → c < 2 ^ 63 → r < 2 ^ 63 → euL (n + 1) (lN c) (lN r) = euL n (lN r) (lN (c % r)) := by
    intro n c r h0 hc hr
    rw [euL, if_neg (by rw [z0, pk_lEQ hr (by decide)]; omega), pk_lRem hc h0 hr]
  intro m
  induction m with
  | zero =>
    intro n c r hr hn hc _
    have : r = 0 := by omega
    subst this
    exact stop n c (by omega)
  | succ m ih =>
    intro n c r hr hn hc hr63
    rcases Nat.eq_zero_or_pos r with h | h
    · subst h
      exact stop n c (by omega)
    · obtain ⟨n, rfl⟩ : ∃ n', n = n' + 1 := ⟨n - 1, by omega⟩
      have hs := Nat.mod_lt c h
      rw [step n c r h hc hr63, Nat.gcd_comm c r, Nat.gcd_rec r c, Nat.gcd_comm (c % r) r]
      generalize c % r = s at hs ⊢
      rcases Nat.eq_zero_or_pos s with h2 | h2
      · subst h2
        exact stop n r (by omega)
      · obtain ⟨n, rfl⟩ : ∃ n', n = n' + 1 := ⟨n - 1, by omega⟩
        have hq := Nat.mod_lt r h2
        have hhalf : 2 * (r % s) < r := by
          have e := Nat.div_add_mod r s
          have h1 : 1 ≤ r / s := Nat.div_pos (by omega) h2
          have := Nat.mul_le_mul_left s h1
          omega
        rw [step n r s h2 hr63 (by omega), Nat.gcd_comm r s, Nat.gcd_rec s r, Nat.gcd_comm (r % s) s]
        exact ih n s (r % s) (by rw [Nat.pow_succ] at hr; omega) (by omega) (by omega) (by omega)
theorem low_eq {a b : Nat} (ha : a < 2 ^ 63) (h0 : 0 < b) (hb : b < 2 ^ 63) {part : Int32} (hp : part = 0 ∨ part = 1) : lowV (lN a) (lN b) part = loV a b part := by
  have z0 : (0 : Int64) = lN 0 := rfl
  have e := eu_eq 63 200 b a ha (by decide) hb ha
  have hg0 : 0 < Nat.gcd b a := Nat.gcd_pos_of_pos_left a h0
  have hgb : Nat.gcd b a ≤ b := Nat.gcd_le_left a h0
  unfold lowV loV
  rw [e, if_neg (by rw [z0, pk_lEQ (by omega) (by decide)]; omega), Nat.gcd_comm a b]
  by_cases hz : a = 0
  · subst hz
    rw [if_pos rfl, Nat.gcd_zero_right]
    rcases hp with rfl | rfl
    · rw [if_pos rfl, pk_lDiv (by decide) h0 hb, Nat.zero_div]
      rfl
    · rw [if_neg (by decide), pk_lDiv hb h0 hb, Nat.div_self h0]
      rfl
  · rw [if_neg hz]
    rcases hp with rfl | rfl
    · rw [if_pos rfl, if_pos rfl, pk_lDiv ha hg0 (by omega)]
    · rw [if_neg (by decide), if_neg (by decide), pk_lDiv hb hg0 (by omega)]
theorem coA_N {L : List (List Op)} {V : Vw} {O : Nat → Nat} : ∀ i, coA L V O i = lN (coN L V O i) := by
  intro i
  induction i with
  | zero => rfl
  | succ i ih =>
    obtain ⟨z, hz, e⟩ := sayV_100 L V (O i) (nI i)
    rw [coA, coN, ih, e, nI_clamp (by omega), nI_l (by omega), lN_mul]
theorem coB_N : ∀ i, coB i = lN (100 ^ i) := by
  intro i
  induction i with
  | zero => rfl
  | succ i ih =>
    rw [coB, ih, Nat.pow_succ, ← lN_mul]
    rfl
theorem co_eq {L : List (List Op)} {V : Vw} {O : Nat → Nat} {i : Nat} (hi : i ≤ 8) {part : Int32} (hp : part = 0 ∨ part = 1) : lowV (coA L V O i) (coB i) part = loV (coN L V O i) (100 ^ i) part := by
  obtain ⟨p1, p2⟩ := p100 i hi
  have hc := coN_le L V O i
  rw [coA_N, coB_N]
  exact low_eq (by omega) p2 p1 hp
/-- the chain -/
theorem ch_no {L : List (List Op)} {V : Vw} {F : Nat → Int32} {win : Int32} {n k : Nat} {R : Nat → Nat} {ru : Int32} (h : ¬ chG L V F win R k ru) : ∀ r p, chS L V F win n r p R k ru = bitsF (fun i => nI (R i)) k := by
  intro r
  induction r with
  | zero => intro p; rfl
  | succ r ih =>
    intro p
    rw [chS]
    by_cases hp : p < n
    · rw [if_pos hp, if_neg (fun q => h q.2), ih (p + 1)]
    · rw [if_neg hp]
theorem tpC_inj {R : Nat → Nat} {k p : Nat} (h : injO R k) (hp : ∀ q, q < k → R q ≠ p) : injO (tpC R k p) (k + 1) := by
  intro i j hi hj he
  unfold tpC at he
  by_cases a : i = k
  · by_cases b : j = k
    · omega
    · rw [if_pos a, if_neg b] at he
      exact absurd he.symm (hp j (by omega))
  · by_cases b : j = k
    · rw [if_neg a, if_pos b] at he
      exact absurd he (hp i (by omega))
    · rw [if_neg a, if_neg b] at he
      exact h i j (by omega) (by omega) he
theorem ch_eq {L : List (List Op)} {V : Vw} {F : Nat → Int32} {win : Int32} {n : Nat} (hn8 : n ≤ 8) : ∀ r f p R k ru, f + 1 + k = 9 → rin R k n → injO R k → (8 - k) * 8 + (n - p) ≤ r → chS L V F win n r p R k ru = (match usF R k (n - p) p with
    | none => bitsF (fun i => nI (R i)) k
    | some q => if chG L V F win R k ru then chR L V F win n f (tpC R k q) (k + 1) 0 else bitsF (fun i => nI (R i)) k) := by
  intro r
  induction r with
  | zero =>
    intro f p R k ru hf hR hi hr
    rw [show n - p = 0 by omega]
    rfl
  | succ r ih =>
    intro f p R k ru hf hR hi hr
    rw [chS]
    by_cases hp : p < n
    · rw [if_pos hp, show n - p = n - (p + 1) + 1 by omega, usF]
      by_cases hu : fnd (fun i => nI (R i)) (nI p) k 0 = -1
      · have hno := fndR_no hu (by omega)
        have hin := tpC_lt hR hp
        have hij := tpC_inj hi hno
        have hk8 : k + 1 ≤ 8 := Nat.le_trans (pigO n (k + 1) _ hin hij) hn8
        rw [if_pos hu]
        dsimp only
        by_cases hg : chG L V F win R k ru
        · obtain ⟨f, rfl⟩ : ∃ f', f = f' + 1 := ⟨f - 1, by omega⟩
          rw [if_pos ⟨hu, hg⟩, if_pos hg, ih f 0 (tpC R k p) (k + 1) 0 (by omega) hin hij (by omega), chR, Nat.sub_zero]
          cases usF (tpC R k p) (k + 1) n 0 <;> rfl
        · rw [if_neg (fun q => hg q.2), if_neg hg, ch_no hg]
      · rw [if_neg (fun q => hu q.1), if_neg hu, ih f (p + 1) R k ru hf hR hi (by omega)]
    · rw [if_neg hp, show n - p = 0 by omega]
      rfl
theorem ch_eq0 {L : List (List Op)} {V : Vw} {F : Nat → Int32} {win ru : Int32} {n k : Nat} {R : Nat → Nat} (hn8 : n ≤ 8) (hk8 : k ≤ 8) (hR : rin R k n) (hi : injO R k) : chS L V F win n 72 0 R k ru = chR L V F win n (9 - k) R k ru := by
  rw [ch_eq hn8 72 (8 - k) 0 R k ru (by omega) hR hi (by omega), show 9 - k = 8 - k + 1 by omega, chR, Nat.sub_zero]
  cases usF R k n 0 <;> rfl
theorem vag_ch {n k : Nat} {V V' : Vw} {ru : Int32} (h : vag n V V') : vag n (chV V k ru) (chV V' k ru) := ⟨h.1, rfl⟩
theorem ag_ch {L : List (List Op)} {V V' : Vw} {F F' : Nat → Int32} {win : Int32} {n : Nat} (h : vag n V V') (hF : fag n F F') : ∀ f R k ru, rin R k n → chR L V F win n f R k ru = chR L V' F' win n f R k ru := by
  intro f
  induction f with
  | zero => intro R k ru _; rfl
  | succ f ih =>
    intro R k ru hR
    rw [chR, chR]
    cases hu : usF R k n 0 with
    | none => rfl
    | some p =>
      have hp := usF_some n 0 hu
      have e : chG L V F win R k ru ↔ chG L V' F' win R k ru := by
        unfold chG
        rw [ag_hi (vag_ch h) k hR, ag_wk (vag_ch h) hF hR]
      dsimp only
      rw [ih (tpC R k p) (k + 1) 0 (tpC_lt hR (by omega))]
      by_cases g : chG L V' F' win R k ru
      · rw [if_pos g, if_pos (e.2 g)]
      · rw [if_neg g, if_neg (fun q => g (e.1 q))]

