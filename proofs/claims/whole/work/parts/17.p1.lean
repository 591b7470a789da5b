/-! texts: tokens, as both readers see them -/
def bB (x : Int32) : Bool := decide (x = 32 ∨ x = 10)
def bD (x : Int32) : Bool := decide (48 ≤ x ∧ x ≤ 57)
def bL (x : Int32) : Bool := decide (97 ≤ x ∧ x ≤ 122)
def bS (v : Int32) : Bool := decide (v = 40 ∨ v = 41 ∨ v = 59 ∨ v = 43 ∨ v = 45 ∨ v = 42 ∨ v = 60 ∨ v = 61)
/-- the first place at or behind a, of r places, that holds no such byte -/
def rnP (P : Int32 → Bool) (tp : Nat → Int32) : Nat → Nat → Nat
  | 0, a => a
  | r + 1, a => if P (tp a) = true then rnP P tp r (a + 1) else a
theorem rnP_le (P : Int32 → Bool) (tp : Nat → Int32) : ∀ r a, a ≤ rnP P tp r a ∧ rnP P tp r a ≤ a + r := by
  intro r
  induction r with
  | zero => intro a; exact ⟨Nat.le_refl _, Nat.le_refl _⟩
  | succ r ih =>
    intro a
    rw [rnP]
    split
    · have := ih (a + 1); omega
    · omega
theorem rnP_in (P : Int32 → Bool) (tp : Nat → Int32) : ∀ r a k, a ≤ k → k < rnP P tp r a → P (tp k) = true := by
  intro r
  induction r with
  | zero => intro a k h1 h2; rw [rnP] at h2; omega
  | succ r ih =>
    intro a k h1 h2
    rw [rnP] at h2
    split at h2
    · rename_i h
      by_cases e : k = a
      · rw [e]; exact h
      · exact ih (a + 1) k (by omega) h2
    · omega
theorem rnP_t {P : Int32 → Bool} {tp : Nat → Int32} {r a : Nat} (h : P (tp a) = true) : rnP P tp (r + 1) a = rnP P tp r (a + 1) := by rw [rnP, if_pos h]
theorem rnP_f {P : Int32 → Bool} {tp : Nat → Int32} {r a : Nat} (h : ¬ P (tp a) = true) : rnP P tp (r + 1) a = a := by rw [rnP, if_neg h]
/-- the number of k digits from p on -/
def dcN (tp : Nat → Int32) (p : Nat) : Nat → Nat
  | 0 => 0
  | k + 1 => dcN tp p k * 10 + ((tp (p + k)).toNatClampNeg - 48)
def wds : List (List Int32) := [[116, 97, 108, 108], [98, 101, 97, 114, 115], [99, 111, 109, 101, 115], [111, 114], [97, 110, 100], [110, 111, 116], [104, 101, 105, 103, 104, 116], [115, 116, 114, 111, 110, 103], [114, 117, 115, 116], [114, 117, 110, 103], [115, 97, 118, 101, 100], [109, 111, 114, 101]]
def sgm (tp : Nat → Int32) (p n : Nat) : List Int32 := (List.range n).map fun i => tp (p + i)
/-- 0 end, 1 strange, 2 number, 3 word, 4 sign -/
abbrev Tok := Nat × Nat
/-- a token, its place, the place behind it -/
abbrev PS := Tok × Nat × Nat
def tkA (tp : Nat → Int32) (n a : Nat) : PS :=
  let p := rnP bB tp (n - a) a
  if n ≤ p then ((0, 0), p, p)
  else if bD (tp p) = true then
    let e := rnP bD tp (n - p) p
    (if 4 < e - p then (1, 0) else (2, dcN tp p (e - p)), p, e)
  else if bL (tp p) = true then
    let e := rnP bL tp (n - p) p
    let k := wds.idxOf (sgm tp p (e - p))
    (if k < 12 then (3, k) else (1, 0), p, e)
  else (if bS (tp p) = true then (4, (tp p).toNatClampNeg) else (1, 0), p, p + 1)

