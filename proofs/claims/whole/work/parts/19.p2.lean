/-! texts: the two ways to read one, as functions of the tokens; they are the same -/
abbrev PR := Nat ⊕ (PS × List Op)
def pnx (tp : Nat → Int32) (n : Nat) (s : PS) : PS := tkA tp n s.2.2
def pL (tp : Nat → Int32) (n : Nat) (iso : Tok → Option Op) (sub : PS → PR) : Nat → PS → List Op → PR
  | 0, s, acc => .inr (s, acc)
  | f + 1, s, acc => match iso s.1 with
    | none => .inr (s, acc)
    | some o => match sub (pnx tp n s) with
      | .inl p => .inl p
      | .inr x => pL tp n iso sub f x.1 (acc ++ x.2 ++ [o])
def pB (tp : Nat → Int32) (n : Nat) (iso : Tok → Option Op) (sub : PS → PR) (s : PS) : PR := match sub s with
  | .inl p => .inl p
  | .inr x => pL tp n iso sub 160 x.1 x.2
def oMul (t : Tok) : Option Op := if t = (4, 42) then some (3, 6) else none
def oSum (t : Tok) : Option Op := if t = (4, 43) then some (3, 4) else if t = (4, 45) then some (3, 5) else none
def oCmp (t : Tok) : Option Op := if t = (4, 60) then some (3, 2) else if t = (4, 61) then some (3, 3) else none
def oAnd (t : Tok) : Option Op := if t = (3, 4) then some (3, 1) else none
def oOr (t : Tok) : Option Op := if t = (3, 3) then some (3, 0) else none
def pOne (tp : Nat → Int32) (n : Nat) (rec : Option ((PS → PR) × (PS → PR) × (PS → PR))) (s : PS) : PR :=
  if s.1.1 = 2 then .inr (pnx tp n s, [(0, s.1.2)])
  else if s.1.1 = 3 ∧ 6 ≤ s.1.2 then .inr (pnx tp n s, [(1, s.1.2 - 6)])
  else if s.1 = (4, 45) then match rec with
    | none => .inl s.2.1
    | some r => match r.2.1 (pnx tp n s) with
      | .inl p => .inl p
      | .inr x => .inr (x.1, x.2 ++ [(2, 1)])
  else if s.1 = (4, 40) then match rec with
    | none => .inl s.2.1
    | some r => match r.1 (pnx tp n s) with
      | .inl p => .inl p
      | .inr x => if x.1.1 = (4, 41) then .inr (pnx tp n x.1, x.2) else .inl x.1.2.1
  else .inl s.2.1
def pNot (tp : Nat → Int32) (n : Nat) (rec : Option ((PS → PR) × (PS → PR) × (PS → PR))) (sum : PS → PR) (s : PS) : PR :=
  if s.1 = (3, 5) then match rec with
    | none => .inl s.2.1
    | some r => match r.2.2 (pnx tp n s) with
      | .inl p => .inl p
      | .inr x => .inr (x.1, x.2 ++ [(2, 0)])
  else match sum s with
    | .inl p => .inl p
    | .inr x => match oCmp x.1.1 with
      | none => .inr x
      | some o => match sum (pnx tp n x.1) with
        | .inl p => .inl p
        | .inr y => .inr (y.1, x.2 ++ y.2 ++ [o])
abbrev PRec := Option ((PS → PR) × (PS → PR) × (PS → PR))
def lvT (tp : Nat → Int32) (n : Nat) (rec : PRec) : PS → PR := pB tp n oMul (pOne tp n rec)
def lvS (tp : Nat → Int32) (n : Nat) (rec : PRec) : PS → PR := pB tp n oSum (lvT tp n rec)
def lvN (tp : Nat → Int32) (n : Nat) (rec : PRec) : PS → PR := pNot tp n rec (lvS tp n rec)
def lvB (tp : Nat → Int32) (n : Nat) (rec : PRec) : PS → PR := pB tp n oAnd (lvN tp n rec)
def lvE (tp : Nat → Int32) (n : Nat) (rec : PRec) : PS → PR := pB tp n oOr (lvB tp n rec)
def pRec (tp : Nat → Int32) (n : Nat) : Nat → PRec
  | 0 => none
  | b + 1 => some (lvE tp n (pRec tp n b), pOne tp n (pRec tp n b), lvN tp n (pRec tp n b))
-- the reference's way
def rk (h : Nat) : Nat := if h = 0 then 0 else if h = 11 then 1 else if h = 12 then 2 else if h = 13 then 3 else if h ≤ 15 then 4 else if h ≤ 17 then 5 else if h = 18 then 6 else 7
def sOp (h : Nat) : Op := if h = 11 then (3, 0) else if h = 12 then (3, 1) else if h = 13 then (2, 0) else if h = 14 then (3, 2) else if h = 15 then (3, 3) else if h = 16 then (3, 4) else if h = 17 then (3, 5) else if h = 18 then (3, 6) else (2, 1)
def unw (r : Nat) : List Nat → List Op → List Nat × List Op
  | [], o => ([], o)
  | h :: t, o => if r ≤ rk h then unw r t (o ++ [sOp h]) else (h :: t, o)
def opn : List Nat → Nat
  | [] => 0
  | h :: t => (if h = 0 ∨ h = 13 ∨ h = 19 then 1 else 0) + opn t
def bSg (t : Tok) : Option Nat := if t = (3, 3) then some 11 else if t = (3, 4) then some 12 else if t = (4, 60) then some 14 else if t = (4, 61) then some 15 else if t = (4, 43) then some 16 else if t = (4, 45) then some 17 else if t = (4, 42) then some 18 else none
def tpr (K : List Nat) (r : Nat) : Prop := match K with
  | [] => True
  | h :: _ => rk h < r
def tis (K : List Nat) (r : Nat) : Bool := match K with
  | [] => false
  | h :: _ => decide (rk h = r)
def qgo (tp : Nat → Int32) (n : Nat) : Nat → PS → List Nat → List Op → Bool → Bool → PR
  | 0, s, _, _, _, _ => .inl s.2.1
  | f + 1, s, K, o, true, mn =>
    if s.1.1 = 2 then qgo tp n f (pnx tp n s) (unw 7 K (o ++ [(0, s.1.2)])).1 (unw 7 K (o ++ [(0, s.1.2)])).2 false mn
    else if s.1.1 = 3 ∧ 6 ≤ s.1.2 then qgo tp n f (pnx tp n s) (unw 7 K (o ++ [(1, s.1.2 - 6)])).1 (unw 7 K (o ++ [(1, s.1.2 - 6)])).2 false mn
    else if s.1 = (3, 5) ∧ mn = true then (if opn K = 5 then .inl s.2.1 else qgo tp n f (pnx tp n s) (13 :: K) o true mn)
    else if s.1 = (4, 45) then (if opn K = 5 then .inl s.2.1 else qgo tp n f (pnx tp n s) (19 :: K) o true false)
    else if s.1 = (4, 40) then (if opn K = 5 then .inl s.2.1 else qgo tp n f (pnx tp n s) (0 :: K) o true true)
    else .inl s.2.1
  | f + 1, s, K, o, false, mn =>
    if s.1 = (4, 59) then (if (unw 1 K o).1 = [] then .inr (s, (unw 1 K o).2) else .inl s.2.1)
    else if s.1 = (4, 41) then match (unw 1 K o).1 with
      | [] => .inl s.2.1
      | _ :: K2 => qgo tp n f (pnx tp n s) (unw 7 K2 (unw 1 K o).2).1 (unw 7 K2 (unw 1 K o).2).2 false mn
    else match bSg s.1 with
      | none => .inl s.2.1
      | some h => if rk h = 4 ∧ tis (unw (if rk h = 4 then 5 else rk h) K o).1 4 = true then .inl s.2.1
        else qgo tp n f (pnx tp n s) (h :: (unw (if rk h = 4 then 5 else rk h) K o).1) (unw (if rk h = 4 then 5 else rk h) K o).2 true (decide (h ≤ 12))
theorem unw_unw {r r' : Nat} (h : r ≤ r') : ∀ (K : List Nat) (o : List Op), unw r (unw r' K o).1 (unw r' K o).2 = unw r K o := by
  intro K
  induction K with
  | nil => intro o; rfl
  | cons a t ih =>
    intro o
    rw [unw]
    split
    · rename_i h1
      rw [ih, unw, if_pos (by omega)]
    · rfl
theorem unw_top {r : Nat} {K : List Nat} (h : tpr K r) (o : List Op) : unw r K o = (K, o) := by
  cases K with
  | nil => rfl
  | cons a t => rw [unw, if_neg (by unfold tpr at h; omega)]
/-- a token's place and the place behind it are where they can be -/
def okS (n : Nat) (s : PS) : Prop := s.2.1 ≤ n ∧ s.2.2 ≤ n ∧ s.2.1 ≤ s.2.2 ∧ (s.1.1 ≠ 0 → s.2.1 < s.2.2)
theorem tkA_ok (tp : Nat → Int32) {n a : Nat} (ha : a ≤ n) : okS n (tkA tp n a) ∧ a ≤ (tkA tp n a).2.1 := by
  have h1 := rnP_le bB tp (n - a) a
  unfold tkA okS
  dsimp only
  split
  · exact ⟨⟨by dsimp only; omega, by dsimp only; omega, Nat.le_refl _, fun h => absurd rfl h⟩, h1.1⟩
  · rename_i hlt
    split
    · rename_i hd
      obtain ⟨z, hz⟩ : ∃ z, n - rnP bB tp (n - a) a = z + 1 := ⟨n - rnP bB tp (n - a) a - 1, by omega⟩
      have h2 := rnP_le bD tp z (rnP bB tp (n - a) a + 1)
      rw [hz, rnP_t hd]
      exact ⟨⟨by dsimp only; omega, by dsimp only; omega, by dsimp only; omega, fun _ => by dsimp only; omega⟩, h1.1⟩
    · split
      · rename_i hd
        obtain ⟨z, hz⟩ : ∃ z, n - rnP bB tp (n - a) a = z + 1 := ⟨n - rnP bB tp (n - a) a - 1, by omega⟩
        have h2 := rnP_le bL tp z (rnP bB tp (n - a) a + 1)
        rw [hz, rnP_t hd]
        exact ⟨⟨by dsimp only; omega, by dsimp only; omega, by dsimp only; omega, fun _ => by dsimp only; omega⟩, h1.1⟩
      · exact ⟨⟨by dsimp only; omega, by dsimp only; omega, by dsimp only; omega, fun _ => by dsimp only; omega⟩, h1.1⟩
theorem pnx_ok (tp : Nat → Int32) {n : Nat} {s : PS} (h : okS n s) : okS n (pnx tp n s) ∧ s.2.2 ≤ (pnx tp n s).2.1 := tkA_ok tp h.2.1
/-- reading goes on from s with what is held, so r binds: res -/
def simQ (tp : Nat → Int32) (n r : Nat) (X : Tok → Prop) (f : Nat) (s : PS) (K : List Nat) (o : List Op) (mn : Bool) (res : PR) : Prop := match res with
  | .inl p => qgo tp n f s K o true mn = .inl p
  | .inr x => X x.1.1 ∧ okS n x.1 ∧ s.2.1 ≤ x.1.2.1 ∧ ∃ f' K' o' mn', qgo tp n f s K o true mn = qgo tp n f' x.1 K' o' false mn' ∧ f + s.2.1 ≤ f' + x.1.2.1 ∧ unw r K' o' = unw r K (o ++ x.2) ∧ (r ≤ 3 → oCmp x.1.1 ≠ none → qgo tp n f' x.1 K' o' false mn' = .inl x.1.2.1)
/-- signs of one rank between what binds more: X holds behind each -/
theorem sim_loop {tp : Nat → Int32} {n r r' c : Nat} {X : Tok → Prop} {Cd : Bool → Tok → Prop} {iso : Tok → Option Op} {sub : PS → PR} (hr : r < r') (h4 : r ≠ 4) (h33 : r ≤ 3 → r' ≤ 3)
    (hiso : ∀ t o, iso t = some o → ∃ h, bSg t = some h ∧ rk h = r ∧ sOp h = o ∧ t ≠ (4, 59) ∧ t ≠ (4, 41) ∧ (∀ t', Cd (decide (h ≤ 12)) t') ∧ opn [h] = 0)
    (hend : iso (0, 0) = none) (hkind : ∀ t o, iso t = some o → t.1 ≠ 0)
    (hsub : ∀ f s K o mn, okS n s → opn K = c → tpr K r' → Cd mn s.1 → n + 2 ≤ f + s.2.1 → simQ tp n r' X f s K o mn (sub s))
    (f0 : Nat) (s0 : PS) (K0 : List Nat) (o0 : List Op) (mn0 : Bool) (hopn : opn K0 = c) (htp : tpr K0 r) :
    ∀ L x acc f' K' o' mn', okS n x → X x.1 → s0.2.1 ≤ x.2.1 → n ≤ L + x.2.1 → qgo tp n f0 s0 K0 o0 true mn0 = qgo tp n f' x K' o' false mn' → n + 2 ≤ f' + x.2.1 → f0 + s0.2.1 ≤ f' + x.2.1 → unw r K' o' = (K0, o0 ++ acc) → (r ≤ 3 → oCmp x.1 ≠ none → qgo tp n f' x K' o' false mn' = .inl x.2.1) →
      simQ tp n r (fun t => X t ∧ iso t = none) f0 s0 K0 o0 mn0 (pL tp n iso sub L x acc) := by
  have fin : ∀ x acc f' K' o' mn', okS n x → X x.1 → iso x.1 = none → s0.2.1 ≤ x.2.1 → qgo tp n f0 s0 K0 o0 true mn0 = qgo tp n f' x K' o' false mn' → f0 + s0.2.1 ≤ f' + x.2.1 → unw r K' o' = (K0, o0 ++ acc) → (r ≤ 3 → oCmp x.1 ≠ none → qgo tp n f' x K' o' false mn' = .inl x.2.1) →
      simQ tp n r (fun t => X t ∧ iso t = none) f0 s0 K0 o0 mn0 (.inr (x, acc)) := by
    intro x acc f' K' o' mn' a1 a2 a3 a4 a5 a6 a7 a8
    exact ⟨⟨a2, a3⟩, a1, a4, f', K', o', mn', a5, a6, by rw [a7, unw_top htp], a8⟩
  intro L
  induction L with
  | zero =>
    intro x acc f' K' o' mn' hx hX hpl hL hq hf hf2 hu hcm
    have hk : iso x.1 = none := by
      cases h : iso x.1 with
      | none => rfl
      | some o =>
        have := hx.2.2.2 (hkind _ _ h)
        have := hx.2.1
        omega
    exact fin x acc f' K' o' mn' hx hX hk hpl hq hf2 hu hcm
  | succ L ih =>
    intro x acc f' K' o' mn' hx hX hpl hL hq hf hf2 hu hcm
    rw [pL]
    cases hi : iso x.1 with
    | none => exact fin x acc f' K' o' mn' hx hX hi hpl hq hf2 hu hcm
    | some op =>
      dsimp only
      obtain ⟨h, g1, g2, g3, g4, g5, g6, g7⟩ := hiso _ _ hi
      have hlt := hx.2.2.2 (hkind _ _ hi)
      have hxn := hx.2.1
      obtain ⟨hn1, hn2⟩ := pnx_ok tp hx
      obtain ⟨f1, rfl⟩ : ∃ f1, f' = f1 + 1 := ⟨f' - 1, by omega⟩
      -- the reference's step
      have hstep : qgo tp n (f1 + 1) x K' o' false mn' = qgo tp n f1 (pnx tp n x) (h :: K0) (o0 ++ acc) true (decide (h ≤ 12)) := by
        rw [qgo, if_neg g4, if_neg g5, g1]
        dsimp only
        rw [g2, if_neg h4, hu, if_neg (fun q => h4 q.1)]
      have hopn2 : opn (h :: K0) = c := by
        have : opn (h :: K0) = opn [h] + opn K0 := by simp [opn]
        omega
      have hs := hsub f1 (pnx tp n x) (h :: K0) (o0 ++ acc) (decide (h ≤ 12)) hn1 hopn2 (by show rk h < r'; omega) (g6 _) (by omega)
      cases hres : sub (pnx tp n x) with
      | inl p =>
        rw [hres] at hs
        show qgo tp n f0 s0 K0 o0 true mn0 = .inl p
        rw [hq, hstep]
        exact hs
      | inr y =>
        rw [hres] at hs
        obtain ⟨b1, b2, b3, f2, K2, o2, mn2, b4, b5, b6, b7⟩ := hs
        dsimp only
        refine ih y.1 (acc ++ y.2 ++ [op]) f2 K2 o2 mn2 b2 b1 (by omega) (by omega) (by rw [hq, hstep, b4]) (by omega) (by omega) ?_ ?_
        · rw [← unw_unw (Nat.le_of_lt hr), b6, unw_unw (Nat.le_of_lt hr), unw, if_pos (by omega), unw_top htp, g3]
          simp
        · intro h3 hc
          exact b7 (h33 h3) hc
theorem tpr_le {K : List Nat} {r r' : Nat} (h : tpr K r) (hr : r ≤ r') : tpr K r' := by
  cases K with
  | nil => exact True.intro
  | cons a t => exact Nat.lt_of_lt_of_le h hr
theorem sim_bin {tp : Nat → Int32} {n r r' c : Nat} {X : Tok → Prop} {Cd : Bool → Tok → Prop} {iso : Tok → Option Op} {sub : PS → PR} (hn : n ≤ 160) (hr : r < r') (h4 : r ≠ 4) (h33 : r ≤ 3 → r' ≤ 3)
    (hiso : ∀ t o, iso t = some o → ∃ h, bSg t = some h ∧ rk h = r ∧ sOp h = o ∧ t ≠ (4, 59) ∧ t ≠ (4, 41) ∧ (∀ t', Cd (decide (h ≤ 12)) t') ∧ opn [h] = 0)
    (hend : iso (0, 0) = none) (hkind : ∀ t o, iso t = some o → t.1 ≠ 0)
    (hsub : ∀ f s K o mn, okS n s → opn K = c → tpr K r' → Cd mn s.1 → n + 2 ≤ f + s.2.1 → simQ tp n r' X f s K o mn (sub s)) :
    ∀ f s K o mn, okS n s → opn K = c → tpr K r → Cd mn s.1 → n + 2 ≤ f + s.2.1 → simQ tp n r (fun t => X t ∧ iso t = none) f s K o mn (pB tp n iso sub s) := by
  intro f s K o mn hs hK htp hcd hf
  have h := hsub f s K o mn hs hK (tpr_le htp (Nat.le_of_lt hr)) hcd hf
  unfold pB
  cases hres : sub s with
  | inl p => rw [hres] at h; exact h
  | inr y =>
    rw [hres] at h
    obtain ⟨b1, b2, b3, f2, K2, o2, mn2, b4, b5, b6, b7⟩ := h
    refine sim_loop hr h4 h33 hiso hend hkind hsub f s K o mn hK htp 160 y.1 y.2 f2 K2 o2 mn2 b2 b1 b3 (by omega) b4 (by omega) b5 ?_ (fun h3 hc => b7 (h33 h3) hc)
    rw [← unw_unw (Nat.le_of_lt hr), b6, unw_unw (Nat.le_of_lt hr), unw_top htp]
def XE (t : Tok) : Prop := (((True ∧ oMul t = none) ∧ oSum t = none) ∧ oAnd t = none) ∧ oOr t = none
theorem XE_sg {t : Tok} {h : Nat} (hX : XE t) (hb : bSg t = some h) : oCmp t ≠ none := by
  obtain ⟨⟨⟨⟨_, h1⟩, h2⟩, h3⟩, h4⟩ := hX
  unfold oMul at h1
  unfold oSum at h2
  unfold oAnd at h3
  unfold oOr at h4
  unfold bSg at hb
  unfold oCmp
  grind
theorem sim_one {tp : Nat → Int32} {n c : Nat} {rec : PRec} (hnone : rec = none → c = 5) (hsome : ∀ r, rec = some r → c ≠ 5 ∧ (∀ f s K o, okS n s → opn K = c + 1 → tpr K 1 → n + 2 ≤ f + s.2.1 → simQ tp n 1 XE f s K o true (r.1 s)) ∧ (∀ f s K o mn, okS n s → opn K = c + 1 → (mn = false ∨ s.1 ≠ (3, 5)) → n + 2 ≤ f + s.2.1 → simQ tp n 7 (fun _ => True) f s K o mn (r.2.1 s))) :
    ∀ f s K o mn, okS n s → opn K = c → (mn = false ∨ s.1 ≠ (3, 5)) → n + 2 ≤ f + s.2.1 → simQ tp n 7 (fun _ => True) f s K o mn (pOne tp n rec s) := by
  intro f s K o mn hs hK hmn hf
  have hsn := hs.1
  obtain ⟨f1, rfl⟩ : ∃ f1, f = f1 + 1 := ⟨f - 1, by omega⟩
  obtain ⟨hn1, hn2⟩ := pnx_ok tp hs
  unfold pOne
  split
  · rename_i h
    have hlt := hs.2.2.2 (by omega)
    refine ⟨True.intro, hn1, by dsimp only; omega, f1, _, _, mn, by rw [qgo, if_pos h], by dsimp only; omega, unw_unw (Nat.le_refl _) _ _, fun q => absurd q (by decide)⟩
  · rename_i h2
    split
    · rename_i h
      have hlt := hs.2.2.2 (by omega)
      refine ⟨True.intro, hn1, by dsimp only; omega, f1, _, _, mn, by rw [qgo, if_neg h2, if_pos h], by dsimp only; omega, unw_unw (Nat.le_refl _) _ _, fun q => absurd q (by decide)⟩
    · rename_i h3
      have h35 : ¬ (s.1 = (3, 5) ∧ mn = true) := by
        rintro ⟨q1, q2⟩
        rcases hmn with q | q
        · rw [q] at q2; cases q2
        · exact q q1
      split
      · rename_i h
        have hlt := hs.2.2.2 (by rw [h]; decide)
        have hq : qgo tp n (f1 + 1) s K o true mn = if opn K = 5 then .inl s.2.1 else qgo tp n f1 (pnx tp n s) (19 :: K) o true false := by rw [qgo, if_neg h2, if_neg h3, if_neg h35, if_pos h]
        cases hrec : rec with
        | none =>
          show qgo tp n (f1 + 1) s K o true mn = .inl s.2.1
          rw [hq, if_pos (by rw [hK]; exact hnone hrec)]
        | some r =>
          obtain ⟨hc, -, hone⟩ := hsome r hrec
          rw [if_neg (by rw [hK]; exact hc)] at hq
          have hh := hone f1 (pnx tp n s) (19 :: K) o false hn1 (by show 1 + opn K = c + 1; omega) (Or.inl rfl) (by omega)
          dsimp only
          cases hres : r.2.1 (pnx tp n s) with
          | inl p => rw [hres] at hh; exact hq.trans hh
          | inr x =>
            rw [hres] at hh
            obtain ⟨b1, b2, b3, f2, K2, o2, mn2, b4, b5, b6, b7⟩ := hh
            refine ⟨True.intro, b2, by dsimp only; omega, f2, K2, o2, mn2, hq.trans b4, by dsimp only; omega, ?_, fun q => absurd q (by decide)⟩
            rw [b6, unw, if_pos (by decide)]
            simp [sOp]
      · rename_i h45
        split
        · rename_i h
          have hlt := hs.2.2.2 (by rw [h]; decide)
          have hq : qgo tp n (f1 + 1) s K o true mn = if opn K = 5 then .inl s.2.1 else qgo tp n f1 (pnx tp n s) (0 :: K) o true true := by rw [qgo, if_neg h2, if_neg h3, if_neg h35, if_neg h45, if_pos h]
          cases hrec : rec with
          | none =>
            show qgo tp n (f1 + 1) s K o true mn = .inl s.2.1
            rw [hq, if_pos (by rw [hK]; exact hnone hrec)]
          | some r =>
            obtain ⟨hc, hei, -⟩ := hsome r hrec
            rw [if_neg (by rw [hK]; exact hc)] at hq
            have hh := hei f1 (pnx tp n s) (0 :: K) o hn1 (by show 1 + opn K = c + 1; omega) (by show rk 0 < 1; decide) (by omega)
            dsimp only
            cases hres : r.1 (pnx tp n s) with
            | inl p => rw [hres] at hh; exact hq.trans hh
            | inr x =>
              rw [hres] at hh
              obtain ⟨b1, b2, b3, f2, K2, o2, mn2, b4, b5, b6, b7⟩ := hh
              dsimp only
              have hxn := b2.1
              obtain ⟨f3, rfl⟩ : ∃ f3, f2 = f3 + 1 := ⟨f2 - 1, by omega⟩
              rw [unw_top (K := 0 :: K) (by show rk 0 < 1; decide)] at b6
              obtain ⟨hx1, hx2⟩ := pnx_ok tp b2
              split
              · rename_i h41
                have hlx := b2.2.2.2 (by rw [h41]; decide)
                have hst : qgo tp n (f3 + 1) x.1 K2 o2 false mn2 = qgo tp n f3 (pnx tp n x.1) (unw 7 K (o ++ x.2)).1 (unw 7 K (o ++ x.2)).2 false mn2 := by
                  rw [qgo, if_neg (by rw [h41]; decide), if_pos h41, b6]
                exact ⟨True.intro, hx1, by dsimp only; omega, f3, _, _, mn2, (hq.trans b4).trans hst, by dsimp only; omega, unw_unw (Nat.le_refl _) _ _, fun q => absurd q (by decide)⟩
              · rename_i h41
                show qgo tp n (f1 + 1) s K o true mn = .inl x.1.2.1
                rw [hq, b4]
                by_cases hcmp : oCmp x.1.1 = none
                · rw [qgo, if_neg h41, b6]
                  split
                  · rw [if_neg (by simp)]
                  · cases hb : bSg x.1.1 with
                    | none => rfl
                    | some h => exact absurd hcmp (XE_sg b1 hb)
                · exact b7 (by decide) hcmp
        · rename_i h40
          show qgo tp n (f1 + 1) s K o true mn = .inl s.2.1
          rw [qgo, if_neg h2, if_neg h3, if_neg h35, if_neg h45, if_neg h40]

