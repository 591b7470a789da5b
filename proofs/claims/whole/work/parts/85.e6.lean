/-! both: counts, years, rusts, what is drawn -/
theorem yuF_end {g : Nat → Prop} [DecidablePred g] : ∀ r v s, yuF g (r + 1) v s = (if g (v + r) then ((yuF g r v s).1 + 1, if (yuF g r v s).2 = -1 then nI (v + r) else (yuF g r v s).2) else yuF g r v s) := by
  intro r
  induction r with
  | zero => intro v s; rfl
  | succ r ih =>
    intro v s
    rw [yuF, ih (v + 1), show v + 1 + r = v + (r + 1) by omega]
    rfl
theorem ye_yu {g : Nat → Prop} [DecidablePred g] : ∀ n, n ≤ 1000 → ∀ s, (yeF g n s).1 = (yuF g n 0 (0, -1)).1 + s.1 ∧ (yeF g n s).2 = if (yuF g n 0 (0, -1)).2 = -1 then s.2 else (yuF g n 0 (0, -1)).2 := by
  intro n
  induction n with
  | zero => intro _ s; exact ⟨(Int32.zero_add _).symm, rfl⟩
  | succ n ih =>
    intro hn s
    rw [yeF, yuF_end, Nat.zero_add]
    generalize yuF g n 0 (0, -1) = U at ih ⊢
    by_cases h : g n
    · obtain ⟨h1, h2⟩ := ih (by omega) (s.1 + 1, nI n)
      rw [if_pos h, if_pos h]
      refine ⟨?_, ?_⟩
      · rw [h1, Int32.add_assoc, Int32.add_comm 1 s.1]
      · rw [h2]
        dsimp only
        by_cases e : U.2 = -1
        · rw [if_pos e, if_neg (nI_m1n (by omega))]
        · rw [if_neg e, if_neg e]
    · rw [if_neg h, if_neg h]
      exact ih (by omega) s
theorem ye_eq {g : Nat → Prop} [DecidablePred g] : yeF g 100 (0, -1) = yuF g 100 0 (0, -1) := by
  obtain ⟨h1, h2⟩ := @ye_yu g _ 100 (by decide) (0, -1)
  refine Prod.ext ?_ ?_
  · rw [h1, Int32.add_zero]
  · rw [h2]
    by_cases e : (yuF g 100 0 (0, -1)).2 = -1
    · rw [if_pos e, e]
    · rw [if_neg e]
theorem yuF_ext {g h : Nat → Prop} [DecidablePred g] [DecidablePred h] : ∀ r v s, (∀ i, v ≤ i → i < v + r → (g i ↔ h i)) → yuF g r v s = yuF h r v s := by
  intro r
  induction r with
  | zero => intro v s _; rfl
  | succ r ih =>
    intro v s e
    have e0 := e v (Nat.le_refl _) (by omega)
    rw [yuF, yuF]
    by_cases q : h v
    · rw [if_pos q, if_pos (e0.2 q)]
      exact ih _ _ (fun i a b => e i (by omega) (by omega))
    · rw [if_neg q, if_neg (fun t => q (e0.1 t))]
      exact ih _ _ (fun i a b => e i (by omega) (by omega))
theorem bitA_ext {g h : Nat → Prop} [DecidablePred g] [DecidablePred h] : ∀ r v s, (∀ i, v ≤ i → i < v + r → (g i ↔ h i)) → bitA g r v s = bitA h r v s := by
  intro r
  induction r with
  | zero => intro v s _; rfl
  | succ r ih =>
    intro v s e
    have e0 := e v (Nat.le_refl _) (by omega)
    rw [bitA, bitA]
    by_cases q : h v
    · rw [if_pos q, if_pos (e0.2 q)]
      exact ih _ _ (fun i a b => e i (by omega) (by omega))
    · rw [if_neg q, if_neg (fun t => q (e0.1 t))]
      exact ih _ _ (fun i a b => e i (by omega) (by omega))
theorem cnt_eq {g h : Nat → Prop} [DecidablePred g] [DecidablePred h] : ∀ r v a, (∀ i, v ≤ i → i < v + r → (g i ↔ h i)) → cntA g r v (nI a) = nI (cnN h r v a) := by
  intro r
  induction r with
  | zero => intro v a _; rfl
  | succ r ih =>
    intro v a e
    have e0 := e v (Nat.le_refl _) (by omega)
    rw [cntA, cnN]
    by_cases q : h v
    · rw [if_pos q, if_pos (e0.2 q), nI_1]
      exact ih _ _ (fun i a b => e i (by omega) (by omega))
    · rw [if_neg q, if_neg (fun t => q (e0.1 t))]
      exact ih _ _ (fun i a b => e i (by omega) (by omega))
theorem rsF_ext {g h : Nat → Int32} {win : Int32} : ∀ r n, (∀ i, n ≤ i → i < n + r → g i = h i) → rsF g win r n = rsF h win r n := by
  intro r
  induction r with
  | zero => intro n _; rfl
  | succ r ih =>
    intro n e
    rw [rsF, rsF, e n (Nat.le_refl _) (by omega), ih (n + 1) (fun i a b => e i (by omega) (by omega))]
theorem mi_wi {u m : Nat} (hu : u ≤ 999) (hm : m ≤ 1000) : miF 999 (nI u + nI m) = wiN (nI u + nI m) := by
  rw [nI_add]
  unfold miF wiN
  have h0 : (0 : Int32) ≤ nI (u + m) := (nI_leI (a := 0) (by omega) (by omega)).2 (Nat.zero_le _)
  have h1 : (999 : Int32) > nI (u + m) ↔ u + m < 999 := nI_ltI (b := 999) (by omega) (by decide)
  have h2 : nI (u + m) ≤ (999 : Int32) ↔ u + m ≤ 999 := nI_leI (b := 999) (by omega) (by decide)
  rw [if_pos h0]
  by_cases q : u + m < 999
  · rw [if_pos (h1.2 q), if_pos (h2.2 (by omega))]
  · rw [if_neg (fun t => q (h1.1 t))]
    by_cases q2 : u + m ≤ 999
    · rw [if_pos (h2.2 q2), show u + m = 999 by omega]
      rfl
    · rw [if_neg (fun t => q2 (h2.1 t))]
theorem vag_rs {n : Nat} {V V' : Vw} {x : Int32} (h : vag n V V') : vag n (rsV V x) (rsV V' x) := ⟨h.1, by show (x, V.2.2.2.2.2) = (x, V'.2.2.2.2.2); rw [h.2]⟩
theorem vag_hg {n p : Nat} {V V' : Vw} {x : Int32} (h : vag n V V') : vag n (hgV V p x) (hgV V' p x) := ⟨fun q hq => by
  obtain ⟨a, b, c, d⟩ := h.1 q hq
  exact ⟨a, b, by unfold hgV; dsimp only; rw [c], d⟩, h.2⟩
theorem vag_kd {n p : Nat} {V V' : Vw} {x : Int32} (h : vag n V V') : vag n (kdV V p x) (kdV V' p x) := ⟨fun q hq => by
  obtain ⟨a, b, c, d⟩ := h.1 q hq
  exact ⟨by unfold kdV; dsimp only; rw [a], b, c, d⟩, h.2⟩
theorem vag_mo {n p : Nat} {V V' : Vw} {x : Int32} (h : vag n V V') : vag n (moV V p x) (moV V' p x) := ⟨fun q hq => by
  obtain ⟨a, b, c, d⟩ := h.1 q hq
  exact ⟨a, by unfold moV; dsimp only; rw [b], c, d⟩, h.2⟩
theorem rin_get {R : List Nat} {n : Nat} (h : ∀ q ∈ R, q < n) : rin (fun j => R.getD j 0) R.length n := by
  intro i hi
  have : (R.getD i 0) ∈ R := liF_mem hi
  exact h _ this
theorem seL_in {O : Nat → Nat} {set n : Nat} : ∀ r i acc, (∀ j, j < i + r → O j < n) → (∀ q ∈ acc, q < n) → ∀ q ∈ seL O set r i acc, q < n := by
  intro r
  induction r with
  | zero => intro i acc _ h q hq; exact h q hq
  | succ r ih =>
    intro i acc hO h
    have h2 : ∀ q ∈ acc ++ [O i], q < n := fun q hq => by
      rcases List.mem_append.1 hq with z | z
      · exact h q z
      · rw [List.mem_singleton.1 z]; exact hO i (by omega)
    rw [seL]
    split
    · exact ih (i + 1) _ (fun j hj => hO j (by omega)) h2
    · exact ih (i + 1) _ (fun j hj => hO j (by omega)) h
theorem ag_re {L : List (List Op)} {n k : Nat} {V V' : Vw} {F F' : Nat → Int32} {O : Nat → Nat} {win : Int32} (h : vag n V V') (hF : fag n F F') (hO : rin O k n) (set : Nat) : reG L V F O k win set ↔ reG L V' F' O k win set := by
  have hin := rin_get (seL_in (O := O) (set := set) (n := n) k 0 [] (fun j hj => hO j (by omega)) (fun _ q => by cases q))
  unfold reG seR
  rw [ag_hi h _ hin, ag_wk h hF hin]
theorem ag_drV {L : List (List Op)} {n k : Nat} {V V' : Vw} {O : Nat → Nat} (h : vag n V V') (hO : rin O k n) (seed : Int32) : drL L V O k 0 (seed.toInt64 + 1) [] = drV L V' O k seed := by
  unfold drV
  exact ag_dr h k 0 _ [] (fun j hj => hO j (by omega))
theorem drV_in {L : List (List Op)} {n k : Nat} {V : Vw} {O : Nat → Nat} (hO : rin O k n) (seed : Int32) : ∀ q ∈ drV L V O k seed, q < n := dr_in k 0 _ [] (fun j hj => hO j (by omega)) (fun _ q => by cases q)
/-- the sets of odds -/
theorem lo_eq {g h : Nat → Prop} [DecidablePred g] [DecidablePred h] {b : Nat} {part : Int32} (e : ∀ i, i < b → (g i ↔ h i)) (hb0 : 0 < b) (hb : b ≤ 1000) (hp : part = 0 ∨ part = 1) : lowV (cntA g b 0 0).toInt64 (nI b).toInt64 part = loV (cnN h b 0 0) b part := by
  have hc := cnt_eq (g := g) (h := h) b 0 0 (fun i _ hi => e i (by omega))
  have hle : cnN h b 0 0 ≤ 0 + b := cnN_le b 0 0
  rw [show cntA g b 0 0 = nI (cnN h b 0 0) from hc, nI_l (by omega), nI_l (by omega)]
  exact low_eq (by omega) hb0 (by omega) hp

