/-! both: feuds, people, images -/
theorem oth_fr {tc z : Nat} {LL : Nat → List (List Op)} {M N M' N' : Mem} (h : txJ tc LL M N ∧ tpJ z M N ∧ shJ M N ∧ wdN N) (hM : ∀ t i j, ¬ (1 ≤ t ∧ t ≤ 7) → ¬ (t = 0 ∧ j = 3) → M' t i j = M t i j) (hN : ∀ t i j, ¬ (1 ≤ t ∧ t ≤ 5) → t ≠ 9 → t ≠ 10 → ¬ (t = 0 ∧ (j = 0 ∨ j = 6 ∨ j = 7 ∨ j = 13 ∨ j = 14 ∨ 21 ≤ j)) → t < 16 → N' t i j = N t i j) : txJ tc LL M' N' ∧ tpJ z M' N' ∧ shJ M' N' ∧ wdN N' := by
  obtain ⟨h3, h4, h5, h6⟩ := h
  have eM : ∀ t i, 8 ≤ t → M' t i = M t i := fun t i a => funext fun j => hM t i j (by omega) (by omega)
  have eN : ∀ t, 6 ≤ t → t < 16 → t ≠ 9 → t ≠ 10 → N' t 0 = N t 0 := fun t a b c d => funext fun j => hN t 0 j (by omega) c d (by omega) b
  refine ⟨?_, ?_, ?_, ?_⟩
  · obtain ⟨a, b, c, d⟩ := h3
    exact ⟨a, by rw [hM 0 0 6 (by omega) (by omega)]; exact b, by rw [hN 0 0 12 (by omega) (by omega) (by omega) (by omega) (by omega)]; exact c, fun t ht => ⟨tx_fr (d t ht).1 (eM 9 t (by omega)) (eM 10 t (by omega)), txN_fr (d t ht).2 (eN 7 (by decide) (by decide) (by decide) (by decide)) (eN 8 (by decide) (by decide) (by decide) (by decide))⟩⟩
  · obtain ⟨a, b, c, d⟩ := h4
    exact ⟨a, by rw [hM 12 0 1 (by omega) (by omega)]; exact b, by rw [hN 0 0 9 (by omega) (by omega) (by omega) (by omega) (by omega)]; exact c, by rw [eN 6 (by decide) (by decide) (by decide) (by decide), ← d]; exact eM 13 0 (by omega)⟩
  · intro q hq
    obtain ⟨a, ⟨m, b1, b2, b3⟩, c⟩ := h5 q hq
    exact ⟨by rw [hM 19 q 1 (by omega) (by omega), eN 11 (by decide) (by decide) (by decide) (by decide)]; exact a, ⟨m, b1, by rw [hM 19 q 2 (by omega) (by omega)]; exact b2, by rw [eN 12 (by decide) (by decide) (by decide) (by decide)]; exact b3⟩, fun i hi => by rw [hM 20 q i (by omega) (by omega), eN 13 (by decide) (by decide) (by decide) (by decide)]; exact c i hi⟩
  · intro w hw c hc
    rw [eN 15 (by decide) (by decide) (by decide) (by decide)]
    exact h6 w hw c hc
theorem bt_or (x y : Int32) (q : Nat) : bt (x ||| y) q = (bt x q || bt y q) := by
  unfold bt
  rw [Int32.toBitVec_or, BitVec.getLsbD_or]
theorem bt_is : ∀ b, b < 8 → ∀ c, c < 8 → c ≠ b → bt ((0 : Int32) <<< (nI b &&& 31)) c = false ∧ bt ((1 : Int32) <<< (nI b &&& 31)) c = false := by decide +kernel
theorem Cq_feud {tc n k z : Nat} {O : Nat → Nat} {LL : Nat → List (List Op)} {M N : Mem} (h : Cq tc n k z O LL M N) {a b : Nat} (ha : a < n) (hb : b < n) {x : Int32} (hx : x = 0 ∨ x = 1) : Cq tc n k z O LL (fqM M (nI a) (nI b) x) (fqN N (nI a) (nI b) x) := by
  obtain ⟨⟨a1, a2, a3⟩, bb, rest⟩ := id h.1
  have ea : (nI a).toNatClampNeg = a := nI_clamp (by omega)
  unfold fqM fqN
  rw [ea]
  refine Cq_cur h ⟨⟨a1, a2, a3⟩, fun s hs => ?_, rest⟩ (Nat.le_refl _) (fun t i j q => by rw [up_apply, if_neg (by omega)]) (fun t i j q _ _ => by rw [up_apply, if_neg (by omega)]) (fun s _ => ⟨rfl, rfl⟩)
  obtain ⟨⟨f1, f2, f3, f4, f5⟩, g1, g2, g3⟩ := bb s hs
  have eM : ∀ v, up M 6 0 a v 6 0 s = if s = a then v else M 6 0 s := fun v => by rw [up_apply]; simp
  have eN : ∀ v, up N 4 0 a v 4 0 s = if s = a then v else N 4 0 s := fun v => by rw [up_apply]; simp
  rw [eM, eN]
  by_cases e : s = a
  · subst e
    rw [if_pos rfl, if_pos rfl, f5]
    refine ⟨⟨f1, f2, f3, f4, rfl⟩, g1, g2, fun c h1 h2 => ?_⟩
    rw [bt_or, bt_clr _ (by omega) h2, g3 c h1 h2, Bool.false_and, Bool.false_or]
    have := bt_is b (by omega) c h2 (by omega)
    rcases hx with rfl | rfl
    · exact this.1
    · exact this.2
  · rw [if_neg e, if_neg e]
    exact ⟨⟨f1, f2, f3, f4, f5⟩, g1, g2, g3⟩
theorem st_feud (a b x : Int32) : St kI jX6_feud jX7_feud [vi a, vi b, vi x] := by
  intro w w' d d' M N hd hd' hC
  obtain ⟨tc, n, k, z, O, LL, hq⟩ := id hC
  obtain ⟨⟨a1, a2, a3⟩, bb, -⟩ := id hq.1
  refine ⟨_, _, ok_X6_feud (by omega) a2 a1 a b x, ok_X7_feud (by omega) a3 a1 a b x, ?_⟩
  rintro r M' r' N' ⟨y, h1, h2⟩ ⟨y', h1', h2'⟩
  rw [a2] at h2
  by_cases h : (0 ≤ a ∧ a < nI n) ∧ (0 ≤ b ∧ b < nI n) ∧ ¬ a = b
  · rw [if_pos h] at h2 h2'
    by_cases hx : 0 ≤ x ∧ x ≤ 1
    · rw [if_pos hx] at h2 h2'
      obtain ⟨rfl, rfl⟩ := h2
      obtain ⟨rfl, rfl⟩ := h2'
      obtain ⟨a, rfl, han⟩ := inP h.1 rfl a1
      obtain ⟨b, rfl, hbn⟩ := inP h.2.1 rfl a1
      refine st_fin ⟨_, rfl⟩ h1 ?_ ⟨tc, n, k, z, O, LL, Cq_feud (Cq_feud hq han hbn (p01 hx)) hbn han (p01 hx)⟩
      rw [h1', nI_clamp (by omega), (bb a han).1.2.2.2.2]
      have t1 := bt_sh (N 4 0 a) (show b < 32 by omega)
      have t2 := nI_b1 (x := N 4 0 a) (show b < 32 by omega)
      cases hbt : bt (N 4 0 a) b with
      | false =>
        rw [t1.2 hbt, if_neg (fun q => q rfl)]
      | true =>
        rw [t2.2 hbt, if_pos (by decide)]
    · rw [if_neg hx] at h2 h2'
      obtain ⟨rfl, rfl⟩ := h2
      obtain ⟨rfl, rfl⟩ := h2'
      exact st_fin ⟨_, rfl⟩ h1 h1' hC
  · rw [if_neg h] at h2 h2'
    obtain ⟨rfl, rfl⟩ := h2
    obtain ⟨rfl, rfl⟩ := h2'
    exact st_fin ⟨_, rfl⟩ h1 h1' hC
theorem nI_dv {a c : Nat} (ha : a < 2 ^ 31) (hc : c < 2 ^ 31) : nI a / nI c = nI (a / c) := by
  have hle : a / c ≤ a := Nat.div_le_self a c
  apply Int32.toInt_inj.mp
  rw [Int32.toInt_div, nI_toInt ha, nI_toInt hc, nI_toInt (show a / c < 2 ^ 31 by omega), ← Int.ofNat_tdiv]
  generalize a / c = e at hle
  rw [Int.bmod_eq_of_le (by omega) (by omega)]
theorem bt_mk : ∀ p, p < 8 → ∀ i, i < 32 → i ≠ p → (((1 : Int32) <<< (nI p &&& 31)) ^^^ -1).toBitVec.getLsbD i = true := by decide +kernel
theorem bt_no {x : Int32} {p : Nat} (hp : p < 8) (h : bt x p = false) : x &&& ((1 <<< (nI p &&& 31)) ^^^ -1) = x := by
  apply Int32.toBitVec_inj.mp
  apply BitVec.eq_of_getLsbD_eq
  intro i hi
  rw [Int32.toBitVec_and, BitVec.getLsbD_and]
  by_cases e : i = p
  · subst e
    have : x.toBitVec.getLsbD i = false := h
    rw [this, Bool.false_and]
  · have : (((1 : Int32) <<< (nI p &&& 31)) ^^^ -1).toBitVec.getLsbD i = true := bt_mk p hp i hi e
    rw [this, Bool.and_true]
theorem Cq_join {tc n k z : Nat} {O : Nat → Nat} {LL : Nat → List (List Op)} {M N : Mem} (h : Cq tc n k z O LL M N) (hn : n < 8) {a b : Int32} (hp : jnP a b) : Cq tc (n + 1) k z O LL (joM M n a b) (poM N n a b) := by
  obtain ⟨⟨a1, a2, a3⟩, bb, c, dd, f, g, l⟩ := id h.1
  have m1 : ∀ t q, 2 ≤ t → t ≤ 7 → q < n → joM M n a b t 0 q = M t 0 q := fun t q h1 h2 h3 => by
    unfold joM
    simp only [up_apply]
    rw [if_neg (by omega), if_neg (by omega), if_neg (by omega), if_neg (by omega), if_neg (by omega), if_neg (by omega)]
  have n1 : ∀ q, q < n → poM N n a b 1 0 q = N 1 0 q ∧ poM N n a b 2 0 q = N 2 0 q ∧ poM N n a b 3 0 (2 * q) = N 3 0 (2 * q) ∧ poM N n a b 3 0 (2 * q + 1) = N 3 0 (2 * q + 1) ∧ poM N n a b 4 0 q = N 4 0 q := fun q hq => by
    have hb := (bb q hq).2.2.2 n (Nat.le_refl _) hn
    unfold poM pfM peM
    simp only [up_apply, upr_apply, and_self, true_and, if_true]
    refine ⟨?_, ?_, ?_, ?_, ?_⟩
    all_goals (repeat (first | rw [if_neg (by omega)] | rw [if_pos (by omega)]))
    exact bt_no hn hb
  have n2 : poM N n a b 1 0 n = a / 10 ∧ poM N n a b 2 0 n = a - a / 10 * 10 ∧ poM N n a b 3 0 (2 * n) = b / 1000 ∧ poM N n a b 3 0 (2 * n + 1) = b - b / 1000 * 1000 ∧ poM N n a b 4 0 n = 0 := by
    unfold poM pfM peM
    simp only [up_apply, upr_apply, and_self, true_and, if_true]
    refine ⟨?_, ?_, ?_, ?_, ?_⟩
    all_goals (repeat (first | rw [if_neg (by omega)] | rw [if_pos (by omega)]))
  have m2 : joM M n a b 2 0 n = a / 10 ∧ joM M n a b 3 0 n = a - a / 10 * 10 ∧ joM M n a b 4 0 n = b / 1000 ∧ joM M n a b 5 0 n = b - b / 1000 * 1000 ∧ joM M n a b 6 0 n = 0 := by
    unfold joM
    simp only [up_apply, and_self, true_and, if_true]
    refine ⟨?_, ?_, ?_, ?_, ?_⟩
    all_goals (repeat (first | rw [if_neg (by omega)] | rw [if_pos (by omega)]))
  have n3 : ∀ t i j, ¬ (1 ≤ t ∧ t ≤ 4) → ¬ (t = 0 ∧ j = 0) → poM N n a b t i j = N t i j := fun t i j h1 h2 => by
    unfold poM pfM peM
    simp only [up_apply, upr_apply]
    repeat (first | rw [if_neg (by omega)])
  have m3 : ∀ t i j, ¬ ((2 ≤ t ∧ t ≤ 6) ∧ i = 0) → ¬ (t = 1 ∧ i = 0 ∧ j = 6) → joM M n a b t i j = M t i j := fun t i j h1 h2 => by
    unfold joM
    simp only [up_apply]
    repeat (first | rw [if_neg (by omega)])
  obtain ⟨av, ha59, rfl⟩ := nI_of2 (n := 59) (M := 59) (by decide) (Int32.not_lt.mpr hp.1.1) hp.1.2
  obtain ⟨bv, hb9, rfl⟩ := nI_of2 (n := 99999) (M := 99999) (by decide) (Int32.not_lt.mpr hp.2.1) hp.2.2
  refine Cq_cur h ⟨⟨by omega, ?_, ?_⟩, fun q hq => ?_, ⟨c.1, by rw [m3 1 0 7 (by omega) (by omega)]; exact c.2.1, by rw [n3 0 0 6 (by omega) (by omega)]; exact c.2.2⟩, fun i hi => ?_, f, ⟨by rw [m3 1 0 8 (by omega) (by omega), n3 0 0 7 (by omega) (by omega)]; exact g.1, by rw [n3 0 0 7 (by omega) (by omega)]; exact g.2⟩, ?_⟩ (by omega) (fun t i j e => m3 t i j (by omega) (by omega)) (fun t i j e1 e2 _ => n3 t i j (by omega) (by omega)) (fun q hq => ⟨(n1 q hq).1, (n1 q hq).2.1⟩)
  · unfold joM
    rw [up_same]
  · unfold poM
    rw [up_same]
  · by_cases e : q = n
    · subst e
      obtain ⟨s1, s2, s3, s4, s5⟩ := n2
      obtain ⟨t1, t2, t3, t4, t5⟩ := m2
      rw [s1, s2, s3, s4, s5, t1, t2, t3, t4, t5]
      refine ⟨⟨rfl, rfl, rfl, rfl, rfl⟩, ?_, ⟨bv / 1000, by omega, by rw [show (1000 : Int32) = nI 1000 from rfl, nI_dv (by omega) (by decide)]⟩, fun _ _ _ => bt_0 _⟩
      have key : ∀ v, v ≤ 59 → nI v - nI v / 10 * 10 = nI (v % 10) := by decide +kernel
      exact ⟨av % 10, by omega, key av ha59⟩
    · have hqn : q < n := by omega
      obtain ⟨s1, s2, s3, s4, s5⟩ := n1 q hqn
      obtain ⟨u1, u2, u3, u4⟩ := bb q hqn
      rw [s1, s2, s3, s4, s5, m1 2 q (by decide) (by decide) hqn, m1 3 q (by decide) (by decide) hqn, m1 4 q (by decide) (by decide) hqn, m1 5 q (by decide) (by decide) hqn, m1 6 q (by decide) (by decide) hqn]
      exact ⟨u1, u2, u3, fun x h1 h2 => u4 x (by omega) h2⟩
  · obtain ⟨s1, s2, s3⟩ := dd i hi
    exact ⟨by rw [m3 7 0 i (by omega) (by omega)]; exact s1, by rw [n3 5 0 i (by omega) (by omega)]; exact s2, by omega⟩
  · obtain ⟨t, l1, l2, l3⟩ := l
    exact ⟨t, l1, by rw [m3 1 0 9 (by omega) (by omega)]; exact l2, by rw [n3 0 0 13 (by omega) (by omega)]; exact l3⟩
theorem st_person (a b : Int32) : St kI jX6_person jX7_person [vi a, vi b] := by
  intro w w' d d' M N hd hd' hC
  obtain ⟨tc, n, k, z, O, LL, hq⟩ := id hC
  obtain ⟨⟨a1, a2, a3⟩, bb, -⟩ := id hq.1
  refine ⟨_, _, ok_X6_person (by omega) a2 a1 a b, ok_X7_person (by omega) a3 a1 a b, ?_⟩
  rintro r M' r' N' ⟨y, h1, h2⟩ ⟨y', h1', h2'⟩
  by_cases h : jnP a b
  · rw [if_pos h] at h2 h2'
    by_cases hn : n < 8
    · rw [if_pos hn] at h2 h2'
      obtain ⟨rfl, rfl⟩ := h2
      obtain ⟨rfl, rfl⟩ := h2'
      exact st_fin ⟨_, rfl⟩ h1 h1' ⟨tc, n + 1, k, z, O, LL, Cq_join hq hn h⟩
    · rw [if_neg hn] at h2 h2'
      obtain ⟨rfl, rfl⟩ := h2
      obtain ⟨rfl, rfl⟩ := h2'
      exact st_fin ⟨_, rfl⟩ h1 h1' hC
  · rw [if_neg h] at h2 h2'
    obtain ⟨rfl, rfl⟩ := h2
    obtain ⟨rfl, rfl⟩ := h2'
    exact st_fin ⟨_, rfl⟩ h1 h1' hC

