/-! class: chain -/
/-- the trial's crew: the true one, with another ladder and rust -/
def chI (M M1 : Mem) (R : Nat → Nat) (k : Nat) (ru : Int32) : Prop := frC M M1 ∧ (∀ t q, 2 ≤ t → t ≤ 6 → q < 8 → M1 t 2 q = M t 0 q) ∧ rowA (M1 7 2) R k ∧ M1 1 2 6 = M 1 0 6 ∧ M1 1 2 7 = nI k ∧ M1 1 2 8 = ru ∧ M1 1 2 9 = M 1 0 9
def chV (V : Vw) (k : Nat) (ru : Int32) : Vw := (V.1, V.2.1, V.2.2.1, V.2.2.2.1, ru, nI k)
abbrev chG (L : List (List Op)) (V : Vw) (F : Nat → Int32) (win : Int32) (R : Nat → Nat) (k : Nat) (ru : Int32) : Prop := win ≤ hiS L (chV V k ru) R k ∧ wkV L (chV V k ru) F R k = -1
def tpC (R : Nat → Nat) (k p : Nat) : Nat → Nat := fun i => if i = k then p else R i
def chS (L : List (List Op)) (V : Vw) (F : Nat → Int32) (win : Int32) (n : Nat) : Nat → Nat → (Nat → Nat) → Nat → Int32 → Int32
  | 0, _, R, k, _ => bitsF (fun i => nI (R i)) k
  | r + 1, p, R, k, ru => if p < n then (if fnd (fun i => nI (R i)) (nI p) k 0 = -1 ∧ chG L V F win R k ru then chS L V F win n r 0 (tpC R k p) (k + 1) 0 else chS L V F win n r (p + 1) R k ru) else bitsF (fun i => nI (R i)) k
theorem wkS_eq {L : List (List Op)} {V V' : Vw} (h : veq V V') {F F' : Nat → Int32} (hF : ∀ q, q < 8 → F q = F' q) {R : Nat → Nat} : ∀ n s, (∀ i, i < n → R i < 8) → wkS L V F R n s = wkS L V' F' R n s := by
  intro n
  induction n with
  | zero => intro s _; rfl
  | succ n ih =>
    intro s hR
    rw [wkS, wkS, ih _ (fun i hi => hR i (by omega))]
    unfold wkT
    rw [beaV_eq h (hR n (by omega)), weiV_eq h (hR n (by omega)), hF _ (hR n (by omega))]
theorem wkV_eq {L : List (List Op)} {V V' : Vw} (h : veq V V') {F F' : Nat → Int32} (hF : ∀ q, q < 8 → F q = F' q) {R : Nat → Nat} (n : Nat) (hR : ∀ i, i < n → R i < 8) : wkV L V F R n = wkV L V' F' R n := by
  unfold wkV
  rw [wkS_eq h hF n _ hR]
theorem fnd_eq {f g : Nat → Int32} {p : Int32} : ∀ r i, (∀ q, q < i + r → f q = g q) → fnd f p r i = fnd g p r i := by
  intro r
  induction r with
  | zero => intro i _; rfl
  | succ r ih =>
    intro i h
    rw [fnd, fnd, h i (by omega), ih (i + 1) (fun q hq => h q (by omega))]
theorem bitsF_eq {f g : Nat → Int32} : ∀ k, (∀ q, q < k → f q = g q) → bitsF f k = bitsF g k := by
  intro k
  induction k with
  | zero => intro _; rfl
  | succ k ih =>
    intro h
    rw [bitsF, bitsF, ih (fun q hq => h q (by omega)), h k (by omega)]
theorem fnd_no {f : Nat → Int32} {p : Int32} : ∀ r i, fnd f p r i = -1 → i + r < 2 ^ 31 → ∀ q, i ≤ q → q < i + r → f q ≠ p := by
  intro r
  induction r with
  | zero => intro i _ _ q a b; omega
  | succ r ih =>
    intro i h hb q a b
    rw [fnd] at h
    split at h
    · exact absurd h (nI_m1n (by omega))
    · rename_i hne
      by_cases e : q = i
      · rw [e]; exact hne
      · exact ih (i + 1) h (by omega) q (by omega) (by omega)
/-- no two rungs hold the same one -/
def injO (R : Nat → Nat) (k : Nat) : Prop := ∀ i j, i < k → j < k → R i = R j → i = j
theorem pigO : ∀ n k (R : Nat → Nat), (∀ i, i < k → R i < n) → injO R k → k ≤ n := by
  intro n
  induction n with
  | zero =>
    intro k R h _
    rcases Nat.eq_zero_or_pos k with e | e
    · omega
    · exact absurd (h 0 e) (by omega)
  | succ n ih =>
    intro k R h hi
    by_cases hx : ∃ i0, i0 < k ∧ R i0 = n
    · obtain ⟨i0, h1, h2⟩ := hx
      have := ih (k - 1) (fun i => if i < i0 then R i else R (i + 1)) (by
        intro i hik
        try dsimp only
        split
        · rename_i hlt
          have a := h i (by omega)
          have b : R i ≠ n := fun q => by have := hi i i0 (by omega) h1 (q.trans h2.symm); omega
          omega
        · rename_i hlt
          have a := h (i + 1) (by omega)
          have b : R (i + 1) ≠ n := fun q => by have := hi (i + 1) i0 (by omega) h1 (q.trans h2.symm); omega
          omega) (by
        intro i j hik hjk hij
        try dsimp only at hij
        split at hij <;> split at hij
        · exact hi _ _ (by omega) (by omega) hij
        · have := hi _ _ (by omega) (by omega) hij; omega
        · have := hi _ _ (by omega) (by omega) hij; omega
        · have := hi _ _ (by omega) (by omega) hij; omega)
      omega
    · have := ih k R (fun i hik => by
        have a := h i hik
        have b : R i ≠ n := fun q => hx ⟨i, hik, q⟩
        omega) hi
      omega
theorem injO_tp {R : Nat → Nat} {k p : Nat} (h : injO R k) (hp : ∀ q, q < k → R q ≠ p) : injO (tpC R k p) (k + 1) := by
  intro i j hi hj hij
  unfold tpC at hij
  split at hij <;> split at hij
  · omega
  · exact absurd hij.symm (hp j (by omega))
  · exact absurd hij (hp i (by omega))
  · exact h i j (by omega) (by omega) hij
theorem fndR_no {R : Nat → Nat} {p k : Nat} (h : fnd (fun i => nI (R i)) (nI p) k 0 = -1) (hk : k ≤ 8) : ∀ q, q < k → R q ≠ p := fun q hq e => fnd_no k 0 h (by omega) q (Nat.zero_le _) (by omega) (by show nI (R q) = nI p; rw [e])
theorem tpC_lt {R : Nat → Nat} {k p n : Nat} (h : ∀ i, i < k → R i < n) (hp : p < n) : ∀ i, i < k + 1 → tpC R k p i < n := by
  intro i hi
  unfold tpC
  split
  · exact hp
  · exact h i (by omega)
theorem ok_X6_chain {w : Wd} {d : Nat} (hd : 7 ≤ d) {M : Mem} {n k : Nat} {L : List (List Op)} {O : Nat → Nat} (hL : lawC M 0 L) (hn : M 1 0 6 = nI n) (hn8 : n ≤ 8) (hk : M 1 0 7 = nI k) (hk8 : k ≤ 8) (hO : rowA (M 7 0) O k) (hinj : injO O k) (win : Int32) : lr_Ok tC sC w d jX6_chain [vo 0 0, vi win] M (qX fun r M' => frC M M' ∧ r = if 0 ≤ win ∧ win ≤ 999 then chS L (vwC M 0) (M 6 0) win n 72 0 O k (M 1 0 8) else -2) := by
  have fin : ∀ p j R k ru M1, k ≤ 8 → chI M M1 R k ru → lr_W tC sC w d jX6_chain 105 [some (vo 0 0), some (vi win), some (vi p), some (vi j)] [] M1 (qX fun r M' => frC M M' ∧ r = bitsF (fun i => nI (R i)) k) := by
    intro p j R k ru M1 hk8 hI
    refine ri_ald a_X6_chain_105 rfl ?_
    refine ri_getR (t' := 1) (i' := 2) a_X6_chain_106 fl_X6_19 kC_0_2 rfl iC_0 (Or.inr ⟨rfl, rfl, rfl⟩) ?_
    refine ri_cVpi (as := []) (rest := []) (d' := d - 1) a_X6_chain_109 mv_X0_savedBits ml_X6_171 (rcC_1 (iC_1 (by decide))) (by omega) (ok_X0_savedBits (by decide) hI.2.2.2.2.1 hk8) (Nat.le_of_ble_eq_true rfl) rfl (fun zy11 ezy11 => ?_)
    refine ri_ireturn a_X6_chain_112 rfl rfl ?_
    exact rX ⟨hI.1, by rw [ezy11]; exact bitsF_eq k (fun q hq => (hI.2.2.1 q hq).1)⟩
  have loop : ∀ r j p R k ru M1, 72 = j + r → k ≤ 8 → p ≤ n → injO R k → chI M M1 R k ru → lr_W tC sC w d jX6_chain 28 [some (vo 0 0), some (vi win), some (vi (nI p)), some (vi (nI j))] [] M1 (qX fun r' M' => frC M M' ∧ r' = chS L (vwC M 0) (M 6 0) win n r p R k ru) := by
    intro r
    induction r with
    | zero =>
      intro j p R k ru M1 hj hk8 hp hi hI
      have : j = 72 := by omega
      subst this
      refine ri_ild a_X6_chain_28 rfl ?_
      refine ri_ic a_X6_chain_29 ?_
      refine ri_icmp_ge a_X6_chain_31 (fun zc11 => ?_) (fun zc11 => ?_)
      · exact fin _ _ R k ru M1 hk8 hI
      · exact absurd (by decide) zc11
    | succ r ih =>
      intro j p R k ru M1 hj hk8 hp hi hI
      obtain ⟨h1, h2, h3, h4, h5, h6, h7⟩ := id hI
      have e6 : M1 1 2 6 = nI n := by rw [h4, hn]
      by_cases hpn : p < n
      · rw [chS, if_pos hpn]
        have hro := ok_X0_rungOf (w := w) (d := d - 1) (M := M1) (c := 2) (by decide) (nI p) h5 hk8
        have hV : veq (vwC M1 2) (chV (vwC M 0) k ru) := ⟨fun q hq => ⟨h2 2 q (by decide) (by decide) hq, h2 3 q (by decide) (by decide) hq, h2 4 q (by decide) (by decide) hq, h2 5 q (by decide) (by decide) hq⟩, by show (M1 1 2 8, M1 1 2 7) = (ru, nI k); rw [h5, h6]⟩
        have hL1 : lawC M1 2 L := by
          obtain ⟨t, ht, h9, hx⟩ := hL
          refine ⟨t, ht, by rw [h7, h9], ?_⟩
          unfold tx txS at hx ⊢
          rw [show M1 9 = M 9 from funext fun i => funext fun k => h1 9 i k (by omega), show M1 10 = M 10 from funext fun i => funext fun k => h1 10 i k (by omega)]
          exact hx
        have hR8 : ∀ i, i < k → R i < 8 := fun i hik => (h3 i hik).2
        have hse := ok_X6_serves_o (w := w) (d := d - 1) (c := 2) (by omega) hL1 (by decide) hk8 h3 win
        rw [hiS_eq hV k hR8, wkV_eq hV (fun q hq => h2 6 q (by decide) (by decide) hq) k hR8] at hse
        have hse2 : lr_Ok tC sC w (d - 1) jX6_serves [vo 0 0, vo 1 2, vo 7 2, vi (M1 1 2 7), vi win] M1 (qB (chG L (vwC M 0) (M 6 0) win R k ru) M1) := by
          rw [h5]
          exact hse
        have efn : fnd (M1 7 2) (nI p) k 0 = fnd (fun i => nI (R i)) (nI p) k 0 := fnd_eq k 0 (fun q hq => (h3 q (by omega)).1)
        rw [efn] at hro
        have hsf : fnd (fun i => nI (R i)) (nI p) k 0 = -1 → k < 8 := fun q => by
          have := pigO 8 (k + 1) (tpC R k p) (tpC_lt hR8 (by omega)) (injO_tp hi (fndR_no q hk8))
          omega
        have skip : ∀ j0, j0 = nI j → ¬ (fnd (fun i => nI (R i)) (nI p) k 0 = -1 ∧ chG L (vwC M 0) (M 6 0) win R k ru) → lr_W tC sC w d jX6_chain 96 [some (vo 0 0), some (vi win), some (vi (nI p)), some (vi j0)] [] M1 (qX fun r' M' => frC M M' ∧ r' = if fnd (fun i => nI (R i)) (nI p) k 0 = -1 ∧ chG L (vwC M 0) (M 6 0) win R k ru then chS L (vwC M 0) (M 6 0) win n r 0 (tpC R k p) (k + 1) 0 else chS L (vwC M 0) (M 6 0) win n r (p + 1) R k ru) := by
          intro j0 hj0 hno
          subst hj0
          rw [if_neg hno]
          refine ri_iinc (c0 := 1) (f := fun zx11 => [some (vo 0 0), some (vi win), some (vi zx11), some (vi (nI j))]) a_X6_chain_96 rfl (by decide) (fun _ => rfl) (fun zx11 ezx11 => ?_)
          refine ri_iinc (c0 := 1) (f := fun zx12 => [some (vo 0 0), some (vi win), some (vi zx11), some (vi zx12)]) a_X6_chain_99 rfl (by decide) (fun _ => rfl) (fun zx12 ezx12 => ?_)
          refine ri_goto a_X6_chain_102 ?_
          rw [ezx11, ezx12, nI_1, nI_1]
          exact ih (j + 1) (p + 1) R k ru M1 (by omega) hk8 (by omega) hi hI
        refine ri_ild a_X6_chain_28 rfl ?_
        refine ri_ic a_X6_chain_29 ?_
        refine ri_icmp_ge a_X6_chain_31 (fun zc11 => ?_) (fun zc11 => ?_)
        · exact absurd zc11 (nI_ge (b := 72) (by omega) (by decide))
        · refine ri_ild a_X6_chain_34 rfl ?_
          refine ri_ald a_X6_chain_35 rfl ?_
          refine ri_getR (t' := 1) (i' := 2) a_X6_chain_36 fl_X6_19 kC_0_2 rfl iC_0 (Or.inr ⟨rfl, rfl, rfl⟩) ?_
          refine ri_getI a_X6_chain_39 fl_X6_87 kC_1_6 rfl (iC_1 (by decide)) ?_
          refine ri_icmp_ge a_X6_chain_42 (fun zc12 => ?_) (fun zc12 => ?_)
          · exact absurd zc12 (by rw [e6]; exact nI_ge (by omega) (by omega))
          · refine ri_ald a_X6_chain_45 rfl ?_
            refine ri_getR (t' := 1) (i' := 2) a_X6_chain_46 fl_X6_19 kC_0_2 rfl iC_0 (Or.inr ⟨rfl, rfl, rfl⟩) ?_
            refine ri_ild a_X6_chain_49 rfl ?_
            refine ri_cVpi (as := [vi (nI p)]) (rest := []) (d' := d - 1) a_X6_chain_50 mv_X0_rungOf ml_X6_140 (rcC_1 (iC_1 (by decide))) (by omega) (hro) (Nat.le_of_ble_eq_true rfl) rfl (fun zy13 ezy13 => ?_)
            refine ri_ic a_X6_chain_53 ?_
            refine ri_icmp_ne a_X6_chain_54 (fun zc14 => ?_) (fun zc14 => ?_)
            · exact skip _ rfl (fun q => zc14 (ezy13.trans q.1))
            · refine ri_ald a_X6_chain_57 rfl ?_
              refine ri_ald a_X6_chain_58 rfl ?_
              refine ri_getR (t' := 1) (i' := 2) a_X6_chain_59 fl_X6_19 kC_0_2 rfl iC_0 (Or.inr ⟨rfl, rfl, rfl⟩) ?_
              refine ri_ald a_X6_chain_62 rfl ?_
              refine ri_getR (t' := 1) (i' := 2) a_X6_chain_63 fl_X6_19 kC_0_2 rfl iC_0 (Or.inr ⟨rfl, rfl, rfl⟩) ?_
              refine ri_getR (t' := 7) (i' := 2) a_X6_chain_66 fl_X6_144 kC_1_5 rfl (iC_1 (by decide)) (Or.inl ⟨rfl, rfl, rfl⟩) ?_
              refine ri_ald a_X6_chain_69 rfl ?_
              refine ri_getR (t' := 1) (i' := 2) a_X6_chain_70 fl_X6_19 kC_0_2 rfl iC_0 (Or.inr ⟨rfl, rfl, rfl⟩) ?_
              refine ri_getI a_X6_chain_73 fl_X6_90 kC_1_7 rfl (iC_1 (by decide)) ?_
              refine ri_ild a_X6_chain_76 rfl ?_
              refine ri_cVpb (as := [vo 1 2, vo 7 2, vi (M1 1 2 7), vi win]) (rest := []) (d' := d - 1) a_X6_chain_77 mv_X6_serves ml_X6_158 (rcC_0 iC_0) (by omega) (hse2) (Nat.le_of_ble_eq_true rfl) rfl (fun zc15 => ?_) (fun zc15 => ?_)
              · refine ri_if_eq a_X6_chain_80 (fun q => absurd q (by decide)) (fun _ => ?_)
                have hf0 := ezy13.symm.trans zc14
                have hk7 := hsf hf0
                rw [if_pos ⟨hf0, zc15⟩]
                refine ri_ald a_X6_chain_83 rfl ?_
                refine ri_getR (t' := 1) (i' := 2) a_X6_chain_84 fl_X6_19 kC_0_2 rfl iC_0 (Or.inr ⟨rfl, rfl, rfl⟩) ?_
                refine ri_ild a_X6_chain_87 rfl ?_
                refine ri_cVxv (as := [vi (nI p)]) (rest := []) (d' := d - 1) a_X6_chain_88 mv_X0_saveByFire ml_X6_162 (rcC_1 (iC_1 (by decide))) (by omega) (ok_X0_saveByFire (by omega) (by decide) (nI p) h5 hk7) (Nat.le_of_ble_eq_true rfl) rfl (fun zM21 hzM21 => ?_)
                refine ri_ic a_X6_chain_91 ?_
                refine ri_istk (ls' := [some (vo 0 0), some (vi win), some (vi 0), some (vi (nI j))]) a_X6_chain_92 rfl ?_
                refine ri_goto a_X6_chain_93 ?_
                refine ri_iinc (c0 := 1) (f := fun zx22 => [some (vo 0 0), some (vi win), some (vi 0), some (vi zx22)]) a_X6_chain_99 rfl (by decide) (fun _ => rfl) (fun zx22 ezx22 => ?_)
                refine ri_goto a_X6_chain_102 ?_
                rw [ezx22, nI_1]
                refine ih (j + 1) 0 (tpC R k p) (k + 1) 0 zM21 (by omega) (by omega) (by omega) (injO_tp hi (fndR_no hf0 hk8)) ?_
                rw [hzM21]
                refine ⟨frC_tr (frC_tr (frC_tr h1 (frC_up (by decide))) (frC_up (by decide))) (frC_up (by decide)), fun t q a b c => ?_, fun q hq => ?_, h4, rfl, rfl, h7⟩
                · rw [up_apply, up_apply, up_apply, if_neg (by omega), if_neg (by omega), if_neg (by omega)]
                  exact h2 t q a b c
                · rw [up_apply, up_apply, up_apply, if_neg (by omega), if_neg (by omega)]
                  unfold tpC
                  by_cases e : q = k
                  · rw [if_pos ⟨rfl, rfl, e⟩, if_pos e]
                    exact ⟨rfl, by omega⟩
                  · rw [if_neg (fun z => e z.2.2), if_neg e]
                    exact h3 q (by omega)
              · refine ri_if_eq a_X6_chain_80 (fun _ => ?_) (fun q => absurd q (by decide))
                exact skip _ rfl (fun q => zc15 q.2)
      · rw [chS, if_neg hpn]
        have : p = n := by omega
        subst this
        refine ri_ild a_X6_chain_28 rfl ?_
        refine ri_ic a_X6_chain_29 ?_
        refine ri_icmp_ge a_X6_chain_31 (fun zc11 => ?_) (fun zc11 => ?_)
        · exact fin _ _ R k ru M1 hk8 hI
        · refine ri_ild a_X6_chain_34 rfl ?_
          refine ri_ald a_X6_chain_35 rfl ?_
          refine ri_getR (t' := 1) (i' := 2) a_X6_chain_36 fl_X6_19 kC_0_2 rfl iC_0 (Or.inr ⟨rfl, rfl, rfl⟩) ?_
          refine ri_getI a_X6_chain_39 fl_X6_87 kC_1_6 rfl (iC_1 (by decide)) ?_
          refine ri_icmp_ge a_X6_chain_42 (fun zc12 => ?_) (fun zc12 => ?_)
          · exact fin _ _ R k ru M1 hk8 hI
          · exact absurd (by rw [e6]; exact Int32.le_refl _) zc12
  refine lr_ok (by decide +kernel) rfl ?_
  refine ri_ild a_X6_chain_0 rfl ?_
  refine ri_ic a_X6_chain_1 ?_
  refine ri_cSpb (as := [vi win, vi 999]) (rest := []) (d' := d - 1) a_X6_chain_4 ms_X6_within ml_X6_102 (by omega) (ok_X6_within win 999) (Nat.le_of_ble_eq_true rfl) rfl (fun zc1 => ?_) (fun zc1 => ?_)
  · refine ri_if_ne a_X6_chain_7 (fun _ => ?_) (fun q => absurd q (by decide))
    refine ri_ald a_X6_chain_13 rfl ?_
    refine ri_getR (t' := 1) (i' := 2) a_X6_chain_14 fl_X6_19 kC_0_2 rfl iC_0 (Or.inr ⟨rfl, rfl, rfl⟩) ?_
    refine ri_ald a_X6_chain_17 rfl ?_
    refine ri_getR (t' := 1) (i' := 0) a_X6_chain_18 fl_X6_10 kC_0_0 rfl iC_0 (Or.inr ⟨rfl, rfl, rfl⟩) ?_
    refine ri_cVxv (as := [vo 1 0]) (rest := []) (d' := d - 1) a_X6_chain_21 mv_X0_becomeLike ml_X6_198 (rcC_1 (iC_1 (by decide))) (by omega) (ok_X0_becomeLike (by omega) (by decide) (by decide)) (Nat.le_of_ble_eq_true rfl) rfl (fun zM2 hzM2 => ?_)
    refine ri_ic a_X6_chain_24 ?_
    refine ri_istk (ls' := [some (vo 0 0), some (vi win), some (vi 0), none]) a_X6_chain_25 rfl ?_
    refine ri_ic a_X6_chain_26 ?_
    refine ri_istk (ls' := [some (vo 0 0), some (vi win), some (vi 0), some (vi 0)]) a_X6_chain_27 rfl ?_
    refine lr_Wimp (loop 72 0 0 O k (M 1 0 8) zM2 (by omega) hk8 (by omega) hinj ?_) ?_
    · rw [hzM2]
      exact ⟨frC_blk, fun t q a b c => by unfold blk; rw [if_pos (by omega)], fun q hq => by unfold blk; rw [if_pos (by omega)]; exact hO q hq, rfl, hk, rfl, rfl⟩
    · rintro r M' ⟨y, h1, h2, h3⟩
      exact ⟨y, h1, h2, by rw [if_pos zc1]; exact h3⟩
  · refine ri_if_ne a_X6_chain_7 (fun q => absurd q (by decide)) (fun _ => ?_)
    refine ri_ic a_X6_chain_10 ?_
    refine ri_ireturn a_X6_chain_12 rfl rfl ?_
    exact rX ⟨fun _ _ _ _ => rfl, by rw [if_neg zc1]⟩

