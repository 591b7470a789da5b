/-! reference: the search -/
abbrev cnd (al : Int32) (R : List Nat) (q : Nat) : Prop := bt al q = true ∧ q ∉ R
abbrev okR (L : List (List Op)) (V : Vw) (F : Nat → Int32) (al : Int32) (R : List Nat) (q : Nat) : Prop := cnd al R q ∧ wkV L V F (liF (R ++ [q])) (R ++ [q]).length = -1
def trB (g : Nat → List (List Nat)) : Nat → Nat → List (List Nat)
  | 0, _ => []
  | r + 1, p => g p ++ trB g r (p + 1)
/-- the ladders that are looked at behind R, at most f rungs more, in their order -/
def trT (L : List (List Op)) (V : Vw) (F : Nat → Int32) (al : Int32) (n : Nat) : Nat → List Nat → List (List Nat)
  | 0, _ => []
  | f + 1, R => trB (fun q => if okR L V F al R q then (R ++ [q]) :: trT L V F al n f (R ++ [q]) else []) n 0
def trP (L : List (List Op)) (V : Vw) (F : Nat → Int32) (al : Int32) (n : Nat) : Nat → List Nat → Nat → Nat → List (List Nat)
  | 0, _, _, _ => []
  | f + 1, R, r, p => trB (fun q => if okR L V F al R q then (R ++ [q]) :: trT L V F al n f (R ++ [q]) else []) r p
theorem trT_P {L : List (List Op)} {V : Vw} {F : Nat → Int32} {al : Int32} {n f : Nat} {R : List Nat} : trT L V F al n f R = trP L V F al n f R n 0 := by
  cases f <;> rfl
def fcd (al : Int32) (R : List Nat) : Nat → Nat → Option Nat
  | 0, _ => none
  | r + 1, p => if cnd al R p then some p else fcd al R r (p + 1)
theorem fcd_none {al : Int32} {R : List Nat} : ∀ r p, fcd al R r p = none ↔ ∀ q, p ≤ q → q < p + r → ¬ cnd al R q := by
  intro r
  induction r with
  | zero => intro p; exact ⟨fun _ q a b => by omega, fun _ => rfl⟩
  | succ r ih =>
    intro p
    rw [fcd]
    by_cases h : cnd al R p
    · rw [if_pos h]
      exact ⟨fun z => (by cases z), fun z => absurd h (z p (Nat.le_refl _) (by omega))⟩
    · rw [if_neg h, ih (p + 1)]
      constructor
      · intro z q a b
        by_cases e : q = p
        · rw [e]; exact h
        · exact z q (by omega) (by omega)
      · intro z q a b
        exact z q (by omega) (by omega)
theorem fcd_some {al : Int32} {R : List Nat} {z : Nat} {g : Nat → List (List Nat)} (hg : ∀ q, ¬ cnd al R q → g q = []) : ∀ r p, fcd al R r p = some z → p ≤ z ∧ z < p + r ∧ cnd al R z ∧ trB g r p = trB g (p + r - z) z := by
  intro r
  induction r with
  | zero => intro p h; cases h
  | succ r ih =>
    intro p h
    rw [fcd] at h
    by_cases hc : cnd al R p
    · rw [if_pos hc] at h
      cases h
      exact ⟨Nat.le_refl _, by omega, hc, by rw [Nat.add_sub_cancel_left]⟩
    · rw [if_neg hc] at h
      obtain ⟨a, b, c, e⟩ := ih (p + 1) h
      refine ⟨by omega, by omega, c, ?_⟩
      rw [trB, hg p hc, e, List.nil_append]
      congr 1
      omega
theorem trB_none {al : Int32} {R : List Nat} {g : Nat → List (List Nat)} (hg : ∀ q, ¬ cnd al R q → g q = []) : ∀ r p, (∀ q, p ≤ q → q < p + r → ¬ cnd al R q) → trB g r p = [] := by
  intro r
  induction r with
  | zero => intro p _; rfl
  | succ r ih =>
    intro p h
    rw [trB, hg p (h p (Nat.le_refl _) (by omega)), ih (p + 1) (fun q a b => h q (by omega) (by omega))]
    rfl
abbrev St3 := Int32 × Int32 × (Nat → Int32)
/-- how high is best, its digits, how high by rungs -/
def stS (N : Mem) : St3 := (N 0 0 38, N 0 0 37, N 23 0)
def upS (L : List (List Op)) (V : Vw) (s : St3) (R : List Nat) : St3 := (if s.1 < hiS L V (liF R) R.length then hiS L V (liF R) R.length else s.1, if s.1 < hiS L V (liF R) R.length then dgL R else s.2.1, fun i => if i = R.length then (if s.2.2 R.length < hiS L V (liF R) R.length then hiS L V (liF R) R.length else s.2.2 R.length) else s.2.2 i)
def frG (N N' : Mem) : Prop := ∀ t i k, t ≠ 22 → t ≠ 23 → ¬ (t = 0 ∧ 36 ≤ k ∧ k ≤ 38) → N' t i k = N t i k
theorem frG_N {N N' : Mem} (h : frG N N') : frN N N' := fun t i k a b => h t i k (by omega) (by omega) (fun q => b ⟨q.1, by omega⟩)
theorem frG_tb {N N' : Mem} (h : frG N N') {L : List (List Op)} {V : Vw} {n : Nat} (ht : tbM L V n N) : tbM L V n N' := fun p hp => ⟨by rw [h 21 0 p (by omega) (by omega) (by omega)]; exact (ht p hp).1, fun r hr => ⟨by rw [h 19 0 _ (by omega) (by omega) (by omega)]; exact ((ht p hp).2 r hr).1, by rw [h 20 0 _ (by omega) (by omega) (by omega)]; exact ((ht p hp).2 r hr).2⟩⟩
theorem frG_up {N N1 : Mem} (h : frG N N1) {t k : Nat} {x : Int32} (ht : t = 22 ∨ t = 23 ∨ (t = 0 ∧ 36 ≤ k ∧ k ≤ 38)) : frG N (up N1 t 0 k x) := fun t' i k' a b c => by
  rw [up_apply, if_neg (fun q => by omega)]
  exact h t' i k' a b c
theorem nI_b1 {x : Int32} {q : Nat} (hq : q < 32) : (x >>> (nI q &&& 31)) &&& 1 = 1 ↔ bt x q = true := by
  rw [and1n, bt_sh x hq]
  cases bt x q <;> simp
theorem lp_goesThrough_s {w : Wd} {d : Nat} {Q : RP} {al : Int32} {n lim fr : Nat} {R : List Nat} {tk : Int32} {N1 : Mem} (hn8 : n ≤ 8) (hl8 : lim ≤ 8) (h0 : N1 0 0 0 = nI n) (h36 : N1 0 0 36 = nI R.length) (hm8 : R.length ≤ 8) (htk : tkOK tk R) : ∀ r p, n = p + r →
    (∀ j7, lr_W tM sM w d jX7_goesThrough 112 [some (vo 0 0), some (vi al), some (vi (nI lim)), some (vi (nI fr)), some (vi 1), some (vi tk), some (vi (ov (if R.length < lim then fcd al R r p else none))), j7] [] N1 Q) →
    lr_W tM sM w d jX7_goesThrough 55 [some (vo 0 0), some (vi al), some (vi (nI lim)), some (vi (nI fr)), some (vi 1), some (vi tk), some (vi (-1)), some (vi (nI p))] [] N1 Q := by
  intro r
  induction r with
  | zero =>
    intro p hp K
    have : n = p := hp
    subst this
    refine ri_ild a_X7_goesThrough_55 rfl ?_
    refine ri_ald a_X7_goesThrough_57 rfl ?_
    refine ri_getI a_X7_goesThrough_58 fl_X7_93 kM_0_0 rfl iM_0 ?_
    refine ri_icmp_ge a_X7_goesThrough_61 (fun zc1 => ?_) (fun zc1 => ?_)
    · have := K (some (vi (nI n)))
      rw [show (if R.length < lim then fcd al R 0 n else none) = none by split <;> rfl] at this
      exact this
    · exact absurd (by rw [h0]; exact Int32.le_refl _) zc1
  | succ r ih =>
    intro p hp K
    by_cases hlt : R.length < lim
    · rw [if_pos hlt, fcd] at K
      have skip : ¬ cnd al R p → lr_W tM sM w d jX7_goesThrough 55 [some (vo 0 0), some (vi al), some (vi (nI lim)), some (vi (nI fr)), some (vi 1), some (vi tk), some (vi (-1)), some (vi (nI (p + 1)))] [] N1 Q := fun hc => by
        rw [if_neg hc] at K
        exact ih (p + 1) (by omega) (by rw [if_pos hlt]; exact K)
      refine ri_ild a_X7_goesThrough_55 rfl ?_
      refine ri_ald a_X7_goesThrough_57 rfl ?_
      refine ri_getI a_X7_goesThrough_58 fl_X7_93 kM_0_0 rfl iM_0 ?_
      refine ri_icmp_ge a_X7_goesThrough_61 (fun zc11 => ?_) (fun zc11 => ?_)
      · exact absurd zc11 (by rw [h0]; exact nI_ge (by omega) (by omega))
      · refine ri_ald a_X7_goesThrough_64 rfl ?_
        refine ri_getI a_X7_goesThrough_65 fl_X7_201 kM_0_36 rfl iM_0 ?_
        refine ri_ild a_X7_goesThrough_68 rfl ?_
        refine ri_icmp_ge a_X7_goesThrough_69 (fun zc12 => ?_) (fun zc12 => ?_)
        · exact absurd zc12 (by rw [h36]; exact nI_ge (by omega) (by omega))
        · refine ri_ild a_X7_goesThrough_72 rfl ?_
          refine ri_ic a_X7_goesThrough_74 ?_
          refine ri_icmp_ne a_X7_goesThrough_75 (fun q => absurd q (by decide)) (fun _ => ?_)
          refine ri_ild a_X7_goesThrough_78 rfl ?_
          refine ri_ild a_X7_goesThrough_79 rfl ?_
          refine ri_ishr a_X7_goesThrough_81 ?_
          refine ri_ic a_X7_goesThrough_82 ?_
          refine ri_iand a_X7_goesThrough_83 ?_
          refine ri_ic a_X7_goesThrough_84 ?_
          refine ri_icmp_ne a_X7_goesThrough_85 (fun zc13 => ?_) (fun zc13 => ?_)
          · refine ri_ic a_X7_goesThrough_103 ?_
            refine ri_istk (ls' := [some (vo 0 0), some (vi al), some (vi (nI lim)), some (vi (nI fr)), some (vi 1), some (vi tk), some (vi (-1)), some (vi (nI p))]) a_X7_goesThrough_104 rfl ?_
            refine ri_iinc (c0 := 1) (f := fun zx14 => [some (vo 0 0), some (vi al), some (vi (nI lim)), some (vi (nI fr)), some (vi 1), some (vi tk), some (vi (-1)), some (vi zx14)]) a_X7_goesThrough_106 rfl (by decide) (fun _ => rfl) (fun zx14 ezx14 => ?_)
            refine ri_goto a_X7_goesThrough_109 ?_
            rw [nI_b1 (by omega)] at zc13
            rw [ezx14, nI_1]
            exact skip (fun q => zc13 q.1)
          · refine ri_ild a_X7_goesThrough_88 rfl ?_
            refine ri_ild a_X7_goesThrough_90 rfl ?_
            refine ri_ishr a_X7_goesThrough_92 ?_
            refine ri_ic a_X7_goesThrough_93 ?_
            refine ri_iand a_X7_goesThrough_94 ?_
            refine ri_if_ne a_X7_goesThrough_95 (fun zc15 => ?_) (fun zc15 => ?_)
            · refine ri_ic a_X7_goesThrough_103 ?_
              refine ri_istk (ls' := [some (vo 0 0), some (vi al), some (vi (nI lim)), some (vi (nI fr)), some (vi 1), some (vi tk), some (vi (-1)), some (vi (nI p))]) a_X7_goesThrough_104 rfl ?_
              refine ri_iinc (c0 := 1) (f := fun zx16 => [some (vo 0 0), some (vi al), some (vi (nI lim)), some (vi (nI fr)), some (vi 1), some (vi tk), some (vi (-1)), some (vi zx16)]) a_X7_goesThrough_106 rfl (by decide) (fun _ => rfl) (fun zx16 ezx16 => ?_)
              refine ri_goto a_X7_goesThrough_109 ?_
              rw [bt_sh tk (by omega), htk p (by omega)] at zc15
              rw [ezx16, nI_1]
              exact skip (fun q => zc15 (by simp [q.2]))
            · refine ri_ild a_X7_goesThrough_98 rfl ?_
              refine ri_goto a_X7_goesThrough_100 ?_
              refine ri_ist (f := fun zx17 => [some (vo 0 0), some (vi al), some (vi (nI lim)), some (vi (nI fr)), some (vi 1), some (vi tk), some (vi zx17), some (vi (nI p))]) a_X7_goesThrough_104 (fun _ => rfl) (fun zx17 ezx17 => ?_)
              refine ri_iinc (c0 := 1) (f := fun zx18 => [some (vo 0 0), some (vi al), some (vi (nI lim)), some (vi (nI fr)), some (vi 1), some (vi tk), some (vi zx17), some (vi zx18)]) a_X7_goesThrough_106 rfl (by decide) (fun _ => rfl) (fun zx18 ezx18 => ?_)
              refine ri_goto a_X7_goesThrough_109 ?_
              rw [nI_b1 (by omega)] at zc13
              rw [bt_sh tk (by omega), htk p (by omega)] at zc15
              have hc : cnd al R p := ⟨zc13, by simpa using zc15⟩
              rw [if_pos hc] at K
              have hne : ¬ nI p = -1 := nI_m1n (by omega)
              rw [ezx17, ezx18, nI_1]
              refine ri_ild a_X7_goesThrough_55 rfl ?_
              refine ri_ald a_X7_goesThrough_57 rfl ?_
              refine ri_getI a_X7_goesThrough_58 fl_X7_93 kM_0_0 rfl iM_0 ?_
              refine ri_icmp_ge a_X7_goesThrough_61 (fun zc31 => ?_) (fun zc31 => ?_)
              · exact K _
              · refine ri_ald a_X7_goesThrough_64 rfl ?_
                refine ri_getI a_X7_goesThrough_65 fl_X7_201 kM_0_36 rfl iM_0 ?_
                refine ri_ild a_X7_goesThrough_68 rfl ?_
                refine ri_icmp_ge a_X7_goesThrough_69 (fun zc32 => ?_) (fun zc32 => ?_)
                · exact K _
                · refine ri_ild a_X7_goesThrough_72 rfl ?_
                  refine ri_ic a_X7_goesThrough_74 ?_
                  refine ri_icmp_ne a_X7_goesThrough_75 (fun zc33 => ?_) (fun zc33 => ?_)
                  · exact K _
                  · exact absurd (by assumption) hne
    · rw [if_neg hlt] at K
      refine ri_ild a_X7_goesThrough_55 rfl ?_
      refine ri_ald a_X7_goesThrough_57 rfl ?_
      refine ri_getI a_X7_goesThrough_58 fl_X7_93 kM_0_0 rfl iM_0 ?_
      refine ri_icmp_ge a_X7_goesThrough_61 (fun zc11 => ?_) (fun zc11 => ?_)
      · exact K _
      · refine ri_ald a_X7_goesThrough_64 rfl ?_
        refine ri_getI a_X7_goesThrough_65 fl_X7_201 kM_0_36 rfl iM_0 ?_
        refine ri_ild a_X7_goesThrough_68 rfl ?_
        refine ri_icmp_ge a_X7_goesThrough_69 (fun zc12 => ?_) (fun zc12 => ?_)
        · exact K _
        · exact absurd (by rw [h36]; exact nI_le (by omega) (by omega)) zc12
theorem rwN_push {N N1 : Mem} {R : List Nat} {n p : Nat} (h : rwN N (liF R) R.length n) (hp : p < n) (h8 : R.length < 8) (e : N1 = up (up N 22 0 R.length (nI p)) 0 0 36 (nI (R.length + 1))) : rwN N1 (liF (R ++ [p])) (R ++ [p]).length n := by
  obtain ⟨h36, hm, hR⟩ := h
  have el : (R ++ [p]).length = R.length + 1 := by simp
  rw [el]
  refine ⟨by rw [e, up_same], by omega, fun i hi => ?_⟩
  rw [e, up_apply, if_neg (by omega), up_apply]
  by_cases ei : i = R.length
  · rw [if_pos ⟨rfl, rfl, ei⟩, ei, liF_eq]
    exact ⟨rfl, hp⟩
  · rw [if_neg (fun q => ei q.2.2), liF_lt (by omega)]
    exact hR i (by omega)
theorem rwN_pop {N N1 : Mem} {R : List Nat} {n p : Nat} (h : rwN N (liF (R ++ [p])) (R ++ [p]).length n) (h8 : R.length ≤ 8) (e36 : N1 0 0 36 = nI R.length) (e22 : ∀ i, N1 22 0 i = N 22 0 i) : rwN N1 (liF R) R.length n := by
  obtain ⟨h36, hm, hR⟩ := h
  have el : (R ++ [p]).length = R.length + 1 := by simp
  refine ⟨e36, h8, fun i hi => ?_⟩
  rw [e22, ← liF_lt (R := R) (p := p) hi]
  exact hR i (by omega)
theorem ok_X7_goesThrough {w : Wd} {d : Nat} (hd : 1 ≤ d) {N : Mem} {n lim : Nat} {L : List (List Op)} {V : Vw} {al : Int32} (ht : tbM L V n N) (hn : N 0 0 0 = nI n) (hn8 : n ≤ 8) (hl8 : lim ≤ 8) : lr_Ok tM sM w d jX7_goesThrough [vo 0 0, vi al, vi (nI lim)] N (qV fun N' => frG N N' ∧ stS N' = (trT L V (N 4 0) al n lim []).foldl (upS L V) (0, -1, fun i => if i < 9 then 0 else N 23 0 i)) := by
  generalize hres : (trT L V (N 4 0) al n lim []).foldl (upS L V) (0, -1, fun i => if i < 9 then 0 else N 23 0 i) = res
  have core : ∀ f R, R.length + f = lim → (∀ x, x ∈ R → x < n) → ∀ m r p tk N1 j6 j7, r ≤ m → n = p + r → tkOK tk R → frG N N1 → rwN N1 (liF R) R.length n →
      (∀ fr tk' N2 j6 j7, fr ≤ n → (f ≠ 0 → ∀ q, fr ≤ q → q < n → ¬ cnd al R q) → tkOK tk' R → frG N N2 → rwN N2 (liF R) R.length n → stS N2 = (trP L V (N 4 0) al n f R r p).foldl (upS L V) (stS N1) → lr_W tM sM w d jX7_goesThrough 44 [some (vo 0 0), some (vi al), some (vi (nI lim)), some (vi (nI fr)), some (vi 1), some (vi tk'), j6, j7] [] N2 (qV fun N' => frG N N' ∧ stS N' = res)) →
      lr_W tM sM w d jX7_goesThrough 44 [some (vo 0 0), some (vi al), some (vi (nI lim)), some (vi (nI p)), some (vi 1), some (vi tk), j6, j7] [] N1 (qV fun N' => frG N N' ∧ stS N' = res) := by
    intro f
    induction f with
    | zero =>
      intro R hl hx m r p tk N1 j6 j7 hm hp htk hf hrw K
      exact K p tk N1 j6 j7 (by omega) (fun q => absurd rfl q) htk hf hrw rfl
    | succ f ihf =>
      intro R hl hx m
      have hg : ∀ q, ¬ cnd al R q → (fun q => if okR L V (N 4 0) al R q then (R ++ [q]) :: trT L V (N 4 0) al n f (R ++ [q]) else []) q = [] := fun q hq => by
        dsimp only
        rw [if_neg (fun z => hq z.1)]
      induction m with
      | zero =>
        intro r p tk N1 j6 j7 hm hp htk hf hrw K
        have : r = 0 := by omega
        subst this
        exact K p tk N1 j6 j7 (by omega) (fun _ q a b => by omega) htk hf hrw rfl
      | succ m ihm =>
        intro r p tk N1 j6 j7 hm hp htk hf hrw K
        cases hfc : fcd al R r p with
        | none =>
          have hno := (fcd_none r p).1 hfc
          refine K p tk N1 j6 j7 (by omega) (fun _ q a b => hno q a (by omega)) htk hf hrw ?_
          rw [trP, trB_none hg r p hno]
          rfl
        | some z =>
          obtain ⟨h1, h2, h3, h4⟩ := fcd_some hg r p hfc
          have hz8 : z < 8 := by omega
          have el : (R ++ [z]).length = R.length + 1 := by simp
          have hR8 : R.length < 8 := by omega
          have e0 : N1 0 0 0 = nI n := by rw [hf 0 0 0 (by decide) (by decide) (by omega)]; exact hn
          obtain ⟨r2, hr2⟩ : ∃ r2, p + r - z = r2 + 1 := ⟨p + r - z - 1, by omega⟩
          rw [hr2, trB] at h4
          -- behind this one: the others
          have rest : ∀ tk2 N2 j6 j7, tkOK tk2 R → frG N N2 → rwN N2 (liF R) R.length n → stS N2 = ((fun q => if okR L V (N 4 0) al R q then (R ++ [q]) :: trT L V (N 4 0) al n f (R ++ [q]) else []) z).foldl (upS L V) (stS N1) → lr_W tM sM w d jX7_goesThrough 44 [some (vo 0 0), some (vi al), some (vi (nI lim)), some (vi (nI (z + 1))), some (vi 1), some (vi tk2), j6, j7] [] N2 (qV fun N' => frG N N' ∧ stS N' = res) := by
            intro tk2 N2 j6 j7 htk2 hf2 hrw2 hs2
            refine ihm r2 (z + 1) tk2 N2 j6 j7 (by omega) (by omega) htk2 hf2 hrw2 ?_
            intro fr tk' N3 j6 j7 a b c e g hs3
            refine K fr tk' N3 j6 j7 a b c e g ?_
            rw [hs3, hs2]
            show (trP L V (N 4 0) al n (f + 1) R r2 (z + 1)).foldl (upS L V) _ = (trB _ r p).foldl (upS L V) _
            rw [h4, List.foldl_append]
            rfl
          refine ri_ild a_X7_goesThrough_44 rfl ?_
          refine ri_if_eq a_X7_goesThrough_46 (fun q => absurd q (by decide)) (fun _ => ?_)
          refine ri_ic a_X7_goesThrough_49 ?_
          refine ri_istk (ls' := [some (vo 0 0), some (vi al), some (vi (nI lim)), some (vi (nI p)), some (vi 1), some (vi tk), some (vi (-1)), j7]) a_X7_goesThrough_50 rfl ?_
          refine ri_ild a_X7_goesThrough_52 rfl ?_
          refine ri_ist (f := fun zx11 => [some (vo 0 0), some (vi al), some (vi (nI lim)), some (vi (nI p)), some (vi 1), some (vi tk), some (vi (-1)), some (vi zx11)]) a_X7_goesThrough_53 (fun _ => rfl) (fun zx11 ezx11 => ?_)
          rw [ezx11]
          refine lp_goesThrough_s hn8 hl8 e0 hrw.1 hrw.2.1 htk r p hp (fun j7 => ?_)
          rw [if_pos (by omega), hfc]
          show lr_W tM sM w d jX7_goesThrough 112 [some (vo 0 0), some (vi al), some (vi (nI lim)), some (vi (nI p)), some (vi 1), some (vi tk), some (vi (nI z)), j7] [] N1 (qV fun N' => frG N N' ∧ stS N' = res)
          have hne : ¬ nI z = -1 := nI_m1n (by omega)
          refine ri_ild a_X7_goesThrough_112 rfl ?_
          refine ri_ic a_X7_goesThrough_114 ?_
          refine ri_icmp_ne a_X7_goesThrough_115 (fun zc21 => ?_) (fun zc21 => ?_)
          · refine ri_ald a_X7_goesThrough_180 rfl ?_
            refine ri_getR (t' := 22) (i' := 0) a_X7_goesThrough_181 fl_X7_73 kM_0_35 rfl iM_0 (Or.inr ⟨rfl, rfl, rfl⟩) ?_
            refine ri_ald a_X7_goesThrough_184 rfl ?_
            refine ri_getI a_X7_goesThrough_185 fl_X7_201 kM_0_36 rfl iM_0 ?_
            refine ri_ild a_X7_goesThrough_188 rfl ?_
            refine ri_iastore a_X7_goesThrough_190 lM_22 rfl iM_22 (by rw [hrw.1]; exact vp_in_nI hR8 (by decide)) (fun zM22 ezM22 => ?_)
            refine ri_ald a_X7_goesThrough_191 rfl ?_
            refine ri_dup a_X7_goesThrough_192 (fun _ h => by cases h) ?_
            refine ri_getI a_X7_goesThrough_193 fl_X7_201 kM_0_36 rfl iM_0 ?_
            refine ri_ic a_X7_goesThrough_196 ?_
            refine ri_iadd a_X7_goesThrough_197 ?_
            refine ri_putI a_X7_goesThrough_198 fp_X7_201 kM_0_36 rfl iM_0 (fun zM23 ezM23 => ?_)
            rw [hrw.1, nI_clamp (by omega)] at ezM22
            rw [show zM22 0 0 36 = nI R.length by rw [ezM22]; exact hrw.1, nI_1, ezM22] at ezM23
            have hf2 : frG N zM23 := by rw [ezM23]; exact frG_up (frG_up hf (Or.inl rfl)) (Or.inr (Or.inr ⟨rfl, by decide, by decide⟩))
            have hrw2 := rwN_push hrw (p := z) (by omega) hR8 ezM23
            have ht2 := frG_tb hf2 ht
            have hs23 : stS zM23 = stS N1 := by rw [ezM23]; rfl
            have e36 : zM23 0 0 36 = nI (R.length + 1) := by rw [ezM23, up_same]
            have e4 : zM23 4 0 = N 4 0 := congrFun (frN_t (frG_N hf2) (t := 4) (by decide) (by decide)) 0
            have hlo := ok_X7_firstLoose (w := w) (d := d - 1) ht2 hrw2 hn8
            have hhi := ok_X7_highOf (w := w) (d := d - 1) ht2 hrw2 hn8
            have hdi : ∀ N', rwN N' (liF (R ++ [z])) (R ++ [z]).length n → lr_Ok tM sM w (d - 1) jX7_digitsOf [vo 0 0] N' (qI (dgL (R ++ [z])) N') := fun N' h => ok_X7_digitsOf h hn8
            have i23 : vp_in (nI (R.length + 1)) 9 := vp_in_nI (by omega) (by decide)
            have c23 : (nI (R.length + 1)).toNatClampNeg = R.length + 1 := nI_clamp (by omega)
            rw [e4] at hlo
            generalize hv : hiS L V (liF (R ++ [z])) (R ++ [z]).length = v at hhi
            -- it holds, all is noted
            have note : wkV L V (N 4 0) (liF (R ++ [z])) (R ++ [z]).length = -1 → ∀ tk2 N5 j6 j7, tk2 = tk ||| (1 <<< (nI z &&& 31)) → frG N N5 → rwN N5 (liF (R ++ [z])) (R ++ [z]).length n → stS N5 = upS L V (stS N1) (R ++ [z]) → lr_W tM sM w d jX7_goesThrough 44 [some (vo 0 0), some (vi al), some (vi (nI lim)), some (vi (nI 0)), some (vi 1), some (vi tk2), j6, j7] [] N5 (qV fun N' => frG N N' ∧ stS N' = res) := by
              intro hw tk2 N5 j6 j7 htk2 hf5 hrw5 hs5
              have htk5 : tkOK tk2 (R ++ [z]) := by rw [htk2]; exact tkOK_push htk hz8
              refine ihf (R ++ [z]) (by omega) (fun x hx2 => ?_) n n 0 tk2 N5 j6 j7 (Nat.le_refl _) (by omega) htk5 hf5 hrw5 ?_
              · rcases List.mem_append.1 hx2 with q | q
                · exact hx x q
                · have : x = z := by simpa using q
                  omega
              · intro fr tk' N6 j6 j7 a b c e g hs6
                have e60 : N6 0 0 0 = nI n := by rw [e 0 0 0 (by decide) (by decide) (by omega)]; exact hn
                have hnone : (if (R ++ [z]).length < lim then fcd al (R ++ [z]) (n - fr) fr else none) = none := by
                  split
                  · exact (fcd_none _ _).2 (fun q q1 q2 => b (by omega) q q1 (by omega))
                  · rfl
                refine ri_ild a_X7_goesThrough_44 rfl ?_
                refine ri_if_eq a_X7_goesThrough_46 (fun q => absurd q (by decide)) (fun _ => ?_)
                refine ri_ic a_X7_goesThrough_49 ?_
                refine ri_istk (ls' := [some (vo 0 0), some (vi al), some (vi (nI lim)), some (vi (nI fr)), some (vi 1), some (vi tk'), some (vi (-1)), j7]) a_X7_goesThrough_50 rfl ?_
                refine ri_ild a_X7_goesThrough_52 rfl ?_
                refine ri_ist (f := fun zx51 => [some (vo 0 0), some (vi al), some (vi (nI lim)), some (vi (nI fr)), some (vi 1), some (vi tk'), some (vi (-1)), some (vi zx51)]) a_X7_goesThrough_53 (fun _ => rfl) (fun zx51 ezx51 => ?_)
                rw [ezx51]
                refine lp_goesThrough_s hn8 hl8 e60 g.1 g.2.1 c (n - fr) fr (by omega) (fun j7 => ?_)
                rw [hnone]
                show lr_W tM sM w d jX7_goesThrough 112 [some (vo 0 0), some (vi al), some (vi (nI lim)), some (vi (nI fr)), some (vi 1), some (vi tk'), some (vi (-1)), j7] [] N6 (qV fun N' => frG N N' ∧ stS N' = res)
                refine ri_ild a_X7_goesThrough_112 rfl ?_
                refine ri_ic a_X7_goesThrough_114 ?_
                refine ri_icmp_ne a_X7_goesThrough_115 (fun q => absurd q (by decide)) (fun _ => ?_)
                refine ri_ald a_X7_goesThrough_118 rfl ?_
                refine ri_getI a_X7_goesThrough_119 fl_X7_201 kM_0_36 rfl iM_0 ?_
                refine ri_if_le a_X7_goesThrough_122 (fun zc61 => ?_) (fun zc61 => ?_)
                · refine ri_ic a_X7_goesThrough_129 ?_
                  refine ri_istk (ls' := [some (vo 0 0), some (vi al), some (vi (nI lim)), some (vi (nI fr)), some (vi 0), some (vi tk'), some (vi (-1)), j7]) a_X7_goesThrough_130 rfl ?_
                  refine ri_ild a_X7_goesThrough_132 rfl ?_
                  refine ri_if_eq a_X7_goesThrough_134 (fun _ => ?_) (fun q => absurd q (by decide))
                  refine ri_goto a_X7_goesThrough_327 ?_
                  exact absurd zc61 (by rw [g.1, el]; exact nI_nle (by omega) (by omega))
                · refine ri_ic a_X7_goesThrough_125 ?_
                  refine ri_goto a_X7_goesThrough_126 ?_
                  refine ri_istk (ls' := [some (vo 0 0), some (vi al), some (vi (nI lim)), some (vi (nI fr)), some (vi 1), some (vi tk'), some (vi (-1)), j7]) a_X7_goesThrough_130 rfl ?_
                  refine ri_ild a_X7_goesThrough_132 rfl ?_
                  refine ri_if_eq a_X7_goesThrough_134 (fun q => absurd q (by decide)) (fun _ => ?_)
                  refine ri_ald a_X7_goesThrough_137 rfl ?_
                  refine ri_dup a_X7_goesThrough_138 (fun _ h => by cases h) ?_
                  refine ri_getI a_X7_goesThrough_139 fl_X7_201 kM_0_36 rfl iM_0 ?_
                  refine ri_ic a_X7_goesThrough_142 ?_
                  refine ri_isub a_X7_goesThrough_143 ?_
                  refine ri_putI a_X7_goesThrough_144 fp_X7_201 kM_0_36 rfl iM_0 (fun zM62 ezM62 => ?_)
                  refine ri_ild a_X7_goesThrough_147 rfl ?_
                  refine ri_ic a_X7_goesThrough_149 ?_
                  refine ri_ald a_X7_goesThrough_150 rfl ?_
                  refine ri_getR (t' := 22) (i' := 0) a_X7_goesThrough_151 fl_X7_73 kM_0_35 rfl iM_0 (Or.inr ⟨rfl, rfl, rfl⟩) ?_
                  refine ri_ald a_X7_goesThrough_154 rfl ?_
                  refine ri_getI a_X7_goesThrough_155 fl_X7_201 kM_0_36 rfl iM_0 ?_
                  refine ri_iaload a_X7_goesThrough_158 lM_22 rfl iM_22 ?_ ?_
                  · rw [ezM62, up_same, g.1, el, nI_pred]; exact vp_in_nI hR8 (by decide)
                  refine ri_ishl a_X7_goesThrough_159 ?_
                  refine ri_ic a_X7_goesThrough_160 ?_
                  refine ri_ixor a_X7_goesThrough_161 ?_
                  refine ri_iand a_X7_goesThrough_162 ?_
                  refine ri_ist (f := fun zx63 => [some (vo 0 0), some (vi al), some (vi (nI lim)), some (vi (nI fr)), some (vi 1), some (vi zx63), some (vi (-1)), j7]) a_X7_goesThrough_163 (fun _ => rfl) (fun zx63 ezx63 => ?_)
                  refine ri_ald a_X7_goesThrough_165 rfl ?_
                  refine ri_getR (t' := 22) (i' := 0) a_X7_goesThrough_166 fl_X7_73 kM_0_35 rfl iM_0 (Or.inr ⟨rfl, rfl, rfl⟩) ?_
                  refine ri_ald a_X7_goesThrough_169 rfl ?_
                  refine ri_getI a_X7_goesThrough_170 fl_X7_201 kM_0_36 rfl iM_0 ?_
                  refine ri_iaload a_X7_goesThrough_173 lM_22 rfl iM_22 ?_ ?_
                  · rw [ezM62, up_same, g.1, el, nI_pred]; exact vp_in_nI hR8 (by decide)
                  refine ri_ic a_X7_goesThrough_174 ?_
                  refine ri_iadd a_X7_goesThrough_175 ?_
                  refine ri_ist (f := fun zx64 => [some (vo 0 0), some (vi al), some (vi (nI lim)), some (vi zx64), some (vi 1), some (vi zx63), some (vi (-1)), j7]) a_X7_goesThrough_176 (fun _ => rfl) (fun zx64 ezx64 => ?_)
                  refine ri_goto a_X7_goesThrough_177 ?_
                  refine ri_goto a_X7_goesThrough_327 ?_
                  rw [g.1, el, nI_pred] at ezM62
                  have c36 : zM62 0 0 36 = nI R.length := by rw [ezM62, up_same]
                  have c22 : zM62 22 0 (zM62 0 0 36).toNatClampNeg = nI z := by
                    rw [c36, nI_clamp (by omega), ezM62, up_apply, if_neg (by omega), (g.2.2 R.length (by rw [el]; omega)).1, liF_eq]
                  rw [c22] at ezx63 ezx64
                  rw [ezx64, nI_1]
                  refine rest zx63 zM62 _ _ (by rw [ezx63]; exact tkOK_pop c hz8 h3.2) (by rw [ezM62]; exact frG_up e (Or.inr (Or.inr ⟨rfl, by decide, by decide⟩))) (rwN_pop g (by omega) c36 (fun i => by rw [ezM62, up_apply, if_neg (by omega)])) ?_
                  rw [show stS zM62 = stS N6 by rw [ezM62]; rfl, hs6, hs5, ← trT_P]
                  dsimp only
                  rw [if_pos ⟨h3, hw⟩]
                  rfl
            have c276 : wkV L V (N 4 0) (liF (R ++ [z])) (R ++ [z]).length = -1 → ∀ N5, frG N N5 → rwN N5 (liF (R ++ [z])) (R ++ [z]).length n → stS N5 = ((stS N1).1, (upS L V (stS N1) (R ++ [z])).2) → lr_W tM sM w d jX7_goesThrough 276 [some (vo 0 0), some (vi al), some (vi (nI lim)), some (vi (nI p)), some (vi 1), some (vi tk), some (vi (nI z)), some (vi v)] [] N5 (qV fun N' => frG N N' ∧ stS N' = res) := by
              intro hw N5 hf5 hrw5 hs5
              have s38 : N5 0 0 38 = (stS N1).1 := congrArg Prod.fst hs5
              have hsn : ∀ (N6 : Mem) (x : Int32), N6 = up N5 0 0 38 x → x = (upS L V (stS N1) (R ++ [z])).1 → frG N N6 ∧ rwN N6 (liF (R ++ [z])) (R ++ [z]).length n ∧ stS N6 = upS L V (stS N1) (R ++ [z]) := by
                intro N6 x h6 hx6
                refine ⟨by rw [h6]; exact frG_up hf5 (Or.inr (Or.inr ⟨rfl, by decide, by decide⟩)), ⟨?_, hrw5.2.1, fun i hi => ?_⟩, ?_⟩
                · rw [h6, up_apply, if_neg (by omega)]; exact hrw5.1
                · rw [h6, up_apply, if_neg (by omega)]; exact hrw5.2.2 i hi
                · rw [h6]
                  show (up N5 0 0 38 x 0 0 38, ((stS N5).2 : Int32 × (Nat → Int32))) = _
                  rw [up_same, hs5, hx6]
              refine ri_ald a_X7_goesThrough_276 rfl ?_
              refine ri_ild a_X7_goesThrough_277 rfl ?_
              refine ri_ald a_X7_goesThrough_279 rfl ?_
              refine ri_getI a_X7_goesThrough_280 fl_X7_228 kM_0_38 rfl iM_0 ?_
              refine ri_icmp_le a_X7_goesThrough_283 (fun zc31 => ?_) (fun zc31 => ?_)
              · refine ri_ald a_X7_goesThrough_291 rfl ?_
                refine ri_getI a_X7_goesThrough_292 fl_X7_228 kM_0_38 rfl iM_0 ?_
                refine ri_putI a_X7_goesThrough_295 fp_X7_228 kM_0_38 rfl iM_0 (fun zM32 ezM32 => ?_)
                refine ri_ild a_X7_goesThrough_298 rfl ?_
                refine ri_ic a_X7_goesThrough_300 ?_
                refine ri_ild a_X7_goesThrough_301 rfl ?_
                refine ri_ishl a_X7_goesThrough_303 ?_
                refine ri_ior a_X7_goesThrough_304 ?_
                refine ri_ist (f := fun zx33 => [some (vo 0 0), some (vi al), some (vi (nI lim)), some (vi (nI p)), some (vi 1), some (vi zx33), some (vi (nI z)), some (vi v)]) a_X7_goesThrough_305 (fun _ => rfl) (fun zx33 ezx33 => ?_)
                refine ri_ic a_X7_goesThrough_307 ?_
                refine ri_istk (ls' := [some (vo 0 0), some (vi al), some (vi (nI lim)), some (vi 0), some (vi 1), some (vi zx33), some (vi (nI z)), some (vi v)]) a_X7_goesThrough_308 rfl ?_
                refine ri_goto a_X7_goesThrough_309 ?_
                refine ri_goto a_X7_goesThrough_327 ?_
                rw [s38] at zc31 ezM32
                obtain ⟨q1, q2, q3⟩ := hsn _ _ ezM32 (by unfold upS; rw [hv, if_neg (Int32.not_lt.mpr zc31)])
                exact note hw _ _ _ _ ezx33 q1 q2 q3
              · refine ri_ild a_X7_goesThrough_286 rfl ?_
                refine ri_goto a_X7_goesThrough_288 ?_
                refine ri_putI a_X7_goesThrough_295 fp_X7_228 kM_0_38 rfl iM_0 (fun zM34 ezM34 => ?_)
                refine ri_ild a_X7_goesThrough_298 rfl ?_
                refine ri_ic a_X7_goesThrough_300 ?_
                refine ri_ild a_X7_goesThrough_301 rfl ?_
                refine ri_ishl a_X7_goesThrough_303 ?_
                refine ri_ior a_X7_goesThrough_304 ?_
                refine ri_ist (f := fun zx35 => [some (vo 0 0), some (vi al), some (vi (nI lim)), some (vi (nI p)), some (vi 1), some (vi zx35), some (vi (nI z)), some (vi v)]) a_X7_goesThrough_305 (fun _ => rfl) (fun zx35 ezx35 => ?_)
                refine ri_ic a_X7_goesThrough_307 ?_
                refine ri_istk (ls' := [some (vo 0 0), some (vi al), some (vi (nI lim)), some (vi 0), some (vi 1), some (vi zx35), some (vi (nI z)), some (vi v)]) a_X7_goesThrough_308 rfl ?_
                refine ri_goto a_X7_goesThrough_309 ?_
                refine ri_goto a_X7_goesThrough_327 ?_
                rw [s38] at zc31
                obtain ⟨q1, q2, q3⟩ := hsn _ _ ezM34 (by unfold upS; rw [hv, if_pos (Int32.not_le.mp zc31)])
                exact note hw _ _ _ _ ezx35 q1 q2 q3
            have c252 : wkV L V (N 4 0) (liF (R ++ [z])) (R ++ [z]).length = -1 → ∀ N5, frG N N5 → rwN N5 (liF (R ++ [z])) (R ++ [z]).length n → stS N5 = ((stS N1).1, (stS N1).2.1, (upS L V (stS N1) (R ++ [z])).2.2) → lr_W tM sM w d jX7_goesThrough 252 [some (vo 0 0), some (vi al), some (vi (nI lim)), some (vi (nI p)), some (vi 1), some (vi tk), some (vi (nI z)), some (vi v)] [] N5 (qV fun N' => frG N N' ∧ stS N' = res) := by
              intro hw N5 hf5 hrw5 hs5
              have s38 : N5 0 0 38 = (stS N1).1 := congrArg Prod.fst hs5
              have s37 : N5 0 0 37 = (stS N1).2.1 := congrArg (fun x => x.2.1) hs5
              have hsn : ∀ (N6 : Mem) (x : Int32), N6 = up N5 0 0 37 x → x = (upS L V (stS N1) (R ++ [z])).2.1 → frG N N6 ∧ rwN N6 (liF (R ++ [z])) (R ++ [z]).length n ∧ stS N6 = ((stS N1).1, (upS L V (stS N1) (R ++ [z])).2) := by
                intro N6 x h6 hx6
                refine ⟨by rw [h6]; exact frG_up hf5 (Or.inr (Or.inr ⟨rfl, by decide, by decide⟩)), ⟨?_, hrw5.2.1, fun i hi => ?_⟩, ?_⟩
                · rw [h6, up_apply, if_neg (by omega)]; exact hrw5.1
                · rw [h6, up_apply, if_neg (by omega)]; exact hrw5.2.2 i hi
                · rw [h6]
                  show ((stS N5).1, up N5 0 0 37 x 0 0 37, (stS N5).2.2) = _
                  rw [up_same, hs5, hx6]
              refine ri_ald a_X7_goesThrough_252 rfl ?_
              refine ri_ild a_X7_goesThrough_253 rfl ?_
              refine ri_ald a_X7_goesThrough_255 rfl ?_
              refine ri_getI a_X7_goesThrough_256 fl_X7_228 kM_0_38 rfl iM_0 ?_
              refine ri_icmp_le a_X7_goesThrough_259 (fun zc31 => ?_) (fun zc31 => ?_)
              · refine ri_ald a_X7_goesThrough_269 rfl ?_
                refine ri_getI a_X7_goesThrough_270 fl_X7_225 kM_0_37 rfl iM_0 ?_
                refine ri_putI a_X7_goesThrough_273 fp_X7_225 kM_0_37 rfl iM_0 (fun zM32 ezM32 => ?_)
                rw [s38] at zc31
                rw [s37] at ezM32
                obtain ⟨q1, q2, q3⟩ := hsn _ _ ezM32 (by show _ = if (stS N1).1 < hiS L V (liF (R ++ [z])) (R ++ [z]).length then dgL (R ++ [z]) else (stS N1).2.1; rw [hv, if_neg (Int32.not_lt.mpr zc31)])
                exact c276 hw _ q1 q2 q3
              · refine ri_ald a_X7_goesThrough_262 rfl ?_
                refine ri_cVpi (as := []) (rest := [vo 0 0]) (d' := d - 1) a_X7_goesThrough_263 mv_X7_digitsOf ml_X7_231 (rcM_0 iM_0) (by omega) (hdi N5 hrw5) (Nat.le_of_ble_eq_true rfl) rfl (fun zy33 ezy33 => ?_)
                refine ri_goto a_X7_goesThrough_266 ?_
                refine ri_putI a_X7_goesThrough_273 fp_X7_225 kM_0_37 rfl iM_0 (fun zM34 ezM34 => ?_)
                rw [s38] at zc31
                obtain ⟨q1, q2, q3⟩ := hsn _ _ ezM34 (by show _ = if (stS N1).1 < hiS L V (liF (R ++ [z])) (R ++ [z]).length then dgL (R ++ [z]) else (stS N1).2.1; rw [hv, if_pos (Int32.not_le.mp zc31)]; exact ezy33)
                exact c276 hw _ q1 q2 q3
            have hsn : ∀ (N6 : Mem) (x : Int32), N6 = up zM23 23 0 (R.length + 1) x → x = (if zM23 23 0 (R.length + 1) < v then v else zM23 23 0 (R.length + 1)) → frG N N6 ∧ rwN N6 (liF (R ++ [z])) (R ++ [z]).length n ∧ stS N6 = ((stS N1).1, (stS N1).2.1, (upS L V (stS N1) (R ++ [z])).2.2) := by
              intro N6 x h6 hx6
              refine ⟨by rw [h6]; exact frG_up hf2 (Or.inr (Or.inl rfl)), ⟨?_, hrw2.2.1, fun i hi => ?_⟩, ?_⟩
              · rw [h6, up_apply, if_neg (by omega)]; exact hrw2.1
              · rw [h6, up_apply, if_neg (by omega)]; exact hrw2.2.2 i hi
              · have e23 : zM23 23 0 = (stS N1).2.2 := congrArg (fun x => x.2.2) hs23
                rw [h6, ← hs23]
                show ((stS zM23).1, (stS zM23).2.1, up zM23 23 0 (R.length + 1) x 23 0) = _
                congr 2
                funext i
                rw [up_apply]
                show _ = if i = (R ++ [z]).length then _ else _
                rw [el]
                by_cases ei : i = R.length + 1
                · rw [if_pos ⟨rfl, rfl, ei⟩, if_pos ei, hx6, ← el, hv]
                  rfl
                · rw [if_neg (fun q => ei q.2.2), if_neg ei]
                  rfl
            refine ri_ald a_X7_goesThrough_201 rfl ?_
            refine ri_cVpi (as := []) (rest := []) (d' := d - 1) a_X7_goesThrough_202 mv_X7_firstLoose ml_X7_207 (rcM_0 iM_0) (by omega) (hlo) (Nat.le_of_ble_eq_true rfl) rfl (fun zy31 ezy31 => ?_)
            refine ri_ic a_X7_goesThrough_205 ?_
            refine ri_icmp_ne a_X7_goesThrough_206 (fun zc32 => ?_) (fun zc32 => ?_)
            · refine ri_ald a_X7_goesThrough_312 rfl ?_
              refine ri_dup a_X7_goesThrough_313 (fun _ h => by cases h) ?_
              refine ri_getI a_X7_goesThrough_314 fl_X7_201 kM_0_36 rfl iM_0 ?_
              refine ri_ic a_X7_goesThrough_317 ?_
              refine ri_isub a_X7_goesThrough_318 ?_
              refine ri_putI a_X7_goesThrough_319 fp_X7_201 kM_0_36 rfl iM_0 (fun zM33 ezM33 => ?_)
              refine ri_ild a_X7_goesThrough_322 rfl ?_
              refine ri_ic a_X7_goesThrough_324 ?_
              refine ri_iadd a_X7_goesThrough_325 ?_
              refine ri_ist (f := fun zx34 => [some (vo 0 0), some (vi al), some (vi (nI lim)), some (vi zx34), some (vi 1), some (vi tk), some (vi (nI z)), j7]) a_X7_goesThrough_326 (fun _ => rfl) (fun zx34 ezx34 => ?_)
              refine ri_goto a_X7_goesThrough_327 ?_
              rw [e36, nI_pred] at ezM33
              rw [ezx34, nI_1]
              refine rest tk zM33 _ _ htk (by rw [ezM33]; exact frG_up hf2 (Or.inr (Or.inr ⟨rfl, by decide, by decide⟩))) (rwN_pop hrw2 (by omega) (by rw [ezM33, up_same]) (fun i => by rw [ezM33, up_apply, if_neg (by omega)])) ?_
              rw [show stS zM33 = stS zM23 by rw [ezM33]; rfl, hs23]
              dsimp only
              rw [if_neg (fun q => zc32 (ezy31.trans q.2))]
              rfl
            · refine ri_ald a_X7_goesThrough_209 rfl ?_
              refine ri_cVpi (as := []) (rest := []) (d' := d - 1) a_X7_goesThrough_210 mv_X7_highOf ml_X7_204 (rcM_0 iM_0) (by omega) (hhi) (Nat.le_of_ble_eq_true rfl) rfl (fun zy35 ezy35 => ?_)
              refine ri_istk (ls' := [some (vo 0 0), some (vi al), some (vi (nI lim)), some (vi (nI p)), some (vi 1), some (vi tk), some (vi (nI z)), some (vi zy35)]) a_X7_goesThrough_213 rfl ?_
              refine ri_ald a_X7_goesThrough_215 rfl ?_
              refine ri_getR (t' := 23) (i' := 0) a_X7_goesThrough_216 fl_X7_76 kM_0_39 rfl iM_0 (Or.inr ⟨rfl, rfl, rfl⟩) ?_
              refine ri_ald a_X7_goesThrough_219 rfl ?_
              refine ri_getI a_X7_goesThrough_220 fl_X7_201 kM_0_36 rfl iM_0 ?_
              refine ri_ild a_X7_goesThrough_223 rfl ?_
              refine ri_ald a_X7_goesThrough_225 rfl ?_
              refine ri_getR (t' := 23) (i' := 0) a_X7_goesThrough_226 fl_X7_76 kM_0_39 rfl iM_0 (Or.inr ⟨rfl, rfl, rfl⟩) ?_
              refine ri_ald a_X7_goesThrough_229 rfl ?_
              refine ri_getI a_X7_goesThrough_230 fl_X7_201 kM_0_36 rfl iM_0 ?_
              refine ri_iaload a_X7_goesThrough_233 lM_23 rfl iM_23 ?_ ?_
              · rw [e36]; exact i23
              refine ri_icmp_le a_X7_goesThrough_234 (fun zc36 => ?_) (fun zc36 => ?_)
              · refine ri_ald a_X7_goesThrough_242 rfl ?_
                refine ri_getR (t' := 23) (i' := 0) a_X7_goesThrough_243 fl_X7_76 kM_0_39 rfl iM_0 (Or.inr ⟨rfl, rfl, rfl⟩) ?_
                refine ri_ald a_X7_goesThrough_246 rfl ?_
                refine ri_getI a_X7_goesThrough_247 fl_X7_201 kM_0_36 rfl iM_0 ?_
                refine ri_iaload a_X7_goesThrough_250 lM_23 rfl iM_23 ?_ ?_
                · rw [e36]; exact i23
                refine ri_iastore a_X7_goesThrough_251 lM_23 rfl iM_23 ?_ (fun zM37 ezM37 => ?_)
                · rw [e36]; exact i23
                subst ezy35
                rw [e36, c23] at zc36 ezM37
                obtain ⟨q1, q2, q3⟩ := hsn _ _ ezM37 (by rw [if_neg (Int32.not_lt.mpr zc36)])
                exact c252 (ezy31.symm.trans zc32) _ q1 q2 q3
              · refine ri_ild a_X7_goesThrough_237 rfl ?_
                refine ri_goto a_X7_goesThrough_239 ?_
                refine ri_iastore a_X7_goesThrough_251 lM_23 rfl iM_23 ?_ (fun zM38 ezM38 => ?_)
                · rw [e36]; exact i23
                subst ezy35
                rw [e36, c23] at zc36 ezM38
                obtain ⟨q1, q2, q3⟩ := hsn _ _ ezM38 (by rw [if_pos (Int32.not_le.mp zc36)])
                exact c252 (ezy31.symm.trans zc32) _ q1 q2 q3
          · exact absurd (by assumption) hne
  have zero : ∀ r i N1, 9 = i + r → frG N N1 → (∀ q, q < i → N1 23 0 q = 0) → (∀ q, i ≤ q → N1 23 0 q = N 23 0 q) → N1 0 0 37 = -1 → N1 0 0 38 = 0 → lr_W tM sM w d jX7_goesThrough 12 [some (vo 0 0), some (vi al), some (vi (nI lim)), some (vi (nI i)), none, none, none, none] [] N1 (qV fun N' => frG N N' ∧ stS N' = res) := by
    intro r
    induction r with
    | zero =>
      intro i N1 hi hf hz hz2 h37 h38
      have : i = 9 := by omega
      subst this
      refine ri_ild a_X7_goesThrough_12 rfl ?_
      refine ri_ic a_X7_goesThrough_13 ?_
      refine ri_icmp_ge a_X7_goesThrough_15 (fun zc11 => ?_) (fun zc11 => ?_)
      · refine ri_ald a_X7_goesThrough_31 rfl ?_
        refine ri_ic a_X7_goesThrough_32 ?_
        refine ri_putI a_X7_goesThrough_33 fp_X7_201 kM_0_36 rfl iM_0 (fun zM12 ezM12 => ?_)
        refine ri_ic a_X7_goesThrough_36 ?_
        refine ri_istk (ls' := [some (vo 0 0), some (vi al), some (vi (nI lim)), some (vi 0), none, none, none, none]) a_X7_goesThrough_37 rfl ?_
        refine ri_ic a_X7_goesThrough_38 ?_
        refine ri_istk (ls' := [some (vo 0 0), some (vi al), some (vi (nI lim)), some (vi 0), some (vi 1), none, none, none]) a_X7_goesThrough_39 rfl ?_
        refine ri_ic a_X7_goesThrough_41 ?_
        refine ri_istk (ls' := [some (vo 0 0), some (vi al), some (vi (nI lim)), some (vi 0), some (vi 1), some (vi 0), none, none]) a_X7_goesThrough_42 rfl ?_
        have hf2 : frG N zM12 := by rw [ezM12]; exact frG_up hf (Or.inr (Or.inr ⟨rfl, by decide, by decide⟩))
        have hs : stS zM12 = (0, -1, fun i => if i < 9 then 0 else N 23 0 i) := by
          rw [ezM12]
          show (N1 0 0 38, N1 0 0 37, N1 23 0) = _
          rw [h37, h38]
          congr 2
          funext q
          by_cases e : q < 9
          · rw [if_pos e, hz q e]
          · rw [if_neg e, hz2 q (by omega)]
        refine core lim [] (by simp) (fun x hx => by cases hx) n n 0 0 zM12 none none (Nat.le_refl _) (by omega) (fun q hq => by rw [bt_0]; simp) hf2 ⟨by rw [ezM12, up_same]; rfl, Nat.zero_le _, fun i hi => absurd hi (Nat.not_lt_zero _)⟩ ?_
        intro fr tk' N2 j6 j7 a b c e g hs2
        have e60 : N2 0 0 0 = nI n := by rw [e 0 0 0 (by decide) (by decide) (by omega)]; exact hn
        have hnone : (if ([] : List Nat).length < lim then fcd al [] (n - fr) fr else none) = none := by
          split
          · rename_i hl
            have hl : 0 < lim := hl
            exact (fcd_none _ _).2 (fun q q1 q2 => b (by omega) q q1 (by omega))
          · rfl
        refine ri_ild a_X7_goesThrough_44 rfl ?_
        refine ri_if_eq a_X7_goesThrough_46 (fun q => absurd q (by decide)) (fun _ => ?_)
        refine ri_ic a_X7_goesThrough_49 ?_
        refine ri_istk (ls' := [some (vo 0 0), some (vi al), some (vi (nI lim)), some (vi (nI fr)), some (vi 1), some (vi tk'), some (vi (-1)), j7]) a_X7_goesThrough_50 rfl ?_
        refine ri_ild a_X7_goesThrough_52 rfl ?_
        refine ri_ist (f := fun zx51 => [some (vo 0 0), some (vi al), some (vi (nI lim)), some (vi (nI fr)), some (vi 1), some (vi tk'), some (vi (-1)), some (vi zx51)]) a_X7_goesThrough_53 (fun _ => rfl) (fun zx51 ezx51 => ?_)
        rw [ezx51]
        refine lp_goesThrough_s hn8 hl8 e60 g.1 g.2.1 c (n - fr) fr (by omega) (fun j7 => ?_)
        rw [hnone]
        show lr_W tM sM w d jX7_goesThrough 112 [some (vo 0 0), some (vi al), some (vi (nI lim)), some (vi (nI fr)), some (vi 1), some (vi tk'), some (vi (-1)), j7] [] N2 (qV fun N' => frG N N' ∧ stS N' = res)
        have g1 : N2 0 0 36 = 0 := g.1
        refine ri_ild a_X7_goesThrough_112 rfl ?_
        refine ri_ic a_X7_goesThrough_114 ?_
        refine ri_icmp_ne a_X7_goesThrough_115 (fun q => absurd q (by decide)) (fun _ => ?_)
        refine ri_ald a_X7_goesThrough_118 rfl ?_
        refine ri_getI a_X7_goesThrough_119 fl_X7_201 kM_0_36 rfl iM_0 ?_
        refine ri_if_le a_X7_goesThrough_122 (fun zc61 => ?_) (fun zc61 => ?_)
        · refine ri_ic a_X7_goesThrough_129 ?_
          refine ri_istk (ls' := [some (vo 0 0), some (vi al), some (vi (nI lim)), some (vi (nI fr)), some (vi 0), some (vi tk'), some (vi (-1)), j7]) a_X7_goesThrough_130 rfl ?_
          refine ri_ild a_X7_goesThrough_132 rfl ?_
          refine ri_if_eq a_X7_goesThrough_134 (fun _ => ?_) (fun q => absurd q (by decide))
          refine ri_goto a_X7_goesThrough_327 ?_
          refine ri_ild a_X7_goesThrough_44 rfl ?_
          refine ri_if_eq a_X7_goesThrough_46 (fun _ => ?_) (fun q => absurd q (by decide))
          refine ri_return a_X7_goesThrough_330 rfl ?_
          refine rV ⟨e, ?_⟩
          rw [hs2, hs, ← hres, trT_P]
        · refine ri_ic a_X7_goesThrough_125 ?_
          refine ri_goto a_X7_goesThrough_126 ?_
          refine ri_istk (ls' := [some (vo 0 0), some (vi al), some (vi (nI lim)), some (vi (nI fr)), some (vi 1), some (vi tk'), some (vi (-1)), j7]) a_X7_goesThrough_130 rfl ?_
          refine ri_ild a_X7_goesThrough_132 rfl ?_
          refine ri_if_eq a_X7_goesThrough_134 (fun q => absurd q (by decide)) (fun _ => ?_)
          exact absurd (by rw [g1]; decide) zc61
      · exact absurd (by decide) zc11
    | succ r ih =>
      intro i N1 hi hf hz hz2 h37 h38
      refine ri_ild a_X7_goesThrough_12 rfl ?_
      refine ri_ic a_X7_goesThrough_13 ?_
      refine ri_icmp_ge a_X7_goesThrough_15 (fun zc11 => ?_) (fun zc11 => ?_)
      · exact absurd zc11 (nI_ge (b := 9) (by omega) (by decide))
      · refine ri_ald a_X7_goesThrough_18 rfl ?_
        refine ri_getR (t' := 23) (i' := 0) a_X7_goesThrough_19 fl_X7_76 kM_0_39 rfl iM_0 (Or.inr ⟨rfl, rfl, rfl⟩) ?_
        refine ri_ild a_X7_goesThrough_22 rfl ?_
        refine ri_ic a_X7_goesThrough_23 ?_
        refine ri_iastore a_X7_goesThrough_24 lM_23 rfl iM_23 (vp_in_nI (by omega) (by decide)) (fun zM12 ezM12 => ?_)
        refine ri_iinc (c0 := 1) (f := fun zx13 => [some (vo 0 0), some (vi al), some (vi (nI lim)), some (vi zx13), none, none, none, none]) a_X7_goesThrough_25 rfl (by decide) (fun _ => rfl) (fun zx13 ezx13 => ?_)
        refine ri_goto a_X7_goesThrough_28 ?_
        rw [nI_clamp (by omega)] at ezM12
        rw [ezx13, nI_1]
        refine ih (i + 1) zM12 (by omega) (by rw [ezM12]; exact frG_up hf (Or.inr (Or.inl rfl))) (fun q hq => ?_) (fun q hq => ?_) (by rw [ezM12]; exact h37) (by rw [ezM12]; exact h38)
        · rw [ezM12, up_apply]
          by_cases e : q = i
          · rw [if_pos ⟨rfl, rfl, e⟩]
          · rw [if_neg (fun z => e z.2.2)]; exact hz q (by omega)
        · rw [ezM12, up_apply, if_neg (by omega)]; exact hz2 q (by omega)
  refine lr_ok (by decide +kernel) rfl ?_
  refine ri_ald a_X7_goesThrough_0 rfl ?_
  refine ri_ic a_X7_goesThrough_1 ?_
  refine ri_putI a_X7_goesThrough_2 fp_X7_225 kM_0_37 rfl iM_0 (fun zM1 ezM1 => ?_)
  refine ri_ald a_X7_goesThrough_5 rfl ?_
  refine ri_ic a_X7_goesThrough_6 ?_
  refine ri_putI a_X7_goesThrough_7 fp_X7_228 kM_0_38 rfl iM_0 (fun zM2 ezM2 => ?_)
  refine ri_ic a_X7_goesThrough_10 ?_
  refine ri_istk (ls' := [some (vo 0 0), some (vi al), some (vi (nI lim)), some (vi 0), none, none, none, none]) a_X7_goesThrough_11 rfl ?_
  exact zero 9 0 zM2 (by omega) (by rw [ezM2, ezM1]; exact frG_up (frG_up (fun _ _ _ _ _ _ => rfl) (Or.inr (Or.inr ⟨rfl, by decide, by decide⟩))) (Or.inr (Or.inr ⟨rfl, by decide, by decide⟩))) (fun q hq => absurd hq (Nat.not_lt_zero _)) (fun q _ => by rw [ezM2, ezM1]; rfl) (by rw [ezM2, ezM1]; rfl) (by rw [ezM2, ezM1]; rfl)

