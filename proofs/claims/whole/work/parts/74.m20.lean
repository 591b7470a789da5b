/-! reference: tokens -/
/-- the words as the reference keeps them -/
def wdR : List (List Int32) := [[116, 97, 108, 108], [98, 101, 97, 114, 115], [99, 111, 109, 101, 115], [104, 101, 105, 103, 104, 116], [115, 116, 114, 111, 110, 103], [114, 117, 115, 116], [114, 117, 110, 103], [115, 97, 118, 101, 100], [109, 111, 114, 101], [111, 114], [97, 110, 100], [110, 111, 116]]
def padW (l : List Int32) (c : Nat) : Int32 := l.getD c 32
def wdN (N : Mem) : Prop := ∀ k, k < 12 → ∀ c, c < 8 → N 15 0 (8 * k + c) = padW (wdR.getD k []) c
/-- the place of a word in wds, as the reference numbers it -/
def wpm (i : Nat) : Nat := if i < 3 then i else if i < 6 then i + 6 else if i < 12 then i - 3 else 12
theorem wdR_ok : ∀ k, k < 12 → (wdR.getD k []).length ≤ 8 ∧ (∀ x ∈ wdR.getD k [], x ≠ 32) ∧ wpm (wds.idxOf (wdR.getD k [])) = k := by decide +kernel
theorem padW_at {l : List Int32} {c : Nat} (h : c < l.length) : padW l c = l[c] := by
  unfold padW
  rw [List.getD_eq_getElem?_getD, List.getElem?_eq_getElem h]
  rfl
theorem padW_out {l : List Int32} {c : Nat} (h : l.length ≤ c) : padW l c = 32 := by
  unfold padW
  rw [List.getD_eq_getElem?_getD, List.getElem?_eq_none h]
  rfl
theorem padW_eq {l m : List Int32} (hl : l.length ≤ 8) (hm : m.length ≤ 8) (h1 : ∀ x ∈ l, x ≠ 32) (h2 : ∀ x ∈ m, x ≠ 32) (h : ∀ c, c < 8 → padW l c = padW m c) : l = m := by
  have key : ∀ {a b : List Int32}, a.length ≤ 8 → (∀ x ∈ a, x ≠ 32) → (∀ c, c < 8 → padW a c = padW b c) → a.length ≤ b.length := by
    intro a b ha h1 h
    rcases Nat.lt_or_ge b.length a.length with q | q
    · have := h b.length (by omega)
      rw [padW_at q, padW_out (Nat.le_refl _)] at this
      exact absurd this (h1 _ (List.getElem_mem q))
    · exact q
  have hlen : l.length = m.length := Nat.le_antisymm (key hl h1 h) (key hm h2 (fun c hc => (h c hc).symm))
  refine List.ext_getElem hlen (fun i a b => ?_)
  rw [← padW_at a, ← padW_at b]
  exact h i (by omega)
theorem wpm_inj {i j : Nat} (hi : i ≤ 12) (hj : j ≤ 12) (h : wpm i = wpm j) : i = j := by
  unfold wpm at h
  repeat' split at h
  all_goals omega
theorem ok_X7_wordFrom {w : Wd} {d : Nat} {N : Mem} {n p e : Nat} (hw : wdN N) (hpe : p ≤ e) (he : e ≤ n) (hn2 : n ≤ 160) (hlet : ∀ k, p ≤ k → k < e → bL (N 6 0 k) = true) : lr_Ok tM sM w d jX7_wordFrom [vo 0 0, vi (nI p), vi (nI e)] N (qI (nI (wpm (wds.idxOf (sgm (N 6 0) p (e - p))))) N) := by
  generalize hsg : sgm (N 6 0) p (e - p) = sg
  have hlen : sg.length = e - p := by rw [← hsg]; exact sgm_len _ _ _
  have hidx : wds.idxOf sg ≤ 12 := List.idxOf_le_length
  have hpad : ∀ c, padW sg c = if p + c < e then N 6 0 (p + c) else 32 := by
    intro c
    by_cases h : c < e - p
    · rw [if_pos (by omega)]
      unfold padW
      rw [List.getD_eq_getElem?_getD, ← hsg, sgm_at h]
      rfl
    · rw [if_neg (by omega)]
      exact padW_out (by omega)
  have hsg32 : ∀ x ∈ sg, x ≠ 32 := by
    intro x hx
    rw [← hsg] at hx
    unfold sgm at hx
    rw [List.mem_map] at hx
    obtain ⟨i, hi, rfl⟩ := hx
    rw [List.mem_range] at hi
    intro h32
    have := hlet (p + i) (by omega) (by omega)
    rw [h32] at this
    exact absurd this (by decide)
  -- the columns of one word
  have cols : ∀ k, k < 12 → ∀ (Q : RP), (∀ c, (∀ c, c < 8 → padW (wdR.getD k []) c = padW sg c) → lr_W tM sM w d jX7_wordFrom 88 [some (vo 0 0), some (vi (nI p)), some (vi (nI e)), some (vi (nI k)), some (vi 1), some (vi c)] [] N Q) → (∀ c, ¬ (∀ c, c < 8 → padW (wdR.getD k []) c = padW sg c) → lr_W tM sM w d jX7_wordFrom 88 [some (vo 0 0), some (vi (nI p)), some (vi (nI e)), some (vi (nI k)), some (vi 0), some (vi c)] [] N Q) → ∀ r c, 8 = c + r → (∀ j, j < c → padW (wdR.getD k []) j = padW sg j) → lr_W tM sM w d jX7_wordFrom 26 [some (vo 0 0), some (vi (nI p)), some (vi (nI e)), some (vi (nI k)), some (vi 1), some (vi (nI c))] [] N Q := by
    intro k hk Q K1 K0 r
    induction r with
    | zero =>
      intro c hc hall
      have : c = 8 := by omega
      subst this
      refine ri_ild a_X7_wordFrom_26 rfl ?_
      refine ri_ic a_X7_wordFrom_28 ?_
      refine ri_icmp_ge a_X7_wordFrom_30 (fun zc11 => ?_) (fun zc11 => ?_)
      · exact K1 _ hall
      · exact absurd (by decide) zc11
    | succ r ih =>
      intro c hc hall
      have i15 : vp_in (8 * nI k + nI c) 96 := by rw [nI_8a]; exact vp_in_nI (by omega) (by decide)
      have v15 : N 15 0 (8 * nI k + nI c).toNatClampNeg = padW (wdR.getD k []) c := by rw [nI_8a, nI_clamp (by omega)]; exact hw k hk c (by omega)
      have go : ∀ x, x = padW sg c → lr_W tM sM w d jX7_wordFrom 72 [some (vo 0 0), some (vi (nI p)), some (vi (nI e)), some (vi (nI k)), some (vi 1), some (vi (nI c))] [vi x, vi (padW (wdR.getD k []) c)] N Q := by
        intro x hx
        refine ri_icmp_ne a_X7_wordFrom_72 (fun zc21 => ?_) (fun zc21 => ?_)
        · refine ri_ic a_X7_wordFrom_79 ?_
          refine ri_istk (ls' := [some (vo 0 0), some (vi (nI p)), some (vi (nI e)), some (vi (nI k)), some (vi 0), some (vi (nI c))]) a_X7_wordFrom_80 rfl ?_
          refine ri_iinc (c0 := 1) (f := fun zx22 => [some (vo 0 0), some (vi (nI p)), some (vi (nI e)), some (vi (nI k)), some (vi 0), some (vi zx22)]) a_X7_wordFrom_82 rfl (by decide) (fun _ => rfl) (fun zx22 ezx22 => ?_)
          refine ri_goto a_X7_wordFrom_85 ?_
          rw [ezx22, nI_1]
          refine ri_ild a_X7_wordFrom_26 rfl ?_
          refine ri_ic a_X7_wordFrom_28 ?_
          refine ri_icmp_ge a_X7_wordFrom_30 (fun zc31 => ?_) (fun zc31 => ?_)
          · exact K0 _ (fun z => zc21 (by rw [hx]; exact z c (by omega)))
          · refine ri_ild a_X7_wordFrom_33 rfl ?_
            refine ri_if_eq a_X7_wordFrom_35 (fun _ => ?_) (fun q => absurd q (by decide))
            exact K0 _ (fun z => zc21 (by rw [hx]; exact z c (by omega)))
        · refine ri_ic a_X7_wordFrom_75 ?_
          refine ri_goto a_X7_wordFrom_76 ?_
          refine ri_istk (ls' := [some (vo 0 0), some (vi (nI p)), some (vi (nI e)), some (vi (nI k)), some (vi 1), some (vi (nI c))]) a_X7_wordFrom_80 rfl ?_
          refine ri_iinc (c0 := 1) (f := fun zx23 => [some (vo 0 0), some (vi (nI p)), some (vi (nI e)), some (vi (nI k)), some (vi 1), some (vi zx23)]) a_X7_wordFrom_82 rfl (by decide) (fun _ => rfl) (fun zx23 ezx23 => ?_)
          refine ri_goto a_X7_wordFrom_85 ?_
          rw [ezx23, nI_1]
          refine ih (c + 1) (by omega) (fun j hj => ?_)
          by_cases e : j = c
          · rw [e, ← hx]; exact zc21
          · exact hall j (by omega)
      refine ri_ild a_X7_wordFrom_26 rfl ?_
      refine ri_ic a_X7_wordFrom_28 ?_
      refine ri_icmp_ge a_X7_wordFrom_30 (fun zc11 => ?_) (fun zc11 => ?_)
      · exact absurd zc11 (nI_ge (b := 8) (by omega) (by decide))
      · refine ri_ild a_X7_wordFrom_33 rfl ?_
        refine ri_if_eq a_X7_wordFrom_35 (fun q => absurd q (by decide)) (fun _ => ?_)
        refine ri_ald a_X7_wordFrom_38 rfl ?_
        refine ri_getR (t' := 15) (i' := 0) a_X7_wordFrom_39 fl_X7_52 kM_0_25 rfl iM_0 (Or.inr ⟨rfl, rfl, rfl⟩) ?_
        refine ri_ic a_X7_wordFrom_42 ?_
        refine ri_ild a_X7_wordFrom_44 rfl ?_
        refine ri_imul a_X7_wordFrom_45 ?_
        refine ri_ild a_X7_wordFrom_46 rfl ?_
        refine ri_iadd a_X7_wordFrom_48 ?_
        refine ri_iaload a_X7_wordFrom_49 lM_15 rfl iM_15 i15 ?_
        refine ri_ild a_X7_wordFrom_50 rfl ?_
        refine ri_ild a_X7_wordFrom_51 rfl ?_
        refine ri_iadd a_X7_wordFrom_53 ?_
        refine ri_ild a_X7_wordFrom_54 rfl ?_
        refine ri_icmp_ge a_X7_wordFrom_55 (fun zc12 => ?_) (fun zc12 => ?_)
        · refine ri_ic a_X7_wordFrom_70 ?_
          rw [v15]
          rw [nI_add, nI_leI (by omega) (by omega)] at zc12
          refine go _ ?_
          rw [hpad c]
          first
          | (rw [if_neg (by omega)]; done)
          | (rw [if_pos (by omega), nI_add, nI_clamp (by omega)]; done)
        · refine ri_ald a_X7_wordFrom_58 rfl ?_
          refine ri_getR (t' := 6) (i' := 0) a_X7_wordFrom_59 fl_X7_25 kM_0_8 rfl iM_0 (Or.inr ⟨rfl, rfl, rfl⟩) ?_
          refine ri_ild a_X7_wordFrom_62 rfl ?_
          refine ri_ild a_X7_wordFrom_63 rfl ?_
          refine ri_iadd a_X7_wordFrom_65 ?_
          refine ri_iaload a_X7_wordFrom_66 lM_6 rfl iM_6 ?_ ?_
          · rw [nI_add, nI_leI (by omega) (by omega)] at zc12
            rw [nI_add]
            exact vp_in_nI (by omega) (by decide)
          refine ri_goto a_X7_wordFrom_67 ?_
          rw [v15]
          rw [nI_add, nI_leI (by omega) (by omega)] at zc12
          refine go _ ?_
          rw [hpad c]
          first
          | (rw [if_neg (by omega)]; done)
          | (rw [if_pos (by omega), nI_add, nI_clamp (by omega)]; done)
  have loop : ∀ r k z4 z5, 12 = k + r → k ≤ wpm (wds.idxOf sg) → lr_W tM sM w d jX7_wordFrom 2 [some (vo 0 0), some (vi (nI p)), some (vi (nI e)), some (vi (nI k)), z4, z5] [] N (qI (nI (wpm (wds.idxOf sg))) N) := by
    intro r
    induction r with
    | zero =>
      intro k z4 z5 hk hle
      have : k = 12 := by omega
      subst this
      have : wpm (wds.idxOf sg) ≤ 12 := by unfold wpm; (repeat' split) <;> omega
      refine ri_ild a_X7_wordFrom_2 rfl ?_
      refine ri_ic a_X7_wordFrom_3 ?_
      refine ri_icmp_ge a_X7_wordFrom_5 (fun zc11 => ?_) (fun zc11 => ?_)
      · refine ri_ic a_X7_wordFrom_101 ?_
        refine ri_ireturn a_X7_wordFrom_103 rfl rfl ?_
        exact rI (by rw [show wpm (wds.idxOf sg) = 12 by omega]; rfl) rfl
      · exact absurd (by decide) zc11
    | succ r ih =>
      intro k z4 z5 hk hle
      obtain ⟨w1, w2, w3⟩ := wdR_ok k (by omega)
      have nxt : ∀ z4 z5, ¬ wpm (wds.idxOf sg) = k → lr_W tM sM w d jX7_wordFrom 95 [some (vo 0 0), some (vi (nI p)), some (vi (nI e)), some (vi (nI k)), z4, z5] [] N (qI (nI (wpm (wds.idxOf sg))) N) := by
        intro z4 z5 hne
        refine ri_iinc (c0 := 1) (f := fun zx11 => [some (vo 0 0), some (vi (nI p)), some (vi (nI e)), some (vi zx11), z4, z5]) a_X7_wordFrom_95 rfl (by decide) (fun _ => rfl) (fun zx11 ezx11 => ?_)
        refine ri_goto a_X7_wordFrom_98 ?_
        rw [ezx11, nI_1]
        exact ih (k + 1) _ _ (by omega) (by omega)
      have yes : wpm (wds.idxOf sg) = k → sg.length ≤ 8 ∧ ∀ c, c < 8 → padW (wdR.getD k []) c = padW sg c := by
        intro h
        have hik : wds.idxOf sg = wds.idxOf (wdR.getD k []) := wpm_inj hidx List.idxOf_le_length (by rw [h, w3])
        have hlt : wds.idxOf sg < 12 := by
          rcases Nat.lt_or_ge (wds.idxOf sg) 12 with q | q
          · exact q
          · have : wds.idxOf sg = 12 := by omega
            rw [this] at h
            exact absurd h (by show ¬ 12 = k; omega)
        have e1 := idx_lt hlt
        have e2 := idx_lt (l := wdR.getD k []) (by rw [← hik]; exact hlt)
        rw [hik, e2] at e1
        rw [← e1]
        exact ⟨w1, fun c _ => rfl⟩
      have hd8 : nI e - nI p = nI (e - p) := by
        obtain ⟨z, rfl⟩ : ∃ z, e = p + z := ⟨e - p, by omega⟩
        rw [Nat.add_sub_cancel_left, ← nI_add, Int32.add_comm]
        exact Int32.add_sub_cancel _ _
      refine ri_ild a_X7_wordFrom_2 rfl ?_
      refine ri_ic a_X7_wordFrom_3 ?_
      refine ri_icmp_ge a_X7_wordFrom_5 (fun zc11 => ?_) (fun zc11 => ?_)
      · exact absurd zc11 (nI_ge (b := 12) (by omega) (by decide))
      · refine ri_ild a_X7_wordFrom_8 rfl ?_
        refine ri_ild a_X7_wordFrom_9 rfl ?_
        refine ri_isub a_X7_wordFrom_10 ?_
        refine ri_ic a_X7_wordFrom_11 ?_
        refine ri_icmp_gt a_X7_wordFrom_13 (fun zc12 => ?_) (fun zc12 => ?_)
        · refine ri_ic a_X7_wordFrom_20 ?_
          refine ri_istk (ls' := [some (vo 0 0), some (vi (nI p)), some (vi (nI e)), some (vi (nI k)), some (vi 0), z5]) a_X7_wordFrom_21 rfl ?_
          refine ri_ic a_X7_wordFrom_23 ?_
          refine ri_istk (ls' := [some (vo 0 0), some (vi (nI p)), some (vi (nI e)), some (vi (nI k)), some (vi 0), some (vi 0)]) a_X7_wordFrom_24 rfl ?_
          rw [hd8, show (8 : Int32) = nI 8 from rfl, nI_ltI (by decide) (by omega)] at zc12
          refine ri_ild a_X7_wordFrom_26 rfl ?_
          refine ri_ic a_X7_wordFrom_28 ?_
          refine ri_icmp_ge a_X7_wordFrom_30 (fun q => absurd q (by decide)) (fun _ => ?_)
          refine ri_ild a_X7_wordFrom_33 rfl ?_
          refine ri_if_eq a_X7_wordFrom_35 (fun _ => ?_) (fun q => absurd q (by decide))
          refine ri_ild a_X7_wordFrom_88 rfl ?_
          refine ri_if_eq a_X7_wordFrom_90 (fun _ => ?_) (fun q => absurd q (by decide))
          exact nxt _ _ (fun h => by have := (yes h).1; omega)
        · refine ri_ic a_X7_wordFrom_16 ?_
          refine ri_goto a_X7_wordFrom_17 ?_
          refine ri_istk (ls' := [some (vo 0 0), some (vi (nI p)), some (vi (nI e)), some (vi (nI k)), some (vi 1), z5]) a_X7_wordFrom_21 rfl ?_
          refine ri_ic a_X7_wordFrom_23 ?_
          refine ri_istk (ls' := [some (vo 0 0), some (vi (nI p)), some (vi (nI e)), some (vi (nI k)), some (vi 1), some (vi 0)]) a_X7_wordFrom_24 rfl ?_
          rw [hd8, show (8 : Int32) = nI 8 from rfl, nI_ltI (by decide) (by omega)] at zc12
          refine cols k (by omega) _ (fun c hall => ?_) (fun c hno => ?_) 8 0 rfl (fun j hj => absurd hj (Nat.not_lt_zero _))
          · have he : wdR.getD k [] = sg := padW_eq w1 (by omega) w2 hsg32 hall
            refine ri_ild a_X7_wordFrom_88 rfl ?_
            refine ri_if_eq a_X7_wordFrom_90 (fun q => absurd q (by decide)) (fun _ => ?_)
            refine ri_ild a_X7_wordFrom_93 rfl ?_
            refine ri_ireturn a_X7_wordFrom_94 rfl rfl ?_
            exact rI (by rw [← he, w3]) rfl
          · skip
            refine ri_ild a_X7_wordFrom_88 rfl ?_
            refine ri_if_eq a_X7_wordFrom_90 (fun _ => ?_) (fun q => absurd q (by decide))
            exact nxt _ _ (fun h => hno (yes h).2)
  refine lr_ok (by decide +kernel) rfl ?_
  refine ri_ic a_X7_wordFrom_0 ?_
  refine ri_istk (ls' := [some (vo 0 0), some (vi (nI p)), some (vi (nI e)), some (vi 0), none, none]) a_X7_wordFrom_1 rfl ?_
  exact loop 12 0 none none rfl (Nat.zero_le _)

