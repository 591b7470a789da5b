/-! class: Reader: what stands while it reads -/
theorem ri_getVe {T : Tb} {S : Nat → Bool} {w : Wd} {d : Nat} {j : MI} {pc n : Nat} {ls : List (Option AV)} {st : List AV} {M : Mem} {Q : RP} {idx ci k t i t' t0 : Nat} (hd : lr_F j pc (.getfield idx) 3 n) (hf : lr_FL j.1.cls idx ci k) (hk : lr_fk T t ci k = some (3, t', 0)) (hS : S t = false) (hi : i < lr_cnt T t) (he : M t i k = nI t0) (hb : t0 < 2 ^ 31) (nx : lr_W T S w d j n ls (vo t' t0 :: st) M Q) : lr_W T S w d j pc ls (vo t i :: st) M Q := by
  refine ri_getV hd hf hk hS hi ?_
  rw [he, nI_clamp hb]
  exact nx
def TL : List Tok := [(0, 0), (1, 0), (3, 0), (3, 1), (3, 2), (3, 3), (3, 4), (3, 5), (3, 6), (3, 7), (3, 8), (3, 9), (3, 10), (3, 11), (4, 40), (4, 41), (4, 59), (4, 43), (4, 45), (4, 42), (4, 60), (4, 61)]
theorem TL_ok {t : Tok} (h : okT t) : t.1 = 2 ∨ t ∈ TL := by
  obtain ⟨a, b⟩ := t
  obtain ⟨h1, h2, h3, h4, h5⟩ := h
  dsimp only at h1 h2 h3 h4 h5
  have : a = 0 ∨ a = 1 ∨ a = 2 ∨ a = 3 ∨ a = 4 := by omega
  rcases this with rfl | rfl | rfl | rfl | rfl
  · rw [h5 (by decide)]; exact Or.inr (by decide)
  · rw [h5 (by decide)]; exact Or.inr (by decide)
  · exact Or.inl rfl
  · have hb := h3 rfl
    have : b = 0 ∨ b = 1 ∨ b = 2 ∨ b = 3 ∨ b = 4 ∨ b = 5 ∨ b = 6 ∨ b = 7 ∨ b = 8 ∨ b = 9 ∨ b = 10 ∨ b = 11 := by omega
    rcases this with rfl | rfl | rfl | rfl | rfl | rfl | rfl | rfl | rfl | rfl | rfl | rfl <;> exact Or.inr (by decide)
  · rcases h4 rfl with rfl | rfl | rfl | rfl | rfl | rfl | rfl | rfl <;> exact Or.inr (by decide)
theorem TL_inj : ∀ t ∈ TL, ∀ u ∈ TL, tkc t = tkc u → t = u := by decide +kernel
theorem TL_3 : ∀ t ∈ TL, tkc t ≠ 3 := by decide +kernel
theorem TL_nm : ∀ t ∈ TL, ((10 ≤ tkc t ∧ tkc t ≤ 15) ↔ (t.1 = 3 ∧ 6 ≤ t.2)) := by decide +kernel
theorem tkc_2 {t : Tok} (h : t.1 = 2) : tkc t = 3 := by simp only [tkc, h]
theorem tkc_is {t u : Tok} (ht : okT t) (hu : u ∈ TL) : tkc t = tkc u ↔ t = u := by
  rcases TL_ok ht with h | h
  · rw [tkc_2 h]
    constructor
    · intro e; exact absurd e.symm (TL_3 u hu)
    · intro e; rw [e] at h; exact absurd ((tkc_2 h)) (TL_3 u hu)
  · exact ⟨TL_inj t h u hu, fun e => by rw [e]⟩
theorem tkc_num {t : Tok} (ht : okT t) : tkc t = 3 ↔ t.1 = 2 := by
  rcases TL_ok ht with h | h
  · exact ⟨fun _ => h, fun h => tkc_2 h⟩
  · exact ⟨fun e => absurd e (TL_3 t h), fun h => tkc_2 h⟩
theorem tkc_nm {t : Tok} (ht : okT t) : (10 ≤ tkc t ∧ tkc t ≤ 15) ↔ (t.1 = 3 ∧ 6 ≤ t.2) := by
  rcases TL_ok ht with h | h
  · rw [tkc_2 h]
    constructor
    · intro e; exact absurd e.1 (by decide)
    · intro e; omega
  · exact TL_nm t h
/-- reading has changed nothing else -/
def frP (t : Nat) (M M' : Mem) : Prop := ∀ t' i k, ¬ (t' = 12 ∧ i = 0 ∧ 2 ≤ k ∧ k ≤ 6) → ¬ (t' = 8 ∧ i = t ∧ k = 3) → ¬ (t' = 9 ∧ i = t) → M' t' i k = M t' i k
theorem frP_rf {t : Nat} {M : Mem} : frP t M M := fun _ _ _ _ _ _ => rfl
theorem frP_tr {t : Nat} {M M1 M2 : Mem} (h : frP t M M1) (h2 : frP t M1 M2) : frP t M M2 := fun t' i k a b c => (h2 t' i k a b c).trans (h t' i k a b c)
theorem frm_P {t : Nat} {M M1 : Mem} (h : frm [2, 3, 4, 5] M M1) : frP t M M1 := fun t' i k a _ _ => h t' i k (fun q => a ⟨q.1, q.2.1, by
  have := q.2.2
  simp only [List.mem_cons, List.mem_nil_iff, or_false] at this
  omega⟩)
def rdC (t n : Nat) (M : Mem) : Prop := M 12 0 1 = nI n ∧ M 12 0 7 = nI t
def gR (t n : Nat) (M : Mem) (s : PS) (z : Nat) : Prop := rdC t n M ∧ M 12 0 6 = -1 ∧ rdT M s ∧ okS n s ∧ okT s.1 ∧ M 8 t 3 = nI z ∧ z ≤ s.2.2
def bR (t n : Nat) (M : Mem) (p : Nat) : Prop := rdC t n M ∧ M 12 0 6 = nI p ∧ p ≤ n ∧ M 12 0 3 = 2 ∧ ∃ z, z ≤ 160 ∧ M 8 t 3 = nI z
theorem frP_C {t n : Nat} {M M1 : Mem} (h : frP t M M1) (hc : rdC t n M) : rdC t n M1 := ⟨(h 12 0 1 (by omega) (by omega) (by omega)).trans hc.1, (h 12 0 7 (by omega) (by omega) (by omega)).trans hc.2⟩
theorem frP_tp {t : Nat} {M M1 : Mem} (h : frP t M M1) : M1 13 0 = M 13 0 := funext fun k => h 13 0 k (by omega) (by omega) (by omega)
def fl (M : Mem) : Mem := up (if M 12 0 6 = -1 then up M 12 0 6 (M 12 0 4) else M) 12 0 3 2
theorem nI_m1n {p : Nat} (h : p < 2 ^ 31) : ¬ nI p = -1 := by
  intro e
  have := nI_pos h
  rw [e] at this
  exact this (by decide)
theorem fl_frP {t : Nat} {M : Mem} : frP t M (fl M) := by
  intro t' i k a b c
  unfold fl
  split
  · rw [up_apply, up_apply, if_neg (by omega), if_neg (by omega)]
  · rw [up_apply, if_neg (by omega)]
theorem fl_good {t n z : Nat} {M : Mem} {s : PS} (hn : n ≤ 160) (h : gR t n M s z) : bR t n (fl M) s.2.1 := by
  obtain ⟨h1, h2, h3, h4, h5, h6, h7⟩ := h
  refine ⟨frP_C fl_frP h1, ?_, h4.1, ?_, z, by have := h4.2.1; omega, ?_⟩
  · unfold fl
    rw [if_pos h2, up_k (by decide), up_same]
    exact h3.2.2.1
  · unfold fl
    exact up_same _ _ _ _ _
  · unfold fl
    rw [if_pos h2, up_apply, if_neg (by omega), up_apply, if_neg (by omega)]
    exact h6
theorem fl_bad {t n p : Nat} {M : Mem} (hn : n ≤ 160) (h : bR t n M p) : bR t n (fl M) p := by
  obtain ⟨h1, h2, h3, h4, z, h5, h6⟩ := h
  have hne : ¬ M 12 0 6 = -1 := by rw [h2]; exact nI_m1n (by omega)
  refine ⟨frP_C fl_frP h1, ?_, h3, ?_, z, h5, ?_⟩
  · unfold fl
    rw [if_neg hne, up_k (by decide)]
    exact h2
  · unfold fl
    exact up_same _ _ _ _ _
  · unfold fl
    rw [if_neg hne, up_apply, if_neg (by omega)]
    exact h6
/-- what a reader leaves -/
def pst (t n : Nat) (M : Mem) (z : Nat) (res : PR) (M' : Mem) : Prop := frP t M M' ∧ match res with
  | .inl p => bR t n M' p
  | .inr x => gR t n M' x.1 (z + x.2.length) ∧ z + x.2.length ≤ x.1.2.1 ∧ (∀ k, k < z → M' 9 t k = M 9 t k) ∧ ∀ k o, x.2[k]? = some o → M' 9 t (z + k) = encC o
theorem pst_bad {t n z p : Nat} {M M' : Mem} (h : frP t M M') (hb : bR t n M' p) : pst t n M z (.inl p) M' := ⟨h, hb⟩
-- append
def app (M : Mem) (t z : Nat) (x : Int32) : Mem := if z < 160 then up (up M 9 t z x) 8 t 3 (nI (z + 1)) else M
theorem app_frP {t z : Nat} {M : Mem} {x : Int32} : frP t M (app M t z x) := by
  intro t' i k a b c
  unfold app
  split
  · rw [up_apply, if_neg (by omega), up_apply, if_neg (by omega)]
  · rfl
theorem app_bad {t n p z : Nat} {M : Mem} {x : Int32} (h : bR t n M p) (hz : z ≤ 160) (hM : M 8 t 3 = nI z) : bR t n (app M t z x) p := by
  obtain ⟨h1, h2, h3, h4, _⟩ := h
  unfold app
  split
  · refine ⟨frP_C (M := M) (t := t) ?_ h1, ?_, h3, ?_, z + 1, by omega, up_same _ _ _ _ _⟩
    · have := app_frP (t := t) (z := z) (M := M) (x := x)
      unfold app at this
      rwa [if_pos (by assumption)] at this
    · rw [up_apply, if_neg (by omega), up_apply, if_neg (by omega)]; exact h2
    · rw [up_apply, if_neg (by omega), up_apply, if_neg (by omega)]; exact h4
  · exact ⟨h1, h2, h3, h4, z, hz, hM⟩
theorem app_good {t n z : Nat} {M : Mem} {s : PS} {x : Int32} (h : gR t n M s z) (hz : z < 160) (hz2 : z + 1 ≤ s.2.2) : gR t n (app M t z x) s (z + 1) ∧ (∀ k, k < z → app M t z x 9 t k = M 9 t k) ∧ app M t z x 9 t z = x := by
  obtain ⟨h1, h2, h3, h4, h5, h6, h7⟩ := h
  have hC := frP_C (app_frP (t := t) (z := z) (M := M) (x := x)) h1
  unfold app at hC ⊢
  rw [if_pos hz] at hC ⊢
  obtain ⟨k1, k2, k3, k4⟩ := h3
  refine ⟨⟨hC, ?_, ⟨?_, ?_, ?_, fun q => ?_⟩, h4, h5, up_same _ _ _ _ _, hz2⟩, fun k hk => ?_, ?_⟩
  · rw [up_apply, if_neg (by omega), up_apply, if_neg (by omega)]; exact h2
  · rw [up_apply, if_neg (by omega), up_apply, if_neg (by omega)]; exact k1
  · rw [up_apply, if_neg (by omega), up_apply, if_neg (by omega)]; exact k2
  · rw [up_apply, if_neg (by omega), up_apply, if_neg (by omega)]; exact k3
  · rw [up_apply, if_neg (by omega), up_apply, if_neg (by omega)]; exact k4 q
  · rw [up_apply, if_neg (by omega), up_apply, if_neg (by omega)]
  · rw [up_apply, if_neg (by omega), up_same]
theorem ok_app {w : Wd} {d : Nat} {M : Mem} {t z : Nat} (ht : t < 6) (x : Int32) (hn : M 8 t 3 = nI z) (hn2 : z ≤ 160) : lr_Ok tC sC w d jX1_append [vo 8 t, vi x] M (qV fun M' => M' = app M t z x) := ok_X1_append ht x hn hn2
theorem ok_adv {w : Wd} {d : Nat} (hd : 6 ≤ d) {t n z : Nat} {M : Mem} {s : PS} (hn : n ≤ 160) (h : gR t n M s z) : lr_Ok tC sC w d jX2_advance [vo 12 0] M (qV fun M' => frm [2, 3, 4, 5] M M' ∧ gR t n M' (pnx (M 13 0) n s) z ∧ z ≤ (pnx (M 13 0) n s).2.1) := by
  obtain ⟨h1, h2, h3, h4, h5, h6, h7⟩ := h
  refine lr_imp (ok_X2_advance hd h2 h1.1 hn h3.1 h4.2.1) ?_
  rintro r M' ⟨rfl, hf, ht⟩
  obtain ⟨g1, g2⟩ := pnx_ok (M 13 0) h4
  have hz : z ≤ (pnx (M 13 0) n s).2.1 := by omega
  have := g1.2.2.1
  exact ⟨rfl, hf, ⟨frP_C (frm_P hf) h1, (hf 12 0 6 (by decide)).trans h2, ht, g1, pnx_okT _ _ _, (hf 8 t 3 (fun q => absurd q.1 (by decide))).trans h6, by omega⟩, hz⟩
theorem ok_advB {w : Wd} {d : Nat} {t n p : Nat} {M : Mem} (hn : n ≤ 160) (h : bR t n M p) : lr_Ok tC sC w d jX2_advance [vo 12 0] M (qN M) := ok_X2_advance0 (by rw [h.2.1]; exact nI_m1n (by have := h.2.2.1; omega))
theorem ok_X2_mayOpen1 {w : Wd} {d : Nat} {M : Mem} {o : Nat} (ho : o < 5) : lr_Ok tC sC w d jX2_mayOpen [vo 12 0, vi (nI o)] M (qI 1 M) := by
  refine lr_ok (ls := [some (vo 12 0), some (vi (nI o))]) (by decide +kernel) rfl ?_
  refine ri_ild a_X2_mayOpen_0 rfl ?_
  refine ri_ic a_X2_mayOpen_1 ?_
  refine ri_icmp_lt a_X2_mayOpen_2 (fun zc1 => ?_) (fun zc1 => ?_)
  · refine ri_ild a_X2_mayOpen_9 rfl ?_
    refine ri_ic a_X2_mayOpen_10 ?_
    refine ri_icmp_ge a_X2_mayOpen_11 (fun zc2 => ?_) (fun zc2 => ?_)
    · refine ri_ic a_X2_mayOpen_18 ?_
      refine ri_ireturn a_X2_mayOpen_19 rfl (by decide) ?_
      first | exact rI rfl rfl | exact absurd zc2 (by rw [show (5 : Int32) = nI 5 from rfl, nI_leI (by omega) (by omega)]; omega)
    · refine ri_ic a_X2_mayOpen_14 ?_
      refine ri_goto a_X2_mayOpen_15 ?_
      refine ri_ireturn a_X2_mayOpen_19 rfl (by decide) ?_
      first | exact rI rfl rfl | exact absurd zc2 (by rw [show (5 : Int32) = nI 5 from rfl, nI_leI (by omega) (by omega)]; omega)
  · exact absurd (by rw [show (5 : Int32) = nI 5 from rfl, nI_ltI (by omega) (by omega)]; omega) zc1
theorem ok_X2_mayOpen0 {w : Wd} {d : Nat} (hd : 1 ≤ d) {M : Mem} {o : Nat} (ho : 5 ≤ o) (ho2 : o < 100) : lr_Ok tC sC w d jX2_mayOpen [vo 12 0, vi (nI o)] M (qX fun y M' => y = 0 ∧ M' = fl M) := by
  refine lr_ok (ls := [some (vo 12 0), some (vi (nI o))]) (by decide +kernel) rfl ?_
  have h5 : ¬ nI o < 5 := by rw [show (5 : Int32) = nI 5 from rfl, nI_ltI (by omega) (by omega)]; omega
  refine ri_ild a_X2_mayOpen_0 rfl ?_
  refine ri_ic a_X2_mayOpen_1 ?_
  refine ri_icmp_lt a_X2_mayOpen_2 (fun zc1 => ?_) (fun zc1 => ?_)
  · exact absurd zc1 h5
  · refine ri_ald a_X2_mayOpen_5 rfl ?_
    refine ri_cVxv (as := []) (rest := []) (d' := d - 1) a_X2_mayOpen_6 mv_X2_fail ml_X2_95 (rcC_12 iC_12) (by omega) (ok_X2_fail) (Nat.le_of_ble_eq_true rfl) rfl (fun zM2 hzM2 => ?_)
    refine ri_ild a_X2_mayOpen_9 rfl ?_
    refine ri_ic a_X2_mayOpen_10 ?_
    refine ri_icmp_ge a_X2_mayOpen_11 (fun zc11 => ?_) (fun zc11 => ?_)
    · refine ri_ic a_X2_mayOpen_18 ?_
      refine ri_ireturn a_X2_mayOpen_19 rfl (by decide) ?_
      first | exact rX ⟨rfl, hzM2⟩ | exact absurd (Int32.not_le.mp zc11) h5
    · refine ri_ic a_X2_mayOpen_14 ?_
      refine ri_goto a_X2_mayOpen_15 ?_
      refine ri_ireturn a_X2_mayOpen_19 rfl (by decide) ?_
      first | exact rX ⟨rfl, hzM2⟩ | exact absurd (Int32.not_le.mp zc11) h5
theorem ok_X2_expect1 {w : Wd} {d : Nat} (hd : 7 ≤ d) {t n z : Nat} {M : Mem} {s : PS} (hn : n ≤ 160) (h : gR t n M s z) (e : Int32) (he : tkc s.1 = e) (h1 : ¬ e = 1) : lr_Ok tC sC w d jX2_expect [vo 12 0, vi e] M (qV fun M' => frm [2, 3, 4, 5] M M' ∧ gR t n M' (pnx (M 13 0) n s) z ∧ z ≤ (pnx (M 13 0) n s).2.1) := by
  refine lr_ok (ls := [some (vo 12 0), some (vi e)]) (by decide +kernel) rfl ?_
  have ht : M 12 0 3 = e := by rw [← he]; exact h.2.2.1.2.1
  refine ri_ald a_X2_expect_0 rfl ?_
  refine ri_getI a_X2_expect_1 fl_X2_24 kC_12_3 rfl iC_12 ?_
  refine ri_ild a_X2_expect_4 rfl ?_
  refine ri_icmp_eq a_X2_expect_5 (fun zc1 => ?_) (fun zc1 => ?_)
  · refine ri_ild a_X2_expect_15 rfl ?_
    refine ri_ic a_X2_expect_16 ?_
    refine ri_icmp_eq a_X2_expect_17 (fun zc2 => ?_) (fun zc2 => ?_)
    · refine ri_return a_X2_expect_24 rfl ?_
      first | exact absurd zc2 h1 | exact rV hzM3 | exact absurd ht zc1
    · refine ri_ald a_X2_expect_20 rfl ?_
      refine ri_cVxv (as := []) (rest := []) (d' := d - 1) a_X2_expect_21 mv_X2_advance ml_X2_45 (rcC_12 iC_12) (by omega) (ok_adv (by omega) hn h) (Nat.le_of_ble_eq_true rfl) rfl (fun zM3 hzM3 => ?_)
      refine ri_return a_X2_expect_24 rfl ?_
      first | exact absurd zc2 h1 | exact rV hzM3 | exact absurd ht zc1
  · refine ri_ald a_X2_expect_8 rfl ?_
    refine ri_cVxv (as := []) (rest := []) (d' := d - 1) a_X2_expect_9 mv_X2_fail ml_X2_95 (rcC_12 iC_12) (by omega) (ok_X2_fail) (Nat.le_of_ble_eq_true rfl) rfl (fun zM4 hzM4 => ?_)
    refine ri_goto a_X2_expect_12 ?_
    refine ri_return a_X2_expect_24 rfl ?_
    first | exact absurd zc2 h1 | exact rV hzM3 | exact absurd ht zc1
theorem ok_X2_expect0 {w : Wd} {d : Nat} (hd : 1 ≤ d) {M : Mem} (e : Int32) (he : ¬ M 12 0 3 = e) : lr_Ok tC sC w d jX2_expect [vo 12 0, vi e] M (qV fun M' => M' = fl M) := by
  refine lr_ok (ls := [some (vo 12 0), some (vi e)]) (by decide +kernel) rfl ?_
  refine ri_ald a_X2_expect_0 rfl ?_
  refine ri_getI a_X2_expect_1 fl_X2_24 kC_12_3 rfl iC_12 ?_
  refine ri_ild a_X2_expect_4 rfl ?_
  refine ri_icmp_eq a_X2_expect_5 (fun zc1 => ?_) (fun zc1 => ?_)
  · exact absurd zc1 he
  · refine ri_ald a_X2_expect_8 rfl ?_
    refine ri_cVxv (as := []) (rest := []) (d' := d - 1) a_X2_expect_9 mv_X2_fail ml_X2_95 (rcC_12 iC_12) (by omega) (ok_X2_fail) (Nat.le_of_ble_eq_true rfl) rfl (fun zM2 hzM2 => ?_)
    refine ri_goto a_X2_expect_12 ?_
    refine ri_return a_X2_expect_24 rfl ?_
    exact rV hzM2
theorem ok_X2_expectE {w : Wd} {d : Nat} {M : Mem} (he : M 12 0 3 = 1) : lr_Ok tC sC w d jX2_expect [vo 12 0, vi 1] M (qN M) := by
  refine lr_ok (ls := [some (vo 12 0), some (vi 1)]) (by decide +kernel) rfl ?_
  refine ri_ald a_X2_expect_0 rfl ?_
  refine ri_getI a_X2_expect_1 fl_X2_24 kC_12_3 rfl iC_12 ?_
  refine ri_ild a_X2_expect_4 rfl ?_
  refine ri_icmp_eq a_X2_expect_5 (fun zc1 => ?_) (fun zc1 => ?_)
  · refine ri_ild a_X2_expect_15 rfl ?_
    refine ri_ic a_X2_expect_16 ?_
    refine ri_icmp_eq a_X2_expect_17 (fun _ => ?_) (fun q => absurd q (by decide))
    refine ri_return a_X2_expect_24 rfl ?_
    exact rN
  · exact absurd he zc1

