/-! constructors: the class, from its first text on -/
def byt6 (q : Nat) : Int32 := (lr_sbyt.getD 0 []).getD q 0
/-- the first i signs are heard -/
def heard (M : Mem) (i : Nat) : Prop := M 12 0 1 = nI i ∧ (∀ t i' k, ¬ (t = 13 ∧ i' = 0) → ¬ (t = 12 ∧ i' = 0 ∧ k = 1) → M t i' k = m6 t i' k) ∧ ∀ q, M 13 0 q = if q < i then byt6 q else 0
theorem heard_0 : heard m6 0 := ⟨rfl, fun _ _ _ _ _ => rfl, fun q => by rw [if_neg (Nat.not_lt_zero q)]; rfl⟩
theorem heard_1 {M : Mem} {i : Nat} (h : heard M i) (hi : i < 50) : heard (up (up M 13 0 i (byt6 i)) 12 0 1 (nI (i + 1))) (i + 1) := by
  obtain ⟨h1, h2, h3⟩ := h
  refine ⟨by rw [up_same], fun t i' k a b => ?_, fun q => ?_⟩
  · rw [up_apply, if_neg b, up_apply, if_neg (fun z => a ⟨z.1, z.2.1⟩)]
    exact h2 t i' k a b
  · rw [up_apply, if_neg (by omega), up_apply]
    by_cases e : q = i
    · subst e
      rw [if_pos ⟨rfl, rfl, rfl⟩, if_pos (by omega)]
    · rw [if_neg (fun z => e z.2.2), h3]
      by_cases g : q < i
      · rw [if_pos g, if_pos (by omega)]
      · rw [if_neg g, if_neg (by omega)]
theorem byt_law : ∀ q, q < 50 → byt6 q = law7 q := by decide +kernel
theorem heard_tap {M : Mem} (h : heard M 50) : M 13 0 = tap0 := by
  funext q
  rw [h.2.2 q]
  show _ = if q < 50 then law7 q else 0
  by_cases g : q < 50
  · rw [if_pos g, if_pos g, byt_law q g]
  · rw [if_neg g, if_neg g]
/-- what the class's constructor leaves -/
def inC (M2 : Mem) : Prop := ∃ M M1 : Mem, heard M 50 ∧ frR 0 M M1 ∧ M1 12 0 1 = 0 ∧ tx M1 0 L0 ∧ M2 = up M1 0 0 6 1
section X6T
variable {F : LkF} {w : Wd} {Af : Nat → Prop} {A' : Nat → Nat → Nat} {a : Nat}
theorem lp_X6_h {Q : State → Prop} (X : lk_X F w Af jX6_init) (hA : A' 99 = wdA w 99) (hA2 : A' 98 = wdA w 98) (ha : A' 0 0 = a) (hsub : ∀ q, lr_R tC (wa w A') q → Af q) (nx : ∀ M, heard M 50 → lk_W F w (rm_c 60 64 2086) Af jX6_init Q 64 2086 (lr_P tC sC (wa w A') M) 192 [some (vr (some a)), some (vi (nI 50))] []) : ∀ r i : Nat, i + r = 50 → ∀ M, heard M i → lk_W F w (rm_c 60 64 2086) Af jX6_init Q 64 2086 (lr_P tC sC (wa w A') M) 164 [some (vr (some a)), some (vi (nI i))] [] := by
  have hst : emb (wa w A') (vo 99 0) = .ref (wdA w 99 0) := by
    show Value.ref (A' 99 0) = _
    rw [hA]
  intro r
  induction r with
  | zero =>
    intro i hi M hM
    have e : i = 50 := by omega
    subst e
    refine lk_ild X a_X6_init_164 rfl ?_
    refine lk_sc (q := 0) X a_X6_init_165 rfl ?_
    refine lk_callV (T := tC) (S := sC) (A' := A') (v0 := vo 99 0) (as := []) (as2 := []) (rest := [vi (nI 50)]) (d' := 1) (M := M) (I' := fun _ M2 => lr_P tC sC (wa w A') M2) X a_X6_init_167 mv_J0_length_8abf5 ml_X6_69 (lk_rcS X (by decide)) (by decide) (by decide) ⟨Nat.le_refl _, Nat.le_refl _⟩ hA hA2 hsub (ok_J0_length (Nat.le_refl 1) (by decide)) hst rfl (Nat.le_of_ble_eq_true rfl) rfl (fun _ h => h) (fun _ _ _ _ _ _ _ _ h => h) ?_
    rintro r M2 ⟨rfl, rfl⟩
    refine ⟨some (vi (nI 50)), rfl, ?_⟩
    exact lk_icmp_ge X a_X6_init_170 (fun _ => nx _ hM) (fun q => absurd (by decide) q)
  | succ r ih =>
    intro i hi M hM
    refine lk_ild X a_X6_init_164 rfl ?_
    refine lk_sc (q := 0) X a_X6_init_165 rfl ?_
    refine lk_callV (T := tC) (S := sC) (A' := A') (v0 := vo 99 0) (as := []) (as2 := []) (rest := [vi (nI i)]) (d' := 1) (M := M) (I' := fun _ M2 => lr_P tC sC (wa w A') M2) X a_X6_init_167 mv_J0_length_8abf5 ml_X6_69 (lk_rcS X (by decide)) (by decide) (by decide) ⟨Nat.le_refl _, Nat.le_refl _⟩ hA hA2 hsub (ok_J0_length (Nat.le_refl 1) (by decide)) hst rfl (Nat.le_of_ble_eq_true rfl) rfl (fun _ h => h) (fun _ _ _ _ _ _ _ _ h => h) ?_
    rintro r M2 ⟨rfl, rfl⟩
    refine ⟨some (vi (nI 50)), rfl, ?_⟩
    refine lk_icmp_ge X a_X6_init_170 (fun q => absurd q (nI_ge (b := 50) (by omega) (by decide))) (fun _ => ?_)
    refine lk_ald X a_X6_init_173 rfl ?_
    refine lk_get (ci := 5) (k := 4) (b := A' 12 0) X a_X6_init_174 fl_X6_63 (by subst ha; exact lk_gf kC_0_4 rfl iC_0 rfl) ?_
    refine lk_sc (q := 0) X a_X6_init_177 rfl ?_
    refine lk_ild X a_X6_init_179 rfl ?_
    refine lk_callV (T := tC) (S := sC) (A' := A') (v0 := vo 99 0) (as := [vi (nI i)]) (as2 := [vi (nI i)]) (rest := [vr (some (A' 12 0))]) (d' := 3) (M := M2) (I' := fun _ M2 => lr_P tC sC (wa w A') M2) X a_X6_init_180 mv_J0_charAt_5068e ml_X6_75 (lk_rcS X (by decide)) (by decide) (by decide) ⟨Nat.le_refl _, Nat.le_refl _⟩ hA hA2 hsub (ok_J0_charAt (Nat.le_refl 3) (by decide) (by show i < 50; omega) (by decide)) hst rfl (Nat.le_of_ble_eq_true rfl) rfl (fun _ h => h) (fun _ _ _ _ _ _ _ _ h => h) ?_
    rintro r M3 ⟨rfl, rfl⟩
    refine ⟨some (vi (byt6 i)), rfl, ?_⟩
    refine lk_callV (T := tC) (S := sC) (A' := A') (v0 := vo 12 0) (as := [vi (byt6 i)]) (as2 := [vi (byt6 i)]) (rest := []) (d' := 10) (M := M3) (I' := fun _ M2 => lr_P tC sC (wa w A') M2) X a_X6_init_183 mv_X2_hear ml_X6_79 (fun H locs hI hS => lk_rcT X (T := tC) (S := sC) (A' := A') (t := 12) (i := 0) (ci := 2) (C := RX2) rfl rfl rfl iC_12 (fun _ h => h) H locs hI hS) (by decide) (by decide) ⟨Nat.le_refl _, Nat.le_refl _⟩ hA hA2 hsub (ok_X2_hear (n := i) hM.1 (by omega) (byt6 i)) rfl rfl (Nat.le_of_ble_eq_true rfl) rfl (fun _ h => h) (fun _ _ _ _ _ _ _ _ h => h) ?_
    rintro r M4 ⟨rfl, h4⟩
    rw [if_pos (by omega)] at h4
    refine ⟨none, rfl, ?_⟩
    refine lk_iinck (v := nI (i + 1)) (ls' := [some (vr (some a)), some (vi (nI (i + 1)))]) X a_X6_init_186 rfl (nI_1 i) rfl ?_
    refine lk_goto X a_X6_init_189 ?_
    exact ih (i + 1) (by omega) M4 (by rw [h4]; exact heard_1 hM (by omega))
theorem lp_X6_t (X : lk_X F w Af jX6_init) (hA : A' 99 = wdA w 99) (hA2 : A' 98 = wdA w 98) (ha : A' 0 0 = a) (hsub : ∀ q, lr_R tC (wa w A') q → Af q) : lk_W F w (rm_c 60 64 2086) Af jX6_init (MQ F.2.2.2.2.2.1 (lc_Z w Af (lcP w tC sC a inC)) F.2.2.2.2.1 F.2.2.1 64 2086 Af) 64 2086 (lr_P tC sC (wa w A') m6) 162 [some (vr (some a)), some (vi 4)] [] := by
  refine lk_ic X a_X6_init_162 ?_
  refine lk_istk (ls' := [some (vr (some a)), some (vi (nI 0))]) X a_X6_init_163 rfl ?_
  refine lp_X6_h X hA hA2 ha hsub (fun M hM => ?_) 50 0 rfl m6 heard_0
  refine lk_ald X a_X6_init_192 rfl ?_
  refine lk_get (ci := 5) (k := 4) (b := A' 12 0) X a_X6_init_193 fl_X6_63 (by subst ha; exact lk_gf kC_0_4 rfl iC_0 rfl) ?_
  refine lk_ald X a_X6_init_196 rfl ?_
  refine lk_get (ci := 5) (k := 5) (b := A' 21 0) X a_X6_init_197 fl_X6_28 (by subst ha; exact lk_gf kC_0_5 rfl iC_0 rfl) ?_
  refine lk_ic X a_X6_init_200 ?_
  refine lk_aald (b := A' 8 0) (len := 6) (c0 := 1) X a_X6_init_201 (Or.inl rfl) (vp_in_nI (n := 0) (by decide) (by decide)) (lk_ga lC_21 iC_21 0) ?_
  refine lk_callV (T := tC) (S := sC) (A' := A') (v0 := vo 12 0) (as := [vo 8 0]) (as2 := [vr (some (A' 8 0))]) (rest := []) (d' := 57) (M := M) (I' := fun _ M2 => lr_P tC sC (wa w A') M2) X a_X6_init_202 mv_X2_read ml_X6_83 (fun H locs hI hS => lk_rcT X (T := tC) (S := sC) (A' := A') (t := 12) (i := 0) (ci := 2) (C := RX2) rfl rfl rfl iC_12 (fun _ h => h) H locs hI hS) (by decide) (by decide) ⟨Nat.le_refl _, Nat.le_refl _⟩ hA hA2 hsub (ok_X2_read (Nat.le_refl 57) (by decide) (n := 50) (by decide) hM.1) rfl rfl (Nat.le_of_ble_eq_true rfl) rfl (fun _ h => h) (fun _ _ _ _ _ _ _ _ h => h) ?_
  rintro r M1 ⟨y, rfl, h1, h2, h3⟩
  rw [heard_tap hM, pTx_0] at h3
  refine ⟨some (vi y), rfl, ?_⟩
  refine lk_pop X a_X6_init_205 ?_
  refine lk_ald X a_X6_init_206 rfl ?_
  refine lk_ic X a_X6_init_207 ?_
  refine lk_putI (ci := 5) (k := 6) (I1 := lr_P tC sC (wa w A') (up M1 0 0 6 1)) X a_X6_init_208 fp_X6_32 rfl rfl (by subst ha; exact lk_gp kC_0_6 rfl iC_0 hsub) ?_
  refine lk_ret X a_X6_init_211 rfl (Nat.le_refl _) (Nat.le_refl _) (fun H hI => ?_)
  obtain ⟨M0, g1, g2, g3⟩ := hI
  exact ⟨_, ⟨A', M0, up M1 0 0 6 1, hA, hA2, ha, rfl, g1, M, M1, hM, h1, h2, h3.2, rfl⟩, g2, g3.weaken (fun _ q _ h => hsub q.1 h)⟩
end X6T
