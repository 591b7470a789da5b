/-! the law: a case, both called alike -/
def cvA (A : Nat → Nat → Nat) : AV → AV
  | .inr (.inr (.inl q)) => vr (some (A q.1 q.2))
  | v => v
theorem cvA_emb {w : Wd} {A : Nat → Nat → Nat} (v : AV) : emb (wa w A) v = emb w (cvA A v) := by
  rcases v with x | x | x | x
  · rfl
  · rfl
  · rfl
  · cases x <;> rfl
theorem cvA_map {w : Wd} {A : Nat → Nat → Nat} (r : Option AV) : r.map (emb (wa w A)) = (r.map (cvA A)).map (emb w) := by
  cases r with
  | none => rfl
  | some v => exact congrArg some (cvA_emb v)
theorem cvA_c2 {A : Nat → Nat → Nat} (r : Option AV) : ((r.map (cvA A)).toList.map lr_c2).sum ≤ 8 := by
  cases r with
  | none => exact Nat.zero_le _
  | some v =>
    show lr_c2 (cvA A v) + 0 ≤ 8
    unfold lr_c2
    split <;> omega
/-- what holds throughout the law -/
def ll_X (F : LkF) (w : Wd) (A1 A2 : Nat → Nat → Nat) (b L : Nat) (xs : Nat → Int32) : Prop :=
  lk_X F w (fun q => F.2.2.1.heap.size ≤ q) jL ∧ (va_X b L xs F.2.2.1 F.2.2.1.heap ∧ b < F.2.2.1.heap.size ∧ L ≤ 3584) ∧ (A1 99 = wdA w 99 ∧ A1 98 = wdA w 98) ∧ (A2 99 = wdA w 99 ∧ A2 98 = wdA w 98) ∧ (∀ q, lr_R tC (wa w A1) q → F.2.2.1.heap.size ≤ q) ∧ (∀ q, lr_R tM (wa w A2) q → F.2.2.1.heap.size ≤ q) ∧ ∀ q, lr_R tC (wa w A1) q → ¬ lr_R tM (wa w A2) q
def ll_I (w : Wd) (A1 A2 : Nat → Nat → Nat) (M N : Mem) : Heap → Prop := fun H => lr_P tC sC (wa w A1) M H ∧ lr_P tM sM (wa w A2) N H
/-- a world's cells, kept -/
theorem lr_P.kept {T : Tb} {S : Nat → Bool} {w : Wd} {M : Mem} {H H1 : Heap} (h : lr_P T S w M H) (hk : ∀ q, q < H.size → lr_R T w q → H1[q]? = H[q]?) : lr_P T S w M H1 := by
  obtain ⟨M0, h1, h2, h3⟩ := h
  refine ⟨M0, h1, fun k q hq => ?_, h3⟩
  exact (h2 k q hq).kept (hk q.1 (h2 k q hq).lt (h3.2 k q hq))
abbrev ll_W (F : LkF) (w : Wd) (Q : State → Prop) (I : Heap → Prop) (pc : Nat) (ls : List (Option AV)) (st : List AV) : Prop := lk_W F w room_1 (fun q => F.2.2.1.heap.size ≤ q) jL Q 91 4497 I pc ls st
abbrev ll_l (b : Nat) (A1 A2 : Nat → Nat → Nat) (i : Nat) : List (Option AV) := [some (vr (some b)), some (vr (some (A1 0 0))), some (vr (some (A2 0 0))), some (vi (nI i))]
section LL
variable {F : LkF} {w : Wd} {A1 A2 : Nat → Nat → Nat} {b L i : Nat} {xs : Nat → Int32} {Q : State → Prop} {I : Heap → Prop} {pc n : Nat} {st : List AV} {M N : Mem}
theorem ll_arg {k n1 n2 n3 n4 : Nat} (C : ll_X F w A1 A2 b L xs) (h1 : lr_ALd jL pc 0 n1) (h2 : lr_ILd jL n1 3 n2) (h3 : lr_IC jL n2 (nI k) n3) (h4 : lr_F jL n3 .iadd 1 n4) (h5 : lr_F jL n4 .iaload 1 n) (hi : i + 7 ≤ L) (hk : k < 7) (nx : ll_W F w Q I n (ll_l b A1 A2 i) (vi (xs (i + k)) :: st)) : ll_W F w Q I pc (ll_l b A1 A2 i) st := by
  obtain ⟨X, ⟨hX, hb, hL⟩, -⟩ := C
  refine lk_ald X h1 rfl ?_
  refine lk_ild X h2 rfl ?_
  refine lk_ic X h3 ?_
  refine lk_iadd X h4 ?_
  rw [nI_add]
  refine lk_sld X hX hb (by omega) (vp_in_nI (by omega) (by omega)) h5 ?_
  rw [nI_clamp (by omega)]
  exact nx
theorem ll_c1 {idx : Nat} {j' : MI} {as : List AV} {Q' : Option AV → Mem → Prop} (C : ll_X F w A1 A2 b L xs) (hd : lr_F jL pc (.invokevirtual idx) 3 n) (hM : lr_MV j' as.length) (hl : lr_ML jL.1.cls idx j'.1) (hc : j'.1.cls = RX6) (ho : lr_Ok tC sC (wa w A1) 58 j' (vo 0 0 :: as) M Q') (has : as.map (emb (wa w A1)) = as.map (emb w)) (hst : st = as.reverse ++ [vr (some (A1 0 0))]) (nx : ∀ r M', Q' r M' → ll_W F w Q (ll_I w A1 A2 M' N) n (ll_l b A1 A2 i) (r.map (cvA A1)).toList) : ll_W F w Q (ll_I w A1 A2 M N) pc (ll_l b A1 A2 i) st := by
  obtain ⟨X, ⟨hX, hb, hL⟩, ⟨e1, e2⟩, ⟨e3, e4⟩, s1, s2, dj⟩ := C
  have h21 := hM.1.2.2
  refine lk_callV (T := tC) (S := sC) (A' := A1) (v0 := vo 0 0) (as := as) (as2 := as) (rest := []) (d' := 58) (M := M) (I' := fun _ M2 => ll_I w A1 A2 M2 N) X hd hM hl (by rw [hc]; exact lk_rcT X (T := tC) (S := sC) (A' := A1) (M := M) (t := 0) (i := 0) (ci := 5) (C := RX6) rfl rfl rfl iC_0 (fun _ h => h.1)) (Nat.le_of_ble_eq_true rfl) (by show 8 + (j'.2.2.1 + 11) + 40 * 58 ≤ 84000; omega) ⟨Nat.le_of_ble_eq_true rfl, Nat.le_of_ble_eq_true rfl⟩ e1 e2 s1 ho rfl has (Nat.zero_le _) hst (fun _ h => h.1) (fun r M' H H1 _ hI hz hk hP => ⟨hP, hI.2.kept (fun q hq hR => hk q hq (fun z => dj q z hR))⟩) (fun r M' hq => ⟨r.map (cvA A1), cvA_map r, ?_⟩)
  have := nx r M' hq
  rw [List.append_nil]
  exact this
theorem ll_c2 {idx : Nat} {j' : MI} {as : List AV} {Q' : Option AV → Mem → Prop} {r0 : Option AV} (C : ll_X F w A1 A2 b L xs) (hd : lr_F jL pc (.invokevirtual idx) 3 n) (hM : lr_MV j' as.length) (hl : lr_ML jL.1.cls idx j'.1) (hc : j'.1.cls = RX7) (ho : lr_Ok tM sM (wa w A2) 10 j' (vo 0 0 :: as) N Q') (has : as.map (emb (wa w A2)) = as.map (emb w)) (hst : st = as.reverse ++ vr (some (A2 0 0)) :: (r0.map (cvA A1)).toList) (nx : ∀ r N', Q' r N' → ll_W F w Q (ll_I w A1 A2 M N') n (ll_l b A1 A2 i) ((r.map (cvA A2)).toList ++ (r0.map (cvA A1)).toList)) : ll_W F w Q (ll_I w A1 A2 M N) pc (ll_l b A1 A2 i) st := by
  obtain ⟨X, ⟨hX, hb, hL⟩, ⟨e1, e2⟩, ⟨e3, e4⟩, s1, s2, dj⟩ := C
  have h21 := hM.1.2.2
  exact lk_callV (T := tM) (S := sM) (A' := A2) (v0 := vo 0 0) (as := as) (as2 := as) (rest := (r0.map (cvA A1)).toList) (d' := 10) (M := N) (I' := fun _ N2 => ll_I w A1 A2 M N2) X hd hM hl (by rw [hc]; exact lk_rcT X (T := tM) (S := sM) (A' := A2) (M := N) (t := 0) (i := 0) (ci := 6) (C := RX7) rfl rfl rfl iM_0 (fun _ h => h.2)) (Nat.le_of_ble_eq_true rfl) (by show 8 + (j'.2.2.1 + 11) + 40 * 10 ≤ 84000; omega) ⟨Nat.le_of_ble_eq_true rfl, Nat.le_of_ble_eq_true rfl⟩ e3 e4 s2 ho rfl has (cvA_c2 r0) hst (fun _ h => h.2) (fun r M' H H1 _ hI hz hk hP => ⟨hI.1.kept (fun q hq hR => hk q hq (fun z => dj q hR z)), hP⟩) (fun r N' hq => ⟨r.map (cvA A2), cvA_map r, nx r N' hq⟩)
theorem ll_eqI {tgt n' : Nat} {r r' : Option AV} (C : ll_X F w A1 A2 b L xs) (hd : lr_Br jL pc (Instr.if_icmp .eq) tgt n') (hv : ∃ v, kI v ∧ r = some v ∧ r' = some v) (nx : ll_W F w Q I tgt (ll_l b A1 A2 i) []) : ll_W F w Q I pc (ll_l b A1 A2 i) ((r'.map (cvA A2)).toList ++ (r.map (cvA A1)).toList) := by
  obtain ⟨v, ⟨y, rfl⟩, rfl, rfl⟩ := hv
  exact lk_icmp_eq (x := y) (y := y) (st := []) C.1 hd (fun _ => nx) (fun q => absurd rfl q)
theorem ll_eqL {tgt n1 n2 : Nat} {r r' : Option AV} (C : ll_X F w A1 A2 b L xs) (hd1 : lr_F jL pc .lcmp 1 n1) (hd : lr_Br jL n1 (Instr.ifCond .eq) tgt n2) (hv : ∃ v, kL v ∧ r = some v ∧ r' = some v) (nx : ll_W F w Q I tgt (ll_l b A1 A2 i) []) : ll_W F w Q I pc (ll_l b A1 A2 i) ((r'.map (cvA A2)).toList ++ (r.map (cvA A1)).toList) := by
  obtain ⟨v, ⟨y, rfl⟩, rfl, rfl⟩ := hv
  refine lk_lcmp (x := y) (y := y) (st := []) C.1 hd1 ?_
  exact lk_if_eq (st := []) C.1 hd (fun _ => nx) (fun q => absurd (by unfold lg_cmp; simp) q)
end LL
