/-! constructors: crew, law, reader, search -/
section LCR
variable {w : Wd} {R : Room} {Af : Nat → Prop} {j : MI} {Z : Array Value → State → Outcome → State → Prop} {CC SS pc n cc ss : Nat} {ls : List (Option AV)} {st : List AV} {ws : va_W}
theorem lc_putR {idx ci k q0 a b : Nat} {C : String} {TT : u_T} {N : Nat} {fs : List Value} {ty : FieldType} {ws' : va_W} (hd : lr_F j pc (.putfield idx) 3 n) (hc : vwCl[ci]? = some (C, TT, N)) (he : ws[q0]? = some (a, .inr (ci, fs))) (hk : k < N) (hl : k < fs.length) (hfin : (TT k).2.2.2 = false) (hpd : parseFieldDescriptor (TT k).2.2.1 = some ty) (h1 : Cond.fieldLink j.1.cls idx (TT k).1 (TT k).2.1 (TT k).2.2.1 ∈ AW) (hna : narrow ty (.ref b) = .ref b) (hfit : fits ty (.ref b) = true) (hw : ws.set q0 (a, .inr (ci, fs.set k (.ref b))) = ws') (nx : lc_W w R Af j Z CC SS n ls st cc ss ws') : lc_W w R Af j Z CC SS pc ls (vr (some b) :: vr (some a) :: st) cc ss ws := by
  intro p e s m args below meth c H locs A X hP hD hS hA hL
  obtain ⟨h, rfl⟩ := hd
  have hts := lc_hts X args
  obtain ⟨hin, hnm, ty0, hty⟩ := lr_cls hc
  subst hw
  exact va_put (v := .ref b) X.1 X.2.1 hts hin ty0 hty hnm X.2.2.2.1 X.2.2.2.2.2.2.2.2.1 hP hD hS q0 he hc k hk (hts _ h1) (fun _ h9 => h9) hfin hpd hna hfit hl h (fun H1 locs1 hP1 hD1 hS1 => nx p e s m args below meth c H1 locs1 A X hP1 hD1 hS1 hA hL)
end LCR
theorem ok_X0_init {w : Wd} {a : Nat} : lc_Ok w (rm_c 1 6 48) jX0_init [vr (some a)] [(a, .inr (0, [.null, .null, .null, .null, .null, .null, .int 0, .int 0, .int 0, .int 0]))] (fun ws => ∃ q7 q15 q23 q31 q39 q47, ws = [(a, .inr (0, [.ref q7, .ref q15, .ref q23, .ref q31, .ref q39, .ref q47, .int 0, .int 0, .int 0, .int 0])), (q7, .inl (wdC w 0, 8, .inl (fun _ => 0))), (q15, .inl (wdC w 0, 8, .inl (fun _ => 0))), (q23, .inl (wdC w 0, 8, .inl (fun _ => 0))), (q31, .inl (wdC w 0, 8, .inl (fun _ => 0))), (q39, .inl (wdC w 0, 8, .inl (fun _ => 0))), (q47, .inl (wdC w 0, 8, .inl (fun _ => 0)))]) 6 48 := by
  refine lc_ok (by decide +kernel) rfl (fun Af => ?_)
  refine lc_ald a_X0_init_0 rfl ?_
  refine lc_objInit a_X0_init_1 (aw_in (by decide +kernel) rfl) (aw_in (by decide +kernel) rfl) (aw_in (by decide +kernel) rfl) (by decide) (by decide) rfl (by decide) ?_
  refine lc_ald a_X0_init_4 rfl ?_
  refine lc_ic a_X0_init_5 ?_
  refine lc_newa (N := 8) a_X0_init_7 (aw_in (by decide +kernel) rfl) (by decide) (by decide) (by decide) (fun q7 => ?_)
  refine lc_putF (q0 := 0) (ci := 0) (k := 0) (ty := (.array .int)) a_X0_init_9 rfl rfl rfl (by decide) (Nat.le_of_ble_eq_true rfl) rfl (by decide +kernel) rfl (aw_in (by decide +kernel) rfl) rfl rfl rfl ?_
  refine lc_ald a_X0_init_12 rfl ?_
  refine lc_ic a_X0_init_13 ?_
  refine lc_newa (N := 8) a_X0_init_15 (aw_in (by decide +kernel) rfl) (by decide) (by decide) (by decide) (fun q15 => ?_)
  refine lc_putF (q0 := 0) (ci := 0) (k := 1) (ty := (.array .int)) a_X0_init_17 rfl rfl rfl (by decide) (Nat.le_of_ble_eq_true rfl) rfl (by decide +kernel) rfl (aw_in (by decide +kernel) rfl) rfl rfl rfl ?_
  refine lc_ald a_X0_init_20 rfl ?_
  refine lc_ic a_X0_init_21 ?_
  refine lc_newa (N := 8) a_X0_init_23 (aw_in (by decide +kernel) rfl) (by decide) (by decide) (by decide) (fun q23 => ?_)
  refine lc_putF (q0 := 0) (ci := 0) (k := 2) (ty := (.array .int)) a_X0_init_25 rfl rfl rfl (by decide) (Nat.le_of_ble_eq_true rfl) rfl (by decide +kernel) rfl (aw_in (by decide +kernel) rfl) rfl rfl rfl ?_
  refine lc_ald a_X0_init_28 rfl ?_
  refine lc_ic a_X0_init_29 ?_
  refine lc_newa (N := 8) a_X0_init_31 (aw_in (by decide +kernel) rfl) (by decide) (by decide) (by decide) (fun q31 => ?_)
  refine lc_putF (q0 := 0) (ci := 0) (k := 3) (ty := (.array .int)) a_X0_init_33 rfl rfl rfl (by decide) (Nat.le_of_ble_eq_true rfl) rfl (by decide +kernel) rfl (aw_in (by decide +kernel) rfl) rfl rfl rfl ?_
  refine lc_ald a_X0_init_36 rfl ?_
  refine lc_ic a_X0_init_37 ?_
  refine lc_newa (N := 8) a_X0_init_39 (aw_in (by decide +kernel) rfl) (by decide) (by decide) (by decide) (fun q39 => ?_)
  refine lc_putF (q0 := 0) (ci := 0) (k := 4) (ty := (.array .int)) a_X0_init_41 rfl rfl rfl (by decide) (Nat.le_of_ble_eq_true rfl) rfl (by decide +kernel) rfl (aw_in (by decide +kernel) rfl) rfl rfl rfl ?_
  refine lc_ald a_X0_init_44 rfl ?_
  refine lc_ic a_X0_init_45 ?_
  refine lc_newa (N := 8) a_X0_init_47 (aw_in (by decide +kernel) rfl) (by decide) (by decide) (by decide) (fun q47 => ?_)
  refine lc_putF (q0 := 0) (ci := 0) (k := 5) (ty := (.array .int)) a_X0_init_49 rfl rfl rfl (by decide) (Nat.le_of_ble_eq_true rfl) rfl (by decide +kernel) rfl (aw_in (by decide +kernel) rfl) rfl rfl rfl ?_
  refine lc_ald a_X0_init_52 rfl ?_
  refine lc_ic a_X0_init_53 ?_
  refine lc_putI (q0 := 0) (ci := 0) (k := 6) (ty := .int) a_X0_init_54 rfl rfl (by decide) (Nat.le_of_ble_eq_true rfl) rfl (by decide +kernel) (aw_in (by decide +kernel) rfl) rfl rfl rfl ?_
  refine lc_ald a_X0_init_57 rfl ?_
  refine lc_ic a_X0_init_58 ?_
  refine lc_putI (q0 := 0) (ci := 0) (k := 7) (ty := .int) a_X0_init_59 rfl rfl (by decide) (Nat.le_of_ble_eq_true rfl) rfl (by decide +kernel) (aw_in (by decide +kernel) rfl) rfl rfl rfl ?_
  refine lc_ald a_X0_init_62 rfl ?_
  refine lc_ic a_X0_init_63 ?_
  refine lc_putI (q0 := 0) (ci := 0) (k := 8) (ty := .int) a_X0_init_64 rfl rfl (by decide) (Nat.le_of_ble_eq_true rfl) rfl (by decide +kernel) (aw_in (by decide +kernel) rfl) rfl rfl rfl ?_
  refine lc_ald a_X0_init_67 rfl ?_
  refine lc_ic a_X0_init_68 ?_
  refine lc_putI (q0 := 0) (ci := 0) (k := 9) (ty := .int) a_X0_init_69 rfl rfl (by decide) (Nat.le_of_ble_eq_true rfl) rfl (by decide +kernel) (aw_in (by decide +kernel) rfl) rfl rfl rfl ?_
  exact lc_ret a_X0_init_72 rfl (by decide) (by decide) ⟨q7, q15, q23, q31, q39, q47, rfl⟩
theorem ok_X1_init {w : Wd} {a : Nat} : lc_Ok w (rm_c 1 3 195) jX1_init [vr (some a)] [(a, .inr (1, [.null, .null, .null, .int 0]))] (fun ws => ∃ q8 q15 q23, ws = [(a, .inr (1, [.ref q8, .ref q15, .ref q23, .int 0])), (q8, .inl (wdC w 0, 160, .inl (fun _ => 0))), (q15, .inl (wdC w 0, 3, .inl (fun _ => 0))), (q23, .inl (wdC w 0, 32, .inl (fun _ => 0)))]) 3 195 := by
  refine lc_ok (by decide +kernel) rfl (fun Af => ?_)
  refine lc_ald a_X1_init_0 rfl ?_
  refine lc_objInit a_X1_init_1 (aw_in (by decide +kernel) rfl) (aw_in (by decide +kernel) rfl) (aw_in (by decide +kernel) rfl) (by decide) (by decide) rfl (by decide) ?_
  refine lc_ald a_X1_init_4 rfl ?_
  refine lc_ic a_X1_init_5 ?_
  refine lc_newa (N := 160) a_X1_init_8 (aw_in (by decide +kernel) rfl) (by decide) (by decide) (by decide) (fun q8 => ?_)
  refine lc_putF (q0 := 0) (ci := 1) (k := 0) (ty := (.array .int)) a_X1_init_10 rfl rfl rfl (by decide) (Nat.le_of_ble_eq_true rfl) rfl (by decide +kernel) rfl (aw_in (by decide +kernel) rfl) rfl rfl rfl ?_
  refine lc_ald a_X1_init_13 rfl ?_
  refine lc_ic a_X1_init_14 ?_
  refine lc_newa (N := 3) a_X1_init_15 (aw_in (by decide +kernel) rfl) (by decide) (by decide) (by decide) (fun q15 => ?_)
  refine lc_putF (q0 := 0) (ci := 1) (k := 1) (ty := (.array .int)) a_X1_init_17 rfl rfl rfl (by decide) (Nat.le_of_ble_eq_true rfl) rfl (by decide +kernel) rfl (aw_in (by decide +kernel) rfl) rfl rfl rfl ?_
  refine lc_ald a_X1_init_20 rfl ?_
  refine lc_ic a_X1_init_21 ?_
  refine lc_newa (N := 32) a_X1_init_23 (aw_in (by decide +kernel) rfl) (by decide) (by decide) (by decide) (fun q23 => ?_)
  refine lc_putF (q0 := 0) (ci := 1) (k := 2) (ty := (.array .int)) a_X1_init_25 rfl rfl rfl (by decide) (Nat.le_of_ble_eq_true rfl) rfl (by decide +kernel) rfl (aw_in (by decide +kernel) rfl) rfl rfl rfl ?_
  refine lc_ald a_X1_init_28 rfl ?_
  refine lc_ic a_X1_init_29 ?_
  refine lc_putI (q0 := 0) (ci := 1) (k := 3) (ty := .int) a_X1_init_30 rfl rfl (by decide) (Nat.le_of_ble_eq_true rfl) rfl (by decide +kernel) (aw_in (by decide +kernel) rfl) rfl rfl rfl ?_
  exact lc_ret a_X1_init_33 rfl (by decide) (by decide) ⟨q8, q15, q23, rfl⟩
theorem ok_X2_init {w : Wd} {a b : Nat} : lc_Ok w (rm_c 1 1 160) jX2_init [vr (some a), vr (some b)] [(a, .inr (2, [.null, .int 0, .int 0, .int 0, .int 0, .int 0, .int 0, .null]))] (fun ws => ∃ q8, ws = [(a, .inr (2, [.ref q8, .int 0, .int 0, .int 1, .int 0, .int 0, .int (-1), .ref b])), (q8, .inl (wdC w 0, 160, .inl (fun _ => 0)))]) 1 160 := by
  refine lc_ok (by decide +kernel) rfl (fun Af => ?_)
  refine lc_ald a_X2_init_0 rfl ?_
  refine lc_objInit a_X2_init_1 (aw_in (by decide +kernel) rfl) (aw_in (by decide +kernel) rfl) (aw_in (by decide +kernel) rfl) (by decide) (by decide) rfl (by decide) ?_
  refine lc_ald a_X2_init_4 rfl ?_
  refine lc_ic a_X2_init_5 ?_
  refine lc_newa (N := 160) a_X2_init_8 (aw_in (by decide +kernel) rfl) (by decide) (by decide) (by decide) (fun q8 => ?_)
  refine lc_putF (q0 := 0) (ci := 2) (k := 0) (ty := (.array .int)) a_X2_init_10 rfl rfl rfl (by decide) (Nat.le_of_ble_eq_true rfl) rfl (by decide +kernel) rfl (aw_in (by decide +kernel) rfl) rfl rfl rfl ?_
  refine lc_ald a_X2_init_13 rfl ?_
  refine lc_ic a_X2_init_14 ?_
  refine lc_putI (q0 := 0) (ci := 2) (k := 1) (ty := .int) a_X2_init_15 rfl rfl (by decide) (Nat.le_of_ble_eq_true rfl) rfl (by decide +kernel) (aw_in (by decide +kernel) rfl) rfl rfl rfl ?_
  refine lc_ald a_X2_init_18 rfl ?_
  refine lc_ic a_X2_init_19 ?_
  refine lc_putI (q0 := 0) (ci := 2) (k := 2) (ty := .int) a_X2_init_20 rfl rfl (by decide) (Nat.le_of_ble_eq_true rfl) rfl (by decide +kernel) (aw_in (by decide +kernel) rfl) rfl rfl rfl ?_
  refine lc_ald a_X2_init_23 rfl ?_
  refine lc_ic a_X2_init_24 ?_
  refine lc_putI (q0 := 0) (ci := 2) (k := 3) (ty := .int) a_X2_init_25 rfl rfl (by decide) (Nat.le_of_ble_eq_true rfl) rfl (by decide +kernel) (aw_in (by decide +kernel) rfl) rfl rfl rfl ?_
  refine lc_ald a_X2_init_28 rfl ?_
  refine lc_ic a_X2_init_29 ?_
  refine lc_putI (q0 := 0) (ci := 2) (k := 4) (ty := .int) a_X2_init_30 rfl rfl (by decide) (Nat.le_of_ble_eq_true rfl) rfl (by decide +kernel) (aw_in (by decide +kernel) rfl) rfl rfl rfl ?_
  refine lc_ald a_X2_init_33 rfl ?_
  refine lc_ic a_X2_init_34 ?_
  refine lc_putI (q0 := 0) (ci := 2) (k := 5) (ty := .int) a_X2_init_35 rfl rfl (by decide) (Nat.le_of_ble_eq_true rfl) rfl (by decide +kernel) (aw_in (by decide +kernel) rfl) rfl rfl rfl ?_
  refine lc_ald a_X2_init_38 rfl ?_
  refine lc_ic a_X2_init_39 ?_
  refine lc_putI (q0 := 0) (ci := 2) (k := 6) (ty := .int) a_X2_init_40 rfl rfl (by decide) (Nat.le_of_ble_eq_true rfl) rfl (by decide +kernel) (aw_in (by decide +kernel) rfl) rfl rfl rfl ?_
  refine lc_ald a_X2_init_43 rfl ?_
  refine lc_ald a_X2_init_44 rfl ?_
  refine lc_putR (q0 := 0) (ci := 2) (k := 7) (ty := (.object "LadderOfRescued$Law")) a_X2_init_45 rfl rfl (by decide) (Nat.le_of_ble_eq_true rfl) rfl (by decide +kernel) (aw_in (by decide +kernel) rfl) rfl rfl rfl ?_
  exact lc_ret a_X2_init_48 rfl (by decide) (by decide) ⟨q8, rfl⟩
theorem ok_X3_init {w : Wd} {a : Nat} : lc_Ok w (rm_c 1 4 96) jX3_init [vr (some a)] [(a, .inr (3, [.null, .null, .null, .null, .int 0, .int 0, .int 0, .int 0]))] (fun ws => ∃ q7 q15 q23 q31, ws = [(a, .inr (3, [.ref q7, .ref q15, .ref q23, .ref q31, .int 0, .int 0, .int 0, .int (-1)])), (q7, .inl (wdC w 0, 40, .inl (fun _ => 0))), (q15, .inl (wdC w 0, 40, .inl (fun _ => 0))), (q23, .inl (wdC w 0, 8, .inl (fun _ => 0))), (q31, .inl (wdC w 0, 8, .inl (fun _ => 0)))]) 4 96 := by
  refine lc_ok (by decide +kernel) rfl (fun Af => ?_)
  refine lc_ald a_X3_init_0 rfl ?_
  refine lc_objInit a_X3_init_1 (aw_in (by decide +kernel) rfl) (aw_in (by decide +kernel) rfl) (aw_in (by decide +kernel) rfl) (by decide) (by decide) rfl (by decide) ?_
  refine lc_ald a_X3_init_4 rfl ?_
  refine lc_ic a_X3_init_5 ?_
  refine lc_newa (N := 40) a_X3_init_7 (aw_in (by decide +kernel) rfl) (by decide) (by decide) (by decide) (fun q7 => ?_)
  refine lc_putF (q0 := 0) (ci := 3) (k := 0) (ty := (.array .int)) a_X3_init_9 rfl rfl rfl (by decide) (Nat.le_of_ble_eq_true rfl) rfl (by decide +kernel) rfl (aw_in (by decide +kernel) rfl) rfl rfl rfl ?_
  refine lc_ald a_X3_init_12 rfl ?_
  refine lc_ic a_X3_init_13 ?_
  refine lc_newa (N := 40) a_X3_init_15 (aw_in (by decide +kernel) rfl) (by decide) (by decide) (by decide) (fun q15 => ?_)
  refine lc_putF (q0 := 0) (ci := 3) (k := 1) (ty := (.array .int)) a_X3_init_17 rfl rfl rfl (by decide) (Nat.le_of_ble_eq_true rfl) rfl (by decide +kernel) rfl (aw_in (by decide +kernel) rfl) rfl rfl rfl ?_
  refine lc_ald a_X3_init_20 rfl ?_
  refine lc_ic a_X3_init_21 ?_
  refine lc_newa (N := 8) a_X3_init_23 (aw_in (by decide +kernel) rfl) (by decide) (by decide) (by decide) (fun q23 => ?_)
  refine lc_putF (q0 := 0) (ci := 3) (k := 2) (ty := (.array .int)) a_X3_init_25 rfl rfl rfl (by decide) (Nat.le_of_ble_eq_true rfl) rfl (by decide +kernel) rfl (aw_in (by decide +kernel) rfl) rfl rfl rfl ?_
  refine lc_ald a_X3_init_28 rfl ?_
  refine lc_ic a_X3_init_29 ?_
  refine lc_newa (N := 8) a_X3_init_31 (aw_in (by decide +kernel) rfl) (by decide) (by decide) (by decide) (fun q31 => ?_)
  refine lc_putF (q0 := 0) (ci := 3) (k := 3) (ty := (.array .int)) a_X3_init_33 rfl rfl rfl (by decide) (Nat.le_of_ble_eq_true rfl) rfl (by decide +kernel) rfl (aw_in (by decide +kernel) rfl) rfl rfl rfl ?_
  refine lc_ald a_X3_init_36 rfl ?_
  refine lc_ic a_X3_init_37 ?_
  refine lc_putI (q0 := 0) (ci := 3) (k := 4) (ty := .int) a_X3_init_38 rfl rfl (by decide) (Nat.le_of_ble_eq_true rfl) rfl (by decide +kernel) (aw_in (by decide +kernel) rfl) rfl rfl rfl ?_
  refine lc_ald a_X3_init_41 rfl ?_
  refine lc_ic a_X3_init_42 ?_
  refine lc_putI (q0 := 0) (ci := 3) (k := 5) (ty := .int) a_X3_init_43 rfl rfl (by decide) (Nat.le_of_ble_eq_true rfl) rfl (by decide +kernel) (aw_in (by decide +kernel) rfl) rfl rfl rfl ?_
  refine lc_ald a_X3_init_46 rfl ?_
  refine lc_ic a_X3_init_47 ?_
  refine lc_putI (q0 := 0) (ci := 3) (k := 6) (ty := .int) a_X3_init_48 rfl rfl (by decide) (Nat.le_of_ble_eq_true rfl) rfl (by decide +kernel) (aw_in (by decide +kernel) rfl) rfl rfl rfl ?_
  refine lc_ald a_X3_init_51 rfl ?_
  refine lc_ic a_X3_init_52 ?_
  refine lc_putI (q0 := 0) (ci := 3) (k := 7) (ty := .int) a_X3_init_53 rfl rfl (by decide) (Nat.le_of_ble_eq_true rfl) rfl (by decide +kernel) (aw_in (by decide +kernel) rfl) rfl rfl rfl ?_
  exact lc_ret a_X3_init_56 rfl (by decide) (by decide) ⟨q7, q15, q23, q31, rfl⟩

