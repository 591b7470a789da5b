/-! the law: what the Statement gives of the start -/
theorem aw_of {x : Cond} (h : aw_ok x = true) {s : State} {A : Array Value} (hx : x.before A s = true) : va_Nw x s := by
  cases x <;> first | exact va_Nw.of rfl hx | exact word_at (State.WarmedH.refl s) (good_of_word (w := _) h) hx
def stq (k : Nat) : String × Nat × String := lr_str.getD k ("", 0, "")
def tmS (k : Nat) : Term := .string (stq k).1 (stq k).2.1
def flN : List Cond := flatC (Jvm.Cond.and given_1 narrow_1)
theorem st_in0 : ∀ k, k < 14 → Cond.stringRef (stq k).1 (stq k).2.1 (stq k).2.2 ∈ lw_tbl := by decide +kernel
theorem st_in1 : ∀ k, k < 14 → Cond.exactly (tmS k) "java/lang/String" ∈ flN := by decide +kernel
theorem st_in2 : ∀ k, k < 14 → Cond.eq (.field (tmS k) "java/lang/String" "coder" "B") (.int 0) ∈ flN := by decide +kernel
theorem st_in3 : ∀ k, k < 14 → Cond.arrayOf (.field (tmS k) "java/lang/String" "value" "[B") .byte ∈ flN := by decide +kernel
theorem st_in4 : ∀ k, k < 14 → Cond.eq (.length (.field (tmS k) "java/lang/String" "value" "[B")) (.int (Int32.ofNat (lr_slen.getD k 0))) ∈ flN := by decide +kernel
theorem st_in5 : ∀ k, k < 14 → ∀ j, j < lr_slen.getD k 0 → Cond.eq (.elem (.field (tmS k) "java/lang/String" "value" "[B") (.int (Int32.ofNat j))) (.int ((lr_sbyt.getD k []).getD j 0)) ∈ flN := by decide +kernel
theorem st6_0 : ∀ j, j < 14 → 0 < j → flN[([0, 85, 95, 106, 115, 126, 138, 154, 171, 187, 204, 223, 242, 258] : List Nat).getD j 0]? = some (Cond.not (Cond.eq (tmS 0) (tmS j))) := by decide +kernel
theorem st6_1 : ∀ j, j < 14 → 1 < j → flN[([0, 0, 96, 107, 116, 127, 139, 155, 172, 188, 205, 224, 243, 259] : List Nat).getD j 0]? = some (Cond.not (Cond.eq (tmS 1) (tmS j))) := by decide +kernel
theorem st6_2 : ∀ j, j < 14 → 2 < j → flN[([0, 0, 0, 108, 117, 128, 140, 156, 173, 189, 206, 225, 244, 260] : List Nat).getD j 0]? = some (Cond.not (Cond.eq (tmS 2) (tmS j))) := by decide +kernel
theorem st6_3 : ∀ j, j < 14 → 3 < j → flN[([0, 0, 0, 0, 118, 129, 141, 157, 174, 190, 207, 226, 245, 261] : List Nat).getD j 0]? = some (Cond.not (Cond.eq (tmS 3) (tmS j))) := by decide +kernel
theorem st6_4 : ∀ j, j < 14 → 4 < j → flN[([0, 0, 0, 0, 0, 130, 142, 158, 175, 191, 208, 227, 246, 262] : List Nat).getD j 0]? = some (Cond.not (Cond.eq (tmS 4) (tmS j))) := by decide +kernel
theorem st6_5 : ∀ j, j < 14 → 5 < j → flN[([0, 0, 0, 0, 0, 0, 143, 159, 176, 192, 209, 228, 247, 263] : List Nat).getD j 0]? = some (Cond.not (Cond.eq (tmS 5) (tmS j))) := by decide +kernel
theorem st6_6 : ∀ j, j < 14 → 6 < j → flN[([0, 0, 0, 0, 0, 0, 0, 160, 177, 193, 210, 229, 248, 264] : List Nat).getD j 0]? = some (Cond.not (Cond.eq (tmS 6) (tmS j))) := by decide +kernel
theorem st6_7 : ∀ j, j < 14 → 7 < j → flN[([0, 0, 0, 0, 0, 0, 0, 0, 178, 194, 211, 230, 249, 265] : List Nat).getD j 0]? = some (Cond.not (Cond.eq (tmS 7) (tmS j))) := by decide +kernel
theorem st6_8 : ∀ j, j < 14 → 8 < j → flN[([0, 0, 0, 0, 0, 0, 0, 0, 0, 195, 212, 231, 250, 266] : List Nat).getD j 0]? = some (Cond.not (Cond.eq (tmS 8) (tmS j))) := by decide +kernel
theorem st6_9 : ∀ j, j < 14 → 9 < j → flN[([0, 0, 0, 0, 0, 0, 0, 0, 0, 0, 213, 232, 251, 267] : List Nat).getD j 0]? = some (Cond.not (Cond.eq (tmS 9) (tmS j))) := by decide +kernel
theorem st6_10 : ∀ j, j < 14 → 10 < j → flN[([0, 0, 0, 0, 0, 0, 0, 0, 0, 0, 0, 233, 252, 268] : List Nat).getD j 0]? = some (Cond.not (Cond.eq (tmS 10) (tmS j))) := by decide +kernel
theorem st6_11 : ∀ j, j < 14 → 11 < j → flN[([0, 0, 0, 0, 0, 0, 0, 0, 0, 0, 0, 0, 253, 269] : List Nat).getD j 0]? = some (Cond.not (Cond.eq (tmS 11) (tmS j))) := by decide +kernel
theorem st6_12 : ∀ j, j < 14 → 12 < j → flN[([0, 0, 0, 0, 0, 0, 0, 0, 0, 0, 0, 0, 0, 270] : List Nat).getD j 0]? = some (Cond.not (Cond.eq (tmS 12) (tmS j))) := by decide +kernel
theorem st6_lt : ∀ i j, i < j → j < 14 → Cond.not (Cond.eq (tmS i) (tmS j)) ∈ flN := by
  intro i j hij hj
  match i, hij with
  | 0, hij => exact List.mem_of_getElem? (st6_0 j hj hij)
  | 1, hij => exact List.mem_of_getElem? (st6_1 j hj hij)
  | 2, hij => exact List.mem_of_getElem? (st6_2 j hj hij)
  | 3, hij => exact List.mem_of_getElem? (st6_3 j hj hij)
  | 4, hij => exact List.mem_of_getElem? (st6_4 j hj hij)
  | 5, hij => exact List.mem_of_getElem? (st6_5 j hj hij)
  | 6, hij => exact List.mem_of_getElem? (st6_6 j hj hij)
  | 7, hij => exact List.mem_of_getElem? (st6_7 j hj hij)
  | 8, hij => exact List.mem_of_getElem? (st6_8 j hj hij)
  | 9, hij => exact List.mem_of_getElem? (st6_9 j hj hij)
  | 10, hij => exact List.mem_of_getElem? (st6_10 j hj hij)
  | 11, hij => exact List.mem_of_getElem? (st6_11 j hj hij)
  | 12, hij => exact List.mem_of_getElem? (st6_12 j hj hij)
  | i + 13, hij => exact absurd hij (by omega)
theorem st_in6 : ∀ i, i < 14 → ∀ j, j < 14 → i ≠ j → (Cond.not (Cond.eq (tmS i) (tmS j)) ∈ flN ∨ Cond.not (Cond.eq (tmS j) (tmS i)) ∈ flN) := fun i hi j hj h => (Nat.lt_or_gt_of_ne h).imp (fun z => st6_lt i j z hj) (fun z => st6_lt j i z hi)
theorem in_inst : ∀ q ∈ vwCl.map (fun q => (q.1, q.2.2)), Cond.instantiable q.1 q.2 ∈ lw_tbl := by decide +kernel
theorem in_cs : Cond.laysStatic "java/lang/String" "COMPACT_STRINGS" "Z" ∈ lw_tbl ∧ Cond.initialized "java/lang/String" ∈ lw_tbl ∧ Cond.eq (.static "java/lang/String" "COMPACT_STRINGS" "Z") (.int 1) ∈ flN := ⟨by decide +kernel, by decide +kernel, by decide +kernel⟩
theorem in_pf : Cond.laysStatic "jdk/internal/util/Preconditions" "SIOOBE_FORMATTER" "Ljava/util/function/BiFunction;" ∈ lw_tbl ∧ Cond.initialized "jdk/internal/util/Preconditions" ∈ lw_tbl ∧ Cond.isRef (.static "jdk/internal/util/Preconditions" "SIOOBE_FORMATTER" "Ljava/util/function/BiFunction;") ∈ flN := ⟨by decide +kernel, by decide +kernel, by decide +kernel⟩
theorem in_ar : Cond.arrayClass .int ∈ lw_tbl ∧ Cond.arrayOver (.object RX1) ∈ lw_tbl ∧ Cond.arrayOver (.object RX4) ∈ lw_tbl := ⟨by decide +kernel, by decide +kernel, by decide +kernel⟩
theorem lw_base {p : Program} {s : State} {m : MethodId} {meth : Method} {c : Code} {b L : Nat} {xs : Nat → Int32} (l : Launch) (C0 : lw_At p s m meth c b L xs) : ∃ (G : va_G) (cI : Nat → ClassId) (A : Nat → Nat → Nat), lr_Base (l, G, cI, A) s ∧ lr_Str (fun q => s.heap.size ≤ q) (l, G, cI, A) s s.heap ∧ lc_AO s := by
  obtain ⟨-, -, -, -, -, hts, -, -, -, hgv⟩ := C0
  have hfl : ∀ x ∈ flN, x.before #[Value.ref b] s = true := flat_of_before _ hgv
  have hA : ∀ a : Nat, a < s.heap.size → ¬ (fun q => s.heap.size ≤ q) a := fun a h => Nat.not_le.mpr h
  have hAW : ∀ x ∈ AW, va_Nw x s := fun x hx => aw_of (aw_mem hx) (hts x (List.mem_filter.mp hx).1)
  have hcl : ∀ k : Nat, ∃ x : ClassId × (Nat → Nat), ∀ q, vwCl[k]? = some q → u_Kn s q.1 q.2.1 q.2.2 x.1 x.2 := by
    intro k
    cases hq : vwCl[k]? with
    | none => exact ⟨(0, fun _ => 0), fun q h => by cases h⟩
    | some q =>
      have h1 : ∀ x ∈ u_ws q.1 q.2.1 q.2.2, x ∈ lw_tbl := fun x hx => (List.mem_filter.mp ((lr_cls hq).1 x hx)).1
      have h2 : Cond.instantiable q.1 q.2.2 ∈ lw_tbl := in_inst (q.1, q.2.2) (List.mem_map_of_mem (f := fun q : vw_C => (q.1, q.2.2)) (List.mem_of_getElem? hq))
      obtain ⟨cC, iS, h⟩ := u_known (C := q.1) (T := q.2.1) (N := q.2.2) (n := q.2.2) hts h1 (hts _ h2)
      exact ⟨(cC, iS), fun q' e => by cases e; exact h⟩
  obtain ⟨f, hf⟩ := Classical.axiomOfChoice hcl
  obtain ⟨c0, k0, comp0, f1, f2, f3⟩ := Cond.arrayClass_spec (hts _ in_ar.1)
  obtain ⟨comp1, c1, k1, g1, g2, g3, g4, g5⟩ := Cond.arrayOver_spec (hts _ in_ar.2.1)
  obtain ⟨comp2, c2, k2, i1, i2, i3, i4, i5⟩ := Cond.arrayOver_spec (hts _ in_ar.2.2)
  obtain ⟨adK, adV, hs1, hs2⟩ := vk_Sof (args := #[Value.ref b]) (s := s) (N := 14) (tm := tmS) (len := lr_slen) (byt := lr_sbyt) (A := fun q => s.heap.size ≤ q) slen_lt (fun i hi => hfl _ (st_in1 i hi)) (fun i hi => hfl _ (st_in2 i hi)) (fun i hi => hfl _ (st_in3 i hi)) (fun i hi => hfl _ (st_in4 i hi)) (fun i hi j hj => hfl _ (st_in5 i hi j hj)) (fun i j hi hj hij => (st_in6 i hi j hj hij).imp (hfl _) (hfl _)) hA
  refine ⟨(fun k => (f k).1, fun k => (f k).2), fun k => bif Nat.beq k 0 then c0 else bif Nat.beq k 1 then c1 else c2, fun t i => bif Nat.beq t 99 then adK i else adV i, ⟨hAW, ⟨fun k q h => hf k q h, fun k q hk => ?_⟩, fun k q hq => ?_⟩, ⟨hs1, va_Zof (hts _ in_cs.1) (hts _ in_cs.2.1) (va_eqi (hfl _ in_cs.2.2)) hA, ?_⟩, va_AO.of (hts _ in_ar.2.1), va_AO.of (hts _ in_ar.2.2)⟩
  · match k, hk with
    | 0, hk => cases hk; exact ⟨fun n z => ⟨fun k h => (by cases h), k0, f2, comp0, f3⟩, f1⟩
    | 1, hk => cases hk; exact ⟨fun n z => ⟨fun k h => (by cases h), k1, g3, comp1, g4⟩, k1, comp1, g3, g4, g1, g5⟩
    | 2, hk => cases hk; exact ⟨fun n z => ⟨fun k h => (by cases h), k2, i3, comp2, i4⟩, k2, comp2, i3, i4, i1, i5⟩
    | k + 3, hk => simp [lr_tys] at hk
  · have hk : k < 14 := (List.getElem?_eq_some_iff.mp hq).1
    have e : stq k = q := by
      unfold stq
      rw [List.getD_eq_getElem?_getD, hq]
      rfl
    rw [← e]
    exact vk_R.of (hts _ (st_in0 k hk)) (hs2 k hk)
  · rcases va_Zqof (hts _ in_pf.1) (hts _ in_pf.2.1) (hfl _ in_pf.2.2) hA with h | ⟨t, h⟩
    · exact ⟨none, h⟩
    · exact ⟨some t, h⟩
