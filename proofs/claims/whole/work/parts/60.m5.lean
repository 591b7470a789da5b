/-! bits; reference: the search's row, step by step -/
theorem bq32 : ∀ q, q < 32 → (nI q &&& 31).toBitVec.smod 32 = BitVec.ofNat 32 q := by decide +kernel
abbrev bt (x : Int32) (q : Nat) : Bool := x.toBitVec.getLsbD q
theorem bt_sh (x : Int32) {q : Nat} (hq : q < 32) : (x >>> (nI q &&& 31)) &&& 1 = 0 ↔ bt x q = false := by
  have h : ((x >>> (nI q &&& 31)) &&& 1).toBitVec = BitVec.setWidth 32 (BitVec.ofBool (bt x q)) := by
    rw [Int32.toBitVec_and, Int32.toBitVec_shiftRight, bq32 q hq]
    have e : (BitVec.sshiftRight' x.toBitVec (BitVec.ofNat 32 q)).getLsbD 0 = bt x q := by
      rw [BitVec.getLsbD_sshiftRight', BitVec.toNat_ofNat, Nat.mod_eq_of_lt (by omega)]
      simp
      omega
    rw [← e]
    exact BitVec.and_one_eq_setWidth_ofBool_getLsbD
  cases hb : bt x q with
  | false =>
    rw [hb] at h
    exact ⟨fun _ => rfl, fun _ => Int32.toBitVec_inj.mp (by rw [h]; rfl)⟩
  | true =>
    rw [hb] at h
    refine ⟨fun z => ?_, fun z => by cases z⟩
    rw [z] at h
    exact absurd h (by decide)
theorem bt_1 : ∀ p, p < 8 → ∀ q, q < 8 → bt ((1 : Int32) <<< (nI p &&& 31)) q = decide (q = p) ∧ bt (((1 : Int32) <<< (nI p &&& 31)) ^^^ -1) q = decide (q ≠ p) := by decide +kernel
theorem bt_set (x : Int32) {p q : Nat} (hp : p < 8) (hq : q < 8) : bt (x ||| (1 <<< (nI p &&& 31))) q = (bt x q || decide (q = p)) := by
  rw [← (bt_1 p hp q hq).1]
  unfold bt
  rw [Int32.toBitVec_or, BitVec.getLsbD_or]
theorem bt_clr (x : Int32) {p q : Nat} (hp : p < 8) (hq : q < 8) : bt (x &&& ((1 <<< (nI p &&& 31)) ^^^ -1)) q = (bt x q && decide (q ≠ p)) := by
  rw [← (bt_1 p hp q hq).2]
  unfold bt
  rw [Int32.toBitVec_and, BitVec.getLsbD_and]
theorem bt_0 (q : Nat) : bt 0 q = false := by
  unfold bt
  rw [Int32.toBitVec_zero]
  exact BitVec.getLsbD_zero
/-- the bits of x are who stands in R -/
def tkOK (x : Int32) (R : List Nat) : Prop := ∀ q, q < 8 → bt x q = decide (q ∈ R)
theorem tkOK_push {x : Int32} {R : List Nat} {p : Nat} (h : tkOK x R) (hp : p < 8) : tkOK (x ||| (1 <<< (nI p &&& 31))) (R ++ [p]) := fun q hq => by
  rw [bt_set x hp hq, h q hq]
  simp
theorem tkOK_pop {x : Int32} {R : List Nat} {p : Nat} (h : tkOK x (R ++ [p])) (hp : p < 8) (hn : p ∉ R) : tkOK (x &&& ((1 <<< (nI p &&& 31)) ^^^ -1)) R := fun q hq => by
  rw [bt_clr x hp hq, h q hq]
  by_cases e : q = p
  · subst e
    simp [hn]
  · simp [e]
def liF (R : List Nat) : Nat → Nat := fun i => R.getD i 0
theorem liF_lt {R : List Nat} {p i : Nat} (h : i < R.length) : liF (R ++ [p]) i = liF R i := by
  unfold liF
  simp only [List.getD_eq_getElem?_getD]
  rw [List.getElem?_append_left h]
theorem liF_eq {R : List Nat} {p : Nat} : liF (R ++ [p]) R.length = p := by
  unfold liF
  simp
theorem liF_mem {R : List Nat} {i : Nat} (h : i < R.length) : liF R i ∈ R := by
  unfold liF
  rw [List.getD_eq_getElem?_getD, List.getElem?_eq_getElem h]
  exact List.getElem_mem h
def dgL (R : List Nat) : Int32 := R.foldl (fun x p => 10 * x + nI p + 1) 0
theorem dgL_take {R : List Nat} {i : Nat} (h : i < R.length) : 10 * dgL (R.take i) + nI (liF R i) + 1 = dgL (R.take (i + 1)) := by
  have e : R.take (i + 1) = R.take i ++ [liF R i] := by
    unfold liF
    rw [List.getD_eq_getElem?_getD, List.getElem?_eq_getElem h]
    exact List.take_succ_eq_append_getElem h
  rw [e]
  unfold dgL
  rw [List.foldl_append]
  rfl
theorem ok_X7_digitsOf {w : Wd} {d : Nat} {N : Mem} {n : Nat} {R : List Nat} (hR : rwN N (liF R) R.length n) (hn8 : n ≤ 8) : lr_Ok tM sM w d jX7_digitsOf [vo 0 0] N (qI (dgL R) N) := by
  obtain ⟨h36, hm8, hR⟩ := hR
  have loop : ∀ r i, R.length = i + r → lr_W tM sM w d jX7_digitsOf 4 [some (vo 0 0), some (vi (dgL (R.take i))), some (vi (nI i))] [] N (qI (dgL R) N) := by
    intro r
    induction r with
    | zero =>
      intro i hi
      have hi : R.length = i := hi
      subst hi
      rw [List.take_length]
      refine ri_ild a_X7_digitsOf_4 rfl ?_
      refine ri_ald a_X7_digitsOf_5 rfl ?_
      refine ri_getI a_X7_digitsOf_6 fl_X7_201 kM_0_36 rfl iM_0 ?_
      refine ri_icmp_ge a_X7_digitsOf_9 (fun zc1 => ?_) (fun zc1 => ?_)
      · refine ri_ild a_X7_digitsOf_32 rfl ?_
        refine ri_ireturn a_X7_digitsOf_33 rfl rfl ?_
        exact rI rfl rfl
      · exact absurd (by rw [h36]; exact Int32.le_refl _) zc1
    | succ r ih =>
      intro i hi
      have ei : N 22 0 (nI i).toNatClampNeg = nI (liF R i) := by rw [nI_clamp (by omega)]; exact (hR i (by omega)).1
      refine ri_ild a_X7_digitsOf_4 rfl ?_
      refine ri_ald a_X7_digitsOf_5 rfl ?_
      refine ri_getI a_X7_digitsOf_6 fl_X7_201 kM_0_36 rfl iM_0 ?_
      refine ri_icmp_ge a_X7_digitsOf_9 (fun zc11 => ?_) (fun zc11 => ?_)
      · exact absurd zc11 (by rw [h36]; exact nI_ge (by omega) (by omega))
      · refine ri_ic a_X7_digitsOf_12 ?_
        refine ri_ild a_X7_digitsOf_14 rfl ?_
        refine ri_imul a_X7_digitsOf_15 ?_
        refine ri_ald a_X7_digitsOf_16 rfl ?_
        refine ri_getR (t' := 22) (i' := 0) a_X7_digitsOf_17 fl_X7_73 kM_0_35 rfl iM_0 (Or.inr ⟨rfl, rfl, rfl⟩) ?_
        refine ri_ild a_X7_digitsOf_20 rfl ?_
        refine ri_iaload a_X7_digitsOf_21 lM_22 rfl iM_22 (vp_in_nI (by omega) (by decide)) ?_
        refine ri_iadd a_X7_digitsOf_22 ?_
        refine ri_ic a_X7_digitsOf_23 ?_
        refine ri_iadd a_X7_digitsOf_24 ?_
        refine ri_ist (f := fun zx12 => [some (vo 0 0), some (vi zx12), some (vi (nI i))]) a_X7_digitsOf_25 (fun _ => rfl) (fun zx12 ezx12 => ?_)
        refine ri_iinc (c0 := 1) (f := fun zx13 => [some (vo 0 0), some (vi zx12), some (vi zx13)]) a_X7_digitsOf_26 rfl (by decide) (fun _ => rfl) (fun zx13 ezx13 => ?_)
        refine ri_goto a_X7_digitsOf_29 ?_
        rw [ezx12, ezx13, ei, dgL_take (by omega), nI_1]
        exact ih (i + 1) (by omega)
  refine lr_ok (by decide +kernel) rfl ?_
  refine ri_ic a_X7_digitsOf_0 ?_
  refine ri_istk (ls' := [some (vo 0 0), some (vi 0), none]) a_X7_digitsOf_1 rfl ?_
  refine ri_ic a_X7_digitsOf_2 ?_
  refine ri_istk (ls' := [some (vo 0 0), some (vi 0), some (vi 0)]) a_X7_digitsOf_3 rfl ?_
  exact loop R.length 0 (by omega)
theorem ok_X7_savedSet {w : Wd} {d : Nat} {N : Mem} {k : Nat} (hk : N 0 0 6 = nI k) (hk8 : k ≤ 8) : lr_Ok tM sM w d jX7_savedSet [vo 0 0] N (qI (bitsF (N 5 0) k) N) := by
  have loop : ∀ r i, k = i + r → lr_W tM sM w d jX7_savedSet 4 [some (vo 0 0), some (vi (bitsF (N 5 0) i)), some (vi (nI i))] [] N (qI (bitsF (N 5 0) k) N) := by
    intro r
    induction r with
    | zero =>
      intro i hi
      have : k = i := hi
      subst this
      refine ri_ild a_X7_savedSet_4 rfl ?_
      refine ri_ald a_X7_savedSet_5 rfl ?_
      refine ri_getI a_X7_savedSet_6 fl_X7_100 kM_0_6 rfl iM_0 ?_
      refine ri_icmp_ge a_X7_savedSet_9 (fun zc1 => ?_) (fun zc1 => ?_)
      · refine ri_ild a_X7_savedSet_29 rfl ?_
        refine ri_ireturn a_X7_savedSet_30 rfl rfl ?_
        exact rI rfl rfl
      · exact absurd (by rw [hk]; exact Int32.le_refl _) zc1
    | succ r ih =>
      intro i hi
      refine ri_ild a_X7_savedSet_4 rfl ?_
      refine ri_ald a_X7_savedSet_5 rfl ?_
      refine ri_getI a_X7_savedSet_6 fl_X7_100 kM_0_6 rfl iM_0 ?_
      refine ri_icmp_ge a_X7_savedSet_9 (fun zc11 => ?_) (fun zc11 => ?_)
      · exact absurd zc11 (by rw [hk]; exact nI_ge (by omega) (by omega))
      · refine ri_ild a_X7_savedSet_12 rfl ?_
        refine ri_ic a_X7_savedSet_13 ?_
        refine ri_ald a_X7_savedSet_14 rfl ?_
        refine ri_getR (t' := 5) (i' := 0) a_X7_savedSet_15 fl_X7_22 kM_0_5 rfl iM_0 (Or.inr ⟨rfl, rfl, rfl⟩) ?_
        refine ri_ild a_X7_savedSet_18 rfl ?_
        refine ri_iaload a_X7_savedSet_19 lM_5 rfl iM_5 (vp_in_nI (by omega) (by decide)) ?_
        refine ri_ishl a_X7_savedSet_20 ?_
        refine ri_ior a_X7_savedSet_21 ?_
        refine ri_ist (f := fun zx12 => [some (vo 0 0), some (vi zx12), some (vi (nI i))]) a_X7_savedSet_22 (fun _ => rfl) (fun zx12 ezx12 => ?_)
        refine ri_iinc (c0 := 1) (f := fun zx13 => [some (vo 0 0), some (vi zx12), some (vi zx13)]) a_X7_savedSet_23 rfl (by decide) (fun _ => rfl) (fun zx13 ezx13 => ?_)
        refine ri_goto a_X7_savedSet_26 ?_
        rw [nI_clamp (by omega)] at ezx12
        rw [ezx12, ezx13, nI_1]
        exact ih (i + 1) (by omega)
  refine lr_ok (by decide +kernel) rfl ?_
  refine ri_ic a_X7_savedSet_0 ?_
  refine ri_istk (ls' := [some (vo 0 0), some (vi 0), none]) a_X7_savedSet_1 rfl ?_
  refine ri_ic a_X7_savedSet_2 ?_
  refine ri_istk (ls' := [some (vo 0 0), some (vi 0), some (vi 0)]) a_X7_savedSet_3 rfl ?_
  exact loop k 0 (by omega)

