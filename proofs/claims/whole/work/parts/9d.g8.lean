/-! constructors: the reference's loop -/
section LCB
variable {w : Wd} {R : Room} {Af : Nat → Prop} {j : MI} {Z : Array Value → State → Outcome → State → Prop} {CC SS pc n cc ss : Nat} {ls : List (Option AV)} {st : List AV} {ws : va_W}
theorem lc_iald {q0 a len k : Nat} {f : Nat → Int32} (hd : lr_F j pc .iaload 1 n) (he : ws[q0]? = some (a, .inl (wdC w 0, len, .inl f))) (hk : k < len) (h31 : len ≤ 100000) (nx : lc_W w R Af j Z CC SS n ls (vi (f k) :: st) cc ss ws) : lc_W w R Af j Z CC SS pc ls (vi (nI k) :: vr (some a) :: st) cc ss ws := by
  intro p e s m args below meth c H locs A X hP hD hS hA hL
  obtain ⟨h, rfl⟩ := hd
  have ek : (nI k).toNatClampNeg = k := nI_clamp (by omega)
  refine va_iald (D := wdG w) (cl := vwCl) (tys := lr_tys w) X.1 X.2.1 X.2.2.2.2.2.2.2.2.1 hP q0 0 he rfl (vp_in_nI hk (by omega)) h ?_
  rw [ek]
  exact nx p e s m args below meth c H locs A X hP hD hS hA hL
end LCB
/-- the first k places of the tape are the law's -/
def tpK (f g : Nat → Int32) (k : Nat) : Nat → Int32 := fun i => if i < k then f i else g i
theorem tpK_up {f g : Nat → Int32} {k : Nat} : upd (tpK f g k) k (f k) = tpK f g (k + 1) := by
  funext i
  unfold upd tpK
  by_cases e : i = k
  · rw [if_pos e, if_pos (by omega), e]
  · rw [if_neg e]
    by_cases h : i < k
    · rw [if_pos h, if_pos (by omega)]
    · rw [if_neg h, if_neg (by omega)]
theorem lp_X7_loop {w : Wd} {R : Room} {Af : Nat → Prop} {Z : Array Value → State → Outcome → State → Prop} {a qt ql CC SS cc ss : Nat} {fs : List Value} {f g : Nat → Int32} {pt pl kt kl : Nat} (W0 : (Nat → Int32) → va_W) (h0 : ∀ g, (W0 g)[0]? = some (a, .inr (6, fs))) (ht : ∀ g, (W0 g)[pt]? = some (qt, .inl (wdC w 0, 160, .inl g))) (hl : ∀ g, (W0 g)[pl]? = some (ql, .inl (wdC w 0, 50, .inl f))) (hset : ∀ g g', (W0 g).set pt (qt, .inl (wdC w 0, 160, .inl g')) = W0 g') (hkt : kt < 42 ∧ fs[kt]? = some (.ref qt)) (hkl : kl < 42 ∧ fs[kl]? = some (.ref ql)) (ft : Cond.fieldLink jX7_init.1.cls 25 (TX7 kt).1 (TX7 kt).2.1 (TX7 kt).2.2.1 ∈ AW) (fl : Cond.fieldLink jX7_init.1.cls 49 (TX7 kl).1 (TX7 kl).2.1 (TX7 kl).2.2.1 ∈ AW) (nx : lc_W w R Af jX7_init Z CC SS 1112 [some (vr (some a)), some (vi 50)] [] cc ss (W0 (tpK f g 50))) : ∀ r k, 50 = k + r → lc_W w R Af jX7_init Z CC SS 1088 [some (vr (some a)), some (vi (nI k))] [] cc ss (W0 (tpK f g k)) := by
  intro r
  induction r with
  | zero =>
    intro k hk
    have : k = 50 := by omega
    subst this
    refine lc_ild a_X7_init_1088 rfl ?_
    refine lc_ic a_X7_init_1089 ?_
    exact lc_icmp_ge a_X7_init_1091 (fun _ => nx) (fun q => absurd (by decide) q)
  | succ r ih =>
    intro k hk
    refine lc_ild a_X7_init_1088 rfl ?_
    refine lc_ic a_X7_init_1089 ?_
    refine lc_icmp_ge a_X7_init_1091 (fun q => absurd q (nI_ge (b := 50) (by omega) (by decide))) (fun _ => ?_)
    refine lc_ald a_X7_init_1094 rfl ?_
    refine lc_getR (q0 := 0) (ci := 6) (k := kt) (b := qt) a_X7_init_1095 rfl (h0 _) hkt.1 ft hkt.2 ?_
    refine lc_ild a_X7_init_1098 rfl ?_
    refine lc_ald a_X7_init_1099 rfl ?_
    refine lc_getR (q0 := 0) (ci := 6) (k := kl) (b := ql) a_X7_init_1100 rfl (h0 _) hkl.1 fl hkl.2 ?_
    refine lc_ild a_X7_init_1103 rfl ?_
    refine lc_iald (q0 := pl) a_X7_init_1104 (hl _) (by omega) (by decide) ?_
    refine lc_iast (q0 := pt) a_X7_init_1105 (ht _) (by omega) (by decide) (hset _ _) ?_
    rw [tpK_up]
    refine lc_iinck (v := nI (k + 1)) a_X7_init_1106 rfl (nI_1 k) rfl ?_
    refine lc_goto a_X7_init_1109 ?_
    exact ih (k + 1) (by omega)

