/-! rows of the walk: arrays, the JDK's own members, String constants -/
section RL
variable {T : Tb} {S : Nat → Bool} {w : Wd} {d : Nat} {j : MI} {pc n : Nat} {ls : List (Option AV)} {st : List AV} {M : Mem} {Q : Option AV → Mem → Prop}
theorem lr_al_sh {t len : Nat} (h : lr_al T t = some len) : lr_sh T t = .inl len := by
  unfold lr_al at h
  cases hsh : lr_sh T t with
  | inl z => rw [hsh] at h; cases h; rfl
  | inr z => rw [hsh] at h; cases h
theorem lr_rl_sh {t : Nat} {q : Nat × Nat × Nat} (h : lr_rl T t = some q) : lr_sh T t = .inr (.inl q) := by
  unfold lr_rl at h
  cases hsh : lr_sh T t with
  | inl z => rw [hsh] at h; cases h
  | inr z =>
    cases z with
    | inl z => rw [hsh] at h; cases h; rfl
    | inr z => rw [hsh] at h; cases h
theorem ri_iaload {t i len : Nat} {x : Int32} (hd : lr_F j pc .iaload 1 n) (hsh : lr_al T t = some len) (hS : S t = false) (hi : i < lr_cnt T t) (hin : vp_in x len) (nx : lr_W T S w d j n ls (vi (M t i x.toNatClampNeg) :: st) M Q) : lr_W T S w d j pc ls (vi x :: vo t i :: st) M Q := by
  intro p e s m args below meth c H locs A X hP hS' hL
  have nx' := nx p e s m args below meth c H locs A X hP hS' hL
  obtain ⟨M0, hM, hP, hD⟩ := hP
  obtain ⟨q0, hq0, he⟩ := lr_pos w M0 hi
  obtain ⟨h, rfl⟩ := hd
  rw [lr_al_sh hsh, hM t hS] at he
  exact va_iald X.1 X.2.1 X.2.2.2.2.2.2.1.2.1 hP q0 0 he rfl hin h nx'
theorem ri_iastore {t i len : Nat} {x v : Int32} (hd : lr_F j pc .iastore 1 n) (hsh : lr_al T t = some len) (hS : S t = false) (hi : i < lr_cnt T t) (hin : vp_in x len) (nx : ∀ M1, M1 = up M t i x.toNatClampNeg v → lr_W T S w d j n ls st M1 Q) : lr_W T S w d j pc ls (vi v :: vi x :: vo t i :: st) M Q := by
  intro p e s m args below meth c H locs A X hP hS' hL
  have nx' := fun H1 locs1 hP1 hS1 => nx _ rfl p e s m args below meth c H1 locs1 A X hP1 hS1 hL
  obtain ⟨M0, hM, hP, hD⟩ := hP
  obtain ⟨q0, hq0, he⟩ := lr_pos w M0 hi
  obtain ⟨h, rfl⟩ := hd
  have hsh2 := lr_al_sh hsh
  rw [hsh2] at he
  refine va_iast X.1 X.2.1 X.2.2.2.2.2.2.1.2.1 hP hD hS' q0 0 he rfl hin h (fun H1 locs1 a1 a2 a3 => ?_)
  have hset : (lr_cells T w M0).set q0 (wdA w t i, .inl (wdC w 0, len, .inl (upd (M0 t i) x.toNatClampNeg v))) = lr_cells T w (up M0 t i x.toNatClampNeg v) := by
    rw [← lr_cells_set (M1 := up M0 t i x.toNatClampNeg v) hD hq0 (fun t' i' hne => up_of hne), up_at, hsh2]
    rfl
  rw [hset] at a1 a2
  exact nx' H1 locs1 ⟨_, up_eq hM hS, a1, a2⟩ a3
theorem ri_alen {t i len : Nat} (hd : lr_F j pc .arraylength 1 n) (hsh : lr_al T t = some len) (hi : i < lr_cnt T t) (nx : lr_W T S w d j n ls (vi (nI len) :: st) M Q) : lr_W T S w d j pc ls (vo t i :: st) M Q := by
  intro p e s m args below meth c H locs A X hP hS' hL
  have nx' := nx p e s m args below meth c H locs A X hP hS' hL
  obtain ⟨M0, hM, hP, hD⟩ := hP
  obtain ⟨q0, hq0, he⟩ := lr_pos w M0 hi
  obtain ⟨h, rfl⟩ := hd
  rw [lr_al_sh hsh] at he
  exact va_alen X.1 X.2.1 X.2.2.2.2.2.2.1.2.1 hP q0 0 he rfl rfl h nx'
theorem ri_aaload {t i len t' c0 : Nat} {x : Int32} (hd : lr_F j pc .aaload 1 n) (hsh : lr_rl T t = some (len, t', c0)) (hc : c0 = 1 ∨ c0 = 2) (hi : i < lr_cnt T t) (hin : vp_in x len) (nx : lr_W T S w d j n ls (vo t' x.toNatClampNeg :: st) M Q) : lr_W T S w d j pc ls (vi x :: vo t i :: st) M Q := by
  intro p e s m args below meth c H locs A X hP hS' hL
  have nx' := nx p e s m args below meth c H locs A X hP hS' hL
  obtain ⟨M0, hM, hP, hD⟩ := hP
  obtain ⟨q0, hq0, he⟩ := lr_pos w M0 hi
  obtain ⟨h, rfl⟩ := hd
  rw [lr_rl_sh hsh] at he
  rcases hc with rfl | rfl
  · exact va_aldq (f := fun k => some (wdA w t' k)) X.1 X.2.1 X.2.2.2.2.2.2.1.2.1 hP q0 1 he rfl hin h nx'
  · exact va_aldq (f := fun k => some (wdA w t' k)) X.1 X.2.1 X.2.2.2.2.2.2.1.2.1 hP q0 2 he rfl hin h nx'
-- Math, arraycopy
theorem lr_sz {p : Program} {s : State} {m : MethodId} {meth : Method} {c : Code} {A : Array Slot} (X : lr_Cx T w j p s m meth c) (hL : lr_L w j.2.2.1 ls A) : c.maxLocals = A.size := X.2.2.1.trans hL.2.1.symm
theorem ri_max {idx : Nat} {x y : Int32} (hd : lr_F j pc (.invokestatic idx) 3 n) (h1 : Cond.methodLink j.1.cls idx Lib.Math.max.name ∈ AW) (h2 : Cond.static Lib.Math.max.name ∈ AW ∧ Cond.initialized "java/lang/Math" ∈ AW ∧ Cond.code Lib.Math.max.name Lib.Math.max.code 2 (some .int) ∈ AW) (hdd : 1 ≤ d) (hrs : (st.map lr_c2).sum ≤ 8) (nx : lr_W T S w d j n ls (vi (if x < y then y else x) :: st) M Q) : lr_W T S w d j pc ls (vi y :: vi x :: st) M Q := by
  intro p e s m args below meth c H locs A X hP hS hL
  obtain ⟨h, rfl⟩ := hd
  have hts := lr_hts X args
  refine va_mmax X.1 X.2.1 (lr_sz X hL) X.2.2.2.1 (hts _ h1) (hts _ h2.1) (hts _ h2.2.1) (hts _ h2.2.2) hdd ?_ (Nat.le_refl 0) (Nat.le_refl 0) h (nx p e s m args below meth c H locs A X hP hS hL)
  rw [lr_c2_sum]
  show _ ≤ 40 * d
  omega
theorem ri_min {idx : Nat} {x y : Int32} (hd : lr_F j pc (.invokestatic idx) 3 n) (h1 : Cond.methodLink j.1.cls idx Lib.Math.min.name ∈ AW) (h2 : Cond.static Lib.Math.min.name ∈ AW ∧ Cond.initialized "java/lang/Math" ∈ AW ∧ Cond.code Lib.Math.min.name Lib.Math.min.code 2 (some .int) ∈ AW) (hdd : 1 ≤ d) (hrs : (st.map lr_c2).sum ≤ 8) (nx : lr_W T S w d j n ls (vi (if x > y then y else x) :: st) M Q) : lr_W T S w d j pc ls (vi y :: vi x :: st) M Q := by
  intro p e s m args below meth c H locs A X hP hS hL
  obtain ⟨h, rfl⟩ := hd
  have hts := lr_hts X args
  refine va_mmin X.1 X.2.1 (lr_sz X hL) X.2.2.2.1 (hts _ h1) (hts _ h2.1) (hts _ h2.2.1) (hts _ h2.2.2) hdd ?_ (Nat.le_refl 0) (Nat.le_refl 0) h (nx p e s m args below meth c H locs A X hP hS hL)
  rw [lr_c2_sum]
  show _ ≤ 40 * d
  omega
/-- the memory with one row of numbers changed whole -/
def upr (M : Mem) (t i : Nat) (g : Nat → Int32) : Mem := fun t' => if t' = t then (fun i' => if i' = i then g else M t i') else M t'
theorem upr_at (M : Mem) (t i : Nat) (g : Nat → Int32) : upr M t i g t i = g := by simp [upr]
theorem upr_of {M : Mem} {t i : Nat} {g : Nat → Int32} {t' i' : Nat} (h : ¬ (t' = t ∧ i' = i)) : upr M t i g t' i' = M t' i' := by
  unfold upr
  by_cases h1 : t' = t
  · subst h1
    rw [if_pos rfl]
    exact if_neg fun q => h ⟨rfl, q⟩
  · rw [if_neg h1]
theorem upr_eq {M0 M : Mem} {S : Nat → Bool} (hM : ∀ t, S t = false → M0 t = M t) {t i : Nat} {g : Nat → Int32} (hS : S t = false) : ∀ t', S t' = false → upr M0 t i g t' = upr M t i g t' := by
  intro t' ht'
  unfold upr
  by_cases h1 : t' = t
  · subst h1
    rw [if_pos rfl, if_pos rfl, hM _ hS]
  · rw [if_neg h1, if_neg h1, hM _ ht']
theorem ri_copy {idx t0 i0 t i n0 n1 : Nat} {sp dp k : Int32} (hd : lr_F j pc (.invokestatic idx) 3 n) (h1 : Cond.methodLink j.1.cls idx arraycopyName ∈ AW) (h2 : Cond.native arraycopyName ∈ AW ∧ Cond.static arraycopyName ∈ AW ∧ Cond.initialized "java/lang/System" ∈ AW) (hdd : 1 ≤ d) (hrs : (st.map lr_c2).sum ≤ 8)
    (hs0 : lr_al T t0 = some n0) (hs1 : lr_al T t = some n1) (hS0 : S t0 = false) (hS : S t = false) (hi0 : i0 < lr_cnt T t0) (hi : i < lr_cnt T t) (g1 : ¬ sp < 0) (g2 : ¬ dp < 0) (g3 : ¬ k < 0) (g4 : sp.toNatClampNeg + k.toNatClampNeg ≤ n0) (g5 : dp.toNatClampNeg + k.toNatClampNeg ≤ n1)
    (nx : ∀ M1, M1 = upr M t i (va_cpy (M t0 i0) (M t i) sp.toNatClampNeg dp.toNatClampNeg k.toNatClampNeg) → lr_W T S w d j n ls st M1 Q) : lr_W T S w d j pc ls (vi k :: vi dp :: vo t i :: vi sp :: vo t0 i0 :: st) M Q := by
  intro p e s m args below meth c H locs A X hP hS' hL
  have nx' := fun H1 locs1 hP1 hS1 => nx _ rfl p e s m args below meth c H1 locs1 A X hP1 hS1 hL
  obtain ⟨M0, hM, hP, hD⟩ := hP
  obtain ⟨q0, hq0, he0⟩ := lr_pos w M0 hi0
  obtain ⟨q1, hq1, he1⟩ := lr_pos w M0 hi
  obtain ⟨h, rfl⟩ := hd
  have hts := lr_hts X args
  have hsh := lr_al_sh hs1
  rw [lr_al_sh hs0] at he0
  rw [hsh] at he1
  refine va_copyi X.1 X.2.1 (lr_sz X hL) X.2.2.2.1 (hts _ h1) (hts _ h2.1) (hts _ h2.2.1) (hts _ h2.2.2) X.2.2.2.2.2.2.1.2.1 hP hD hS' q0 q1 0 0 he0 he1 rfl rfl rfl g1 g2 g3 g4 g5 (fun _ _ => rfl) hdd ?_ h (fun H1 locs1 a1 a2 a3 => ?_)
  · rw [lr_c2_sum]
    show _ + (nativeFrameWords "java/lang/System" "arraycopy" 5 + 11) ≤ 40 * d
    have : nativeFrameWords "java/lang/System" "arraycopy" 5 + 11 ≤ 32 := by decide +kernel
    omega
  · have hset : (lr_cells T w M0).set q1 (wdA w t i, .inl (wdC w 0, n1, .inl (va_cpy (M0 t0 i0) (M0 t i) sp.toNatClampNeg dp.toNatClampNeg k.toNatClampNeg))) = lr_cells T w (upr M0 t i (va_cpy (M t0 i0) (M t i) sp.toNatClampNeg dp.toNatClampNeg k.toNatClampNeg)) := by
      rw [← lr_cells_set (M1 := upr M0 t i (va_cpy (M t0 i0) (M t i) sp.toNatClampNeg dp.toNatClampNeg k.toNatClampNeg)) hD hq1 (fun t' i' hne => upr_of hne), upr_at, hsh, hM t0 hS0, hM t hS]
      rfl
    rw [hset] at a1 a2
    exact nx' H1 locs1 ⟨_, upr_eq hM hS, a1, a2⟩ a3
-- Strings
theorem ri_strV {idx k : Nat} (hd : lr_F j pc (.getfield idx) 3 n) (hf : Cond.fieldLink j.1.cls idx "java/lang/String" "value" "[B" ∈ AW) (hk : k < lr_nstr) (nx : lr_W T S w d j n ls (vo 98 k :: st) M Q) : lr_W T S w d j pc ls (vo 99 k :: st) M Q := by
  intro p e s m args below meth c H locs A X hP hS hL
  obtain ⟨h, rfl⟩ := hd
  exact vk_getf X.1 X.2.1 (X.2.2.2.2.2.2.2.1.1 k hk).2.2.1 hS X.2.2.2.1 (lr_hts X args _ hf) (fun _ h9 => h9) h (nx p e s m args below meth c H locs A X hP hS hL)
theorem ri_strC {idx k : Nat} (hd : lr_F j pc (.getfield idx) 3 n) (hf : Cond.fieldLink j.1.cls idx "java/lang/String" "coder" "B" ∈ AW) (hk : k < lr_nstr) (nx : lr_W T S w d j n ls (vi 0 :: st) M Q) : lr_W T S w d j pc ls (vo 99 k :: st) M Q := by
  intro p e s m args below meth c H locs A X hP hS hL
  obtain ⟨h, rfl⟩ := hd
  exact vk_getf X.1 X.2.1 (X.2.2.2.2.2.2.2.1.1 k hk).2.1 hS X.2.2.2.1 (lr_hts X args _ hf) (fun _ h9 => h9) h (nx p e s m args below meth c H locs A X hP hS hL)
theorem ri_strL {k : Nat} (hd : lr_F j pc .arraylength 1 n) (hk : k < lr_nstr) (nx : lr_W T S w d j n ls (vi (nI (lr_slen.getD k 0)) :: st) M Q) : lr_W T S w d j pc ls (vo 98 k :: st) M Q := by
  intro p e s m args below meth c H locs A X hP hS hL
  obtain ⟨h, rfl⟩ := hd
  exact va_tlen X.1 X.2.1 (X.2.2.2.2.2.2.2.1.1 k hk).2.2.2 hS rfl h (nx p e s m args below meth c H locs A X hP hS hL)
theorem ri_strB {k : Nat} {x : Int32} (hd : lr_F j pc .baload 1 n) (hk : k < lr_nstr) (hin : vp_in x (lr_slen.getD k 0)) (nx : lr_W T S w d j n ls (vi ((lr_sbyt.getD k []).getD x.toNatClampNeg 0) :: st) M Q) : lr_W T S w d j pc ls (vi x :: vo 98 k :: st) M Q := by
  intro p e s m args below meth c H locs A X hP hS hL
  obtain ⟨h, rfl⟩ := hd
  exact va_tb X.1 X.2.1 (X.2.2.2.2.2.2.2.1.1 k hk).2.2.2 hS hin rfl h (nx p e s m args below meth c H locs A X hP hS hL)
theorem ri_compact {idx : Nat} (hd : lr_F j pc (.getstatic idx) 3 n) (hf : Cond.fieldLink j.1.cls idx "java/lang/String" "COMPACT_STRINGS" "Z" ∈ AW) (nx : lr_W T S w d j n ls (vi 1 :: st) M Q) : lr_W T S w d j pc ls st M Q := by
  intro p e s m args below meth c H locs A X hP hS hL
  obtain ⟨h, rfl⟩ := hd
  exact va_gets X.1 X.2.1 X.2.2.2.2.2.2.2.2.1 hS X.2.2.2.1 (lr_hts X args _ hf) (fun _ h9 => h9) h (nx p e s m args below meth c H locs A X hP hS hL)
theorem ri_sioobe {idx : Nat} (hd : lr_F j pc (.getstatic idx) 3 n) (hf : Cond.fieldLink j.1.cls idx "jdk/internal/util/Preconditions" "SIOOBE_FORMATTER" "Ljava/util/function/BiFunction;" ∈ AW) (nx : ∀ o, lr_W T S w d j n ls (vr o :: st) M Q) : lr_W T S w d j pc ls st M Q := by
  intro p e s m args below meth c H locs A X hP hS hL
  obtain ⟨h, rfl⟩ := hd
  obtain ⟨o, ho⟩ := X.2.2.2.2.2.2.2.2.2
  exact va_gets X.1 X.2.1 ho hS X.2.2.2.1 (lr_hts X args _ hf) (fun _ h9 => h9) h (nx o p e s m args below meth c H locs A X hP hS hL)
end RL
section RM
variable {T : Tb} {S : Nat → Bool} {w : Wd} {d : Nat} {j : MI} {pc n : Nat} {ls : List (Option AV)} {st : List AV} {M : Mem} {Q : Option AV → Mem → Prop}
def lr_lsw (P : Int → Nat → Prop) : List (Int × Nat) → Prop
  | [] => True
  | q :: l => P q.1 q.2 ∧ lr_lsw P l
theorem lr_ls_off (pc : Nat) : ∀ (qs : List (Int × Int)) (ps : List (Int × Nat)) (dflt x : Int) (P : Int → Nat → Prop), qs.map (fun o => (o.1, (pc : Int) + o.2)) = ps.map (fun o => (o.1, (o.2 : Int))) → lr_lsw P ps →
    (∃ z t, P z t ∧ x = z ∧ (pc : Int) + Op.lookupswitch.offset qs dflt x = (t : Int)) ∨ ((∀ q ∈ ps, x ≠ q.1) ∧ Op.lookupswitch.offset qs dflt x = dflt) := by
  intro qs
  induction qs with
  | nil =>
    intro ps dflt x P h hP
    cases ps with
    | nil => exact Or.inr ⟨fun q hq => (by cases hq), rfl⟩
    | cons a l => simp at h
  | cons a l ih =>
    intro ps dflt x P h hP
    cases ps with
    | nil => simp at h
    | cons b m =>
      simp only [List.map_cons, List.cons.injEq, Prod.mk.injEq] at h
      by_cases hx : x = a.1
      · refine Or.inl ⟨b.1, b.2, hP.1, by rw [hx]; exact h.1.1, ?_⟩
        rw [← h.1.2]
        simp [Op.lookupswitch.offset, hx]
      · rcases ih m dflt x P h.2 hP.2 with ⟨z, t, h1, h2, h3⟩ | ⟨h1, h2⟩
        · refine Or.inl ⟨z, t, h1, h2, ?_⟩
          rw [← h3]
          simp [Op.lookupswitch.offset, Ne.symm hx, hx]
        · refine Or.inr ⟨fun q hq => ?_, ?_⟩
          · rcases List.mem_cons.mp hq with rfl | hq
            · rw [← h.1.1]; exact hx
            · exact h1 q hq
          · refine Eq.trans ?_ h2
            simp [Op.lookupswitch.offset, Ne.symm hx, hx]
theorem ri_lsw {ps : List (Int × Nat)} {df : Nat} {x : Int32} (hd : lr_LS j pc ps df) (kin : lr_lsw (fun z t => x = Int32.ofInt z → lr_W T S w d j t ls st M Q) ps) (kout : (∀ q ∈ ps, x.toInt ≠ q.1) → lr_W T S w d j df ls st M Q) : lr_W T S w d j pc ls (vi x :: st) M Q := by
  intro p e s m args below meth c H locs A X hP hS hL
  obtain ⟨dflt, qs, len, h, h1, h2, h3⟩ := hd
  rcases lr_ls_off pc qs.toList ps dflt x.toInt _ h3 kin with ⟨z, t, hz, hx, ho⟩ | ⟨ho, he⟩
  · exact lv_lookup X.1 X.2.1 h h1 rfl ho (hz (by rw [← hx]; exact (Int32.ofInt_toInt x).symm) p e s m args below meth c H locs A X hP hS hL)
  · exact lv_lookup X.1 X.2.1 h h1 he h2 (kout ho p e s m args below meth c H locs A X hP hS hL)
end RM
