/-! constructors: fields, ends; the sheet's -/
section LCV
variable {w : Wd} {R : Room} {Af : Nat → Prop} {j : MI} {Z : Array Value → State → Outcome → State → Prop} {CC SS pc n cc ss : Nat} {ls : List (Option AV)} {st : List AV} {ws : va_W}
theorem lc_putI {idx ci k q0 a : Nat} {x : Int32} {C : String} {TT : u_T} {N : Nat} {fs : List Value} {ty : FieldType} {ws' : va_W} (hd : lr_F j pc (.putfield idx) 3 n) (hc : vwCl[ci]? = some (C, TT, N)) (he : ws[q0]? = some (a, .inr (ci, fs))) (hk : k < N) (hl : k < fs.length) (hfin : (TT k).2.2.2 = false) (hpd : parseFieldDescriptor (TT k).2.2.1 = some ty) (h1 : Cond.fieldLink j.1.cls idx (TT k).1 (TT k).2.1 (TT k).2.2.1 ∈ AW) (hna : narrow ty (.int x) = .int x) (hfit : fits ty (.int x) = true) (hw : ws.set q0 (a, .inr (ci, fs.set k (.int x))) = ws') (nx : lc_W w R Af j Z CC SS n ls st cc ss ws') : lc_W w R Af j Z CC SS pc ls (vi x :: vr (some a) :: st) cc ss ws := by
  intro p e s m args below meth c H locs A X hP hD hS hA hL
  obtain ⟨h, rfl⟩ := hd
  have hts := lc_hts X args
  obtain ⟨hin, hnm, ty0, hty⟩ := lr_cls hc
  subst hw
  exact va_put (v := .int x) X.1 X.2.1 hts hin ty0 hty hnm X.2.2.2.1 X.2.2.2.2.2.2.2.2.1 hP hD hS q0 he hc k hk (hts _ h1) (fun _ h9 => h9) hfin hpd hna hfit hl h (fun H1 locs1 hP1 hD1 hS1 => nx p e s m args below meth c H1 locs1 A X hP1 hD1 hS1 hA hL)
def lc_Z (w : Wd) (Af : Nat → Prop) (post : va_W → Prop) : Array Value → State → Outcome → State → Prop := va_Qv post (fun ws t => va_P (wdG w) vwCl ws t.heap ∧ va_D Af ws) Af
theorem lc_ret {post : va_W → Prop} (hd : lr_F j pc .return_ 1 n) (hr : j.2.2.2 = none) (hcc : cc ≤ CC) (hss : ss ≤ SS) (hq : post ws) : lc_W w R Af j (lc_Z w Af post) CC SS pc ls [] cc ss ws := by
  intro p e s m args below meth c H locs A X hP hD hS hA hL
  refine W.widen (k := CC) (n := SS) hcc hss ?_
  exact W.vret X.1 X.2.1 (X.2.2.2.2.1.trans hr) (fun t ht hW => ⟨⟨ws, rfl, hq, by rw [ht]; exact hP, hD⟩, hS.F ht⟩) hS.2.2 hd.1 (hlocks := X.2.2.2.2.2.1)
end LCV
/-- a constructor's contract: from the world ws0 on -/
def lc_Pre (w : Wd) (ws0 : va_W) (sz : Nat) (U : State) : Prop := U.heap.size = sz ∧ va_P (wdG w) vwCl ws0 U.heap ∧ va_D (fun _ => True) ws0 ∧ lr_Str (va_A ws0 sz) w U U.heap ∧ lc_AO U ∧ lr_Base w U
def lc_Ok (w : Wd) (R : Room) (j : MI) (as : List AV) (ws0 : va_W) (post : va_W → Prop) (CC SS : Nat) : Prop :=
  ∀ sz, Met w.1 j.1 [.code j.1 j.2.1 j.2.2.1 j.2.2.2] R (va_Pc (as.map (emb w)) (lc_Pre w ws0 sz)) (lc_Z w (va_A ws0 sz) post) CC SS (va_A ws0 sz)
theorem lc_ok {w : Wd} {R : Room} {j : MI} {as : List AV} {ws0 : va_W} {post : va_W → Prop} {CC SS : Nat} {ls : List (Option AV)} (hpl : plainName j.1.cls = true) (hls : lr_ent as j.2.2.1 = some ls) (h : ∀ Af, lc_W w R Af j (lc_Z w Af post) CC SS 0 ls [] 0 0 ws0) : lc_Ok w R j as ws0 post CC SS := by
  intro sz
  refine Met.ofW (cc := j.2.1) (maxL := j.2.2.1) (ret := j.2.2.2) hpl rfl ?_
  intro p e s m args below meth c s₁ B hml hv
  obtain ⟨rfl, hsz, hP, hD0, hY, hO, hB⟩ := hv
  subst hsz
  rw [lg_entry_eq]
  exact h _ p e s m _ below meth c s.heap [] _ ⟨B.exec, B.bytes, hml, findClass_of_methodNamed B.named, B.returns, B.notSynchronized, ⟨fun _ => (name_of_methodNamed B.named B.method).1, hY, hO⟩, hB⟩ hP hD0.self va_S.rf (fun q h => Or.inr h) (lr_ent_L hls)
def rm_c (d CC SS : Nat) : Room := { frames := d, cells := CC, slots := SS, locals := 1000 * d }
theorem ok_X4_init {w : Wd} {a : Nat} : lc_Ok w (rm_c 1 1 40) jX4_init [vr (some a)] [(a, .inr (4, [.null, .int 0, .int 0]))] (fun ws => ∃ q, ws = [(a, .inr (4, [.ref q, .int (-1), .int 0])), (q, .inl (wdC w 0, 40, .inl (fun _ => 0)))]) 1 40 := by
  refine lc_ok (by decide +kernel) rfl (fun Af => ?_)
  refine lc_ald a_X4_init_0 rfl ?_
  refine lc_objInit a_X4_init_1 (aw_in (by decide +kernel) rfl) (aw_in (by decide +kernel) rfl) (aw_in (by decide +kernel) rfl) (by decide) (by decide) rfl (by decide) ?_
  refine lc_ald a_X4_init_4 rfl ?_
  refine lc_ic a_X4_init_5 ?_
  refine lc_newa (N := 40) a_X4_init_7 (aw_in (by decide +kernel) rfl) (by decide) (by decide) (by decide) (fun q => ?_)
  refine lc_putF (q0 := 0) (ci := 4) (k := 0) (ty := .array .int) a_X4_init_9 rfl rfl rfl (by decide) (Nat.le_of_ble_eq_true rfl) rfl (by decide +kernel) rfl (aw_in (by decide +kernel) rfl) rfl rfl rfl ?_
  refine lc_ald a_X4_init_12 rfl ?_
  refine lc_ic a_X4_init_13 ?_
  refine lc_putI (q0 := 0) (ci := 4) (k := 1) (ty := .int) a_X4_init_14 rfl rfl (by decide) (Nat.le_of_ble_eq_true rfl) rfl (by decide +kernel) (aw_in (by decide +kernel) rfl) rfl rfl rfl ?_
  refine lc_ald a_X4_init_17 rfl ?_
  refine lc_ic a_X4_init_18 ?_
  refine lc_putI (q0 := 0) (ci := 4) (k := 2) (ty := .int) a_X4_init_19 rfl rfl (by decide) (Nat.le_of_ble_eq_true rfl) rfl (by decide +kernel) (aw_in (by decide +kernel) rfl) rfl rfl rfl ?_
  exact lc_ret a_X4_init_22 rfl (by decide) (by decide) ⟨q, rfl⟩

