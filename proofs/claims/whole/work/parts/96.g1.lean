/-! constructors: a walk over a world that grows -/
theorem lr_Str.narrow {A B : Nat → Prop} {w : Wd} {U : State} {H : Heap} (h : lr_Str A w U H) (hAB : ∀ q, B q → A q) : lr_Str B w U H := ⟨vk_S.narrow h.1 hAB, va_Z.narrow h.2.1 hAB, h.2.2.imp fun _ q => va_Z.narrow q hAB⟩
def lc_AO (U : State) : Prop := va_AO RX1 U ∧ va_AO RX4 U
theorem lc_AO.moved {u U : State} (hvm : u.vm.Alike U.vm) (h : lc_AO u) : lc_AO U := ⟨va_AO.moved hvm h.1, va_AO.moved hvm h.2⟩
def lc_Cx (w : Wd) (Af : Nat → Prop) (j : MI) (p : Program) (s : State) (m : MethodId) (meth : Method) (c : Code) : Prop :=
  p.tables.exec = Jvm.exec ∧ c.code = j.2.1 ∧ c.maxLocals = j.2.2.1 ∧ s.vm.findClass j.1.cls = some m.cls ∧ meth.sig.returnType = j.2.2.2 ∧ meth.locks = false ∧ ((j.1.name = "<init>" → meth.name = j.1.name) ∧ lr_Str Af w s s.heap ∧ lc_AO s) ∧ lr_Base w s
/-- the frame of method j at pc comes to the method's end with Z; cc cells with ss slots are made so far, of CC and SS -/
def lc_W (w : Wd) (R : Room) (Af : Nat → Prop) (j : MI) (Z : Array Value → State → Outcome → State → Prop) (CC SS pc : Nat) (ls : List (Option AV)) (st : List AV) (cc ss : Nat) (ws : va_W) : Prop :=
  ∀ (p : Program) (e : Env) (s : State) (m : MethodId) (args : Array Value) (below : List Frame) (meth : Method) (c : Code) (H : Heap) (locs : List Loc) (A : Array Slot),
    lc_Cx w Af j p s m meth c → va_P (wdG w) vwCl ws H → va_D Af ws → va_S Af s.heap H locs → (∀ q, s.heap.size ≤ q → Af q) → lr_L w j.2.2.1 ls A →
    W p w.1 e R s m args below meth c H locs cc ss (MQ below Z args s CC SS Af) (F0 m pc A (st.map (emb w)))
theorem lc_hts {w : Wd} {Af : Nat → Prop} {j : MI} {p : Program} {s : State} {m : MethodId} {meth : Method} {c : Code} (X : lc_Cx w Af j p s m meth c) (args : Array Value) : ∀ x ∈ AW, x.before args s = true := fun x hx => aw_args (aw_mem hx) (X.2.2.2.2.2.2.2.1 x hx) args
section LCW
variable {w : Wd} {R : Room} {Af : Nat → Prop} {j : MI} {Z : Array Value → State → Outcome → State → Prop} {CC SS pc n cc ss : Nat} {ls : List (Option AV)} {st : List AV} {ws : va_W}
theorem lc_ald {i : Nat} {a : Nat} (hd : lr_ALd j pc i n) (hl : ls[i]? = some (some (vr (some a)))) (nx : lc_W w R Af j Z CC SS n ls (vr (some a) :: st) cc ss ws) : lc_W w R Af j Z CC SS pc ls st cc ss ws := by
  intro p e s m args below meth c H locs A X hP hD hS hA hL
  rcases hd with ⟨k, rfl, h, rfl⟩ | ⟨h, rfl⟩
  · exact lv_aload_n X.1 X.2.1 h rfl (hL.at hl) (nx p e s m args below meth c H locs A X hP hD hS hA hL)
  · exact lv_aload X.1 X.2.1 h (hL.at hl) (nx p e s m args below meth c H locs A X hP hD hS hA hL)
theorem lc_ild {i : Nat} {x : Int32} (hd : lr_ILd j pc i n) (hl : ls[i]? = some (some (vi x))) (nx : lc_W w R Af j Z CC SS n ls (vi x :: st) cc ss ws) : lc_W w R Af j Z CC SS pc ls st cc ss ws := by
  intro p e s m args below meth c H locs A X hP hD hS hA hL
  rcases hd with ⟨k, rfl, h, rfl⟩ | ⟨h, rfl⟩
  · exact lv_iload_n X.1 X.2.1 h rfl (hL.at hl) (nx p e s m args below meth c H locs A X hP hD hS hA hL)
  · exact lv_iload X.1 X.2.1 h (hL.at hl) (nx p e s m args below meth c H locs A X hP hD hS hA hL)
theorem lc_ic {v : Int32} (hd : lr_IC j pc v n) (nx : lc_W w R Af j Z CC SS n ls (vi v :: st) cc ss ws) : lc_W w R Af j Z CC SS pc ls st cc ss ws := by
  intro p e s m args below meth c H locs A X hP hD hS hA hL
  have nx' := nx p e s m args below meth c H locs A X hP hD hS hA hL
  have hts := lc_hts X args
  rcases hd with ⟨z, rfl, h, rfl⟩ | ⟨z, rfl, h, rfl⟩ | ⟨z, rfl, h, rfl⟩ | ⟨k, hm, h, rfl⟩ | ⟨k, hm, h, rfl⟩
  · exact lv_iconst X.1 X.2.1 h rfl nx'
  · exact lv_bipush X.1 X.2.1 h rfl nx'
  · exact lv_sipush X.1 X.2.1 h rfl nx'
  · exact lv_ldc X.1 X.2.1 X.2.2.2.1 (hts _ hm) h nx'
  · exact lv_ldcw X.1 X.2.1 X.2.2.2.1 (hts _ hm) h nx'
theorem lc_dup {a : Nat} (hd : lr_F j pc .dup 1 n) (nx : lc_W w R Af j Z CC SS n ls (vr (some a) :: vr (some a) :: st) cc ss ws) : lc_W w R Af j Z CC SS pc ls (vr (some a) :: st) cc ss ws := by
  intro p e s m args below meth c H locs A X hP hD hS hA hL
  obtain ⟨h, rfl⟩ := hd
  exact lv_dup X.1 X.2.1 h rfl (nx p e s m args below meth c H locs A X hP hD hS hA hL)
theorem lc_goto {tgt : Nat} (hd : lr_Br j pc (Instr.goto) tgt n) (nx : lc_W w R Af j Z CC SS tgt ls st cc ss ws) : lc_W w R Af j Z CC SS pc ls st cc ss ws := by
  intro p e s m args below meth c H locs A X hP hD hS hA hL
  obtain ⟨off, h, ht, rfl⟩ := hd
  exact lv_goto X.1 X.2.1 h ht (nx p e s m args below meth c H locs A X hP hD hS hA hL)
theorem lc_objInit {idx a : Nat} (hd : lr_F j pc (.invokespecial idx) 3 n) (h1 : Cond.methodLink j.1.cls idx Lib.objectInit ∈ AW) (h2 : Cond.instanceMethod Lib.objectInit ∈ AW) (h3 : Cond.code Lib.objectInit ⟨#[0xb1]⟩ 1 none ∈ AW) (hf : 1 ≤ R.frames) (hl : 200 ≤ R.locals) (hst : st = []) (hn : j.2.2.1 ≤ 8) (nx : lc_W w R Af j Z CC SS n ls st cc ss ws) : lc_W w R Af j Z CC SS pc ls (vr (some a) :: st) cc ss ws := by
  intro p e s m args below meth c H locs A X hP hD hS hA hL
  obtain ⟨h, rfl⟩ := hd
  subst hst
  have hts := lc_hts X args
  refine W.objInit X.1 X.2.1 X.2.2.2.1 (hts _ h1) (hts _ h2) (hts _ h3) rfl (by rw [X.2.2.1]; exact hL.2.1) rfl h hf ?_ ?_
  · show 2 * 0 + 0 + 12 ≤ R.locals
    omega
  · exact nx p e s m args below meth c H locs A X hP hD hS hA hL
theorem lc_newa {N : Nat} (hd : lr_F j pc (.newarray .int) 2 n) (ha : Cond.arrayClass .int ∈ AW) (hN : N ≤ 100000) (hc : cc + 1 ≤ R.cells) (hs : ss + N ≤ R.slots) (nx : ∀ q, lc_W w R Af j Z CC SS n ls (vr (some q) :: st) (cc + 1) (ss + N) (ws ++ [(q, .inl (wdC w 0, N, .inl (fun _ => 0)))])) : lc_W w R Af j Z CC SS pc ls (vi (nI N) :: st) cc ss ws := by
  intro p e s m args below meth c H locs A X hP hD hS hA hL
  obtain ⟨h, rfl⟩ := hd
  have hts := lc_hts X args
  refine va_newa (D := wdG w) (cl := vwCl) (tys := lr_tys w) (atype := .int) (ty := .int) (a0 := (N, .inl (fun _ => 0))) (N' := N) X.1 X.2.1 (hts _ ha) rfl X.2.2.2.2.2.2.2.2.1 hP hD hS hA (fun cA => rfl) (nI_pos (by omega)) (nI_clamp (by omega)) (by show N * 4 ≤ 536870912; omega) hc hs h ?_
  intro q cA H1 hK1 hP1 hD1 hS1
  have e1 : cA = wdC w 0 := Option.some.inj ((hK1.2 3 (cA, .int) rfl).2.symm.trans (hK1.2 0 (wdC w 0, .int) rfl).2)
  subst e1
  exact nx q p e s m args below meth c H1 locs A X hP1 hD1 hS1 hA hL
theorem lc_new {idx ci N : Nat} {C : String} {TT : u_T} {fs : List Value} (hd : lr_F j pc (.new idx) 3 n) (hc : vwCl[ci]? = some (C, TT, N)) (h1 : Cond.classLink j.1.cls idx C ∈ AW) (h2 : Cond.instantiable C N ∈ AW) (h3 : Cond.initialized C ∈ AW) (ty0 : Nat → FieldType) (hty : ∀ k, k < N → parseFieldDescriptor (TT k).2.2.1 = some (ty0 k)) (hfs : ∀ k, k < N → defaultValue (ty0 k) = vp_V fs k) (hcc : cc + 1 ≤ R.cells) (hss : ss + N ≤ R.slots) (nx : ∀ q, lc_W w R Af j Z CC SS n ls (vr (some q) :: st) (cc + 1) (ss + N) (ws ++ [(q, .inr (ci, fs))])) : lc_W w R Af j Z CC SS pc ls st cc ss ws := by
  intro p e s m args below meth c H locs A X hP hD hS hA hL
  obtain ⟨h, rfl⟩ := hd
  have hts := lc_hts X args
  obtain ⟨hin, hnm, -⟩ := lr_cls hc
  exact va_new (D := wdG w) (cl := vwCl) (tys := lr_tys w) (fs := fs) X.1 X.2.1 hts hin ty0 hty X.2.2.2.1 (hts _ h1) (hts _ h2) (hts _ h3) X.2.2.2.2.2.2.2.2.1 hP hD hS hA hc hfs hcc hss h (fun q H1 hP1 hD1 hS1 => nx q p e s m args below meth c H1 locs A X hP1 hD1 hS1 hA hL)
/-- a field that is written once -/
theorem lc_putF {idx ci k q0 a b : Nat} {C : String} {TT : u_T} {N : Nat} {fs : List Value} {ty : FieldType} {ws' : va_W} (hd : lr_F j pc (.putfield idx) 3 n) (hin2 : j.1.name = "<init>") (hc : vwCl[ci]? = some (C, TT, N)) (he : ws[q0]? = some (a, .inr (ci, fs))) (hk : k < N) (hl : k < fs.length) (hfin : (TT k).2.2.2 = true) (hpd : parseFieldDescriptor (TT k).2.2.1 = some ty) (hown : (TT k).1 = j.1.cls) (h1 : Cond.fieldLink j.1.cls idx (TT k).1 (TT k).2.1 (TT k).2.2.1 ∈ AW) (hna : narrow ty (.ref b) = .ref b) (hfit : fits ty (.ref b) = true) (hw : ws.set q0 (a, .inr (ci, fs.set k (.ref b))) = ws') (nx : lc_W w R Af j Z CC SS n ls st cc ss ws') : lc_W w R Af j Z CC SS pc ls (vr (some b) :: vr (some a) :: st) cc ss ws := by
  intro p e s m args below meth c H locs A X hP hD hS hA hL
  obtain ⟨h, rfl⟩ := hd
  have hts := lc_hts X args
  obtain ⟨hin, hnm, ty0, hty⟩ := lr_cls hc
  subst hw
  exact va_putF (v := .ref b) X.1 X.2.1 hts hin ty0 hty hnm X.2.2.2.1 X.2.2.2.2.2.2.2.2.1 hP hD hS q0 he hc k hk (hts _ h1) (fun _ h9 => h9) hfin ((X.2.2.2.2.2.2.1.1 hin2).trans hin2) hown hpd hna hfit hl h (fun H1 locs1 hP1 hD1 hS1 => nx p e s m args below meth c H1 locs1 A X hP1 hD1 hS1 hA hL)
end LCW

