/-! rows of the walk: one instruction each -/
def lr_F (j : MI) (pc : Nat) (i : Instr) (len n : Nat) : Prop := decode j.2.1 pc = .ok (i, len) ∧ pc + len = n
def lr_Br (j : MI) (pc : Nat) (f : Int → Instr) (tgt n : Nat) : Prop := ∃ off, decode j.2.1 pc = .ok (f off, 3) ∧ (pc : Int) + off = (tgt : Int) ∧ pc + 3 = n
def lr_ILd (j : MI) (pc i n : Nat) : Prop := (∃ k : Fin 4, (k : Nat) = i ∧ lr_F j pc (.iload_n k) 1 n) ∨ lr_F j pc (.iload i) 2 n
def lr_LLd (j : MI) (pc i n : Nat) : Prop := (∃ k : Fin 4, (k : Nat) = i ∧ lr_F j pc (.lload_n k) 1 n) ∨ lr_F j pc (.lload i) 2 n
def lr_ALd (j : MI) (pc i n : Nat) : Prop := (∃ k : Fin 4, (k : Nat) = i ∧ lr_F j pc (.aload_n k) 1 n) ∨ lr_F j pc (.aload i) 2 n
def lr_ISt (j : MI) (pc i n : Nat) : Prop := (∃ k : Fin 4, (k : Nat) = i ∧ lr_F j pc (.istore_n k) 1 n) ∨ lr_F j pc (.istore i) 2 n
def lr_LSt (j : MI) (pc i n : Nat) : Prop := (∃ k : Fin 4, (k : Nat) = i ∧ lr_F j pc (.lstore_n k) 1 n) ∨ lr_F j pc (.lstore i) 2 n
def lr_ASt (j : MI) (pc i n : Nat) : Prop := (∃ k : Fin 4, (k : Nat) = i ∧ lr_F j pc (.astore_n k) 1 n) ∨ lr_F j pc (.astore i) 2 n
def lr_IC (j : MI) (pc : Nat) (v : Int32) (n : Nat) : Prop := (∃ z, Int32.ofInt z = v ∧ lr_F j pc (.iconst z) 1 n) ∨ (∃ z, (Int8.ofInt z).toInt32 = v ∧ lr_F j pc (.bipush z) 2 n) ∨ (∃ z, (Int16.ofInt z).toInt32 = v ∧ lr_F j pc (.sipush z) 3 n) ∨ (∃ k, Cond.constant j.1.cls k v ∈ AW ∧ lr_F j pc (.ldc k) 2 n) ∨ ∃ k, Cond.constant j.1.cls k v ∈ AW ∧ lr_F j pc (.ldc_w k) 3 n
def lr_LC (j : MI) (pc : Nat) (v : Int64) (n : Nat) : Prop := (∃ z : Fin 2, Int64.ofNat (z : Nat) = v ∧ lr_F j pc (.lconst z) 1 n) ∨ ∃ k, Cond.constantLong j.1.cls k v ∈ AW ∧ lr_F j pc (.ldc2_w k) 3 n
section RI
variable {T : Tb} {S : Nat → Bool} {w : Wd} {d : Nat} {j : MI} {pc n : Nat} {ls : List (Option AV)} {st : List AV} {M : Mem} {Q : Option AV → Mem → Prop}
theorem ri_ild {i : Nat} {x : Int32} (hd : lr_ILd j pc i n) (hl : ls[i]? = some (some (vi x))) (nx : lr_W T S w d j n ls (vi x :: st) M Q) : lr_W T S w d j pc ls st M Q := by
  intro p e s m args below meth c H locs A X hP hS hL
  rcases hd with ⟨k, rfl, h, rfl⟩ | ⟨h, rfl⟩
  · exact lv_iload_n X.1 X.2.1 h rfl (hL.at hl) (nx p e s m args below meth c H locs A X hP hS hL)
  · exact lv_iload X.1 X.2.1 h (hL.at hl) (nx p e s m args below meth c H locs A X hP hS hL)
theorem ri_lld {i : Nat} {x : Int64} (hd : lr_LLd j pc i n) (hl : ls[i]? = some (some (vl x))) (nx : lr_W T S w d j n ls (vl x :: st) M Q) : lr_W T S w d j pc ls st M Q := by
  intro p e s m args below meth c H locs A X hP hS hL
  rcases hd with ⟨k, rfl, h, rfl⟩ | ⟨h, rfl⟩
  · exact lv_lload_n X.1 X.2.1 h rfl (hL.at hl) (nx p e s m args below meth c H locs A X hP hS hL)
  · exact lv_lload X.1 X.2.1 h (hL.at hl) (nx p e s m args below meth c H locs A X hP hS hL)
theorem ri_ald {i t k : Nat} (hd : lr_ALd j pc i n) (hl : ls[i]? = some (some (vo t k))) (nx : lr_W T S w d j n ls (vo t k :: st) M Q) : lr_W T S w d j pc ls st M Q := by
  intro p e s m args below meth c H locs A X hP hS hL
  rcases hd with ⟨k, rfl, h, rfl⟩ | ⟨h, rfl⟩
  · exact lv_aload_n X.1 X.2.1 h rfl (hL.at hl) (nx p e s m args below meth c H locs A X hP hS hL)
  · exact lv_aload X.1 X.2.1 h (hL.at hl) (nx p e s m args below meth c H locs A X hP hS hL)
theorem ri_istk {i : Nat} {x : Int32} {ls' : List (Option AV)} (hd : lr_ISt j pc i n) (hs : lr_st ls i (vi x) = some ls') (nx : lr_W T S w d j n ls' st M Q) : lr_W T S w d j pc ls (vi x :: st) M Q := by
  intro p e s m args below meth c H locs A X hP hS hL
  obtain ⟨h1, h2⟩ := hL.st1 hs
  rcases hd with ⟨k, rfl, h, rfl⟩ | ⟨h, rfl⟩
  · exact lv_istore_n X.1 X.2.1 h rfl hL.2 h1 rfl (fun A' hA' => nx p e s m args below meth c H locs A' X hP hS (h2 A' hA'))
  · exact lv_istore X.1 X.2.1 h hL.2 h1 rfl (fun A' hA' => nx p e s m args below meth c H locs A' X hP hS (h2 A' hA'))
theorem ri_ist {i : Nat} {x : Int32} {f : Int32 → List (Option AV)} (hd : lr_ISt j pc i n) (hs : ∀ y, lr_st ls i (vi y) = some (f y)) (nx : ∀ y, y = x → lr_W T S w d j n (f y) st M Q) : lr_W T S w d j pc ls (vi x :: st) M Q :=
  ri_istk hd (hs x) (nx x rfl)
theorem ri_ast {i t k : Nat} {ls' : List (Option AV)} (hd : lr_ASt j pc i n) (hs : lr_st ls i (vo t k) = some ls') (nx : lr_W T S w d j n ls' st M Q) : lr_W T S w d j pc ls (vo t k :: st) M Q := by
  intro p e s m args below meth c H locs A X hP hS hL
  obtain ⟨h1, h2⟩ := hL.st1 hs
  rcases hd with ⟨k, rfl, h, rfl⟩ | ⟨h, rfl⟩
  · exact lv_astore_n X.1 X.2.1 h rfl hL.2 h1 rfl (fun A' hA' => nx p e s m args below meth c H locs A' X hP hS (h2 A' hA'))
  · exact lv_astore X.1 X.2.1 h hL.2 h1 rfl (fun A' hA' => nx p e s m args below meth c H locs A' X hP hS (h2 A' hA'))
theorem ri_lstk {i : Nat} {x : Int64} {ls' : List (Option AV)} (hd : lr_LSt j pc i n) (hs : lr_st2 ls i (vl x) = some ls') (nx : lr_W T S w d j n ls' st M Q) : lr_W T S w d j pc ls (vl x :: st) M Q := by
  intro p e s m args below meth c H locs A X hP hS hL
  obtain ⟨h1, h2⟩ := hL.st2 hs
  rcases hd with ⟨k, rfl, h, rfl⟩ | ⟨h, rfl⟩
  · exact lv_lstore_n X.1 X.2.1 h rfl hL.2 h1 rfl (fun A' hA' => nx p e s m args below meth c H locs A' X hP hS (h2 A' hA'))
  · exact lv_lstore X.1 X.2.1 h hL.2 h1 rfl (fun A' hA' => nx p e s m args below meth c H locs A' X hP hS (h2 A' hA'))
theorem ri_lst {i : Nat} {x : Int64} {f : Int64 → List (Option AV)} (hd : lr_LSt j pc i n) (hs : ∀ y, lr_st2 ls i (vl y) = some (f y)) (nx : ∀ y, y = x → lr_W T S w d j n (f y) st M Q) : lr_W T S w d j pc ls (vl x :: st) M Q :=
  ri_lstk hd (hs x) (nx x rfl)
theorem ri_iinck {i : Nat} {z : Int} {x v : Int32} {ls' : List (Option AV)} (hd : lr_F j pc (.iinc i z) 3 n) (hl : ls[i]? = some (some (vi x))) (hv : x + Int32.ofInt z = v) (hs : lr_st ls i (vi v) = some ls') (nx : lr_W T S w d j n ls' st M Q) : lr_W T S w d j pc ls st M Q := by
  intro p e s m args below meth c H locs A X hP hS hL
  obtain ⟨h1, h2⟩ := hL.st1 hs
  obtain ⟨h, rfl⟩ := hd
  obtain ⟨k, hk⟩ := List.getElem?_of_mem (lr_as_mem.mpr ⟨_, hl, rfl⟩ : (i, emb w (vi x)) ∈ lr_as w ls)
  exact lv_iinc X.1 X.2.1 h hL.2 hk hv h1 rfl (fun A' hA' => nx p e s m args below meth c H locs A' X hP hS (h2 A' hA'))
theorem ri_iinc {i : Nat} {z : Int} {x c0 : Int32} {f : Int32 → List (Option AV)} (hd : lr_F j pc (.iinc i z) 3 n) (hl : ls[i]? = some (some (vi x))) (hc : Int32.ofInt z = c0) (hs : ∀ y, lr_st ls i (vi y) = some (f y)) (nx : ∀ y, y = x + c0 → lr_W T S w d j n (f y) st M Q) : lr_W T S w d j pc ls st M Q :=
  ri_iinck hd hl (by rw [hc]) (hs (x + c0)) (nx (x + c0) rfl)
theorem ri_ic {v : Int32} (hd : lr_IC j pc v n) (nx : lr_W T S w d j n ls (vi v :: st) M Q) : lr_W T S w d j pc ls st M Q := by
  intro p e s m args below meth c H locs A X hP hS hL
  have nx' := nx p e s m args below meth c H locs A X hP hS hL
  rcases hd with ⟨z, rfl, h, rfl⟩ | ⟨z, rfl, h, rfl⟩ | ⟨z, rfl, h, rfl⟩ | ⟨k, hm, h, rfl⟩ | ⟨k, hm, h, rfl⟩
  · exact lv_iconst X.1 X.2.1 h rfl nx'
  · exact lv_bipush X.1 X.2.1 h rfl nx'
  · exact lv_sipush X.1 X.2.1 h rfl nx'
  · exact lv_ldc X.1 X.2.1 X.2.2.2.1 (aw_args (aw_mem hm) (X.2.2.2.2.2.2.1.1 _ hm) args) h nx'
  · exact lv_ldcw X.1 X.2.1 X.2.2.2.1 (aw_args (aw_mem hm) (X.2.2.2.2.2.2.1.1 _ hm) args) h nx'
theorem ri_lc {v : Int64} (hd : lr_LC j pc v n) (nx : lr_W T S w d j n ls (vl v :: st) M Q) : lr_W T S w d j pc ls st M Q := by
  intro p e s m args below meth c H locs A X hP hS hL
  have nx' := nx p e s m args below meth c H locs A X hP hS hL
  rcases hd with ⟨z, rfl, h, rfl⟩ | ⟨k, hm, h, rfl⟩
  · exact lv_lconst X.1 X.2.1 h rfl nx'
  · exact lv_ldc2 X.1 X.2.1 X.2.2.2.1 (aw_args (aw_mem hm) (X.2.2.2.2.2.2.1.1 _ hm) args) h nx'
theorem ri_sc {k q : Nat} {tx : String} (hd : lr_F j pc (.ldc k) 2 n) (hq : lr_str[q]? = some (j.1.cls, k, tx)) (nx : lr_W T S w d j n ls (vo 99 q :: st) M Q) : lr_W T S w d j pc ls st M Q := by
  intro p e s m args below meth c H locs A X hP hS hL
  obtain ⟨h, rfl⟩ := hd
  exact va_ldcS X.1 X.2.1 X.2.2.2.1 (X.2.2.2.2.2.2.1.2.2 q _ hq) h (nx p e s m args below meth c H locs A X hP hS hL)
theorem ri_iadd {x y : Int32} (hd : lr_F j pc .iadd 1 n) (nx : lr_W T S w d j n ls (vi (x + y) :: st) M Q) : lr_W T S w d j pc ls (vi y :: vi x :: st) M Q := by
  intro p e s m args below meth c H locs A X hP hS hL
  obtain ⟨h, rfl⟩ := hd
  exact lv_iadd X.1 X.2.1 h (nx p e s m args below meth c H locs A X hP hS hL)
theorem ri_isub {x y : Int32} (hd : lr_F j pc .isub 1 n) (nx : lr_W T S w d j n ls (vi (x - y) :: st) M Q) : lr_W T S w d j pc ls (vi y :: vi x :: st) M Q := by
  intro p e s m args below meth c H locs A X hP hS hL
  obtain ⟨h, rfl⟩ := hd
  exact lv_isub X.1 X.2.1 h (nx p e s m args below meth c H locs A X hP hS hL)
theorem ri_imul {x y : Int32} (hd : lr_F j pc .imul 1 n) (nx : lr_W T S w d j n ls (vi (x * y) :: st) M Q) : lr_W T S w d j pc ls (vi y :: vi x :: st) M Q := by
  intro p e s m args below meth c H locs A X hP hS hL
  obtain ⟨h, rfl⟩ := hd
  exact lv_imul X.1 X.2.1 h (nx p e s m args below meth c H locs A X hP hS hL)
theorem ri_iand {x y : Int32} (hd : lr_F j pc .iand 1 n) (nx : lr_W T S w d j n ls (vi (x &&& y) :: st) M Q) : lr_W T S w d j pc ls (vi y :: vi x :: st) M Q := by
  intro p e s m args below meth c H locs A X hP hS hL
  obtain ⟨h, rfl⟩ := hd
  exact lv_iand X.1 X.2.1 h (nx p e s m args below meth c H locs A X hP hS hL)
theorem ri_ior {x y : Int32} (hd : lr_F j pc .ior 1 n) (nx : lr_W T S w d j n ls (vi (x ||| y) :: st) M Q) : lr_W T S w d j pc ls (vi y :: vi x :: st) M Q := by
  intro p e s m args below meth c H locs A X hP hS hL
  obtain ⟨h, rfl⟩ := hd
  exact lv_ior X.1 X.2.1 h (nx p e s m args below meth c H locs A X hP hS hL)
theorem ri_ixor {x y : Int32} (hd : lr_F j pc .ixor 1 n) (nx : lr_W T S w d j n ls (vi (x ^^^ y) :: st) M Q) : lr_W T S w d j pc ls (vi y :: vi x :: st) M Q := by
  intro p e s m args below meth c H locs A X hP hS hL
  obtain ⟨h, rfl⟩ := hd
  exact lv_ixor X.1 X.2.1 h (nx p e s m args below meth c H locs A X hP hS hL)
theorem ri_ishl {x y : Int32} (hd : lr_F j pc .ishl 1 n) (nx : lr_W T S w d j n ls (vi (x <<< (y &&& 31)) :: st) M Q) : lr_W T S w d j pc ls (vi y :: vi x :: st) M Q := by
  intro p e s m args below meth c H locs A X hP hS hL
  obtain ⟨h, rfl⟩ := hd
  exact lv_ishl X.1 X.2.1 h (nx p e s m args below meth c H locs A X hP hS hL)
theorem ri_ishr {x y : Int32} (hd : lr_F j pc .ishr 1 n) (nx : lr_W T S w d j n ls (vi (x >>> (y &&& 31)) :: st) M Q) : lr_W T S w d j pc ls (vi y :: vi x :: st) M Q := by
  intro p e s m args below meth c H locs A X hP hS hL
  obtain ⟨h, rfl⟩ := hd
  exact lv_ishr X.1 X.2.1 h (nx p e s m args below meth c H locs A X hP hS hL)
theorem ri_idiv {x y : Int32} (hd : lr_F j pc .idiv 1 n) (hne : ¬ y = 0) (nx : lr_W T S w d j n ls (vi (x / y) :: st) M Q) : lr_W T S w d j pc ls (vi y :: vi x :: st) M Q := by
  intro p e s m args below meth c H locs A X hP hS hL
  obtain ⟨h, rfl⟩ := hd
  exact lv_idiv X.1 X.2.1 h hne (nx p e s m args below meth c H locs A X hP hS hL)
theorem ri_irem {x y : Int32} (hd : lr_F j pc .irem 1 n) (hne : ¬ y = 0) (nx : lr_W T S w d j n ls (vi (x - x / y * y) :: st) M Q) : lr_W T S w d j pc ls (vi y :: vi x :: st) M Q := by
  intro p e s m args below meth c H locs A X hP hS hL
  obtain ⟨h, rfl⟩ := hd
  exact lv_irem X.1 X.2.1 h hne (nx p e s m args below meth c H locs A X hP hS hL)
theorem ri_ldiv {x y : Int64} (hd : lr_F j pc .ldiv 1 n) (hne : ¬ y = 0) (nx : lr_W T S w d j n ls (vl (x / y) :: st) M Q) : lr_W T S w d j pc ls (vl y :: vl x :: st) M Q := by
  intro p e s m args below meth c H locs A X hP hS hL
  obtain ⟨h, rfl⟩ := hd
  exact lv_ldiv X.1 X.2.1 h hne (nx p e s m args below meth c H locs A X hP hS hL)
theorem ri_lrem {x y : Int64} (hd : lr_F j pc .lrem 1 n) (hne : ¬ y = 0) (nx : lr_W T S w d j n ls (vl (x - x / y * y) :: st) M Q) : lr_W T S w d j pc ls (vl y :: vl x :: st) M Q := by
  intro p e s m args below meth c H locs A X hP hS hL
  obtain ⟨h, rfl⟩ := hd
  exact lv_lrem X.1 X.2.1 h hne (nx p e s m args below meth c H locs A X hP hS hL)
theorem ri_ladd {x y : Int64} (hd : lr_F j pc .ladd 1 n) (nx : lr_W T S w d j n ls (vl (x + y) :: st) M Q) : lr_W T S w d j pc ls (vl y :: vl x :: st) M Q := by
  intro p e s m args below meth c H locs A X hP hS hL
  obtain ⟨h, rfl⟩ := hd
  exact lv_ladd X.1 X.2.1 h (nx p e s m args below meth c H locs A X hP hS hL)
theorem ri_lmul {x y : Int64} (hd : lr_F j pc .lmul 1 n) (nx : lr_W T S w d j n ls (vl (x * y) :: st) M Q) : lr_W T S w d j pc ls (vl y :: vl x :: st) M Q := by
  intro p e s m args below meth c H locs A X hP hS hL
  obtain ⟨h, rfl⟩ := hd
  exact lv_lmul X.1 X.2.1 h (nx p e s m args below meth c H locs A X hP hS hL)
theorem ri_lcmp {x y : Int64} (hd : lr_F j pc .lcmp 1 n) (nx : lr_W T S w d j n ls (vi (lg_cmp x y) :: st) M Q) : lr_W T S w d j pc ls (vl y :: vl x :: st) M Q := by
  intro p e s m args below meth c H locs A X hP hS hL
  obtain ⟨h, rfl⟩ := hd
  exact W.lcmp X.1 X.2.1 h (nx p e s m args below meth c H locs A X hP hS hL)
theorem ri_ineg {x : Int32} (hd : lr_F j pc .ineg 1 n) (nx : lr_W T S w d j n ls (vi (-x) :: st) M Q) : lr_W T S w d j pc ls (vi x :: st) M Q := by
  intro p e s m args below meth c H locs A X hP hS hL
  obtain ⟨h, rfl⟩ := hd
  exact lv_ineg X.1 X.2.1 h (nx p e s m args below meth c H locs A X hP hS hL)
theorem ri_iushr {x y : Int32} (hd : lr_F j pc .iushr 1 n) (nx : lr_W T S w d j n ls (vi ((x.toUInt32 >>> (y.toUInt32 &&& Int32.toUInt32 31)).toInt32) :: st) M Q) : lr_W T S w d j pc ls (vi y :: vi x :: st) M Q := by
  intro p e s m args below meth c H locs A X hP hS hL
  obtain ⟨h, rfl⟩ := hd
  exact lv_iushr X.1 X.2.1 h rfl (nx p e s m args below meth c H locs A X hP hS hL)
theorem ri_lshl {x : Int64} {y : Int32} (hd : lr_F j pc .lshl 1 n) (nx : lr_W T S w d j n ls (vl (x <<< (y.toInt64 &&& 63)) :: st) M Q) : lr_W T S w d j pc ls (vi y :: vl x :: st) M Q := by
  intro p e s m args below meth c H locs A X hP hS hL
  obtain ⟨h, rfl⟩ := hd
  exact lv_lshl X.1 X.2.1 h rfl (nx p e s m args below meth c H locs A X hP hS hL)
theorem ri_i2l {x : Int32} (hd : lr_F j pc .i2l 1 n) (nx : lr_W T S w d j n ls (vl x.toInt64 :: st) M Q) : lr_W T S w d j pc ls (vi x :: st) M Q := by
  intro p e s m args below meth c H locs A X hP hS hL
  obtain ⟨h, rfl⟩ := hd
  exact lv_i2l X.1 X.2.1 h rfl (nx p e s m args below meth c H locs A X hP hS hL)
theorem ri_i2b {x : Int32} (hd : lr_F j pc .i2b 1 n) (nx : lr_W T S w d j n ls (vi x.toInt8.toInt32 :: st) M Q) : lr_W T S w d j pc ls (vi x :: st) M Q := by
  intro p e s m args below meth c H locs A X hP hS hL
  obtain ⟨h, rfl⟩ := hd
  exact lv_i2b X.1 X.2.1 h rfl (nx p e s m args below meth c H locs A X hP hS hL)
theorem ri_i2s {x : Int32} (hd : lr_F j pc .i2s 1 n) (nx : lr_W T S w d j n ls (vi x.toInt16.toInt32 :: st) M Q) : lr_W T S w d j pc ls (vi x :: st) M Q := by
  intro p e s m args below meth c H locs A X hP hS hL
  obtain ⟨h, rfl⟩ := hd
  exact lv_i2s X.1 X.2.1 h rfl (nx p e s m args below meth c H locs A X hP hS hL)
theorem ri_i2c {x : Int32} (hd : lr_F j pc .i2c 1 n) (nx : lr_W T S w d j n ls (vi (x.toUInt32 % 65536).toInt32 :: st) M Q) : lr_W T S w d j pc ls (vi x :: st) M Q := by
  intro p e s m args below meth c H locs A X hP hS hL
  obtain ⟨h, rfl⟩ := hd
  exact lv_i2c X.1 X.2.1 h rfl (nx p e s m args below meth c H locs A X hP hS hL)
theorem ri_dup {v : AV} (hd : lr_F j pc .dup 1 n) (hv : ∀ x, v ≠ vl x) (nx : lr_W T S w d j n ls (v :: v :: st) M Q) : lr_W T S w d j pc ls (v :: st) M Q := by
  intro p e s m args below meth c H locs A X hP hS hL
  obtain ⟨h, rfl⟩ := hd
  refine lv_dup X.1 X.2.1 h ?_ (nx p e s m args below meth c H locs A X hP hS hL)
  rcases v with x | x | x | x
  · rfl
  · exact absurd rfl (hv x)
  · rfl
  · cases x <;> rfl
theorem ri_pop {v : AV} (hd : lr_F j pc .pop 1 n) (hv : ∀ x, v ≠ vl x) (nx : lr_W T S w d j n ls st M Q) : lr_W T S w d j pc ls (v :: st) M Q := by
  intro p e s m args below meth c H locs A X hP hS hL
  obtain ⟨h, rfl⟩ := hd
  refine lv_pop X.1 X.2.1 h ?_ (nx p e s m args below meth c H locs A X hP hS hL)
  rcases v with x | x | x | x
  · rfl
  · exact absurd rfl (hv x)
  · rfl
  · cases x <;> rfl
theorem ri_goto {tgt : Nat} (hd : lr_Br j pc (Instr.goto) tgt n) (nx : lr_W T S w d j tgt ls st M Q) : lr_W T S w d j pc ls st M Q := by
  intro p e s m args below meth c H locs A X hP hS hL
  obtain ⟨off, h, ht, rfl⟩ := hd
  exact lv_goto X.1 X.2.1 h ht (nx p e s m args below meth c H locs A X hP hS hL)
theorem ri_icmp_eq {x y : Int32} {tgt : Nat} (hd : lr_Br j pc (Instr.if_icmp .eq) tgt n) (kt : x = y → lr_W T S w d j tgt ls st M Q) (kf : ¬ x = y → lr_W T S w d j n ls st M Q) : lr_W T S w d j pc ls (vi y :: vi x :: st) M Q := by
  intro p e s m args below meth c H locs A X hP hS hL
  obtain ⟨off, h, ht, rfl⟩ := hd
  exact lv_icmp_eq X.1 X.2.1 h ht (fun q => kt q p e s m args below meth c H locs A X hP hS hL) (fun q => kf q p e s m args below meth c H locs A X hP hS hL)
theorem ri_if_eq {x : Int32} {tgt : Nat} (hd : lr_Br j pc (Instr.ifCond .eq) tgt n) (kt : x = 0 → lr_W T S w d j tgt ls st M Q) (kf : ¬ x = 0 → lr_W T S w d j n ls st M Q) : lr_W T S w d j pc ls (vi x :: st) M Q := by
  intro p e s m args below meth c H locs A X hP hS hL
  obtain ⟨off, h, ht, rfl⟩ := hd
  exact lv_if_eq X.1 X.2.1 h ht (fun q => kt q p e s m args below meth c H locs A X hP hS hL) (fun q => kf q p e s m args below meth c H locs A X hP hS hL)
theorem ri_icmp_ne {x y : Int32} {tgt : Nat} (hd : lr_Br j pc (Instr.if_icmp .ne) tgt n) (kt : ¬ x = y → lr_W T S w d j tgt ls st M Q) (kf : x = y → lr_W T S w d j n ls st M Q) : lr_W T S w d j pc ls (vi y :: vi x :: st) M Q := by
  intro p e s m args below meth c H locs A X hP hS hL
  obtain ⟨off, h, ht, rfl⟩ := hd
  exact lv_icmp_ne X.1 X.2.1 h ht (fun q => kt q p e s m args below meth c H locs A X hP hS hL) (fun q => kf q p e s m args below meth c H locs A X hP hS hL)
theorem ri_if_ne {x : Int32} {tgt : Nat} (hd : lr_Br j pc (Instr.ifCond .ne) tgt n) (kt : ¬ x = 0 → lr_W T S w d j tgt ls st M Q) (kf : x = 0 → lr_W T S w d j n ls st M Q) : lr_W T S w d j pc ls (vi x :: st) M Q := by
  intro p e s m args below meth c H locs A X hP hS hL
  obtain ⟨off, h, ht, rfl⟩ := hd
  exact lv_if_ne X.1 X.2.1 h ht (fun q => kt q p e s m args below meth c H locs A X hP hS hL) (fun q => kf q p e s m args below meth c H locs A X hP hS hL)
theorem ri_icmp_lt {x y : Int32} {tgt : Nat} (hd : lr_Br j pc (Instr.if_icmp .lt) tgt n) (kt : x < y → lr_W T S w d j tgt ls st M Q) (kf : ¬ x < y → lr_W T S w d j n ls st M Q) : lr_W T S w d j pc ls (vi y :: vi x :: st) M Q := by
  intro p e s m args below meth c H locs A X hP hS hL
  obtain ⟨off, h, ht, rfl⟩ := hd
  exact lv_icmp_lt X.1 X.2.1 h ht (fun q => kt q p e s m args below meth c H locs A X hP hS hL) (fun q => kf q p e s m args below meth c H locs A X hP hS hL)
theorem ri_if_lt {x : Int32} {tgt : Nat} (hd : lr_Br j pc (Instr.ifCond .lt) tgt n) (kt : x < 0 → lr_W T S w d j tgt ls st M Q) (kf : ¬ x < 0 → lr_W T S w d j n ls st M Q) : lr_W T S w d j pc ls (vi x :: st) M Q := by
  intro p e s m args below meth c H locs A X hP hS hL
  obtain ⟨off, h, ht, rfl⟩ := hd
  exact lv_if_lt X.1 X.2.1 h ht (fun q => kt q p e s m args below meth c H locs A X hP hS hL) (fun q => kf q p e s m args below meth c H locs A X hP hS hL)
theorem ri_icmp_ge {x y : Int32} {tgt : Nat} (hd : lr_Br j pc (Instr.if_icmp .ge) tgt n) (kt : y ≤ x → lr_W T S w d j tgt ls st M Q) (kf : ¬ y ≤ x → lr_W T S w d j n ls st M Q) : lr_W T S w d j pc ls (vi y :: vi x :: st) M Q := by
  intro p e s m args below meth c H locs A X hP hS hL
  obtain ⟨off, h, ht, rfl⟩ := hd
  exact lv_icmp_ge X.1 X.2.1 h ht (fun q => kt q p e s m args below meth c H locs A X hP hS hL) (fun q => kf q p e s m args below meth c H locs A X hP hS hL)
theorem ri_if_ge {x : Int32} {tgt : Nat} (hd : lr_Br j pc (Instr.ifCond .ge) tgt n) (kt : 0 ≤ x → lr_W T S w d j tgt ls st M Q) (kf : ¬ 0 ≤ x → lr_W T S w d j n ls st M Q) : lr_W T S w d j pc ls (vi x :: st) M Q := by
  intro p e s m args below meth c H locs A X hP hS hL
  obtain ⟨off, h, ht, rfl⟩ := hd
  exact lv_if_ge X.1 X.2.1 h ht (fun q => kt q p e s m args below meth c H locs A X hP hS hL) (fun q => kf q p e s m args below meth c H locs A X hP hS hL)
theorem ri_icmp_gt {x y : Int32} {tgt : Nat} (hd : lr_Br j pc (Instr.if_icmp .gt) tgt n) (kt : y < x → lr_W T S w d j tgt ls st M Q) (kf : ¬ y < x → lr_W T S w d j n ls st M Q) : lr_W T S w d j pc ls (vi y :: vi x :: st) M Q := by
  intro p e s m args below meth c H locs A X hP hS hL
  obtain ⟨off, h, ht, rfl⟩ := hd
  exact lv_icmp_gt X.1 X.2.1 h ht (fun q => kt q p e s m args below meth c H locs A X hP hS hL) (fun q => kf q p e s m args below meth c H locs A X hP hS hL)
theorem ri_if_gt {x : Int32} {tgt : Nat} (hd : lr_Br j pc (Instr.ifCond .gt) tgt n) (kt : 0 < x → lr_W T S w d j tgt ls st M Q) (kf : ¬ 0 < x → lr_W T S w d j n ls st M Q) : lr_W T S w d j pc ls (vi x :: st) M Q := by
  intro p e s m args below meth c H locs A X hP hS hL
  obtain ⟨off, h, ht, rfl⟩ := hd
  exact lv_if_gt X.1 X.2.1 h ht (fun q => kt q p e s m args below meth c H locs A X hP hS hL) (fun q => kf q p e s m args below meth c H locs A X hP hS hL)
theorem ri_icmp_le {x y : Int32} {tgt : Nat} (hd : lr_Br j pc (Instr.if_icmp .le) tgt n) (kt : x ≤ y → lr_W T S w d j tgt ls st M Q) (kf : ¬ x ≤ y → lr_W T S w d j n ls st M Q) : lr_W T S w d j pc ls (vi y :: vi x :: st) M Q := by
  intro p e s m args below meth c H locs A X hP hS hL
  obtain ⟨off, h, ht, rfl⟩ := hd
  exact lv_icmp_le X.1 X.2.1 h ht (fun q => kt q p e s m args below meth c H locs A X hP hS hL) (fun q => kf q p e s m args below meth c H locs A X hP hS hL)
theorem ri_if_le {x : Int32} {tgt : Nat} (hd : lr_Br j pc (Instr.ifCond .le) tgt n) (kt : x ≤ 0 → lr_W T S w d j tgt ls st M Q) (kf : ¬ x ≤ 0 → lr_W T S w d j n ls st M Q) : lr_W T S w d j pc ls (vi x :: st) M Q := by
  intro p e s m args below meth c H locs A X hP hS hL
  obtain ⟨off, h, ht, rfl⟩ := hd
  exact lv_if_le X.1 X.2.1 h ht (fun q => kt q p e s m args below meth c H locs A X hP hS hL) (fun q => kf q p e s m args below meth c H locs A X hP hS hL)
end RI
