/-! one memory for a whole system: tags, instances, places; the rows of the machine over it -/
abbrev AV := Int32 ⊕ (Int64 ⊕ ((Nat × Nat) ⊕ Option Nat))
abbrev vi (x : Int32) : AV := .inl x
abbrev vl (x : Int64) : AV := .inr (.inl x)
abbrev vo (t i : Nat) : AV := .inr (.inr (.inl (t, i)))
abbrev vr (o : Option Nat) : AV := .inr (.inr (.inr o))
abbrev Wd := Launch × va_G × (Nat → ClassId) × (Nat → Nat → Nat)
abbrev wdG (w : Wd) : va_G := w.2.1
abbrev wdC (w : Wd) : Nat → ClassId := w.2.2.1
abbrev wdA (w : Wd) : Nat → Nat → Nat := w.2.2.2
def emb (w : Wd) : AV → Value
  | .inl x => .int x
  | .inr (.inl x) => .long x
  | .inr (.inr (.inl q)) => .ref (wdA w q.1 q.2)
  | .inr (.inr (.inr o)) => va_rf o
abbrev Mem := Nat → Nat → Nat → Int32
abbrev FK := Nat × Nat × Nat
abbrev Sh := Nat ⊕ ((Nat × Nat × Nat) ⊕ (Nat × List FK))
abbrev Tb := List (Nat × Sh)
abbrev MI := MethodName × ByteArray × Nat × Option FieldType
-- words
def aw_ok : Cond → Bool
  | .fieldLinkNest .. => true
  | .methodLinkNest .. => true
  | x => goodWord x
def AW : List Cond := lw_tbl.filter aw_ok
theorem aw_warm {x : Cond} (h : aw_ok x = true) {s U : State} (hW : s.WarmedH U.vm) (hx : va_Nw x s) : va_Nw x U := by
  cases x <;> first | exact va_Nw.warmF hW hx | exact va_Nw.warmM hW hx | exact word_at hW (good_of_word (w := _) h) hx
theorem aw_args {x : Cond} (h : aw_ok x = true) {s : State} (hx : va_Nw x s) (A : Array Value) : x.before A s = true := by
  cases x <;> first | exact va_Nw.use rfl hx | exact word_at (State.WarmedH.refl s) (good_of_word (w := _) h) hx
theorem aw_mem {x : Cond} (h : x ∈ AW) : aw_ok x = true := (List.mem_filter.mp h).2
theorem aw_in {x : Cond} (h : x ∈ lw_tbl) (h2 : aw_ok x = true) : x ∈ AW := List.mem_filter.mpr ⟨h, h2⟩
-- the cells
def lr_cnt (T : Tb) (t : Nat) : Nat := match T[t]? with
  | some q => q.1
  | none => 0
def lr_sh (T : Tb) (t : Nat) : Sh := match T[t]? with
  | some q => q.2
  | none => .inl 0
def lr_ids (T : Tb) : List (Nat × Nat) := (List.range T.length).flatMap fun t => (List.range (lr_cnt T t)).map fun i => (t, i)
theorem lr_ids_mem {T : Tb} {t i : Nat} : (t, i) ∈ lr_ids T ↔ i < lr_cnt T t := by
  simp only [lr_ids, List.mem_flatMap, List.mem_range, List.mem_map, Prod.mk.injEq]
  constructor
  · rintro ⟨a, _, b, hb, rfl, rfl⟩
    exact hb
  · intro h
    refine ⟨t, ?_, i, h, rfl, rfl⟩
    rcases Nat.lt_or_ge t T.length with q | q
    · exact q
    · simp [lr_cnt, List.getElem?_eq_none q] at h
def lr_fv (w : Wd) (f : Nat → Int32) (i k : Nat) (fk : FK) : Value := match fk.1 with
  | 0 => .int (f k)
  | 1 => .ref (wdA w fk.2.1 i)
  | 2 => .ref (wdA w fk.2.1 fk.2.2)
  | _ => .ref (wdA w fk.2.1 (f k).toNatClampNeg)
def lr_cell (w : Wd) (f : Nat → Int32) (i : Nat) : Sh → va_E
  | .inl n => .inl (wdC w 0, n, .inl f)
  | .inr (.inl q) => .inl (wdC w q.2.2, q.1, .inr (.inr (.inr (.inr (fun k => some (wdA w q.2.1 k))))))
  | .inr (.inr q) => .inr (q.1, q.2.mapIdx (fun k fk => lr_fv w f i k fk))
def lr_cells (T : Tb) (w : Wd) (M : Mem) : va_W := (lr_ids T).map fun q => (wdA w q.1 q.2, lr_cell w (M q.1 q.2) q.2 (lr_sh T q.1))
def lr_R (T : Tb) (w : Wd) : Nat → Prop := fun q => ∃ x ∈ lr_ids T, wdA w x.1 x.2 = q
def lr_P (T : Tb) (S : Nat → Bool) (w : Wd) (M : Mem) (H : Heap) : Prop := ∃ M0 : Mem, (∀ t, S t = false → M0 t = M t) ∧ va_P (wdG w) vwCl (lr_cells T w M0) H ∧ va_D (lr_R T w) (lr_cells T w M0)
def lr_tys (w : Wd) : List (ClassId × FieldType) := [(wdC w 0, .int), (wdC w 1, .object RX1), (wdC w 2, .object RX4)]
def lr_Base (w : Wd) (U : State) : Prop := (∀ x ∈ AW, va_Nw x U) ∧ va_K (wdG w) vwCl (lr_tys w) U ∧ ∀ (k : Nat) (q : String × Nat × String), lr_str[k]? = some q → vk_R q.1 q.2.1 q.2.2 (wdA w 99 k) U
def lr_Str (A : Nat → Prop) (w : Wd) (U : State) (H : Heap) : Prop := vk_S lr_nstr lr_slen lr_sbyt (wdA w 99) (wdA w 98) A U H ∧ va_Z "java/lang/String" "COMPACT_STRINGS" "Z" (.int 1) A U H ∧ ∃ o : Option Nat, va_Z "jdk/internal/util/Preconditions" "SIOOBE_FORMATTER" "Ljava/util/function/BiFunction;" (va_rf o) A U H
def lr_Inv (T : Tb) (S : Nat → Bool) (w : Wd) (M : Mem) (U : State) : Prop := lr_P T S w M U.heap ∧ lr_Base w U ∧ lr_Str (lr_R T w) w U U.heap
def lr_Q (T : Tb) (S : Nat → Bool) (w : Wd) (Q : Option AV → Mem → Prop) : Array Value → State → Outcome → State → Prop := fun _ st o t =>
  (∃ (r : Option AV) (M' : Mem), o = .returned (r.map (emb w)) ∧ Q r M' ∧ lr_P T S w M' t.heap) ∧ va_F (lr_R T w) st t
def lr_rm (d : Nat) : Room := { frames := d, cells := 0, slots := 0, locals := 40 * d }
/-- a method, called with as over the memory M, comes back with Q; frames at most d -/
def lr_Ok (T : Tb) (S : Nat → Bool) (w : Wd) (d : Nat) (j : MI) (as : List AV) (M : Mem) (Q : Option AV → Mem → Prop) : Prop :=
  Met w.1 j.1 [.code j.1 j.2.1 j.2.2.1 j.2.2.2] (lr_rm d) (va_Pc (as.map (emb w)) (lr_Inv T S w M)) (lr_Q T S w Q) 0 0 (lr_R T w)
-- locals
def lr_as (w : Wd) (ls : List (Option AV)) : List (Nat × Value) := ls.zipIdx.filterMap fun q => q.1.map fun v => (q.2, emb w v)
theorem lr_as_mem {w : Wd} {ls : List (Option AV)} {q : Nat × Value} : q ∈ lr_as w ls ↔ ∃ v, ls[q.1]? = some (some v) ∧ q.2 = emb w v := by
  obtain ⟨i, x⟩ := q
  simp only [lr_as, List.mem_filterMap, Option.map_eq_some_iff, Prod.mk.injEq]
  constructor
  · rintro ⟨⟨o, k⟩, hm, v, h1, h2, h3⟩
    have h4 := List.mem_zipIdx_iff_getElem?.mp hm
    dsimp only at h1 h2 h4 ⊢
    subst h2
    exact ⟨v, by rw [h4, h1], h3.symm⟩
  · rintro ⟨v, h1, h2⟩
    exact ⟨(some v, i), List.mem_zipIdx_iff_getElem?.mpr h1, v, rfl, rfl, h2.symm⟩
def lr_L (w : Wd) (n : Nat) (ls : List (Option AV)) (A : Array Slot) : Prop := ls.length = n ∧ lv_has A n (lr_as w ls)
theorem lr_L.at {w : Wd} {n : Nat} {ls : List (Option AV)} {A : Array Slot} (h : lr_L w n ls A) {i : Nat} {v : AV} (hi : ls[i]? = some (some v)) : A[i]? = some (.val (emb w v)) :=
  h.2.2.2 (i, emb w v) (lr_as_mem.mpr ⟨v, hi, rfl⟩)
def lr_kl (ls : List (Option AV)) : Nat → List (Option AV)
  | 0 => ls
  | k + 1 => match ls[k]? with
    | some (some (.inr (.inl _))) => ls.set k none
    | _ => ls
def lr_st (ls : List (Option AV)) (i : Nat) (v : AV) : Option (List (Option AV)) := if i < ls.length then some ((lr_kl ls i).set i (some v)) else none
def lr_st2 (ls : List (Option AV)) (i : Nat) (v : AV) : Option (List (Option AV)) := if i + 1 < ls.length then some (((lr_kl ls i).set i (some v)).set (i + 1) none) else none
theorem lr_kl_len (ls : List (Option AV)) (i : Nat) : (lr_kl ls i).length = ls.length := by
  unfold lr_kl
  split
  · rfl
  · split <;> simp
theorem lr_kl_get {ls : List (Option AV)} {i k : Nat} {v : AV} (h : (lr_kl ls i)[k]? = some (some v)) : ls[k]? = some (some v) ∧ ¬ (k + 1 = i ∧ ∃ x, v = vl x) := by
  unfold lr_kl at h
  split at h
  · exact ⟨h, by omega⟩
  · rename_i k1
    split at h
    · rename_i x hx
      rw [List.getElem?_set] at h
      split at h
      · rename_i e
        split at h <;> cases h
      · rename_i e
        exact ⟨h, fun q => e (by omega)⟩
    · rename_i hx
      refine ⟨h, ?_⟩
      rintro ⟨q, x, rfl⟩
      have e : k = k1 := by omega
      subst e
      exact hx _ h
theorem lr_cat {w : Wd} {v : AV} : (emb w v).category = 2 ↔ ∃ x, v = vl x := by
  rcases v with x | x | x | x
  · simp [emb, Value.category]
  · simp [emb, Value.category]
  · simp [emb, Value.category]
  · cases x <;> simp [emb, va_rf, Value.category]
theorem lr_L.st1 {w : Wd} {n i : Nat} {ls ls' : List (Option AV)} {A : Array Slot} {v : AV} (h : lr_L w n ls A) (hs : lr_st ls i v = some ls') :
    i < n ∧ ∀ A' : Array Slot, lv_has A' n ((i, emb w v) :: (lr_as w ls).filter (fun q => !(q.1 == i) && !(q.1 + 1 == i && q.2.category == 2))) → lr_L w n ls' A' := by
  unfold lr_st at hs
  split at hs
  · rename_i hi
    cases hs
    refine ⟨by rw [← h.1]; exact hi, fun A' hA' => ⟨by rw [List.length_set, lr_kl_len]; exact h.1, hA'.1, hA'.2.1, fun q hq => hA'.2.2 q ?_⟩⟩
    obtain ⟨u, h1, h2⟩ := lr_as_mem.mp hq
    obtain ⟨k, x⟩ := q
    dsimp only at h1 h2
    rw [List.getElem?_set] at h1
    split at h1
    · rename_i e
      split at h1
      · cases h1
        subst e h2
        exact List.mem_cons_self
      · cases h1
    · rename_i e
      obtain ⟨g1, g2⟩ := lr_kl_get h1
      refine List.mem_cons_of_mem _ (List.mem_filter.mpr ⟨lr_as_mem.mpr ⟨u, g1, h2⟩, ?_⟩)
      subst h2
      rw [← lr_cat (w := w)] at g2
      simp
      exact ⟨fun q => e q.symm, (Classical.em (k + 1 = i)).elim (fun a => Or.inr fun b => g2 ⟨a, b⟩) Or.inl⟩
  · cases hs
theorem lr_L.st2 {w : Wd} {n i : Nat} {ls ls' : List (Option AV)} {A : Array Slot} {v : AV} (h : lr_L w n ls A) (hs : lr_st2 ls i v = some ls') :
    i + 1 < n ∧ ∀ A' : Array Slot, lv_has A' n ((i, emb w v) :: (lr_as w ls).filter (fun q => !(q.1 == i) && (!(q.1 == i + 1) && !(q.1 + 1 == i && q.2.category == 2)))) → lr_L w n ls' A' := by
  unfold lr_st2 at hs
  split at hs
  · rename_i hi
    cases hs
    refine ⟨by rw [← h.1]; exact hi, fun A' hA' => ⟨by rw [List.length_set, List.length_set, lr_kl_len]; exact h.1, hA'.1, hA'.2.1, fun q hq => hA'.2.2 q ?_⟩⟩
    obtain ⟨u, h1, h2⟩ := lr_as_mem.mp hq
    obtain ⟨k, x⟩ := q
    dsimp only at h1 h2
    rw [List.getElem?_set] at h1
    split at h1
    · split at h1 <;> cases h1
    · rename_i e0
      rw [List.getElem?_set] at h1
      split at h1
      · rename_i e
        split at h1
        · cases h1
          subst e h2
          exact List.mem_cons_self
        · cases h1
      · rename_i e
        obtain ⟨g1, g2⟩ := lr_kl_get h1
        refine List.mem_cons_of_mem _ (List.mem_filter.mpr ⟨lr_as_mem.mpr ⟨u, g1, h2⟩, ?_⟩)
        subst h2
        rw [← lr_cat (w := w)] at g2
        simp
        exact ⟨fun q => e q.symm, fun q => e0 q.symm, (Classical.em (k + 1 = i)).elim (fun a => Or.inr fun b => g2 ⟨a, b⟩) Or.inl⟩
  · cases hs
-- the walk
def lr_Cx (T : Tb) (w : Wd) (j : MI) (p : Program) (s : State) (m : MethodId) (meth : Method) (c : Code) : Prop :=
  p.tables.exec = Jvm.exec ∧ c.code = j.2.1 ∧ c.maxLocals = j.2.2.1 ∧ s.vm.findClass j.1.cls = some m.cls ∧ meth.sig.returnType = j.2.2.2 ∧ meth.locks = false ∧ lr_Base w s ∧ lr_Str (lr_R T w) w s s.heap
/-- the frame of method j at pc, with these locals and this stack, over the memory M, comes to the method's end with Q -/
def lr_W (T : Tb) (S : Nat → Bool) (w : Wd) (d : Nat) (j : MI) (pc : Nat) (ls : List (Option AV)) (st : List AV) (M : Mem) (Q : Option AV → Mem → Prop) : Prop :=
  ∀ (p : Program) (e : Env) (s : State) (m : MethodId) (args : Array Value) (below : List Frame) (meth : Method) (c : Code) (H : Heap) (locs : List Loc) (A : Array Slot),
    lr_Cx T w j p s m meth c → lr_P T S w M H → va_S (lr_R T w) s.heap H locs → lr_L w j.2.2.1 ls A →
    W p w.1 e (lr_rm d) s m args below meth c H locs 0 0 (MQ below (lr_Q T S w Q) args s 0 0 (lr_R T w)) (F0 m pc A (st.map (emb w)))
