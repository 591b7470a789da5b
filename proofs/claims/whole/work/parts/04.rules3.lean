/-! rows of the walk: arrays, calls, ends, entries -/
def lr_ML (own : String) (idx : Nat) (y : MethodName) : Prop := Cond.methodLink own idx y ∈ AW ∨ ∃ host, Cond.methodLinkNest own idx y host ∈ AW
def lr_MG (j : MI) (n : Nat) : Prop := (Cond.code j.1 j.2.1 j.2.2.1 j.2.2.2 ∈ AW ∧ Cond.initialized j.1.cls ∈ AW) ∧ (j.1.cls ≠ "java/lang/invoke/MethodHandle" ∧ j.1.cls ≠ "java/lang/invoke/VarHandle" ∧ (parseMethodDescriptor j.1.desc).map (fun d => d.parameters.length) = some n) ∧ j.2.2.1 ≤ 21
def lr_MV (j : MI) (n : Nat) : Prop := lr_MG j n ∧ Cond.instanceMethod j.1 ∈ AW ∧ Cond.selects j.1.cls j.1 j.1 ∈ AW
def lr_MS (j : MI) (n : Nat) : Prop := lr_MG j n ∧ Cond.static j.1 ∈ AW
/-- an object of the class C -/
def lr_ci (T : Tb) (t : Nat) : Option Nat := match lr_sh T t with
  | .inr (.inr q) => some q.1
  | _ => none
def lr_Rc (T : Tb) (C : String) (t i : Nat) : Prop := (∃ (ci : Nat) (q : vw_C), lr_ci T t = some ci ∧ vwCl[ci]? = some q ∧ q.1 = C ∧ i < lr_cnt T t) ∨ (t = 99 ∧ i < lr_nstr ∧ C = "java/lang/String")
def lr_c2 (v : AV) : Nat := match v with
  | .inr (.inl _) => 2
  | _ => 1
theorem lr_c2_eq (w : Wd) (v : AV) : (emb w v).category = lr_c2 v := by
  rcases v with x | x | x | x
  · rfl
  · rfl
  · rfl
  · cases x <;> rfl
theorem lr_c2_sum (w : Wd) (l : List AV) : ((l.map (emb w)).map fun v => v.category).sum = (l.map lr_c2).sum := by
  rw [List.map_map]
  exact congrArg (fun f => (l.map f).sum) (funext fun v => lr_c2_eq w v)
theorem lr_Base.warm {w : Wd} {s U : State} (hW : s.WarmedH U.vm) (h : lr_Base w s) : lr_Base w U :=
  ⟨fun x hx => aw_warm (aw_mem hx) hW (h.1 x hx), va_K.moved hW.alike h.2.1, fun k q hq => vk_R.warm hW (h.2.2 k q hq)⟩
theorem lr_Str.moved {A : Nat → Prop} {w : Wd} {s U : State} {H : Heap} (hW : s.vm.Alike U.vm) (h : lr_Str A w s H) : lr_Str A w U H :=
  ⟨vk_S.moved hW h.1, va_Z.moved hW h.2.1, h.2.2.imp fun _ q => va_Z.moved hW q⟩
theorem lr_Str.kept {A : Nat → Prop} {w : Wd} {U : State} {H H1 : Heap} (h : lr_Str A w U H) (hq : ∀ a : Nat, a < H.size → ¬ A a → H1[a]? = H[a]?) : lr_Str A w U H1 :=
  ⟨vk_S.kept h.1 hq, va_Z.kept h.2.1 hq, h.2.2.imp fun _ q => va_Z.kept q hq⟩
theorem lr_Inv.calling {T : Tb} {S : Nat → Bool} {w : Wd} {M : Mem} {as : List Value} : FrameBlind (va_Pc as (lr_Inv T S w M)) := by
  intro a U g mk h
  obtain ⟨h1, h2, h3, h4⟩ := h
  exact ⟨h1, h2, lr_Base.warm (s := U) (State.WarmedH.refl U) h3, lr_Str.moved (s := U) (Vm.Alike.refl U.vm) h4⟩
theorem lr_wordc {j : MI} {n : Nat} (hM : lr_MG j n) {w : Wd} {s : State} (hB : lr_Base w s) : ∀ x ∈ [Cond.code j.1 j.2.1 j.2.2.1 j.2.2.2], ∀ (a' : Array Value) (U : State), s.WarmedH U.vm → x.before a' U = true := by
  intro x hx a' U hW
  rw [List.mem_singleton.mp hx]
  exact aw_args (aw_mem hM.1.1) (aw_warm (aw_mem hM.1.1) hW (hB.1 _ hM.1.1)) a'
section RK
variable {T : Tb} {S : Nat → Bool} {w : Wd} {d : Nat} {j : MI} {pc n : Nat} {ls : List (Option AV)} {st : List AV} {M : Mem} {Q : Option AV → Mem → Prop}
theorem lr_run {p : Program} {e : Env} {s : State} {m : MethodId} {args : Array Value} {below : List Frame} {meth : Method} {c : Code} {H : Heap} {locs : List Loc} {A : Array Slot} {a : Array Value} {Q' : Option AV → Mem → Prop} {st0 : List Value} {rest : List AV}
    (hr : va_Run p w.1 e (lr_rm d) s m args below meth c H locs 0 0 0 0 (F0 m pc A st0) (rest.map (emb w)) (lr_Q T S w Q' a) (lr_R T w)) (X : lr_Cx T w j p s m meth c) (hS : va_S (lr_R T w) s.heap H locs) (hL : lr_L w j.2.2.1 ls A)
    (nx : ∀ r M', Q' r M' → lr_W T S w d j (pc + 3) ls (r.toList ++ rest) M' Q) : W p w.1 e (lr_rm d) s m args below meth c H locs 0 0 (MQ below (lr_Q T S w Q) args s 0 0 (lr_R T w)) (F0 m pc A st0) := by
  intro T0 hT0 X0
  obtain ⟨v, st₀, t, T', L, h0, X', hLf, e1, e2, ⟨⟨r, M', hv, hq, hp⟩, hz, hk⟩, stp⟩ := hr T0 hT0 X0
  have hv2 : v = r.map (emb w) := by cases hv; rfl
  subst hv2
  rw [h0] at hz hk
  have hS2 : va_S (lr_R T w) s.heap T'.heap (locs ++ L) := ⟨Nat.le_trans hS.1 (by rw [e1]; exact hz), fun q h1 h2 => by rw [e1, hk q (Nat.lt_of_lt_of_le h1 hS.1) h2]; exact hS.2.1 q h1 h2, fun q hq => by
    rcases List.mem_append.mp hq with h | h
    · exact hS.2.2 q h
    · exact hLf q h⟩
  have hstk : (r.map (emb w)).toList ++ rest.map (emb w) = (r.toList ++ rest).map (emb w) := by cases r <;> simp
  obtain ⟨t2, a1, b1⟩ := nx r M' hq p e s m args below meth c T'.heap (locs ++ L) A X (by rw [e1]; exact hp) hS2 hL T' rfl X'
  refine ⟨t2, stp t2 ?_, b1⟩
  rw [← hstk] at a1
  exact a1
theorem lr_pre {p : Program} {s : State} {m : MethodId} {meth : Method} {c : Code} {H : Heap} {locs : List Loc} (X : lr_Cx T w j p s m meth c) (hP : lr_P T S w M H) (hS : va_S (lr_R T w) s.heap H locs) {as : List AV} : ∀ U : State, U.heap = H → s.WarmedH U.vm → va_Pc (as.map (emb w)) (lr_Inv T S w M) (as.map (emb w)).toArray U := by
  intro U hU hW
  refine ⟨rfl, by rw [hU]; exact hP, lr_Base.warm hW X.2.2.2.2.2.2.1, ?_⟩
  rw [hU]
  exact lr_Str.kept (lr_Str.moved hW.alike X.2.2.2.2.2.2.2) hS.2.1
theorem lr_cb {idx d' : Nat} {j' : MI} {np : Nat} {s : State} {args : Array Value} (hts : ∀ x ∈ AW, x.before args s = true) (hB : lr_Base w s) (hG : lr_MG j' np) (hl : Cond.methodLink j.1.cls idx j'.1 ∈ AW) (hdd : d' + 1 ≤ d) :
    CallB (lr_rm d) s args j.1.cls idx j'.1 j'.2.1 j'.2.2.1 j'.2.2.2 [.code j'.1 j'.2.1 j'.2.2.1 j'.2.2.2] (lr_rm d') 0 0 np := by
  refine ⟨rfl, rfl, hdd, ?_, lr_wordc hG hB, List.mem_singleton.mpr rfl, hts _ hG.1.1, hts _ hG.1.2, ⟨hG.2.1.1, hG.2.1.2.1⟩, fun sig h => ?_, hts _ hl⟩
  · have := hG.2.2
    show 8 + (j'.2.2.1 + 11) + 40 * d' ≤ 40 * d
    omega
  · have h2 := hG.2.1.2.2
    rw [h] at h2
    exact (Option.some.inj h2).symm
theorem lr_cn {idx d' : Nat} {j' : MI} {np : Nat} {host : String} {s : State} {args : Array Value} (hts : ∀ x ∈ AW, x.before args s = true) (hB : lr_Base w s) (hG : lr_MG j' np) (hl : Cond.methodLinkNest j.1.cls idx j'.1 host ∈ AW) (hdd : d' + 1 ≤ d) :
    va_CN (lr_rm d) s args j.1.cls idx j'.1 host j'.2.1 j'.2.2.1 j'.2.2.2 [.code j'.1 j'.2.1 j'.2.2.1 j'.2.2.2] (lr_rm d') 0 0 np := by
  refine ⟨⟨rfl, rfl, hdd, ?_, lr_wordc hG hB, List.mem_singleton.mpr rfl⟩, hts _ hG.1.1, hts _ hG.1.2, ⟨hG.2.1.1, hG.2.1.2.1⟩, fun sig h => ?_, hts _ hl⟩
  · have := hG.2.2
    show 8 + (j'.2.2.1 + 11) + 40 * d' ≤ 40 * d
    omega
  · have h2 := hG.2.1.2.2
    rw [h] at h2
    exact (Option.some.inj h2).symm
theorem lr_recv {p : Program} {s : State} {m : MethodId} {meth : Method} {c : Code} {H : Heap} {locs : List Loc} (X : lr_Cx T w j p s m meth c) (hP : lr_P T S w M H) (hS : va_S (lr_R T w) s.heap H locs) {C : String} {t i : Nat} (hr : lr_Rc T C t i) : ∃ cellB : Cell, H[wdA w t i]? = some cellB ∧ cellB.vm.isStatics = false ∧ s.vm.findClass C = some cellB.cls := by
  rcases hr with ⟨ci, q, h1, h2, rfl, h4⟩ | ⟨rfl, h2, rfl⟩
  · obtain ⟨M0, hM, hP, hD⟩ := hP
    obtain ⟨q0, hq0, he⟩ := lr_pos w M0 h4
    unfold lr_ci at h1
    cases hsh : lr_sh T t with
    | inl z => rw [hsh] at h1; cases h1
    | inr z =>
      cases z with
      | inl z => rw [hsh] at h1; cases h1
      | inr z =>
        rw [hsh] at h1 he
        cases h1
        exact va_recv (fs := z.2.mapIdx (fun jj q => lr_fv w (M0 t i) i jj q)) X.2.2.2.2.2.2.1.2.1 hP h2 he
  · obtain ⟨hO, -⟩ := (vk_S.kept X.2.2.2.2.2.2.2.1 hS.2.1).1 i h2
    obtain ⟨cA, g1, g2, g3, -⟩ := hO
    exact ⟨cA, g1, g2, g3⟩
/-- a call of a method of an object -/
theorem ri_cV {idx d' t i nx : Nat} {j' : MI} {as rest : List AV} {Q' : Option AV → Mem → Prop} (hd : lr_F j pc (.invokevirtual idx) 3 nx) (hM : lr_MV j' as.length) (hl : lr_ML j.1.cls idx j'.1) (hr : lr_Rc T j'.1.cls t i) (hdd : d' + 1 ≤ d) (hok : lr_Ok T S w d' j' (vo t i :: as) M Q') (hrs : (rest.map lr_c2).sum ≤ 8) (hst : st = as.reverse ++ vo t i :: rest)
    (k : ∀ r M', Q' r M' → lr_W T S w d j nx ls (r.toList ++ rest) M' Q) : lr_W T S w d j pc ls st M Q := by
  intro p e s m args below meth c H locs A X hP hS hL
  obtain ⟨h, rfl⟩ := hd
  have hts := lr_hts X args
  have hB := X.2.2.2.2.2.2.1
  have hrecv := lr_recv X hP hS hr
  have hstk : st.map (emb w) = (as.map (emb w)).reverse ++ .ref (wdA w t i) :: rest.map (emb w) := by rw [hst]; simp [emb]
  have hroom : 2 * (F0 m pc A (st.map (emb w))).monitorRoom + ((rest.map (emb w)).map fun v => v.category).sum ≤ 8 := by
    rw [lr_c2_sum]
    show 2 * 0 + _ ≤ 8
    omega
  rcases hl with hl | ⟨host, hl⟩
  · exact lr_run (va_runV (nL := j.2.2.1) (As := as.map (emb w)) (rest := rest.map (emb w)) ⟨X.1, X.2.1, X.2.2.1, X.2.2.2.1, hts⟩ hok ⟨lr_cb hts hB hM.1 hl hdd, hts _ hM.2.1, hts _ hM.2.2⟩ ⟨lr_Inv.calling, hrecv, lr_pre (as := vo t i :: as) X hP hS⟩ rfl (List.length_map ..) hL.2.1 hstk hroom h ⟨Nat.le_refl 0, Nat.le_refl 0⟩) X hS hL k
  · exact lr_run (va_runVN (nL := j.2.2.1) (As := as.map (emb w)) (rest := rest.map (emb w)) ⟨X.1, X.2.1, X.2.2.1, X.2.2.2.1, hts⟩ hok ⟨lr_cn hts hB hM.1 hl hdd, hts _ hM.2.1, hts _ hM.2.2⟩ ⟨lr_Inv.calling, hrecv, lr_pre (as := vo t i :: as) X hP hS⟩ rfl (List.length_map ..) hL.2.1 hstk hroom h ⟨Nat.le_refl 0, Nat.le_refl 0⟩) X hS hL k
/-- a call of a static method -/
theorem ri_cS {idx d' nx : Nat} {j' : MI} {as rest : List AV} {Q' : Option AV → Mem → Prop} (hd : lr_F j pc (.invokestatic idx) 3 nx) (hM : lr_MS j' as.length) (hl : lr_ML j.1.cls idx j'.1) (hdd : d' + 1 ≤ d) (hok : lr_Ok T S w d' j' as M Q') (hrs : (rest.map lr_c2).sum ≤ 8) (hst : st = as.reverse ++ rest)
    (k : ∀ r M', Q' r M' → lr_W T S w d j nx ls (r.toList ++ rest) M' Q) : lr_W T S w d j pc ls st M Q := by
  intro p e s m args below meth c H locs A X hP hS hL
  obtain ⟨h, rfl⟩ := hd
  have hts := lr_hts X args
  have hB := X.2.2.2.2.2.2.1
  have hstk : st.map (emb w) = (as.map (emb w)).reverse ++ rest.map (emb w) := by rw [hst]; simp [emb]
  have hroom : 2 * (F0 m pc A (st.map (emb w))).monitorRoom + ((rest.map (emb w)).map fun v => v.category).sum ≤ 8 := by
    rw [lr_c2_sum]
    show 2 * 0 + _ ≤ 8
    omega
  rcases hl with hl | ⟨host, hl⟩
  · exact lr_run (va_runS (nL := j.2.2.1) (As := as.map (emb w)) (rest := rest.map (emb w)) ⟨X.1, X.2.1, X.2.2.1, X.2.2.2.1, hts⟩ hok ⟨lr_cb hts hB hM.1 hl hdd, hts _ hM.2⟩ ⟨lr_Inv.calling, lr_pre (as := as) X hP hS⟩ rfl (List.length_map ..) hL.2.1 hstk hroom h ⟨Nat.le_refl 0, Nat.le_refl 0⟩) X hS hL k
  · exact lr_run (va_runSN (nL := j.2.2.1) (As := as.map (emb w)) (rest := rest.map (emb w)) ⟨X.1, X.2.1, X.2.2.1, X.2.2.2.1, hts⟩ hok ⟨lr_cn hts hB hM.1 hl hdd, hts _ hM.2, trivial⟩ ⟨lr_Inv.calling, lr_pre (as := as) X hP hS⟩ rfl (List.length_map ..) hL.2.1 hstk hroom h ⟨Nat.le_refl 0, Nat.le_refl 0⟩) X hS hL k
-- ends
theorem ri_ireturn {x : Int32} {ty : FieldType} (hd : lr_F j pc .ireturn 1 n) (hr : j.2.2.2 = some ty) (hn : narrow ty (.int x) = .int x) (hq : Q (some (vi x)) M) : lr_W T S w d j pc ls [vi x] M Q := by
  intro p e s m args below meth c H locs A X hP hS hL
  exact W.zret (ty := ty) X.1 X.2.1 (X.2.2.2.2.1.trans hr) hn (fun t ht hW => ⟨⟨some (vi x), M, rfl, hq, by rw [ht]; exact hP⟩, hS.F ht⟩) hS.2.2 hd.1 (hlocks := X.2.2.2.2.2.1)
theorem ri_lreturn {x : Int64} (hd : lr_F j pc .lreturn 1 n) (hr : j.2.2.2 = some .long) (hq : Q (some (vl x)) M) : lr_W T S w d j pc ls [vl x] M Q := by
  intro p e s m args below meth c H locs A X hP hS hL
  exact W.lret X.1 X.2.1 (X.2.2.2.2.1.trans hr) (fun t ht hW => ⟨⟨some (vl x), M, rfl, hq, by rw [ht]; exact hP⟩, hS.F ht⟩) hS.2.2 hd.1 (hlocks := X.2.2.2.2.2.1)
theorem ri_areturn {t i : Nat} {ty : FieldType} (hd : lr_F j pc .areturn 1 n) (hr : j.2.2.2 = some ty) (hty : (∃ C, ty = .object C) ∨ ∃ t, ty = .array t) (hq : Q (some (vo t i)) M) : lr_W T S w d j pc ls [vo t i] M Q := by
  intro p e s m args below meth c H locs A X hP hS hL
  exact W.aret X.1 X.2.1 (X.2.2.2.2.1.trans hr) hty (Or.inr ⟨_, rfl⟩) (fun t0 ht hW => ⟨⟨some (vo t i), M, rfl, hq, by rw [ht]; exact hP⟩, hS.F ht⟩) hS.2.2 hd.1 (hlocks := X.2.2.2.2.2.1)
theorem ri_return (hd : lr_F j pc .return_ 1 n) (hr : j.2.2.2 = none) (hq : Q none M) : lr_W T S w d j pc ls [] M Q := by
  intro p e s m args below meth c H locs A X hP hS hL
  exact W.vret X.1 X.2.1 (X.2.2.2.2.1.trans hr) (fun t ht hW => ⟨⟨none, M, rfl, hq, by rw [ht]; exact hP⟩, hS.F ht⟩) hS.2.2 hd.1 (hlocks := X.2.2.2.2.2.1)
end RK
-- entries
def lr_ef (as : List AV) : List (Option AV) := as.flatMap fun a => match a with
  | .inr (.inl x) => [some (vl x), none]
  | v => [some v]
def lr_ent (as : List AV) (n : Nat) : Option (List (Option AV)) := if (lr_ef as).length ≤ n then some (lr_ef as ++ List.replicate (n - (lr_ef as).length) none) else none
theorem lr_ef_len (w : Wd) (as : List AV) : (lg_sl (as.map (emb w))).length = (lr_ef as).length := by
  induction as with
  | nil => rfl
  | cons a l ih =>
    rcases a with x | x | x | x
    · simpa [lg_sl, lr_ef, emb, Value.category] using ih
    · simpa [lg_sl, lr_ef, emb, Value.category] using ih
    · simpa [lg_sl, lr_ef, emb, Value.category] using ih
    · cases x <;> simpa [lg_sl, lr_ef, emb, va_rf, Value.category] using ih
theorem lr_ef_at (w : Wd) : ∀ (as : List AV) (off i : Nat) (v : AV), (lr_ef as)[i]? = some (some v) → (off + i, emb w v) ∈ lv_args off (as.map (emb w)) := by
  intro as
  induction as with
  | nil => intro off i v h; simp [lr_ef] at h
  | cons a l ih =>
    intro off i v h
    have one : ∀ b : AV, (emb w b).category = 1 → (some b :: lr_ef l)[i]? = some (some v) → (off + i, emb w v) ∈ (off, emb w b) :: lv_args (if (emb w b).category = 2 then off + 2 else off + 1) (l.map (emb w)) := by
      intro b hb h
      cases i with
      | zero => simp at h; subst h; exact List.mem_cons_self
      | succ i =>
        have := ih (off + 1) i v (by simpa using h)
        rw [if_neg (by omega), show off + (i + 1) = off + 1 + i by omega]
        exact List.mem_cons_of_mem _ this
    rcases a with x | x | x | x
    · exact one (vi x) rfl h
    · cases i with
      | zero => simp [lr_ef] at h; subst h; exact List.mem_cons_self
      | succ i =>
        cases i with
        | zero => simp [lr_ef] at h
        | succ i =>
          have := ih (off + 2) i v (by simpa [lr_ef] using h)
          rw [show off + (i + 1 + 1) = off + 2 + i by omega]
          exact List.mem_cons_of_mem _ this
    · exact one (vo x.1 x.2) rfl h
    · exact one (vr x) (by cases x <;> rfl) h
theorem lr_ent_L {w : Wd} {as : List AV} {n : Nat} {ls : List (Option AV)} (h : lr_ent as n = some ls) : lr_L w n ls ((lg_sl (as.map (emb w)) ++ List.replicate (n - (lg_sl (as.map (emb w))).length) Slot.unset).toArray) := by
  unfold lr_ent at h
  split at h
  · rename_i hle
    cases h
    have hE := lv_entry (as.map (emb w)) (n := n) (by rw [lr_ef_len]; exact hle)
    refine ⟨by simp; omega, hE.1, hE.2.1, fun q hq => hE.2.2 q ?_⟩
    obtain ⟨u, h1, h2⟩ := lr_as_mem.mp hq
    obtain ⟨k, x⟩ := q
    dsimp only at h1 h2
    subst h2
    rw [List.getElem?_append] at h1
    split at h1
    · have := lr_ef_at w as 0 k u h1
      simpa using this
    · rw [List.getElem?_replicate] at h1
      split at h1 <;> cases h1
  · cases h
theorem lr_ok {T : Tb} {S : Nat → Bool} {w : Wd} {d : Nat} {j : MI} {as : List AV} {M : Mem} {Q : Option AV → Mem → Prop} {ls : List (Option AV)} (hpl : plainName j.1.cls = true) (hls : lr_ent as j.2.2.1 = some ls) (h : lr_W T S w d j 0 ls [] M Q) : lr_Ok T S w d j as M Q := by
  refine Met.ofW (cc := j.2.1) (maxL := j.2.2.1) (ret := j.2.2.2) hpl rfl ?_
  intro p e s m args below meth c s₁ B hml hv
  obtain ⟨rfl, hP, hB, hSt⟩ := hv
  rw [lg_entry_eq]
  exact h p e s m _ below meth c s.heap [] _ ⟨B.exec, B.bytes, hml, findClass_of_methodNamed B.named, B.returns, B.notSynchronized, hB, hSt⟩ hP va_S.rf (lr_ent_L hls)
