/-! a call of a method over its own world, beside other cells -/
section LKC
variable {F : LkF} {w : Wd} {R : Room} {Af : Nat → Prop} {j : MI} {Q : State → Prop} {cc ss pc n : Nat} {I : Heap → Prop} {ls : List (Option AV)} {st : List AV}
theorem lk_rcT {A' : Nat → Nat → Nat} {T : Tb} {S : Nat → Bool} {M : Mem} {C : String} {t i ci : Nat} {q : vw_C} (X : lk_X F w Af j) (h1 : lr_ci T t = some ci) (h2 : vwCl[ci]? = some q) (h3 : q.1 = C) (h4 : i < lr_cnt T t) (hI : ∀ H, I H → lr_P T S (wa w A') M H) : ∀ H locs, I H → va_S Af F.2.2.1.heap H locs → ∃ cellB : Cell, H[A' t i]? = some cellB ∧ cellB.vm.isStatics = false ∧ F.2.2.1.vm.findClass C = some cellB.cls := by
  intro H locs hIH hS
  obtain ⟨M0, hM, hP, hD⟩ := hI H hIH
  obtain ⟨q0, hq0, he⟩ := lr_pos (wa w A') M0 h4
  subst h3
  unfold lr_ci at h1
  cases hsh : lr_sh T t with
  | inl z => rw [hsh] at h1; cases h1
  | inr z =>
    cases z with
    | inl z => rw [hsh] at h1; cases h1
    | inr z =>
      rw [hsh] at h1 he
      cases h1
      exact va_recv (fs := z.2.mapIdx (fun jj q => lr_fv (wa w A') (M0 t i) i jj q)) X.2.2.2.2.2.2.1.2.1 hP h2 he
theorem lk_rcS {i : Nat} (X : lk_X F w Af j) (h2 : i < lr_nstr) : ∀ H locs, I H → va_S Af F.2.2.1.heap H locs → ∃ cellB : Cell, H[wdA w 99 i]? = some cellB ∧ cellB.vm.isStatics = false ∧ F.2.2.1.vm.findClass "java/lang/String" = some cellB.cls := by
  intro H locs hIH hS
  obtain ⟨hO, -⟩ := (vk_S.kept X.2.2.2.2.2.2.2.1 hS.2.1).1 i h2
  obtain ⟨cA, g1, g2, g3, -⟩ := hO
  exact ⟨cA, g1, g2, g3⟩
theorem lk_run {T : Tb} {S : Nat → Bool} {A' : Nat → Nat → Nat} {a : Array Value} {Q' : Option AV → Mem → Prop} {st0 : List Value} {rest : List AV} {I' : Option AV → Mem → Heap → Prop} {A : Array Slot} {H : Heap} {locs : List Loc}
    (hr : va_Run F.1 w.1 F.2.1 R F.2.2.1 F.2.2.2.1 F.2.2.2.2.1 F.2.2.2.2.2.1 F.2.2.2.2.2.2.1 F.2.2.2.2.2.2.2 H locs cc ss 0 0 (F0 F.2.2.2.1 pc A st0) (rest.map (emb w)) (lr_Q T S (wa w A') Q' a) (lr_R T (wa w A')))
    (hS : va_S Af F.2.2.1.heap H locs) (hsub : ∀ q, lr_R T (wa w A') q → Af q) (hL : lr_L w j.2.2.1 ls A)
    (hI' : ∀ r M' H1, Q' r M' → H.size ≤ H1.size → (∀ q, q < H.size → ¬ lr_R T (wa w A') q → H1[q]? = H[q]?) → lr_P T S (wa w A') M' H1 → I' r M' H1)
    (nx : ∀ r M', Q' r M' → ∃ r2 : Option AV, r.map (emb (wa w A')) = r2.map (emb w) ∧ lk_W F w R Af j Q cc ss (I' r M') (pc + 3) ls (r2.toList ++ rest)) :
    W F.1 w.1 F.2.1 R F.2.2.1 F.2.2.2.1 F.2.2.2.2.1 F.2.2.2.2.2.1 F.2.2.2.2.2.2.1 F.2.2.2.2.2.2.2 H locs cc ss Q (F0 F.2.2.2.1 pc A st0) := by
  intro T0 hT0 X0
  obtain ⟨v, st₀, t, T', L, h0, X', hLf, e1, e2, ⟨⟨r, M', hv, hq, hp⟩, hz, hk⟩, stp⟩ := hr T0 hT0 X0
  have hv2 : v = r.map (emb (wa w A')) := by cases hv; rfl
  subst hv2
  rw [h0] at hz hk
  obtain ⟨r2, er, k⟩ := nx r M' hq
  have hS2 : va_S Af F.2.2.1.heap T'.heap (locs ++ L) := ⟨Nat.le_trans hS.1 (by rw [e1]; exact hz), fun q h1 h2 => by rw [e1, hk q (Nat.lt_of_lt_of_le h1 hS.1) (fun z => h2 (hsub q z))]; exact hS.2.1 q h1 h2, fun q hq => by
    rcases List.mem_append.mp hq with h | h
    · exact hS.2.2 q h
    · exact hsub _ (hLf q h)⟩
  have hstk : (r.map (emb (wa w A'))).toList ++ rest.map (emb w) = (r2.toList ++ rest).map (emb w) := by rw [er]; cases r2 <;> simp
  obtain ⟨t2, a1, b1⟩ := k T'.heap (locs ++ L) A (hI' r M' T'.heap hq (by rw [e1]; exact hz) (fun q g1 g2 => by rw [e1]; exact hk q g1 g2) (by rw [e1]; exact hp)) hS2 hL T' rfl X'
  refine ⟨t2, stp t2 ?_, b1⟩
  rw [← hstk] at a1
  exact a1
theorem lk_callV {idx d' a : Nat} {j' : MI} {T : Tb} {S : Nat → Bool} {A' : Nat → Nat → Nat} {v0 : AV} {as as2 rest : List AV} {M : Mem} {Q' : Option AV → Mem → Prop} {I' : Option AV → Mem → Heap → Prop}
    (X : lk_X F w Af j) (hd : lr_F j pc (.invokevirtual idx) 3 n) (hM : lr_MV j' as.length) (hl : lr_ML j.1.cls idx j'.1) (hrc : ∀ H locs, I H → va_S Af F.2.2.1.heap H locs → ∃ cellB : Cell, H[a]? = some cellB ∧ cellB.vm.isStatics = false ∧ F.2.2.1.vm.findClass j'.1.cls = some cellB.cls)
    (hf : d' + 1 ≤ R.frames) (hlo : 8 + (j'.2.2.1 + 11) + 40 * d' ≤ R.locals) (hcc : cc ≤ R.cells ∧ ss ≤ R.slots) (hA : A' 99 = wdA w 99) (hA2 : A' 98 = wdA w 98) (hsub : ∀ q, lr_R T (wa w A') q → Af q)
    (hok : lr_Ok T S (wa w A') d' j' (v0 :: as) M Q') (hv0 : emb (wa w A') v0 = .ref a) (has : as.map (emb (wa w A')) = as2.map (emb w)) (hrs : (rest.map lr_c2).sum ≤ 8) (hst : st = as2.reverse ++ vr (some a) :: rest) (hI : ∀ H, I H → lr_P T S (wa w A') M H)
    (hI' : ∀ r M' H H1, Q' r M' → I H → H.size ≤ H1.size → (∀ q, q < H.size → ¬ lr_R T (wa w A') q → H1[q]? = H[q]?) → lr_P T S (wa w A') M' H1 → I' r M' H1)
    (nx : ∀ r M', Q' r M' → ∃ r2 : Option AV, r.map (emb (wa w A')) = r2.map (emb w) ∧ lk_W F w R Af j Q cc ss (I' r M') n ls (r2.toList ++ rest)) : lk_W F w R Af j Q cc ss I pc ls st := by
  intro H locs A hIH hS hL
  obtain ⟨h, rfl⟩ := hd
  have hts := lk_hts X F.2.2.2.2.1
  have hB : lr_Base (wa w A') F.2.2.1 := wa_base hA X.2.2.2.2.2.2.1
  have hY := X.2.2.2.2.2.2.2
  have hrecv := hrc H locs hIH hS
  have hstk : st.map (emb w) = (as.map (emb (wa w A'))).reverse ++ .ref a :: rest.map (emb w) := by rw [hst, has]; simp [emb, va_rf]
  have hroom : 2 * (F0 F.2.2.2.1 pc A (st.map (emb w))).monitorRoom + ((rest.map (emb w)).map fun v => v.category).sum ≤ 8 := by
    rw [lr_c2_sum]
    show 2 * 0 + _ ≤ 8
    omega
  have hpre : ∀ U : State, U.heap = H → F.2.2.1.WarmedH U.vm → va_Pc ((v0 :: as).map (emb (wa w A'))) (lr_Inv T S (wa w A') M) (Value.ref a :: as.map (emb (wa w A'))).toArray U := by
    intro U hU hW
    refine ⟨by rw [List.map_cons, hv0], by rw [hU]; exact hI H hIH, lr_Base.warm hW hB, ?_⟩
    rw [hU]
    exact lr_Str.narrow (wa_str hA hA2 (lr_Str.kept (lr_Str.moved hW.alike hY) hS.2.1)) hsub
  have hG := hM.1
  have hsig : ∀ sig, parseMethodDescriptor j'.1.desc = some sig → as.length = sig.parameters.length := fun sig h => by
    have h2 := hG.2.1.2.2
    rw [h] at h2
    exact (Option.some.inj h2).symm
  have hfix : CallFix F.1 F.2.2.2.1 F.2.2.2.2.2.2.2 j.2.1 j.2.2.1 F.2.2.1 F.2.2.2.2.1 AW j.1.cls := ⟨X.1, X.2.1, X.2.2.1, X.2.2.2.1, hts⟩
  have hin := fun r M' H1 (q : Q' r M') => hI' r M' H H1 q hIH
  rcases hl with hl | ⟨host, hl⟩
  · have cb : CallB R F.2.2.1 F.2.2.2.2.1 j.1.cls idx j'.1 j'.2.1 j'.2.2.1 j'.2.2.2 [.code j'.1 j'.2.1 j'.2.2.1 j'.2.2.2] (lr_rm d') 0 0 as.length := ⟨rfl, rfl, hf, hlo, lr_wordc hG hB, List.mem_singleton.mpr rfl, hts _ hG.1.1, hts _ hG.1.2, ⟨hG.2.1.1, hG.2.1.2.1⟩, hsig, hts _ hl⟩
    exact lk_run (va_runV (nL := j.2.2.1) (As := as.map (emb (wa w A'))) (rest := rest.map (emb w)) hfix hok ⟨cb, hts _ hM.2.1, hts _ hM.2.2⟩ ⟨lr_Inv.calling, hrecv, hpre⟩ rfl (List.length_map ..) hL.2.1 hstk hroom h ⟨hcc.1, hcc.2⟩) hS hsub hL hin nx
  · have cn : va_CN R F.2.2.1 F.2.2.2.2.1 j.1.cls idx j'.1 host j'.2.1 j'.2.2.1 j'.2.2.2 [.code j'.1 j'.2.1 j'.2.2.1 j'.2.2.2] (lr_rm d') 0 0 as.length := ⟨⟨rfl, rfl, hf, hlo, lr_wordc hG hB, List.mem_singleton.mpr rfl⟩, hts _ hG.1.1, hts _ hG.1.2, ⟨hG.2.1.1, hG.2.1.2.1⟩, hsig, hts _ hl⟩
    exact lk_run (va_runVN (nL := j.2.2.1) (As := as.map (emb (wa w A'))) (rest := rest.map (emb w)) hfix hok ⟨cn, hts _ hM.2.1, hts _ hM.2.2⟩ ⟨lr_Inv.calling, hrecv, hpre⟩ rfl (List.length_map ..) hL.2.1 hstk hroom h ⟨hcc.1, hcc.2⟩) hS hsub hL hin nx
end LKC
