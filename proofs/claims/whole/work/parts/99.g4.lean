/-! constructors: a call of one -/
section LCI
variable {w : Wd} {R : Room} {Af : Nat → Prop} {j : MI} {Z : Array Value → State → Outcome → State → Prop} {CC SS pc n cc ss : Nat} {ls : List (Option AV)} {st : List AV} {ws : va_W}
theorem lc_Pre.calling {w : Wd} {as : List Value} {ws0 : va_W} {sz : Nat} : FrameBlind (va_Pc as (lc_Pre w ws0 sz)) := by
  intro a U g mk h
  obtain ⟨h1, h2, h3, h4, h6, h7, h5⟩ := h
  exact ⟨h1, h2, h3, h4, lr_Str.moved (s := U) (Vm.Alike.refl U.vm) h6, lc_AO.moved (u := U) (Vm.Alike.refl U.vm) h7, lr_Base.warm (s := U) (State.WarmedH.refl U) h5⟩
theorem lc_callI {idx q d' CC' SS' : Nat} {j' : MI} {as rest : List AV} {wc wr : va_W} {post : va_W → Prop} (isC isR : List Nat) (hd : lr_F j pc (.invokespecial idx) 3 n) (hn : j'.1.name = "<init>") (hret : j'.2.2.2 = none) (hG : lr_MG j' as.length) (hi : Cond.instanceMethod j'.1 ∈ AW) (hl : Cond.methodLink j.1.cls idx j'.1 ∈ AW) (hok : lc_Ok w (rm_c d' CC' SS') j' (vr (some q) :: as) wc post CC' SS') (hf : d' + 1 ≤ R.frames) (hlo : 8 + (j'.2.2.1 + 11) + 1000 * d' ≤ R.locals) (hcc : cc + CC' ≤ R.cells ∧ ss + SS' ≤ R.slots) (hrs : (rest.map lr_c2).sum ≤ 8) (hst : st = as.reverse ++ vr (some q) :: rest) (hC : isC.map (fun i => ws[i]?) = wc.map some) (hCf : isC.filterMap (fun i => ws[i]?) = wc) (hCn : va_nd isC = true) (hR : isR.map (fun i => ws[i]?) = wr.map some) (hnd : va_nd isR = true) (hdis : ∀ i ∈ isR, i ∉ isC) (nx : ∀ w1, post w1 → lc_W w R Af j Z CC SS n ls rest (cc + CC') (ss + SS') (wr ++ w1)) : lc_W w R Af j Z CC SS pc ls st cc ss ws := by
  intro p e s m args below meth c H locs A X hP hD hS hA hL
  obtain ⟨h, rfl⟩ := hd
  have hts := lc_hts X args
  have hB := X.2.2.2.2.2.2.2
  have hY := X.2.2.2.2.2.2.1.2.1
  have hO := X.2.2.2.2.2.2.1.2.2
  have hstk : st.map (emb w) = (as.map (emb w)).reverse ++ .ref q :: rest.map (emb w) := by rw [hst]; simp [emb, va_rf]
  have hroom : 2 * (F0 m pc A (st.map (emb w))).monitorRoom + ((rest.map (emb w)).map fun v => v.category).sum ≤ 8 := by
    rw [lr_c2_sum]
    show 2 * 0 + _ ≤ 8
    omega
  have cb : CallB R s args j.1.cls idx j'.1 j'.2.1 j'.2.2.1 none [.code j'.1 j'.2.1 j'.2.2.1 j'.2.2.2] (rm_c d' CC' SS') CC' SS' as.length := by
    refine ⟨rfl, rfl, hf, hlo, lr_wordc hG hB, by rw [hret]; exact List.mem_singleton.mpr rfl, by rw [← hret]; exact hts _ hG.1.1, hts _ hG.1.2, ⟨hG.2.1.1, hG.2.1.2.1⟩, fun sig h => ?_, hts _ hl⟩
    have h2 := hG.2.1.2.2
    rw [h] at h2
    exact (Option.some.inj h2).symm
  have hFc := va_free (wc := wc) hD hS hA isC hC
  refine va_callv (va_runI (nL := j.2.2.1) (As := as.map (emb w)) (rest := rest.map (emb w)) ⟨X.1, X.2.1, X.2.2.1, X.2.2.2.1, hts⟩ (hok H.size) ⟨cb, hn, hts _ hi⟩ ⟨lc_Pre.calling, fun U hU hW => ⟨rfl, by rw [hU], by rw [hU]; exact hP.sub isC hCf, (hD.sub isC hCn hC).weaken (fun _ _ _ _ => trivial), by rw [hU]; exact lr_Str.narrow (lr_Str.moved hW.alike (lr_Str.kept hY hS.2.1)) hFc, lc_AO.moved hW.alike hO, lr_Base.warm hW hB⟩⟩ rfl (List.length_map ..) hL.2.1 hstk hroom h hcc) hS (fun q _ hq => hFc q hq) hFc ?_
  intro w1 t H1 locs1 ht hvm hp hBt hz hk1 hS1
  obtain ⟨hP1, hD1⟩ := hBt
  rw [ht] at hP1
  obtain ⟨hP2, hD2⟩ := va_join hP hD isC isR hC hR hnd hdis hk1 hFc hP1 hD1
  exact nx w1 hp p e s m args below meth c H1 locs1 A X hP2 hD2 hS1 hA hL
end LCI

