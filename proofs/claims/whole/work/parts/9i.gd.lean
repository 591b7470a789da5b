/-! constructors: arrays of references, a call of one that stands last, the switch to memories -/
section LCQ
variable {w : Wd} {R : Room} {Af : Nat → Prop} {j : MI} {Z : Array Value → State → Outcome → State → Prop} {CC SS pc n cc ss : Nat} {ls : List (Option AV)} {st : List AV} {ws : va_W}
theorem lc_newq {idx N c0 : Nat} {C : String} (hd : lr_F j pc (.anewarray idx) 3 n) (h1 : Cond.classLink j.1.cls idx C ∈ AW) (h2 : ∀ U, lc_AO U → va_AO C U) (hc0 : (lr_tys w)[c0]? = some (wdC w c0, .object C)) (hN : N ≤ 100000) (hc : cc + 1 ≤ R.cells) (hs : ss + N ≤ R.slots) (nx : ∀ q, lc_W w R Af j Z CC SS n ls (vr (some q) :: st) (cc + 1) (ss + N) (ws ++ [(q, .inl (wdC w c0, N, .inr (.inr (.inr (.inr (fun _ => none))))))])) : lc_W w R Af j Z CC SS pc ls (vi (nI N) :: st) cc ss ws := by
  intro p e s m args below meth c H locs A X hP hD hS hA hL
  obtain ⟨h, rfl⟩ := hd
  have hts := lc_hts X args
  have hK := X.2.2.2.2.2.2.2.2.1
  refine va_newq (D := wdG w) (cl := vwCl) (tys := lr_tys w) (N' := N) X.1 X.2.1 X.2.2.2.1 (hts _ h1) (h2 _ X.2.2.2.2.2.2.1.2.2) hK hP hD hS hA (nI_pos (by omega)) (nI_clamp (by omega)) (by omega) hc hs h ?_
  intro q cA H1 hK1 hP1 hD1 hS1
  have e1 : cA = wdC w c0 := by
    obtain ⟨kA, comp, -, -, -, g1⟩ := (hK1.2 3 (cA, .object C) rfl).2
    obtain ⟨kA', comp', -, -, -, g2⟩ := (hK.2 c0 _ hc0).2
    exact Option.some.inj (g1.symm.trans g2)
  subst e1
  exact nx q p e s m args below meth c H1 locs A X hP1 hD1 hS1 hA hL
theorem lc_astq {q0 qk ci c0 a v len k : Nat} {r : vw_C} {vs : List Value} {f : Nat → Option Nat} {ws' : va_W} (hd : lr_F j pc .aastore 1 n) (he : ws[q0]? = some (a, .inl (wdC w c0, len, .inr (.inr (.inr (.inr f)))))) (hc0 : (lr_tys w)[c0]? = some (wdC w c0, .object r.1)) (hv : ws[qk]? = some (v, .inr (ci, vs))) (hc : vwCl[ci]? = some r) (hk : k < len) (h31 : len ≤ 100000) (hw : ws.set q0 (a, .inl (wdC w c0, len, .inr (.inr (.inr (.inr (va_up f k (some v))))))) = ws') (nx : lc_W w R Af j Z CC SS n ls st cc ss ws') : lc_W w R Af j Z CC SS pc ls (vr (some v) :: vi (nI k) :: vr (some a) :: st) cc ss ws := by
  intro p e s m args below meth c H locs A X hP hD hS hA hL
  obtain ⟨h, rfl⟩ := hd
  subst hw
  have ek : (nI k).toNatClampNeg = k := nI_clamp (by omega)
  refine va_astq (D := wdG w) (cl := vwCl) (tys := lr_tys w) X.1 X.2.1 X.2.2.2.2.2.2.2.2.1 hP hD hS q0 c0 qk ci he hc0 hv hc (vp_in_nI hk (by omega)) h (fun H1 locs1 a1 a2 a3 => ?_)
  rw [ek] at a1 a2
  exact nx p e s m args below meth c H1 locs1 A X a1 a2 a3 hA hL
theorem lc_aald {q0 c0 a b len k : Nat} {C : String} {f : Nat → Option Nat} (hd : lr_F j pc .aaload 1 n) (he : ws[q0]? = some (a, .inl (wdC w c0, len, .inr (.inr (.inr (.inr f)))))) (hc0 : (lr_tys w)[c0]? = some (wdC w c0, .object C)) (hk : k < len) (h31 : len ≤ 100000) (hf : f k = some b) (nx : lc_W w R Af j Z CC SS n ls (vr (some b) :: st) cc ss ws) : lc_W w R Af j Z CC SS pc ls (vi (nI k) :: vr (some a) :: st) cc ss ws := by
  intro p e s m args below meth c H locs A X hP hD hS hA hL
  obtain ⟨h, rfl⟩ := hd
  have ek : (nI k).toNatClampNeg = k := nI_clamp (by omega)
  have nx' := nx p e s m args below meth c H locs A X hP hD hS hA hL
  have e2 : emb w (vr (some b)) = va_rf (f (nI k).toNatClampNeg) := by rw [ek, hf]; rfl
  rw [List.map_cons, e2] at nx'
  exact va_aldq X.1 X.2.1 X.2.2.2.2.2.2.2.2.1 hP q0 c0 he hc0 (vp_in_nI hk (by omega)) h nx'
theorem lc_pk1 {wr : va_W} {x : Nat × va_E} : [wr.length].map (fun i => (wr ++ [x])[i]?) = [x].map some := by simp
theorem lc_pk2 {wr : va_W} {x : Nat × va_E} : [wr.length].filterMap (fun i => (wr ++ [x])[i]?) = [x] := by simp
theorem lc_pk3 {wr : va_W} {x : Nat × va_E} : (List.range wr.length).map (fun i => (wr ++ [x])[i]?) = wr.map some := by
  apply List.ext_getElem?
  intro k
  rw [List.getElem?_map, List.getElem?_map]
  rcases Nat.lt_or_ge k wr.length with h | h
  · rw [List.getElem?_range h, List.getElem?_eq_getElem h, Option.map_some, Option.map_some, List.getElem?_append_left h, List.getElem?_eq_getElem h]
  · rw [List.getElem?_eq_none (by simpa using h), List.getElem?_eq_none h]
    rfl
theorem lc_pk4 : ∀ (l : List Nat), l.Nodup → va_nd l = true
  | [], _ => rfl
  | a :: l, h => by
    simp only [va_nd, Bool.and_eq_true, decide_eq_true_eq]
    rw [List.nodup_cons] at h
    exact ⟨h.1, lc_pk4 l h.2⟩
theorem lc_last {l r : va_W} {x : Nat × va_E} : (l ++ x :: r)[l.length]? = some x := by simp
/-- a call of a constructor whose object stands last -/
theorem lc_callL {idx q d' CC' SS' : Nat} {j' : MI} {as rest : List AV} {x : va_E} {wr : va_W} {post : va_W → Prop} (hd : lr_F j pc (.invokespecial idx) 3 n) (hn : j'.1.name = "<init>") (hret : j'.2.2.2 = none) (hG : lr_MG j' as.length) (hi : Cond.instanceMethod j'.1 ∈ AW) (hl : lr_ML j.1.cls idx j'.1) (hok : lc_Ok w (rm_c d' CC' SS') j' (vr (some q) :: as) [(q, x)] post CC' SS') (hf : d' + 1 ≤ R.frames) (hlo : 8 + (j'.2.2.1 + 11) + 1000 * d' ≤ R.locals) (hcc : cc + CC' ≤ R.cells ∧ ss + SS' ≤ R.slots) (hrs : (rest.map lr_c2).sum ≤ 8) (hst : st = as.reverse ++ vr (some q) :: rest) (hws : ws = wr ++ [(q, x)]) (nx : ∀ w1, post w1 → lc_W w R Af j Z CC SS n ls rest (cc + CC') (ss + SS') (wr ++ w1)) : lc_W w R Af j Z CC SS pc ls st cc ss ws := by
  subst hws
  intro p e s m args below meth c H locs A X hP hD hS hA hL
  obtain ⟨h, rfl⟩ := hd
  have hts := lc_hts X args
  have hB := X.2.2.2.2.2.2.2
  have hY := X.2.2.2.2.2.2.1.2.1
  have hO := X.2.2.2.2.2.2.1.2.2
  have hstk : st.map (emb w) = (as.map (emb w)).reverse ++ .ref q :: rest.map (emb w) := by rw [hst]; simp [emb, va_rf]
  have hroom : 2 * (F0 m pc A (st.map (emb w))).monitorRoom + ((rest.map (emb w)).map fun v => v.category).sum ≤ 8 := by
    rw [lr_c2_sum]
    show 2 * 0 + _ ≤ 8
    omega
  have hsig : ∀ sig, parseMethodDescriptor j'.1.desc = some sig → as.length = sig.parameters.length := fun sig h => by
    have h2 := hG.2.1.2.2
    rw [h] at h2
    exact (Option.some.inj h2).symm
  have hcode : Cond.code j'.1 j'.2.1 j'.2.2.1 none ∈ [Cond.code j'.1 j'.2.1 j'.2.2.1 j'.2.2.2] := by rw [hret]; exact List.mem_singleton.mpr rfl
  have hcode2 : (Cond.code j'.1 j'.2.1 j'.2.2.1 none).before args s = true := by rw [← hret]; exact hts _ hG.1.1
  have hFc := va_free (wc := [(q, x)]) hD hS hA [wr.length] lc_pk1
  have hpre : PreS s H (va_Pc ((vr (some q) :: as).map (emb w)) (lc_Pre w [(q, x)] H.size)) (.ref q :: as.map (emb w)) := ⟨lc_Pre.calling, fun U hU hW => ⟨rfl, by rw [hU], by rw [hU]; exact hP.sub [wr.length] lc_pk2, (hD.sub [wr.length] rfl lc_pk1).weaken (fun _ _ _ _ => trivial), by rw [hU]; exact lr_Str.narrow (lr_Str.moved hW.alike (lr_Str.kept hY hS.2.1)) hFc, lc_AO.moved hW.alike hO, lr_Base.warm hW hB⟩⟩
  have hfix : CallFix p m c j.2.1 j.2.2.1 s args AW j.1.cls := ⟨X.1, X.2.1, X.2.2.1, X.2.2.2.1, hts⟩
  have fin : va_Run p w.1 e R s m args below meth c H locs cc ss CC' SS' (F0 m pc A (st.map (emb w))) (rest.map (emb w)) (lc_Z w (va_A [(q, x)] H.size) post (Value.ref q :: as.map (emb w)).toArray) (va_A [(q, x)] H.size) := by
    rcases hl with hl | ⟨host, hl⟩
    · have cb : CallB R s args j.1.cls idx j'.1 j'.2.1 j'.2.2.1 none [.code j'.1 j'.2.1 j'.2.2.1 j'.2.2.2] (rm_c d' CC' SS') CC' SS' as.length := ⟨rfl, rfl, hf, hlo, lr_wordc hG hB, hcode, hcode2, hts _ hG.1.2, ⟨hG.2.1.1, hG.2.1.2.1⟩, hsig, hts _ hl⟩
      exact va_runI (nL := j.2.2.1) (As := as.map (emb w)) (rest := rest.map (emb w)) hfix (hok H.size) ⟨cb, hn, hts _ hi⟩ hpre rfl (List.length_map ..) hL.2.1 hstk hroom h hcc
    · have cn : va_CN R s args j.1.cls idx j'.1 host j'.2.1 j'.2.2.1 none [.code j'.1 j'.2.1 j'.2.2.1 j'.2.2.2] (rm_c d' CC' SS') CC' SS' as.length := ⟨⟨rfl, rfl, hf, hlo, lr_wordc hG hB, hcode⟩, hcode2, hts _ hG.1.2, ⟨hG.2.1.1, hG.2.1.2.1⟩, hsig, hts _ hl⟩
      exact va_runIN (nL := j.2.2.1) (As := as.map (emb w)) (rest := rest.map (emb w)) hfix (hok H.size) ⟨cn, hn, hts _ hi⟩ hpre rfl (List.length_map ..) hL.2.1 hstk hroom h hcc
  refine va_callv fin hS (fun q _ hq => hFc q hq) hFc ?_
  intro w1 t H1 locs1 ht hvm hp hBt hz hk1 hS1
  obtain ⟨hP1, hD1⟩ := hBt
  rw [ht] at hP1
  obtain ⟨hP2, hD2⟩ := va_join hP hD [wr.length] (List.range wr.length) lc_pk1 lc_pk3 (lc_pk4 _ List.nodup_range) (fun i hi hc => by
    rw [List.mem_range] at hi
    rw [List.mem_singleton] at hc
    omega) hk1 hFc hP1 hD1
  exact nx w1 hp p e s m args below meth c H1 locs1 A X hP2 hD2 hS1 hA hL
/-- a cell said otherwise -/
theorem lc_cellq {cA : ClassId} {len : Nat} {f g : Nat → Option Nat} (h : ∀ k, k < len → f k = g k) : vp_cell cA (len, .inr (.inr (.inr (.inr f)))) = vp_cell cA (len, .inr (.inr (.inr (.inr g)))) := by
  show arrV cA len (fun j => va_rf (f j)) = arrV cA len (fun j => va_rf (g j))
  have e : (fun j : Fin len => va_rf (f j.val)) = fun j : Fin len => va_rf (g j.val) := funext fun j => by rw [h j.1 j.2]
  unfold arrV
  rw [e]
theorem lc_as {q0 a c0 len : Nat} {f g : Nat → Option Nat} {ws' : va_W} (he : ws[q0]? = some (a, .inl (wdC w c0, len, .inr (.inr (.inr (.inr f)))))) (hfg : ∀ k, k < len → f k = g k) (hw : ws.set q0 (a, .inl (wdC w c0, len, .inr (.inr (.inr (.inr g))))) = ws') (nx : lc_W w R Af j Z CC SS pc ls st cc ss ws') : lc_W w R Af j Z CC SS pc ls st cc ss ws := by
  intro p e s m args below meth c H locs A X hP hD hS hA hL
  subst hw
  refine nx p e s m args below meth c H locs A X (fun k q hk => ?_) (hD.set he) hS hA hL
  rw [List.getElem?_set] at hk
  split at hk
  · rename_i e1
    subst e1
    split at hk
    · cases hk
      have h0 := hP q0 _ he
      show H[a]? = some (vp_cell (wdC w c0) (len, .inr (.inr (.inr (.inr g)))))
      rw [← lc_cellq hfg]
      exact h0
    · cases hk
  · exact hP k q hk
/-- the switch -/
theorem lc_lk {I : Heap → Prop} (h : va_D Af ws → (∀ H, va_P (wdG w) vwCl ws H → I H) ∧ ∀ F : LkF, lk_X F w Af j → lk_W F w R Af j (MQ F.2.2.2.2.2.1 Z F.2.2.2.2.1 F.2.2.1 CC SS Af) cc ss I pc ls st) : lc_W w R Af j Z CC SS pc ls st cc ss ws := by
  intro p e s m args below meth c H locs A X hP hD hS hA hL
  obtain ⟨h1, h2⟩ := h hD
  exact h2 (p, e, s, m, args, below, meth, c) ⟨X.1, X.2.1, X.2.2.1, X.2.2.2.1, X.2.2.2.2.1, X.2.2.2.2.2.1, X.2.2.2.2.2.2.2, X.2.2.2.2.2.2.1.2.1⟩ H locs A (h1 H hP) hS hL
end LCQ
