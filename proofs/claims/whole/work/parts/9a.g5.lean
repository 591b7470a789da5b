/-! constructors: arrays, loops -/
section LCA
variable {w : Wd} {R : Room} {Af : Nat → Prop} {j : MI} {Z : Array Value → State → Outcome → State → Prop} {CC SS pc n cc ss : Nat} {ls : List (Option AV)} {st : List AV} {ws : va_W}
theorem lc_iast {q0 a len k : Nat} {v : Int32} {f : Nat → Int32} {ws' : va_W} (hd : lr_F j pc .iastore 1 n) (he : ws[q0]? = some (a, .inl (wdC w 0, len, .inl f))) (hk : k < len) (h31 : len ≤ 100000) (hw : ws.set q0 (a, .inl (wdC w 0, len, .inl (upd f k v))) = ws') (nx : lc_W w R Af j Z CC SS n ls st cc ss ws') : lc_W w R Af j Z CC SS pc ls (vi v :: vi (nI k) :: vr (some a) :: st) cc ss ws := by
  intro p e s m args below meth c H locs A X hP hD hS hA hL
  obtain ⟨h, rfl⟩ := hd
  subst hw
  have ek : (nI k).toNatClampNeg = k := nI_clamp (by omega)
  refine va_iast (D := wdG w) (cl := vwCl) (tys := lr_tys w) X.1 X.2.1 X.2.2.2.2.2.2.2.2.1 hP hD hS q0 0 he rfl (vp_in_nI hk (by omega)) h (fun H1 locs1 a1 a2 a3 => ?_)
  rw [ek] at a1 a2
  exact nx p e s m args below meth c H1 locs1 A X a1 a2 a3 hA hL
theorem lc_istk {i : Nat} {x : Int32} {ls' : List (Option AV)} (hd : lr_ISt j pc i n) (hs : lr_st ls i (vi x) = some ls') (nx : lc_W w R Af j Z CC SS n ls' st cc ss ws) : lc_W w R Af j Z CC SS pc ls (vi x :: st) cc ss ws := by
  intro p e s m args below meth c H locs A X hP hD hS hA hL
  obtain ⟨h1, h2⟩ := hL.st1 hs
  rcases hd with ⟨k, rfl, h, rfl⟩ | ⟨h, rfl⟩
  · exact lv_istore_n X.1 X.2.1 h rfl hL.2 h1 rfl (fun A' hA' => nx p e s m args below meth c H locs A' X hP hD hS hA (h2 A' hA'))
  · exact lv_istore X.1 X.2.1 h hL.2 h1 rfl (fun A' hA' => nx p e s m args below meth c H locs A' X hP hD hS hA (h2 A' hA'))
theorem lc_iinck {i : Nat} {z : Int} {x v : Int32} {ls' : List (Option AV)} (hd : lr_F j pc (.iinc i z) 3 n) (hl : ls[i]? = some (some (vi x))) (hv : x + Int32.ofInt z = v) (hs : lr_st ls i (vi v) = some ls') (nx : lc_W w R Af j Z CC SS n ls' st cc ss ws) : lc_W w R Af j Z CC SS pc ls st cc ss ws := by
  intro p e s m args below meth c H locs A X hP hD hS hA hL
  obtain ⟨h1, h2⟩ := hL.st1 hs
  obtain ⟨h, rfl⟩ := hd
  obtain ⟨k, hk⟩ := List.getElem?_of_mem (lr_as_mem.mpr ⟨_, hl, rfl⟩ : (i, emb w (vi x)) ∈ lr_as w ls)
  exact lv_iinc X.1 X.2.1 h hL.2 hk hv h1 rfl (fun A' hA' => nx p e s m args below meth c H locs A' X hP hD hS hA (h2 A' hA'))
theorem lc_icmp_ge {x y : Int32} {tgt : Nat} (hd : lr_Br j pc (Instr.if_icmp .ge) tgt n) (kt : y ≤ x → lc_W w R Af j Z CC SS tgt ls st cc ss ws) (kf : ¬ y ≤ x → lc_W w R Af j Z CC SS n ls st cc ss ws) : lc_W w R Af j Z CC SS pc ls (vi y :: vi x :: st) cc ss ws := by
  intro p e s m args below meth c H locs A X hP hD hS hA hL
  obtain ⟨off, h, ht, rfl⟩ := hd
  exact lv_icmp_ge X.1 X.2.1 h ht (fun q => kt q p e s m args below meth c H locs A X hP hD hS hA hL) (fun q => kf q p e s m args below meth c H locs A X hP hD hS hA hL)
theorem lc_pop {x : Int32} (hd : lr_F j pc .pop 1 n) (nx : lc_W w R Af j Z CC SS n ls st cc ss ws) : lc_W w R Af j Z CC SS pc ls (vi x :: st) cc ss ws := by
  intro p e s m args below meth c H locs A X hP hD hS hA hL
  obtain ⟨h, rfl⟩ := hd
  exact lv_pop X.1 X.2.1 h rfl (nx p e s m args below meth c H locs A X hP hD hS hA hL)
/-- a field that holds a cell -/
theorem lc_getR {idx ci k q0 a b : Nat} {C : String} {TT : u_T} {N : Nat} {fs : List Value} (hd : lr_F j pc (.getfield idx) 3 n) (hc : vwCl[ci]? = some (C, TT, N)) (he : ws[q0]? = some (a, .inr (ci, fs))) (hk : k < N) (h1 : Cond.fieldLink j.1.cls idx (TT k).1 (TT k).2.1 (TT k).2.2.1 ∈ AW) (hv : fs[k]? = some (.ref b)) (nx : lc_W w R Af j Z CC SS n ls (vr (some b) :: st) cc ss ws) : lc_W w R Af j Z CC SS pc ls (vr (some a) :: st) cc ss ws := by
  intro p e s m args below meth c H locs A X hP hD hS hA hL
  obtain ⟨h, rfl⟩ := hd
  have hts := lc_hts X args
  obtain ⟨hin, -⟩ := lr_cls hc
  exact va_get (v := .ref b) (fs := fs) X.1 X.2.1 hts hin X.2.2.2.1 X.2.2.2.2.2.2.2.2.1 hP q0 he hc k hk (hts _ h1) (fun _ h9 => h9) hv h (nx p e s m args below meth c H locs A X hP hD hS hA hL)
end LCA

