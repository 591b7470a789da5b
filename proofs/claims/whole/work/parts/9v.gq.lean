/-! the law: both made, then the loop -/
def lws (w : Wd) (Af : Nat → Prop) (ws : va_W) : Heap → Prop := fun H => va_P (wdG w) vwCl ws H ∧ va_D Af ws
section LKN
variable {F : LkF} {w : Wd} {R : Room} {Af : Nat → Prop} {j : MI} {Q : State → Prop} {cc ss pc n : Nat} {ls : List (Option AV)} {st : List AV} {ws : va_W}
theorem lk_ex {I : Heap → Prop} (h : ∀ H, I H → lk_W F w R Af j Q cc ss I pc ls st) : lk_W F w R Af j Q cc ss I pc ls st := fun H locs A hI hS hL => h H hI H locs A hI hS hL
theorem lk_dup {a : Nat} {I : Heap → Prop} (X : lk_X F w Af j) (hd : lr_F j pc .dup 1 n) (nx : lk_W F w R Af j Q cc ss I n ls (vr (some a) :: vr (some a) :: st)) : lk_W F w R Af j Q cc ss I pc ls (vr (some a) :: st) := by
  intro H locs A hI hS hL
  obtain ⟨h, rfl⟩ := hd
  exact lv_dup X.1 X.2.1 h rfl (nx H locs A hI hS hL)
theorem lk_ast {i a : Nat} {ls' : List (Option AV)} {I : Heap → Prop} (X : lk_X F w Af j) (hd : lr_ASt j pc i n) (hs : lr_st ls i (vr (some a)) = some ls') (nx : lk_W F w R Af j Q cc ss I n ls' st) : lk_W F w R Af j Q cc ss I pc ls (vr (some a) :: st) := by
  intro H locs A hI hS hL
  obtain ⟨h1, h2⟩ := hL.st1 hs
  rcases hd with ⟨k, rfl, h, rfl⟩ | ⟨h, rfl⟩
  · exact lv_astore_n X.1 X.2.1 h rfl hL.2 h1 rfl (fun A' hA' => nx H locs A' hI hS (h2 A' hA'))
  · exact lv_astore X.1 X.2.1 h hL.2 h1 rfl (fun A' hA' => nx H locs A' hI hS (h2 A' hA'))
theorem lk_new {idx ci N : Nat} {C : String} {TT : u_T} {fs : List Value} (X : lk_X F w Af j) (hA : ∀ q, F.2.2.1.heap.size ≤ q → Af q) (hd : lr_F j pc (.new idx) 3 n) (hc : vwCl[ci]? = some (C, TT, N)) (h1 : Cond.classLink j.1.cls idx C ∈ AW) (h2 : Cond.instantiable C N ∈ AW) (h3 : Cond.initialized C ∈ AW) (ty0 : Nat → FieldType) (hty : ∀ k, k < N → parseFieldDescriptor (TT k).2.2.1 = some (ty0 k)) (hfs : ∀ k, k < N → defaultValue (ty0 k) = vp_V fs k) (hcc : cc + 1 ≤ R.cells) (hss : ss + N ≤ R.slots) (nx : ∀ q, lk_W F w R Af j Q (cc + 1) (ss + N) (lws w Af (ws ++ [(q, .inr (ci, fs))])) n ls (vr (some q) :: st)) : lk_W F w R Af j Q cc ss (lws w Af ws) pc ls st := by
  intro H locs A hI hS hL
  obtain ⟨hP, hD⟩ := hI
  obtain ⟨h, rfl⟩ := hd
  have hts := lk_hts X F.2.2.2.2.1
  obtain ⟨hin, hnm, -⟩ := lr_cls hc
  exact va_new (D := wdG w) (cl := vwCl) (tys := lr_tys w) (fs := fs) X.1 X.2.1 hts hin ty0 hty X.2.2.2.1 (hts _ h1) (hts _ h2) (hts _ h3) X.2.2.2.2.2.2.1.2.1 hP hD hS hA hc hfs hcc hss h (fun q H1 hP1 hD1 hS1 => nx q H1 locs A ⟨hP1, hD1⟩ hS1 hL)
theorem lk_callL {idx q d' CC' SS' : Nat} {j' : MI} {as rest : List AV} {x : va_E} {wr : va_W} {post : va_W → Prop} (X : lk_X F w Af j) (hA : ∀ q, F.2.2.1.heap.size ≤ q → Af q) (hO : lc_AO F.2.2.1) (hd : lr_F j pc (.invokespecial idx) 3 n) (hn : j'.1.name = "<init>") (hret : j'.2.2.2 = none) (hG : lr_MG j' as.length) (hi : Cond.instanceMethod j'.1 ∈ AW) (hl : Cond.methodLink j.1.cls idx j'.1 ∈ AW) (hok : lc_Ok w (rm_c d' CC' SS') j' (vr (some q) :: as) [(q, x)] post CC' SS') (hf : d' + 1 ≤ R.frames) (hlo : 8 + (j'.2.2.1 + 11) + 1000 * d' ≤ R.locals) (hcc : cc + CC' ≤ R.cells ∧ ss + SS' ≤ R.slots) (hrs : (rest.map lr_c2).sum ≤ 8) (hst : st = as.reverse ++ vr (some q) :: rest) (hws : ws = wr ++ [(q, x)]) (nx : ∀ w1, post w1 → lk_W F w R Af j Q (cc + CC') (ss + SS') (lws w Af (wr ++ w1)) n ls rest) : lk_W F w R Af j Q cc ss (lws w Af ws) pc ls st := by
  subst hws
  intro H locs A hI hS hL
  obtain ⟨hP, hD⟩ := hI
  obtain ⟨h, rfl⟩ := hd
  have hts := lk_hts X F.2.2.2.2.1
  have hB := X.2.2.2.2.2.2.1
  have hY := X.2.2.2.2.2.2.2
  have hstk : st.map (emb w) = (as.map (emb w)).reverse ++ .ref q :: rest.map (emb w) := by rw [hst]; simp [emb, va_rf]
  have hroom : 2 * (F0 F.2.2.2.1 pc A (st.map (emb w))).monitorRoom + ((rest.map (emb w)).map fun v => v.category).sum ≤ 8 := by
    rw [lr_c2_sum]
    show 2 * 0 + _ ≤ 8
    omega
  have hsig : ∀ sig, parseMethodDescriptor j'.1.desc = some sig → as.length = sig.parameters.length := fun sig h => by
    have h2 := hG.2.1.2.2
    rw [h] at h2
    exact (Option.some.inj h2).symm
  have hcode : Cond.code j'.1 j'.2.1 j'.2.2.1 none ∈ [Cond.code j'.1 j'.2.1 j'.2.2.1 j'.2.2.2] := by rw [hret]; exact List.mem_singleton.mpr rfl
  have hcode2 : (Cond.code j'.1 j'.2.1 j'.2.2.1 none).before F.2.2.2.2.1 F.2.2.1 = true := by rw [← hret]; exact hts _ hG.1.1
  have hFc := va_free (wc := [(q, x)]) hD hS hA [wr.length] lc_pk1
  have hpre : PreS F.2.2.1 H (va_Pc ((vr (some q) :: as).map (emb w)) (lc_Pre w [(q, x)] H.size)) (.ref q :: as.map (emb w)) := ⟨lc_Pre.calling, fun U hU hW => ⟨rfl, by rw [hU], by rw [hU]; exact hP.sub [wr.length] lc_pk2, (hD.sub [wr.length] rfl lc_pk1).weaken (fun _ _ _ _ => trivial), by rw [hU]; exact lr_Str.narrow (lr_Str.moved hW.alike (lr_Str.kept hY hS.2.1)) hFc, lc_AO.moved hW.alike hO, lr_Base.warm hW hB⟩⟩
  have hfix : CallFix F.1 F.2.2.2.1 F.2.2.2.2.2.2.2 j.2.1 j.2.2.1 F.2.2.1 F.2.2.2.2.1 AW j.1.cls := ⟨X.1, X.2.1, X.2.2.1, X.2.2.2.1, hts⟩
  have cb : CallB R F.2.2.1 F.2.2.2.2.1 j.1.cls idx j'.1 j'.2.1 j'.2.2.1 none [.code j'.1 j'.2.1 j'.2.2.1 j'.2.2.2] (rm_c d' CC' SS') CC' SS' as.length := ⟨rfl, rfl, hf, hlo, lr_wordc hG hB, hcode, hcode2, hts _ hG.1.2, ⟨hG.2.1.1, hG.2.1.2.1⟩, hsig, hts _ hl⟩
  refine va_callv (va_runI (nL := j.2.2.1) (As := as.map (emb w)) (rest := rest.map (emb w)) hfix (hok H.size) ⟨cb, hn, hts _ hi⟩ hpre rfl (List.length_map ..) hL.2.1 hstk hroom h hcc) hS (fun q _ hq => hFc q hq) hFc ?_
  intro w1 t H1 locs1 ht hvm hp hBt hz hk1 hS1
  obtain ⟨hP1, hD1⟩ := hBt
  rw [ht] at hP1
  obtain ⟨hP2, hD2⟩ := va_join hP hD [wr.length] (List.range wr.length) lc_pk1 lc_pk3 (lc_pk4 _ List.nodup_range) (fun i hi hc => by
    rw [List.mem_range] at hi
    rw [List.mem_singleton] at hc
    omega) hk1 hFc hP1 hD1
  exact nx w1 hp H1 locs1 A ⟨hP2, hD2⟩ hS1 hL
end LKN
theorem mg_X6i : lr_MG jX6_init 0 := ⟨⟨aw_in (List.mem_of_getElem? (i := 107) (by decide +kernel)) (by decide +kernel), aw_in (List.mem_of_getElem? (i := 87) (by decide +kernel)) (by decide +kernel)⟩, ⟨by decide +kernel, by decide +kernel, by decide +kernel⟩, by decide⟩
theorem mi_X6i : Cond.instanceMethod jX6_init.1 ∈ AW := aw_in (List.mem_of_getElem? (i := 106) (by decide +kernel)) (by decide +kernel)
theorem mk_X6i : Cond.methodLink jL.1.cls 9 jX6_init.1 ∈ AW := aw_in (List.mem_of_getElem? (i := 105) (by decide +kernel)) (by decide +kernel)
set_option maxRecDepth 100000 in
theorem cd_X7i : Cond.code jX7_init.1 jX7_init.2.1 jX7_init.2.2.1 jX7_init.2.2.2 ∈ lw_tbl := List.mem_of_getElem? (i := 819) rfl
theorem mg_X7i : lr_MG jX7_init 0 := ⟨⟨aw_in cd_X7i rfl, aw_in (List.mem_of_getElem? (i := 98) (by decide +kernel)) (by decide +kernel)⟩, ⟨by decide +kernel, by decide +kernel, by decide +kernel⟩, by decide⟩
theorem mi_X7i : Cond.instanceMethod jX7_init.1 ∈ AW := aw_in (List.mem_of_getElem? (i := 818) (by decide +kernel)) (by decide +kernel)
theorem mk_X7i : Cond.methodLink jL.1.cls 12 jX7_init.1 ∈ AW := aw_in (List.mem_of_getElem? (i := 817) (by decide +kernel)) (by decide +kernel)
def fs6 : List Value := [.null, .null, .null, .int 0, .null, .null, .int 0, .null, .null, .null, .null]
def fs7 : List Value := [.int 0, .null, .null, .null, .null, .null, .int 0, .int 0, .null, .int 0, .null, .null, .int 0, .int 0, .int 0, .null, .null, .null, .null, .null, .null, .int 0, .int 0, .int 0, .int 0, .null, .null, .int 0, .int 0, .int 0, .null, .null, .null, .null, .null, .null, .int 0, .int 0, .int 0, .null, .null, .null]
theorem df_X6 : ∀ k, k < 11 → defaultValue (tyX6 k) = vp_V fs6 k := by decide +kernel
theorem df_X7 : ∀ k, k < 42 → defaultValue (tyX7 k) = vp_V fs7 k := by decide +kernel
theorem va_P_l {D : va_G} {cl : List vw_C} {a b : va_W} {H : Heap} (h : va_P D cl (a ++ b) H) : va_P D cl a H ∧ va_P D cl b H :=
  ⟨fun k q hk => h k q (by rw [List.getElem?_append_left (List.getElem?_eq_some_iff.mp hk).1]; exact hk), fun k q hk => h (a.length + k) q (by rw [List.getElem?_append_right (Nat.le_add_right ..), Nat.add_sub_cancel_left]; exact hk)⟩
theorem va_D_l {A : Nat → Prop} {a b : va_W} (h : va_D A (a ++ b)) : va_D A a ∧ va_D A b ∧ ∀ x ∈ a, ∀ y ∈ b, x.1 ≠ y.1 := by
  have la : ∀ (k : Nat) (q : Nat × va_E), a[k]? = some q → (a ++ b)[k]? = some q := fun k q hk => by rw [List.getElem?_append_left (List.getElem?_eq_some_iff.mp hk).1]; exact hk
  have lb : ∀ (k : Nat) (q : Nat × va_E), b[k]? = some q → (a ++ b)[a.length + k]? = some q := fun k q hk => by rw [List.getElem?_append_right (Nat.le_add_right ..), Nat.add_sub_cancel_left]; exact hk
  refine ⟨⟨fun i j p q hi hj e => h.1 i j p q (la i p hi) (la j q hj) e, fun k q hk => h.2 k q (la k q hk)⟩, ⟨fun i j p q hi hj e => ?_, fun k q hk => h.2 _ q (lb k q hk)⟩, fun x hx y hy e => ?_⟩
  · have := h.1 _ _ p q (lb i p hi) (lb j q hj) e
    omega
  · obtain ⟨i, hi⟩ := List.getElem?_of_mem hx
    obtain ⟨k, hk⟩ := List.getElem?_of_mem hy
    have h1 := h.1 _ _ x y (la i x hi) (lb k y hk) e
    have h2 := (List.getElem?_eq_some_iff.mp hi).1
    omega
theorem lr_R_cell {T : Tb} {w : Wd} {M : Mem} {q : Nat} (h : lr_R T w q) : ∃ x ∈ lr_cells T w M, x.1 = q := by
  obtain ⟨x, hx, rfl⟩ := h
  exact ⟨_, List.mem_map_of_mem (f := fun q : Nat × Nat => (wdA w q.1 q.2, lr_cell w (M q.1 q.2) q.2 (lr_sh T q.1))) hx, rfl⟩
theorem lw_begin {F : LkF} {w : Wd} {b L : Nat} {xs : Nat → Int32} {Q : State → Prop} (X : lk_X F w (fun q => F.2.2.1.heap.size ≤ q) jL) (hO : lc_AO F.2.2.1) (hX : va_X b L xs F.2.2.1 F.2.2.1.heap) (hb : b < F.2.2.1.heap.size) (hL : L ≤ 3584) (nx : ∀ A1 A2 M N i, ll_W F w Q (ll_I w A1 A2 M N) 1455 (ll_l b A1 A2 i) []) : lk_W F w room_1 (fun q => F.2.2.1.heap.size ≤ q) jL Q 0 0 (lws w (fun q => F.2.2.1.heap.size ≤ q) []) 0 [some (vr (some b)), none, none, none] [] := by
  have hA : ∀ q, F.2.2.1.heap.size ≤ q → (fun q => F.2.2.1.heap.size ≤ q) q := fun _ h => h
  refine lk_new (ci := 5) (C := RX6) (TT := TX6) (N := 11) (fs := fs6) X hA a_L_0 rfl (aw_in (by decide +kernel) rfl) (aw_in (by decide +kernel) rfl) (aw_in (by decide +kernel) rfl) tyX6 tyX6_ok df_X6 (Nat.le_of_ble_eq_true rfl) (Nat.le_of_ble_eq_true rfl) (fun q1 => ?_)
  refine lk_dup X a_L_3 ?_
  refine lk_callL (d' := 60) (CC' := 64) (SS' := 2086) (as := []) (rest := [vr (some q1)]) (wr := []) X hA hO a_L_4 rfl rfl mg_X6i mi_X6i mk_X6i ok_X6_init (Nat.le_of_ble_eq_true rfl) (Nat.le_of_ble_eq_true rfl) ⟨Nat.le_of_ble_eq_true rfl, Nat.le_of_ble_eq_true rfl⟩ (Nat.le_of_ble_eq_true rfl) rfl rfl ?_
  rintro _ ⟨A1, M0, M, e1, e2, rfl, rfl, h1, hM⟩
  refine lk_ast (ls' := [some (vr (some b)), some (vr (some (A1 0 0))), none, none]) X a_L_7 rfl ?_
  refine lk_new (ci := 6) (C := RX7) (TT := TX7) (N := 42) (fs := fs7) X hA a_L_8 rfl (aw_in (by decide +kernel) rfl) (aw_in (by decide +kernel) rfl) (aw_in (by decide +kernel) rfl) tyX7 tyX7_ok df_X7 (Nat.le_of_ble_eq_true rfl) (Nat.le_of_ble_eq_true rfl) (fun q2 => ?_)
  refine lk_dup X a_L_11 ?_
  refine lk_callL (d' := 10) (CC' := 25) (SS' := 2358) (as := []) (rest := [vr (some q2)]) X hA hO a_L_12 rfl rfl mg_X7i mi_X7i mk_X7i ok_X7_init (Nat.le_of_ble_eq_true rfl) (Nat.le_of_ble_eq_true rfl) ⟨Nat.le_of_ble_eq_true rfl, Nat.le_of_ble_eq_true rfl⟩ (Nat.le_of_ble_eq_true rfl) rfl rfl ?_
  rintro _ ⟨A2, N0, N, f1, f2, rfl, rfl, g1, hN⟩
  refine lk_ast (ls' := [some (vr (some b)), some (vr (some (A1 0 0))), some (vr (some (A2 0 0))), none]) X a_L_15 rfl ?_
  refine lk_ic X a_L_16 ?_
  refine lk_istk (ls' := ll_l b A1 A2 0) X a_L_17 rfl ?_
  refine lk_ex (fun H0 hI => ?_)
  rw [List.nil_append] at hI ⊢
  obtain ⟨d1, d2, d3⟩ := va_D_l hI.2
  have C : ll_X F w A1 A2 b L xs := ⟨X, ⟨hX, hb, hL⟩, ⟨e1, e2⟩, ⟨f1, f2⟩, lr_R_in d1, lr_R_in d2, fun q r1 r2 => by
    obtain ⟨x, hx, ex⟩ := lr_R_cell (M := M0) r1
    obtain ⟨y, hy, ey⟩ := lr_R_cell (M := N0) r2
    exact d3 x hx y hy (ex.trans ey.symm)⟩
  refine lk_imp (I1 := ll_I w A1 A2 M N) (fun H hH => ?_) (ll_loop C (nx A1 A2) 600 0 (by omega) (by omega) M N (Cp_0 hM hN))
  obtain ⟨p1, p2⟩ := va_P_l hH.1
  exact ⟨⟨M0, h1, p1, lr_D_self d1⟩, ⟨N0, g1, p2, lr_D_self d2⟩⟩
