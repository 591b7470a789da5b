/-! a walk over any world, beside other cells of the caller -/
abbrev LkF := Program × Env × State × MethodId × Array Value × List Frame × Method × Code
abbrev lkS (F : LkF) : State := F.2.2.1
def lk_X (F : LkF) (w : Wd) (Af : Nat → Prop) (j : MI) : Prop :=
  F.1.tables.exec = Jvm.exec ∧ F.2.2.2.2.2.2.2.code = j.2.1 ∧ F.2.2.2.2.2.2.2.maxLocals = j.2.2.1 ∧ F.2.2.1.vm.findClass j.1.cls = some F.2.2.2.1.cls ∧ F.2.2.2.2.2.2.1.sig.returnType = j.2.2.2 ∧ F.2.2.2.2.2.2.1.locks = false ∧ lr_Base w F.2.2.1 ∧ lr_Str Af w F.2.2.1 F.2.2.1.heap
def lk_W (F : LkF) (w : Wd) (R : Room) (Af : Nat → Prop) (j : MI) (Q : State → Prop) (cc ss : Nat) (I : Heap → Prop) (pc : Nat) (ls : List (Option AV)) (st : List AV) : Prop :=
  ∀ (H : Heap) (locs : List Loc) (A : Array Slot), I H → va_S Af F.2.2.1.heap H locs → lr_L w j.2.2.1 ls A →
    W F.1 w.1 F.2.1 R F.2.2.1 F.2.2.2.1 F.2.2.2.2.1 F.2.2.2.2.2.1 F.2.2.2.2.2.2.1 F.2.2.2.2.2.2.2 H locs cc ss Q (F0 F.2.2.2.1 pc A (st.map (emb w)))
/-- the same world, other addresses -/
abbrev wa (w : Wd) (A : Nat → Nat → Nat) : Wd := (w.1, w.2.1, w.2.2.1, A)
theorem wa_base {w : Wd} {A : Nat → Nat → Nat} {U : State} (hA : A 99 = wdA w 99) (h : lr_Base w U) : lr_Base (wa w A) U := ⟨h.1, h.2.1, fun k q hq => by
  show vk_R q.1 q.2.1 q.2.2 (A 99 k) U
  rw [hA]
  exact h.2.2 k q hq⟩
theorem wa_str {w : Wd} {A : Nat → Nat → Nat} {B : Nat → Prop} {U : State} {H : Heap} (hA : A 99 = wdA w 99) (hA2 : A 98 = wdA w 98) (h : lr_Str B w U H) : lr_Str B (wa w A) U H := ⟨by
  show vk_S lr_nstr lr_slen lr_sbyt (A 99) (A 98) B U H
  rw [hA, hA2]
  exact h.1, h.2.1, h.2.2⟩
section LK
variable {F : LkF} {w : Wd} {R : Room} {Af : Nat → Prop} {j : MI} {Q : State → Prop} {cc ss pc n : Nat} {I : Heap → Prop} {ls : List (Option AV)} {st : List AV}
theorem lk_hts (X : lk_X F w Af j) (args : Array Value) : ∀ x ∈ AW, x.before args F.2.2.1 = true := fun x hx => aw_args (aw_mem hx) (X.2.2.2.2.2.2.1.1 x hx) args
theorem lk_ald {i a : Nat} (X : lk_X F w Af j) (hd : lr_ALd j pc i n) (hl : ls[i]? = some (some (vr (some a)))) (nx : lk_W F w R Af j Q cc ss I n ls (vr (some a) :: st)) : lk_W F w R Af j Q cc ss I pc ls st := by
  intro H locs A hI hS hL
  rcases hd with ⟨k, rfl, h, rfl⟩ | ⟨h, rfl⟩
  · exact lv_aload_n X.1 X.2.1 h rfl (hL.at hl) (nx H locs A hI hS hL)
  · exact lv_aload X.1 X.2.1 h (hL.at hl) (nx H locs A hI hS hL)
theorem lk_ild {i : Nat} {x : Int32} (X : lk_X F w Af j) (hd : lr_ILd j pc i n) (hl : ls[i]? = some (some (vi x))) (nx : lk_W F w R Af j Q cc ss I n ls (vi x :: st)) : lk_W F w R Af j Q cc ss I pc ls st := by
  intro H locs A hI hS hL
  rcases hd with ⟨k, rfl, h, rfl⟩ | ⟨h, rfl⟩
  · exact lv_iload_n X.1 X.2.1 h rfl (hL.at hl) (nx H locs A hI hS hL)
  · exact lv_iload X.1 X.2.1 h (hL.at hl) (nx H locs A hI hS hL)
theorem lk_ic {v : Int32} (X : lk_X F w Af j) (hd : lr_IC j pc v n) (nx : lk_W F w R Af j Q cc ss I n ls (vi v :: st)) : lk_W F w R Af j Q cc ss I pc ls st := by
  intro H locs A hI hS hL
  have nx' := nx H locs A hI hS hL
  have hts := lk_hts X F.2.2.2.2.1
  rcases hd with ⟨z, rfl, h, rfl⟩ | ⟨z, rfl, h, rfl⟩ | ⟨z, rfl, h, rfl⟩ | ⟨k, hm, h, rfl⟩ | ⟨k, hm, h, rfl⟩
  · exact lv_iconst X.1 X.2.1 h rfl nx'
  · exact lv_bipush X.1 X.2.1 h rfl nx'
  · exact lv_sipush X.1 X.2.1 h rfl nx'
  · exact lv_ldc X.1 X.2.1 X.2.2.2.1 (hts _ hm) h nx'
  · exact lv_ldcw X.1 X.2.1 X.2.2.2.1 (hts _ hm) h nx'
theorem lk_sc {k q : Nat} {tx : String} (X : lk_X F w Af j) (hd : lr_F j pc (.ldc k) 2 n) (hq : lr_str[q]? = some (j.1.cls, k, tx)) (nx : lk_W F w R Af j Q cc ss I n ls (vr (some (wdA w 99 q)) :: st)) : lk_W F w R Af j Q cc ss I pc ls st := by
  intro H locs A hI hS hL
  obtain ⟨h, rfl⟩ := hd
  exact va_ldcS X.1 X.2.1 X.2.2.2.1 (X.2.2.2.2.2.2.1.2.2 q _ hq) h (nx H locs A hI hS hL)
theorem lk_istk {i : Nat} {x : Int32} {ls' : List (Option AV)} (X : lk_X F w Af j) (hd : lr_ISt j pc i n) (hs : lr_st ls i (vi x) = some ls') (nx : lk_W F w R Af j Q cc ss I n ls' st) : lk_W F w R Af j Q cc ss I pc ls (vi x :: st) := by
  intro H locs A hI hS hL
  obtain ⟨h1, h2⟩ := hL.st1 hs
  rcases hd with ⟨k, rfl, h, rfl⟩ | ⟨h, rfl⟩
  · exact lv_istore_n X.1 X.2.1 h rfl hL.2 h1 rfl (fun A' hA' => nx H locs A' hI hS (h2 A' hA'))
  · exact lv_istore X.1 X.2.1 h hL.2 h1 rfl (fun A' hA' => nx H locs A' hI hS (h2 A' hA'))
theorem lk_iinck {i : Nat} {z : Int} {x v : Int32} {ls' : List (Option AV)} (X : lk_X F w Af j) (hd : lr_F j pc (.iinc i z) 3 n) (hl : ls[i]? = some (some (vi x))) (hv : x + Int32.ofInt z = v) (hs : lr_st ls i (vi v) = some ls') (nx : lk_W F w R Af j Q cc ss I n ls' st) : lk_W F w R Af j Q cc ss I pc ls st := by
  intro H locs A hI hS hL
  obtain ⟨h1, h2⟩ := hL.st1 hs
  obtain ⟨h, rfl⟩ := hd
  obtain ⟨k, hk⟩ := List.getElem?_of_mem (lr_as_mem.mpr ⟨_, hl, rfl⟩ : (i, emb w (vi x)) ∈ lr_as w ls)
  exact lv_iinc X.1 X.2.1 h hL.2 hk hv h1 rfl (fun A' hA' => nx H locs A' hI hS (h2 A' hA'))
theorem lk_goto {tgt : Nat} (X : lk_X F w Af j) (hd : lr_Br j pc (Instr.goto) tgt n) (nx : lk_W F w R Af j Q cc ss I tgt ls st) : lk_W F w R Af j Q cc ss I pc ls st := by
  intro H locs A hI hS hL
  obtain ⟨off, h, ht, rfl⟩ := hd
  exact lv_goto X.1 X.2.1 h ht (nx H locs A hI hS hL)
theorem lk_icmp_ge {x y : Int32} {tgt : Nat} (X : lk_X F w Af j) (hd : lr_Br j pc (Instr.if_icmp .ge) tgt n) (kt : y ≤ x → lk_W F w R Af j Q cc ss I tgt ls st) (kf : ¬ y ≤ x → lk_W F w R Af j Q cc ss I n ls st) : lk_W F w R Af j Q cc ss I pc ls (vi y :: vi x :: st) := by
  intro H locs A hI hS hL
  obtain ⟨off, h, ht, rfl⟩ := hd
  exact lv_icmp_ge X.1 X.2.1 h ht (fun q => kt q H locs A hI hS hL) (fun q => kf q H locs A hI hS hL)
theorem lk_icmp_gt {x y : Int32} {tgt : Nat} (X : lk_X F w Af j) (hd : lr_Br j pc (Instr.if_icmp .gt) tgt n) (kt : y < x → lk_W F w R Af j Q cc ss I tgt ls st) (kf : ¬ y < x → lk_W F w R Af j Q cc ss I n ls st) : lk_W F w R Af j Q cc ss I pc ls (vi y :: vi x :: st) := by
  intro H locs A hI hS hL
  obtain ⟨off, h, ht, rfl⟩ := hd
  exact lv_icmp_gt X.1 X.2.1 h ht (fun q => kt q H locs A hI hS hL) (fun q => kf q H locs A hI hS hL)
theorem lk_icmp_eq {x y : Int32} {tgt : Nat} (X : lk_X F w Af j) (hd : lr_Br j pc (Instr.if_icmp .eq) tgt n) (kt : x = y → lk_W F w R Af j Q cc ss I tgt ls st) (kf : ¬ x = y → lk_W F w R Af j Q cc ss I n ls st) : lk_W F w R Af j Q cc ss I pc ls (vi y :: vi x :: st) := by
  intro H locs A hI hS hL
  obtain ⟨off, h, ht, rfl⟩ := hd
  exact lv_icmp_eq X.1 X.2.1 h ht (fun q => kt q H locs A hI hS hL) (fun q => kf q H locs A hI hS hL)
theorem lk_if_eq {x : Int32} {tgt : Nat} (X : lk_X F w Af j) (hd : lr_Br j pc (Instr.ifCond .eq) tgt n) (kt : x = 0 → lk_W F w R Af j Q cc ss I tgt ls st) (kf : ¬ x = 0 → lk_W F w R Af j Q cc ss I n ls st) : lk_W F w R Af j Q cc ss I pc ls (vi x :: st) := by
  intro H locs A hI hS hL
  obtain ⟨off, h, ht, rfl⟩ := hd
  exact lv_if_eq X.1 X.2.1 h ht (fun q => kt q H locs A hI hS hL) (fun q => kf q H locs A hI hS hL)
theorem lk_iadd {x y : Int32} (X : lk_X F w Af j) (hd : lr_F j pc .iadd 1 n) (nx : lk_W F w R Af j Q cc ss I n ls (vi (x + y) :: st)) : lk_W F w R Af j Q cc ss I pc ls (vi y :: vi x :: st) := by
  intro H locs A hI hS hL
  obtain ⟨h, rfl⟩ := hd
  exact lv_iadd X.1 X.2.1 h (nx H locs A hI hS hL)
theorem lk_isub {x y : Int32} (X : lk_X F w Af j) (hd : lr_F j pc .isub 1 n) (nx : lk_W F w R Af j Q cc ss I n ls (vi (x - y) :: st)) : lk_W F w R Af j Q cc ss I pc ls (vi y :: vi x :: st) := by
  intro H locs A hI hS hL
  obtain ⟨h, rfl⟩ := hd
  exact lv_isub X.1 X.2.1 h (nx H locs A hI hS hL)
theorem lk_iand {x y : Int32} (X : lk_X F w Af j) (hd : lr_F j pc .iand 1 n) (nx : lk_W F w R Af j Q cc ss I n ls (vi (x &&& y) :: st)) : lk_W F w R Af j Q cc ss I pc ls (vi y :: vi x :: st) := by
  intro H locs A hI hS hL
  obtain ⟨h, rfl⟩ := hd
  exact lv_iand X.1 X.2.1 h (nx H locs A hI hS hL)
theorem lk_lcmp {x y : Int64} (X : lk_X F w Af j) (hd : lr_F j pc .lcmp 1 n) (nx : lk_W F w R Af j Q cc ss I n ls (vi (lg_cmp x y) :: st)) : lk_W F w R Af j Q cc ss I pc ls (vl y :: vl x :: st) := by
  intro H locs A hI hS hL
  obtain ⟨h, rfl⟩ := hd
  exact W.lcmp X.1 X.2.1 h (nx H locs A hI hS hL)
theorem lk_pop {x : Int32} (X : lk_X F w Af j) (hd : lr_F j pc .pop 1 n) (nx : lk_W F w R Af j Q cc ss I n ls st) : lk_W F w R Af j Q cc ss I pc ls (vi x :: st) := by
  intro H locs A hI hS hL
  obtain ⟨h, rfl⟩ := hd
  exact lv_pop X.1 X.2.1 h rfl (nx H locs A hI hS hL)
theorem lk_tsw {lo : Int} {tg : List Nat} {df : Nat} {x : Int32} (X : lk_X F w Af j) (hd : lr_TS j pc lo tg df) (kin : ∀ (k t : Nat), tg[k]? = some t → lk_W F w R Af j Q cc ss I t ls st) (kout : lk_W F w R Af j Q cc ss I df ls st) : lk_W F w R Af j Q cc ss I pc ls (vi x :: st) := by
  intro H locs A hI hS hL
  obtain ⟨dflt, hi, offs, len, h, h1, h2, h3⟩ := hd
  by_cases hc : x.toInt < lo ∨ lo + tg.length ≤ x.toInt
  · exact lv_tableOut X.1 X.2.1 h (by omega) h2 (kout H locs A hI hS hL)
  · have g1 : ¬ x.toInt < lo := fun q => hc (Or.inl q)
    have g2 : ¬ lo + tg.length ≤ x.toInt := fun q => hc (Or.inr q)
    have hk : (x.toInt - lo).toNat < tg.length := by omega
    have e1 : tg[(x.toInt - lo).toNat]? = some (tg[(x.toInt - lo).toNat]'hk) := List.getElem?_eq_getElem hk
    have e2 : (offs.toList.map (fun o => (pc : Int) + o))[(x.toInt - lo).toNat]? = (tg.map Int.ofNat)[(x.toInt - lo).toNat]? := by rw [h3]
    rw [List.getElem?_map, List.getElem?_map, e1, Array.getElem?_toList] at e2
    cases ho : offs[(x.toInt - lo).toNat]? with
    | none => rw [ho] at e2; simp at e2
    | some off =>
      rw [ho] at e2
      have e3 : (pc : Int) + off = ((tg[(x.toInt - lo).toNat]'hk : Nat) : Int) := by simpa using e2
      refine lv_tableIn X.1 X.2.1 h g1 (by omega) ho e3 ?_
      exact kin _ _ e1 H locs A hI hS hL
theorem lk_slen {b L : Nat} {xs : Nat → Int32} (X : lk_X F w Af j) (hX : va_X b L xs F.2.2.1 F.2.2.1.heap) (hbl : b < F.2.2.1.heap.size) (hbA : ¬ Af b) (hd : lr_F j pc .arraylength 1 n) (nx : lk_W F w R Af j Q cc ss I n ls (vi (Int32.ofNat L) :: st)) : lk_W F w R Af j Q cc ss I pc ls (vr (some b) :: st) := by
  intro H locs A hI hS hL
  obtain ⟨h, rfl⟩ := hd
  exact va_slen X.1 X.2.1 hX hbl hbA hS h (nx H locs A hI hS hL)
theorem lk_sld {b L : Nat} {xs : Nat → Int32} {i : Int32} (X : lk_X F w Af j) (hX : va_X b L xs F.2.2.1 F.2.2.1.heap) (hbl : b < F.2.2.1.heap.size) (hbA : ¬ Af b) (hin : vp_in i L) (hd : lr_F j pc .iaload 1 n) (nx : lk_W F w R Af j Q cc ss I n ls (vi (xs i.toNatClampNeg) :: st)) : lk_W F w R Af j Q cc ss I pc ls (vi i :: vr (some b) :: st) := by
  intro H locs A hI hS hL
  obtain ⟨h, rfl⟩ := hd
  exact va_sld X.1 X.2.1 hX hbl hbA hS hin h (nx H locs A hI hS hL)
theorem lk_get {idx ci k a b : Nat} (X : lk_X F w Af j) (hd : lr_F j pc (.getfield idx) 3 n) (hf : lr_FL j.1.cls idx ci k) (hg : ∀ H, I H → ∃ (ws : va_W) (q0 : Nat) (fs : List Value), va_P (wdG w) vwCl ws H ∧ ws[q0]? = some (a, .inr (ci, fs)) ∧ fs[k]? = some (.ref b)) (nx : lk_W F w R Af j Q cc ss I n ls (vr (some b) :: st)) : lk_W F w R Af j Q cc ss I pc ls (vr (some a) :: st) := by
  intro H locs A hI hS hL
  obtain ⟨ws, q0, fs, hP, he, hfs⟩ := hg H hI
  obtain ⟨h, rfl⟩ := hd
  obtain ⟨⟨C, TT, N⟩, hc, hkN, hlk⟩ := hf
  obtain ⟨hin, hnm, ty0, hty⟩ := lr_cls hc
  have hts := lk_hts X F.2.2.2.2.1
  have nx' := nx H locs A hI hS hL
  rcases hlk with hlk | ⟨host, hlk⟩
  · exact va_get (fs := fs) X.1 X.2.1 hts hin X.2.2.2.1 X.2.2.2.2.2.2.1.2.1 hP q0 he hc k hkN (hts _ hlk) (fun _ h9 => h9) hfs h nx'
  · exact va_getN (fs := fs) X.1 X.2.1 hts hin X.2.2.2.1 X.2.2.2.2.2.2.1.2.1 hP q0 he hc k hkN (hts _ hlk) (fun _ h9 => h9) hfs h nx'
theorem lk_aald {a b len c0 : Nat} {x : Int32} (X : lk_X F w Af j) (hd : lr_F j pc .aaload 1 n) (hc : c0 = 1 ∨ c0 = 2) (hin : vp_in x len) (hg : ∀ H, I H → ∃ (ws : va_W) (q0 : Nat) (f : Nat → Option Nat), va_P (wdG w) vwCl ws H ∧ ws[q0]? = some (a, .inl (wdC w c0, len, .inr (.inr (.inr (.inr f))))) ∧ f x.toNatClampNeg = some b) (nx : lk_W F w R Af j Q cc ss I n ls (vr (some b) :: st)) : lk_W F w R Af j Q cc ss I pc ls (vi x :: vr (some a) :: st) := by
  intro H locs A hI hS hL
  obtain ⟨ws, q0, f, hP, he, hf⟩ := hg H hI
  obtain ⟨h, rfl⟩ := hd
  have nx' := nx H locs A hI hS hL
  have e : emb w (vr (some b)) = va_rf (f x.toNatClampNeg) := by rw [hf]; rfl
  rw [List.map_cons, e] at nx'
  rcases hc with rfl | rfl
  · exact va_aldq X.1 X.2.1 X.2.2.2.2.2.2.1.2.1 hP q0 1 he rfl hin h nx'
  · exact va_aldq X.1 X.2.1 X.2.2.2.2.2.2.1.2.1 hP q0 2 he rfl hin h nx'
theorem lk_putI {idx ci k a : Nat} {ty : FieldType} {x : Int32} {I1 : Heap → Prop} (X : lk_X F w Af j) (hd : lr_F j pc (.putfield idx) 3 n) (hf : lr_FP j.1.cls idx ci k ty) (hn : narrow ty (.int x) = .int x) (hfit : fits ty (.int x) = true) (hg : ∀ H, I H → ∃ (ws : va_W) (q0 : Nat) (fs : List Value), va_P (wdG w) vwCl ws H ∧ va_D Af ws ∧ ws[q0]? = some (a, .inr (ci, fs)) ∧ k < fs.length ∧ ∀ H1, va_P (wdG w) vwCl (ws.set q0 (a, .inr (ci, fs.set k (.int x)))) H1 → va_D Af (ws.set q0 (a, .inr (ci, fs.set k (.int x)))) → I1 H1) (nx : lk_W F w R Af j Q cc ss I1 n ls st) : lk_W F w R Af j Q cc ss I pc ls (vi x :: vr (some a) :: st) := by
  intro H locs A hI hS hL
  obtain ⟨ws, q0, fs, hP, hD, he, hl, hI1⟩ := hg H hI
  obtain ⟨h, rfl⟩ := hd
  obtain ⟨⟨C, TT, N⟩, hc, hkN, hlk, hfin, hpd⟩ := hf
  obtain ⟨hin, hnm, ty0, hty⟩ := lr_cls hc
  have hts := lk_hts X F.2.2.2.2.1
  rcases hlk with hlk | ⟨host, hlk⟩
  · exact va_put (v := .int x) X.1 X.2.1 hts hin ty0 hty hnm X.2.2.2.1 X.2.2.2.2.2.2.1.2.1 hP hD hS q0 he hc k hkN (hts _ hlk) (fun _ h9 => h9) hfin hpd hn hfit hl h (fun H1 locs1 a1 a2 a3 => nx H1 locs1 A (hI1 H1 a1 a2) a3 hL)
  · exact va_putN (v := .int x) X.1 X.2.1 hts hin ty0 hty hnm X.2.2.2.1 X.2.2.2.2.2.2.1.2.1 hP hD hS q0 he hc k hkN (hts _ hlk) (fun _ h9 => h9) hfin hpd hn hfit hl h (fun H1 locs1 a1 a2 a3 => nx H1 locs1 A (hI1 H1 a1 a2) a3 hL)
theorem lk_ret {post : va_W → Prop} {CC SS : Nat} (X : lk_X F w Af j) (hd : lr_F j pc .return_ 1 n) (hr : j.2.2.2 = none) (hcc : cc ≤ CC) (hss : ss ≤ SS) (hq : ∀ H, I H → ∃ ws, post ws ∧ va_P (wdG w) vwCl ws H ∧ va_D Af ws) : lk_W F w R Af j (MQ F.2.2.2.2.2.1 (lc_Z w Af post) F.2.2.2.2.1 F.2.2.1 CC SS Af) cc ss I pc ls [] := by
  intro H locs A hI hS hL
  obtain ⟨ws, h1, h2, h3⟩ := hq H hI
  refine W.widen (k := CC) (n := SS) hcc hss ?_
  exact W.vret X.1 X.2.1 (X.2.2.2.2.1.trans hr) (fun t ht hW => ⟨⟨ws, rfl, h1, by rw [ht]; exact h2, h3⟩, hS.F ht⟩) hS.2.2 hd.1 (hlocks := X.2.2.2.2.2.1)
theorem lk_imp {I1 : Heap → Prop} (hI : ∀ H, I H → I1 H) (nx : lk_W F w R Af j Q cc ss I1 pc ls st) : lk_W F w R Af j Q cc ss I pc ls st := fun H locs A h hS hL => nx H locs A (hI H h) hS hL
end LK
