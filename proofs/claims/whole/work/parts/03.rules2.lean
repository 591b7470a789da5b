/-! rows of the walk: switches, memory, calls, ends -/
def lr_swt (P : Nat → Int → Prop) : List Nat → Int → Prop
  | [], _ => True
  | t :: ts, z => P t z ∧ lr_swt P ts (z + 1)
theorem lr_swt_get {P : Nat → Int → Prop} : ∀ {tg : List Nat} {z : Int}, lr_swt P tg z → ∀ (k t : Nat), tg[k]? = some t → P t (z + k) := by
  intro tg
  induction tg with
  | nil => intro z _ k t h; simp at h
  | cons a l ih =>
    intro z h k t hk
    cases k with
    | zero => simp at hk; subst hk; simpa using h.1
    | succ k =>
      have := ih h.2 k t (by simpa using hk)
      rw [show z + ((k + 1 : Nat) : Int) = z + 1 + (k : Int) by omega]
      exact this
def lr_TS (j : MI) (pc : Nat) (lo : Int) (tg : List Nat) (df : Nat) : Prop := ∃ dflt hi offs len, decode j.2.1 pc = .ok (.tableswitch dflt lo hi offs, len) ∧ hi + 1 = lo + tg.length ∧ (pc : Int) + dflt = (df : Int) ∧ offs.toList.map (fun o => (pc : Int) + o) = tg.map Int.ofNat
def lr_LS (j : MI) (pc : Nat) (ps : List (Int × Nat)) (df : Nat) : Prop := ∃ dflt qs len, decode j.2.1 pc = .ok (.lookupswitch dflt qs, len) ∧ (qs.toList.zip (qs.toList.drop 1)).all (fun (a, next) => a.1 < next.1) = true ∧ (pc : Int) + dflt = (df : Int) ∧ qs.toList.map (fun o => (o.1, (pc : Int) + o.2)) = ps.map (fun o => (o.1, (o.2 : Int)))
def lr_fk (T : Tb) (t ci k : Nat) : Option FK := match lr_sh T t with
  | .inr (.inr q) => if q.1 = ci then q.2[k]? else none
  | _ => none
def lr_al (T : Tb) (t : Nat) : Option Nat := match lr_sh T t with
  | .inl n => some n
  | _ => none
def lr_rl (T : Tb) (t : Nat) : Option (Nat × Nat × Nat) := match lr_sh T t with
  | .inr (.inl q) => some q
  | _ => none
def lr_FL (own : String) (idx ci k : Nat) : Prop := ∃ q : vw_C, vwCl[ci]? = some q ∧ k < q.2.2 ∧ (Cond.fieldLink own idx (q.2.1 k).1 (q.2.1 k).2.1 (q.2.1 k).2.2.1 ∈ AW ∨ ∃ host, Cond.fieldLinkNest own idx (q.2.1 k).1 (q.2.1 k).2.1 (q.2.1 k).2.2.1 host ∈ AW)
def lr_FP (own : String) (idx ci k : Nat) (ty : FieldType) : Prop := ∃ q : vw_C, vwCl[ci]? = some q ∧ k < q.2.2 ∧ (Cond.fieldLink own idx (q.2.1 k).1 (q.2.1 k).2.1 (q.2.1 k).2.2.1 ∈ AW ∨ ∃ host, Cond.fieldLinkNest own idx (q.2.1 k).1 (q.2.1 k).2.1 (q.2.1 k).2.2.1 host ∈ AW) ∧ (q.2.1 k).2.2.2 = false ∧ parseFieldDescriptor (q.2.1 k).2.2.1 = some ty
/-- what the tables say of a class whose objects the worlds hold -/
def lr_Cl (q : vw_C) : Prop := (∀ x ∈ u_ws q.1 q.2.1 q.2.2, x ∈ AW) ∧ (∀ a, a < q.2.2 → ∀ b, b < q.2.2 → a ≠ b → (q.2.1 a).2.1 ≠ (q.2.1 b).2.1) ∧ ∃ ty0 : Nat → FieldType, ∀ k, k < q.2.2 → parseFieldDescriptor (q.2.1 k).2.2.1 = some (ty0 k)
theorem lr_inAll {l : List Cond} (h : l.all (fun x => decide (x ∈ lw_tbl) && aw_ok x) = true) : ∀ x ∈ l, x ∈ AW := by
  intro x hx
  have h1 := List.all_eq_true.mp h x hx
  simp only [Bool.and_eq_true, decide_eq_true_eq] at h1
  exact aw_in h1.1 h1.2
theorem lr_cl0 : lr_Cl (RX0, TX0, 10) := ⟨lr_inAll (by decide +kernel), nmX0, tyX0, tyX0_ok⟩
theorem lr_cl1 : lr_Cl (RX1, TX1, 4) := ⟨lr_inAll (by decide +kernel), nmX1, tyX1, tyX1_ok⟩
theorem lr_cl2 : lr_Cl (RX2, TX2, 8) := ⟨lr_inAll (by decide +kernel), nmX2, tyX2, tyX2_ok⟩
theorem lr_cl3 : lr_Cl (RX3, TX3, 8) := ⟨lr_inAll (by decide +kernel), nmX3, tyX3, tyX3_ok⟩
theorem lr_cl4 : lr_Cl (RX4, TX4, 3) := ⟨lr_inAll (by decide +kernel), nmX4, tyX4, tyX4_ok⟩
theorem lr_cl5 : lr_Cl (RX6, TX6, 11) := ⟨lr_inAll (by decide +kernel), nmX6, tyX6, tyX6_ok⟩
theorem lr_cl6 : lr_Cl (RX7, TX7, 42) := ⟨lr_inAll (by decide +kernel), nmX7, tyX7, tyX7_ok⟩
theorem lr_cls {ci : Nat} {q : vw_C} (h : vwCl[ci]? = some q) : lr_Cl q := by
  match ci, h with
  | 0, h => cases h; exact lr_cl0
  | 1, h => cases h; exact lr_cl1
  | 2, h => cases h; exact lr_cl2
  | 3, h => cases h; exact lr_cl3
  | 4, h => cases h; exact lr_cl4
  | 5, h => cases h; exact lr_cl5
  | 6, h => cases h; exact lr_cl6
  | k + 7, h => simp at h
def up (M : Mem) (t i k : Nat) (x : Int32) : Mem := fun t' => if t' = t then (fun i' => if i' = i then upd (M t i) k x else M t i') else M t'
theorem up_at (M : Mem) (t i k : Nat) (x : Int32) : up M t i k x t i = upd (M t i) k x := by simp [up]
theorem up_of {M : Mem} {t i k : Nat} {x : Int32} {t' i' : Nat} (h : ¬ (t' = t ∧ i' = i)) : up M t i k x t' i' = M t' i' := by
  unfold up
  by_cases h1 : t' = t
  · subst h1
    rw [if_pos rfl]
    exact if_neg fun q => h ⟨rfl, q⟩
  · rw [if_neg h1]
theorem up_eq {M0 M : Mem} {S : Nat → Bool} (hM : ∀ t, S t = false → M0 t = M t) {t i k : Nat} {x : Int32} (hS : S t = false) : ∀ t', S t' = false → up M0 t i k x t' = up M t i k x t' := by
  intro t' ht'
  unfold up
  by_cases h1 : t' = t
  · subst h1
    rw [if_pos rfl, if_pos rfl, hM _ hS]
  · rw [if_neg h1, if_neg h1, hM _ ht']
theorem lr_pos {T : Tb} (w : Wd) (M : Mem) {t i : Nat} (hi : i < lr_cnt T t) : ∃ q0 : Nat, (lr_ids T)[q0]? = some (t, i) ∧ (lr_cells T w M)[q0]? = some (wdA w t i, lr_cell w (M t i) i (lr_sh T t)) := by
  obtain ⟨q0, h⟩ := List.getElem?_of_mem (lr_ids_mem.mpr hi)
  exact ⟨q0, h, by simp [lr_cells, h]⟩
theorem lr_cells_set {T : Tb} {w : Wd} {M M1 : Mem} {A : Nat → Prop} {t i q0 : Nat} (hD : va_D A (lr_cells T w M)) (hq : (lr_ids T)[q0]? = some (t, i)) (hM : ∀ t' i', ¬ (t' = t ∧ i' = i) → M1 t' i' = M t' i') :
    (lr_cells T w M).set q0 (wdA w t i, lr_cell w (M1 t i) i (lr_sh T t)) = lr_cells T w M1 := by
  apply List.ext_getElem?
  intro k
  have hlt : q0 < (lr_cells T w M).length := by
    rw [lr_cells, List.length_map]
    exact (List.getElem?_eq_some_iff.mp hq).1
  rw [List.getElem?_set]
  by_cases e : q0 = k
  · subst e
    rw [if_pos rfl, if_pos hlt]
    simp [lr_cells, hq]
  · rw [if_neg e]
    simp only [lr_cells, List.getElem?_map]
    cases hk : (lr_ids T)[k]? with
    | none => rfl
    | some p =>
      obtain ⟨t', i'⟩ := p
      have hne : ¬ (t' = t ∧ i' = i) := by
        rintro ⟨rfl, rfl⟩
        have g1 : (lr_cells T w M)[q0]? = some (wdA w t' i', lr_cell w (M t' i') i' (lr_sh T t')) := by simp [lr_cells, hq]
        have g2 : (lr_cells T w M)[k]? = some (wdA w t' i', lr_cell w (M t' i') i' (lr_sh T t')) := by simp [lr_cells, hk]
        exact e (hD.1 q0 k _ _ g1 g2 rfl)
      simp [hM t' i' hne]
theorem lr_fv_ne {w : Wd} {f : Nat → Int32} {k jj i : Nat} {x : Int32} {fk : FK} (h : jj ≠ k) : lr_fv w (upd f k x) i jj fk = lr_fv w f i jj fk := by
  unfold lr_fv
  rw [show upd f k x jj = f jj from if_neg h]
theorem lr_fs_set {w : Wd} {f : Nat → Int32} {fks : List FK} {k i : Nat} {x : Int32} {fk : FK} (h : fks[k]? = some fk) {v : Value} (hv : v = lr_fv w (upd f k x) i k fk) :
    (fks.mapIdx (fun jj q => lr_fv w f i jj q)).set k v = fks.mapIdx (fun jj q => lr_fv w (upd f k x) i jj q) := by
  apply List.ext_getElem?
  intro jj
  rw [List.getElem?_set]
  have hlt : k < fks.length := (List.getElem?_eq_some_iff.mp h).1
  by_cases e : k = jj
  · subst e
    rw [if_pos rfl, List.length_mapIdx, if_pos hlt, List.getElem?_mapIdx, h, hv, Option.map_some]
  · rw [if_neg e, List.getElem?_mapIdx, List.getElem?_mapIdx]
    cases fks[jj]? with
    | none => rw [Option.map_none, Option.map_none]
    | some q => rw [Option.map_some, Option.map_some, lr_fv_ne (Ne.symm e)]
section RJ
variable {T : Tb} {S : Nat → Bool} {w : Wd} {d : Nat} {j : MI} {pc n : Nat} {ls : List (Option AV)} {st : List AV} {M : Mem} {Q : Option AV → Mem → Prop}
theorem lr_hts {p : Program} {s : State} {m : MethodId} {meth : Method} {c : Code} (X : lr_Cx T w j p s m meth c) (args : Array Value) : ∀ x ∈ AW, x.before args s = true := fun x hx => aw_args (aw_mem hx) (X.2.2.2.2.2.2.1.1 x hx) args
theorem ri_tsw {lo : Int} {tg : List Nat} {df : Nat} {x : Int32} (hd : lr_TS j pc lo tg df) (kin : lr_swt (fun t z => x = Int32.ofInt z → lr_W T S w d j t ls st M Q) tg lo) (kout : (x.toInt < lo ∨ lo + tg.length ≤ x.toInt) → lr_W T S w d j df ls st M Q) : lr_W T S w d j pc ls (vi x :: st) M Q := by
  intro p e s m args below meth c H locs A X hP hS hL
  obtain ⟨dflt, hi, offs, len, h, h1, h2, h3⟩ := hd
  by_cases hc : x.toInt < lo ∨ lo + tg.length ≤ x.toInt
  · exact lv_tableOut X.1 X.2.1 h (by omega) h2 (kout hc p e s m args below meth c H locs A X hP hS hL)
  · have g1 : ¬ x.toInt < lo := fun q => hc (Or.inl q)
    have g2 : ¬ lo + tg.length ≤ x.toInt := fun q => hc (Or.inr q)
    have hk : (x.toInt - lo).toNat < tg.length := by omega
    have e1 : tg[(x.toInt - lo).toNat]? = some (tg[(x.toInt - lo).toNat]'hk) := List.getElem?_eq_getElem hk
    have e2 : (offs.toList.map (fun o => (pc : Int) + o))[(x.toInt - lo).toNat]? = (tg.map Int.ofNat)[(x.toInt - lo).toNat]? := by rw [h3]
    rw [List.getElem?_map, List.getElem?_map, e1, Array.getElem?_toList] at e2
    cases ho : offs[(x.toInt - lo).toNat]? with
    | none => rw [ho] at e2; simp at e2
    | some off =>
      rw [ho] at e2
      have e3 : (pc : Int) + off = ((tg[(x.toInt - lo).toNat]'hk : Nat) : Int) := by simpa using e2
      refine lv_tableIn X.1 X.2.1 h g1 (by omega) ho e3 ?_
      refine lr_swt_get kin _ _ e1 ?_ p e s m args below meth c H locs A X hP hS hL
      rw [show lo + (((x.toInt - lo).toNat : Nat) : Int) = x.toInt by omega]
      exact (Int32.ofInt_toInt x).symm
theorem ri_get {idx ci k t i : Nat} {fk : FK} (hd : lr_F j pc (.getfield idx) 3 n) (hf : lr_FL j.1.cls idx ci k) (hk : lr_fk T t ci k = some fk) (hS : S t = false) (hi : i < lr_cnt T t) {v : AV} (hv : emb w v = lr_fv w (M t i) i k fk) (nx : lr_W T S w d j n ls (v :: st) M Q) : lr_W T S w d j pc ls (vo t i :: st) M Q := by
  intro p e s m args below meth c H locs A X hP hS' hL
  have nx' := nx p e s m args below meth c H locs A X hP hS' hL
  obtain ⟨M0, hM, hP, hD⟩ := hP
  obtain ⟨q0, hq0, he⟩ := lr_pos w M0 hi
  obtain ⟨h, rfl⟩ := hd
  obtain ⟨⟨C, TT, N⟩, hc, hkN, hlk⟩ := hf
  obtain ⟨hin, hnm, ty0, hty⟩ := lr_cls hc
  unfold lr_fk at hk
  cases hsh : lr_sh T t with
  | inl z => rw [hsh] at hk; cases hk
  | inr z =>
    cases z with
    | inl z => rw [hsh] at hk; cases hk
    | inr z =>
      rw [hsh] at hk he
      dsimp only at hk
      split at hk
      · rename_i e1
        subst e1
        have hfs : (z.2.mapIdx (fun jj q => lr_fv w (M0 t i) i jj q))[k]? = some (emb w v) := by
          rw [List.getElem?_mapIdx, hk, hv, ← hM t hS]
          rfl
        have hts := lr_hts X args
        rcases hlk with hlk | ⟨host, hlk⟩
        · exact va_get (fs := z.2.mapIdx (fun jj q => lr_fv w (M0 t i) i jj q)) X.1 X.2.1 hts hin X.2.2.2.1 X.2.2.2.2.2.2.1.2.1 hP q0 he hc k hkN (hts _ hlk) (fun _ h9 => h9) hfs h nx'
        · exact va_getN (fs := z.2.mapIdx (fun jj q => lr_fv w (M0 t i) i jj q)) X.1 X.2.1 hts hin X.2.2.2.1 X.2.2.2.2.2.2.1.2.1 hP q0 he hc k hkN (hts _ hlk) (fun _ h9 => h9) hfs h nx'
      · cases hk
theorem ri_put {idx ci k t i : Nat} {fk : FK} {ty : FieldType} {v : AV} {x : Int32} (hd : lr_F j pc (.putfield idx) 3 n) (hf : lr_FP j.1.cls idx ci k ty) (hk : lr_fk T t ci k = some fk) (hS : S t = false) (hi : i < lr_cnt T t) (hv : emb w v = lr_fv w (upd (M t i) k x) i k fk) (hn : narrow ty (emb w v) = emb w v) (hfit : fits ty (emb w v) = true) (nx : ∀ M1, M1 = up M t i k x → lr_W T S w d j n ls st M1 Q) : lr_W T S w d j pc ls (v :: vo t i :: st) M Q := by
  intro p e s m args below meth c H locs A X hP hS' hL
  have nx' := fun H1 locs1 hP1 hS1 => nx _ rfl p e s m args below meth c H1 locs1 A X hP1 hS1 hL
  obtain ⟨M0, hM, hP, hD⟩ := hP
  obtain ⟨q0, hq0, he⟩ := lr_pos w M0 hi
  obtain ⟨h, rfl⟩ := hd
  obtain ⟨⟨C, TT, N⟩, hc, hkN, hlk, hfin, hpd⟩ := hf
  obtain ⟨hin, hnm, ty0, hty⟩ := lr_cls hc
  unfold lr_fk at hk
  cases hsh : lr_sh T t with
  | inl z => rw [hsh] at hk; cases hk
  | inr z =>
    cases z with
    | inl z => rw [hsh] at hk; cases hk
    | inr z =>
      rw [hsh] at hk he
      dsimp only at hk
      split at hk
      · rename_i e1
        subst e1
        have hl : k < (z.2.mapIdx (fun jj q => lr_fv w (M0 t i) i jj q)).length := by rw [List.length_mapIdx]; exact (List.getElem?_eq_some_iff.mp hk).1
        have hts := lr_hts X args
        have hset : (lr_cells T w M0).set q0 (wdA w t i, .inr (z.1, (z.2.mapIdx (fun jj q => lr_fv w (M0 t i) i jj q)).set k (emb w v))) = lr_cells T w (up M0 t i k x) := by
          rw [← lr_cells_set (M1 := up M0 t i k x) hD hq0 (fun t' i' hne => up_of hne), up_at, hsh]
          rw [lr_fs_set (x := x) hk (by rw [hv, hM t hS])]
          rfl
        have fin : ∀ (H1 : Heap) (locs1 : List Loc), va_P (wdG w) vwCl ((lr_cells T w M0).set q0 (wdA w t i, .inr (z.1, (z.2.mapIdx (fun jj q => lr_fv w (M0 t i) i jj q)).set k (emb w v)))) H1 → va_D (lr_R T w) ((lr_cells T w M0).set q0 (wdA w t i, .inr (z.1, (z.2.mapIdx (fun jj q => lr_fv w (M0 t i) i jj q)).set k (emb w v)))) → va_S (lr_R T w) s.heap H1 locs1 → W p w.1 e (lr_rm d) s m args below meth c H1 locs1 0 0 (MQ below (lr_Q T S w Q) args s 0 0 (lr_R T w)) (F0 m (pc + 3) A (st.map (emb w))) := by
          intro H1 locs1 a1 a2 a3
          rw [hset] at a1 a2
          exact nx' H1 locs1 ⟨up M0 t i k x, up_eq hM hS, a1, a2⟩ a3
        rcases hlk with hlk | ⟨host, hlk⟩
        · exact va_put X.1 X.2.1 hts hin ty0 hty hnm X.2.2.2.1 X.2.2.2.2.2.2.1.2.1 hP hD hS' q0 he hc k hkN (hts _ hlk) (fun _ h9 => h9) hfin hpd hn hfit hl h fin
        · exact va_putN X.1 X.2.1 hts hin ty0 hty hnm X.2.2.2.1 X.2.2.2.2.2.2.1.2.1 hP hD hS' q0 he hc k hkN (hts _ hlk) (fun _ h9 => h9) hfin hpd hn hfit hl h fin
      · cases hk
theorem ri_getI {idx ci k t i : Nat} (hd : lr_F j pc (.getfield idx) 3 n) (hf : lr_FL j.1.cls idx ci k) (hk : lr_fk T t ci k = some (0, 0, 0)) (hS : S t = false) (hi : i < lr_cnt T t) (nx : lr_W T S w d j n ls (vi (M t i k) :: st) M Q) : lr_W T S w d j pc ls (vo t i :: st) M Q := ri_get hd hf hk hS hi rfl nx
theorem ri_getR {idx ci k t i t' i' : Nat} {fk : FK} (hd : lr_F j pc (.getfield idx) 3 n) (hf : lr_FL j.1.cls idx ci k) (hk : lr_fk T t ci k = some fk) (hS : S t = false) (hi : i < lr_cnt T t) (hv : (fk.1 = 1 ∧ fk.2.1 = t' ∧ i' = i) ∨ (fk.1 = 2 ∧ fk.2.1 = t' ∧ fk.2.2 = i')) (nx : lr_W T S w d j n ls (vo t' i' :: st) M Q) : lr_W T S w d j pc ls (vo t i :: st) M Q := by
  refine ri_get hd hf hk hS hi ?_ nx
  obtain ⟨a, b, c⟩ := fk
  rcases hv with ⟨e1, e2, e3⟩ | ⟨e1, e2, e3⟩ <;> (dsimp only at e1 e2 e3; subst e1; subst e2; subst e3; rfl)
theorem ri_getV {idx ci k t i t' : Nat} (hd : lr_F j pc (.getfield idx) 3 n) (hf : lr_FL j.1.cls idx ci k) (hk : lr_fk T t ci k = some (3, t', 0)) (hS : S t = false) (hi : i < lr_cnt T t) (nx : lr_W T S w d j n ls (vo t' (M t i k).toNatClampNeg :: st) M Q) : lr_W T S w d j pc ls (vo t i :: st) M Q := ri_get hd hf hk hS hi rfl nx
theorem ri_putI {idx ci k t i : Nat} {x : Int32} (hd : lr_F j pc (.putfield idx) 3 n) (hf : lr_FP j.1.cls idx ci k .int) (hk : lr_fk T t ci k = some (0, 0, 0)) (hS : S t = false) (hi : i < lr_cnt T t) (nx : ∀ M1, M1 = up M t i k x → lr_W T S w d j n ls st M1 Q) : lr_W T S w d j pc ls (vi x :: vo t i :: st) M Q :=
  ri_put (x := x) hd hf hk hS hi (by show Value.int x = Value.int (upd (M t i) k x k); rw [show upd (M t i) k x k = x from if_pos rfl]) rfl rfl nx
theorem ri_putZ {idx ci k t i : Nat} {x : Int32} (hd : lr_F j pc (.putfield idx) 3 n) (hf : lr_FP j.1.cls idx ci k .boolean) (hk : lr_fk T t ci k = some (0, 0, 0)) (hS : S t = false) (hi : i < lr_cnt T t) (hx : x = 0 ∨ x = 1) (nx : ∀ M1, M1 = up M t i k x → lr_W T S w d j n ls st M1 Q) : lr_W T S w d j pc ls (vi x :: vo t i :: st) M Q :=
  ri_put (x := x) hd hf hk hS hi (by show Value.int x = Value.int (upd (M t i) k x k); rw [show upd (M t i) k x k = x from if_pos rfl]) (by rcases hx with rfl | rfl <;> rfl) (by rcases hx with rfl | rfl <;> rfl) nx
theorem ri_putV {idx ci k t i t' i' : Nat} {C : String} (hd : lr_F j pc (.putfield idx) 3 n) (hf : lr_FP j.1.cls idx ci k (.object C)) (hk : lr_fk T t ci k = some (3, t', 0)) (hS : S t = false) (hi : i < lr_cnt T t) (hb : (nI i').toNatClampNeg = i') (nx : ∀ M1, M1 = up M t i k (nI i') → lr_W T S w d j n ls st M1 Q) : lr_W T S w d j pc ls (vo t' i' :: vo t i :: st) M Q :=
  ri_put (x := nI i') hd hf hk hS hi (by show Value.ref (wdA w t' i') = Value.ref (wdA w t' (upd (M t i) k (nI i') k).toNatClampNeg); rw [show upd (M t i) k (nI i') k = nI i' from if_pos rfl, hb]) rfl rfl nx
end RJ
