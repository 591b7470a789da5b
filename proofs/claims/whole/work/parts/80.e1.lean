/-! both: views that agree as far as the n persons there are -/
def vag (n : Nat) (V V' : Vw) : Prop := (∀ q, q < n → V.1 q = V'.1 q ∧ V.2.1 q = V'.2.1 q ∧ V.2.2.1 q = V'.2.2.1 q ∧ V.2.2.2.1 q = V'.2.2.2.1 q) ∧ V.2.2.2.2 = V'.2.2.2.2
def fag (n : Nat) (F F' : Nat → Int32) : Prop := ∀ q, q < n → F q = F' q
abbrev rin (R : Nat → Nat) (m n : Nat) : Prop := ∀ i, i < m → R i < n
theorem vag_sym {n : Nat} {V V' : Vw} (h : vag n V V') : vag n V' V := ⟨fun q hq => ⟨(h.1 q hq).1.symm, (h.1 q hq).2.1.symm, (h.1 q hq).2.2.1.symm, (h.1 q hq).2.2.2.symm⟩, h.2.symm⟩
theorem ag_nm {n : Nat} {V V' : Vw} (h : vag n V V') {q : Nat} (hq : q < n) (rung : Int32) : nmV V q rung = nmV V' q rung := by
  obtain ⟨h1, h2⟩ := h
  obtain ⟨a, b, c, d⟩ := h1 q hq
  funext k
  match k with
  | 0 => exact c
  | 1 => exact d
  | 2 => exact congrArg Prod.fst h2
  | 3 => rfl
  | 4 => exact congrArg Prod.snd h2
  | _ + 5 => exact b
theorem ag_say {L : List (List Op)} {n : Nat} {V V' : Vw} (h : vag n V V') {q : Nat} (hq : q < n) (pt : Nat) (rung : Int32) : sayV L V pt q rung = sayV L V' pt q rung := by
  unfold sayV
  rw [ag_nm h hq]
theorem ag_ris {L : List (List Op)} {n : Nat} {V V' : Vw} (h : vag n V V') {q : Nat} (hq : q < n) (rung : Int32) : risV L V q rung = risV L V' q rung := by
  obtain ⟨a, b, c, d⟩ := h.1 q hq
  unfold risV
  rw [ag_say h hq, a, b, h.2]
theorem ag_bea {L : List (List Op)} {n : Nat} {V V' : Vw} (h : vag n V V') {q : Nat} (hq : q < n) (rung : Int32) : beaV L V q rung = beaV L V' q rung := by
  obtain ⟨a, b, c, d⟩ := h.1 q hq
  unfold beaV
  rw [ag_say h hq, a, b]
theorem ag_wei {n : Nat} {V V' : Vw} (h : vag n V V') {q : Nat} (hq : q < n) : weiV V q = weiV V' q := by
  obtain ⟨a, b, c, d⟩ := h.1 q hq
  unfold weiV
  rw [a, c]
theorem ag_hi {L : List (List Op)} {n : Nat} {V V' : Vw} (h : vag n V V') {R : Nat → Nat} : ∀ m, rin R m n → hiS L V R m = hiS L V' R m := by
  intro m
  induction m with
  | zero => intro _; rfl
  | succ m ih =>
    intro hR
    rw [hiS, hiS, ih (fun i hi => hR i (by omega)), ag_ris h (hR m (by omega))]
theorem ag_wks {L : List (List Op)} {n : Nat} {V V' : Vw} {F F' : Nat → Int32} (h : vag n V V') (hF : fag n F F') {R : Nat → Nat} : ∀ m s, rin R m n → wkS L V F R m s = wkS L V' F' R m s := by
  intro m
  induction m with
  | zero => intro s _; rfl
  | succ m ih =>
    intro s hR
    have hq := hR m (by omega)
    have e : wkT L V F R m s = wkT L V' F' R m s := by
      unfold wkT
      rw [ag_bea h hq, ag_wei h hq, hF _ hq]
    rw [wkS, wkS, e, ih _ (fun i hi => hR i (by omega))]
theorem ag_wk {L : List (List Op)} {n : Nat} {V V' : Vw} {F F' : Nat → Int32} (h : vag n V V') (hF : fag n F F') {R : Nat → Nat} {m : Nat} (hR : rin R m n) : wkV L V F R m = wkV L V' F' R m := by
  unfold wkV
  rw [ag_wks h hF m _ hR]
theorem ag_wl {n : Nat} {V V' : Vw} (h : vag n V V') {R : Nat → Nat} : ∀ m, rin R m n → wlS V R m = wlS V' R m := by
  intro m
  induction m with
  | zero => intro _; rfl
  | succ m ih =>
    intro hR
    rw [wlS, wlS, ih (fun i hi => hR i (by omega)), ag_wei h (hR m (by omega))]
theorem ag_mea {L : List (List Op)} {n : Nat} {V V' : Vw} {F F' : Nat → Int32} (h : vag n V V') (hF : fag n F F') {R : Nat → Nat} {m : Nat} (hR : rin R m n) (what : Int32) : meaV L V F R m what = meaV L V' F' R m what := by
  unfold meaV
  rw [ag_hi h m hR, ag_wk h hF hR, ag_wl h m hR]
theorem ag_fo {L : List (List Op)} {n : Nat} {V V' : Vw} {O : Nat → Nat} {g g' : Nat → Int32} (h : vag n V V') : ∀ r i x, (∀ j, j < i + r → O j < n) → (∀ j, j < i + r → g j = g' j) → foF L V O g r i x = foF L V' O g' r i x := by
  intro r
  induction r with
  | zero => intro i x _ _; rfl
  | succ r ih =>
    intro i x hO hg
    rw [foF, foF, ag_ris h (hO i (by omega)), hg i (by omega), ih (i + 1) _ (fun j hj => hO j (by omega)) (fun j hj => hg j (by omega))]
theorem ag_fit {L : List (List Op)} {n : Nat} {V V' : Vw} {g g' : Nat → Int32} (h : vag n V V') {p r : Nat} (hp : p < n) (hg : ∀ j, j ≤ r → g j = g' j) : fitF L V g p r ↔ fitF L V' g' p r := by
  unfold fitF
  rw [ag_ris h hp, hg r (Nat.le_refl _), hg (r - 1) (by omega)]
theorem ag_dr {L : List (List Op)} {n : Nat} {V V' : Vw} {O : Nat → Nat} (h : vag n V V') : ∀ r i x acc, (∀ j, j < i + r → O j < n) → drL L V O r i x acc = drL L V' O r i x acc := by
  intro r
  induction r with
  | zero => intro i x acc _; rfl
  | succ r ih =>
    intro i x acc hO
    rw [drL, drL, ag_say h (hO i (by omega)), ih (i + 1) _ _ (fun j hj => hO j (by omega)), ih (i + 1) _ _ (fun j hj => hO j (by omega))]
theorem ag_co {L : List (List Op)} {n : Nat} {V V' : Vw} {O : Nat → Nat} (h : vag n V V') : ∀ k, rin O k n → coN L V O k = coN L V' O k := by
  intro k
  induction k with
  | zero => intro _; rfl
  | succ k ih =>
    intro hO
    rw [coN, coN, ih (fun i hi => hO i (by omega)), ag_say h (hO k (by omega))]
theorem dr_in {L : List (List Op)} {V : Vw} {O : Nat → Nat} {n : Nat} : ∀ r i x acc, (∀ j, j < i + r → O j < n) → (∀ q ∈ acc, q < n) → ∀ q ∈ drL L V O r i x acc, q < n := by
  intro r
  induction r with
  | zero => intro i x acc _ h q hq; exact h q hq
  | succ r ih =>
    intro i x acc hO h
    have h2 : ∀ q ∈ acc ++ [O i], q < n := fun q hq => by
      rcases List.mem_append.1 hq with z | z
      · exact h q z
      · rw [List.mem_singleton.1 z]; exact hO i (by omega)
    rw [drL]
    split
    · exact ih (i + 1) _ _ (fun j hj => hO j (by omega)) h2
    · exact ih (i + 1) _ _ (fun j hj => hO j (by omega)) h

