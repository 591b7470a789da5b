/-! texts: what they compute; class: Law.value, says -/
abbrev Op := Nat × Nat
def opOk (o : Op) : Prop := (o.1 = 0 ∧ o.2 ≤ 9999) ∨ (o.1 = 1 ∧ o.2 ≤ 5) ∨ (o.1 = 2 ∧ o.2 ≤ 1) ∨ (o.1 = 3 ∧ o.2 ≤ 6)
def unF (k : Nat) (v : Int32) : Int32 := if k = 0 then (if v = 0 then 1 else 0) else -v
def binF (k : Nat) (a b : Int32) : Int32 := match k with
  | 0 => if a ≠ 0 ∨ b ≠ 0 then 1 else 0
  | 1 => if a ≠ 0 ∧ b ≠ 0 then 1 else 0
  | 2 => if a < b then 1 else 0
  | 3 => if a = b then 1 else 0
  | 4 => a + b
  | 5 => a - b
  | _ => a * b
def opSt (nm : Nat → Int32) (o : Op) (st : List Int32) : List Int32 := match o.1 with
  | 0 => nI o.2 :: st
  | 1 => nm o.2 :: st
  | 2 => match st with
    | v :: r => unF o.2 v :: r
    | [] => []
  | _ => match st with
    | b :: a :: r => binF o.2 a b :: r
    | s => s
def evA (nm : Nat → Int32) : List Op → List Int32 → Int32
  | [], st => st.headD 0
  | o :: os, st => evA nm os (opSt nm o st)
def wfd (mx : Nat) : List Op → Nat → Prop
  | [], n => n = 1
  | o :: os, n => opOk o ∧ match o.1 with
    | 0 => n < mx ∧ wfd mx os (n + 1)
    | 1 => n < mx ∧ wfd mx os (n + 1)
    | 2 => 1 ≤ n ∧ wfd mx os n
    | _ => 2 ≤ n ∧ wfd mx os (n - 1)
def opc (k : Nat) : Int32 := match k with
  | 0 => 7
  | 1 => 8
  | 2 => 60
  | 3 => 61
  | 4 => 43
  | 5 => 45
  | _ => 42
def tkC (o : Op) : Int32 := match o.1 with
  | 0 => - nI o.2
  | 1 => nI (10 + o.2)
  | 2 => if o.2 = 0 then 9 else 126
  | _ => opc o.2
def encC (o : Op) : Int32 := - tkC o
/-- who is asked: kind, more, height, strong; rust, saved -/
abbrev Vw := (Nat → Int32) × (Nat → Int32) × (Nat → Int32) × (Nat → Int32) × Int32 × Int32
def nmV (V : Vw) (q : Nat) (rung : Int32) : Nat → Int32
  | 0 => V.2.2.1 q
  | 1 => V.2.2.2.1 q
  | 2 => V.2.2.2.2.1
  | 3 => rung
  | 4 => V.2.2.2.2.2
  | _ => V.2.1 q
def vwC (M : Mem) (c : Nat) : Vw := (M 2 c, M 3 c, M 4 c, M 5 c, M 1 c 8, M 1 c 7)
theorem ok_X1_named {w : Wd} {d : Nat} {M : Mem} {c q k : Nat} {S : Nat → Bool} (hS : ∀ t, t < 11 → S t = false) (hc : c < 3) (hq : q < 8) (hk : k ≤ 5) (rung tk : Int32) (htk : tk = nI (10 + k)) : lr_Ok tC S w d jX1_named [vi tk, vo 1 c, vi (nI q), vi rung] M (qI (nmV (vwC M c) q rung k) M) := by
  refine lr_ok (ls := [some (vi tk), some (vo 1 c), some (vi (nI q)), some (vi rung)]) (by decide +kernel) rfl ?_
  have hin : vp_in (nI q) 8 := vp_in_nI hq (by decide)
  have hkk : k = 0 ∨ k = 1 ∨ k = 2 ∨ k = 3 ∨ k = 4 ∨ k = 5 := by omega
  have e1 := hS 1 (by decide)
  have e3 := hS 3 (by decide)
  have e4 := hS 4 (by decide)
  have e5 := hS 5 (by decide)
  rcases hkk with rfl | rfl | rfl | rfl | rfl | rfl
  all_goals
    refine ri_ild a_X1_named_0 rfl ?_
    refine ri_tsw a_X1_named_1 ⟨fun zc1 => ?_, fun zc1 => ?_, fun zc1 => ?_, fun zc1 => ?_, fun zc1 => ?_, trivial⟩ (fun zc1 => ?_)
    · replace zc1 : tk = 10 := zc1.trans (by decide)
      refine ri_ald a_X1_named_36 rfl ?_
      refine ri_getR (t' := 4) (i' := c) a_X1_named_37 fl_X1_39 kC_1_2 e1 (iC_1 (by assumption)) (Or.inl ⟨rfl, rfl, rfl⟩) ?_
      refine ri_ild a_X1_named_40 rfl ?_
      refine ri_iaload a_X1_named_41 lC_4 e4 (iC_4 (by assumption)) hin ?_
      refine ri_ireturn a_X1_named_42 rfl rfl ?_
      first | exact rI (by rw [nI_clamp (by omega)]; rfl) rfl | exact rI rfl rfl | (subst htk; exact absurd zc1 (by decide)) | (subst htk; exact absurd zc1 (by decide +kernel))
    · replace zc1 : tk = 11 := zc1.trans (by decide)
      refine ri_ald a_X1_named_43 rfl ?_
      refine ri_getR (t' := 5) (i' := c) a_X1_named_44 fl_X1_44 kC_1_3 e1 (iC_1 (by assumption)) (Or.inl ⟨rfl, rfl, rfl⟩) ?_
      refine ri_ild a_X1_named_47 rfl ?_
      refine ri_iaload a_X1_named_48 lC_5 e5 (iC_5 (by assumption)) hin ?_
      refine ri_ireturn a_X1_named_49 rfl rfl ?_
      first | exact rI (by rw [nI_clamp (by omega)]; rfl) rfl | exact rI rfl rfl | (subst htk; exact absurd zc1 (by decide)) | (subst htk; exact absurd zc1 (by decide +kernel))
    · replace zc1 : tk = 12 := zc1.trans (by decide)
      refine ri_ald a_X1_named_50 rfl ?_
      refine ri_getI a_X1_named_51 fl_X1_47 kC_1_8 e1 (iC_1 (by assumption)) ?_
      refine ri_ireturn a_X1_named_54 rfl rfl ?_
      first | exact rI (by rw [nI_clamp (by omega)]; rfl) rfl | exact rI rfl rfl | (subst htk; exact absurd zc1 (by decide)) | (subst htk; exact absurd zc1 (by decide +kernel))
    · replace zc1 : tk = 13 := zc1.trans (by decide)
      refine ri_ild a_X1_named_55 rfl ?_
      refine ri_ireturn a_X1_named_56 rfl rfl ?_
      first | exact rI (by rw [nI_clamp (by omega)]; rfl) rfl | exact rI rfl rfl | (subst htk; exact absurd zc1 (by decide)) | (subst htk; exact absurd zc1 (by decide +kernel))
    · replace zc1 : tk = 14 := zc1.trans (by decide)
      refine ri_ald a_X1_named_57 rfl ?_
      refine ri_getI a_X1_named_58 fl_X1_50 kC_1_7 e1 (iC_1 (by assumption)) ?_
      refine ri_ireturn a_X1_named_61 rfl rfl ?_
      first | exact rI (by rw [nI_clamp (by omega)]; rfl) rfl | exact rI rfl rfl | (subst htk; exact absurd zc1 (by decide)) | (subst htk; exact absurd zc1 (by decide +kernel))
    · refine ri_ald a_X1_named_62 rfl ?_
      refine ri_getR (t' := 3) (i' := c) a_X1_named_63 fl_X1_53 kC_1_1 e1 (iC_1 (by assumption)) (Or.inl ⟨rfl, rfl, rfl⟩) ?_
      refine ri_ild a_X1_named_66 rfl ?_
      refine ri_iaload a_X1_named_67 lC_3 e3 (iC_3 (by assumption)) hin ?_
      refine ri_ireturn a_X1_named_68 rfl rfl ?_
      first | exact rI (by rw [nI_clamp (by omega)]; rfl) rfl | exact rI rfl rfl | (subst htk; exact absurd zc1 (by decide)) | (subst htk; exact absurd zc1 (by decide +kernel))
def joinC (tk a b : Int32) : Int32 := if tk = 8 then (if a ≠ 0 ∧ b ≠ 0 then 1 else 0) else if tk = 42 then a * b else if tk = 43 then a + b else if tk = 45 then a - b else if tk = 60 then (if a < b then 1 else 0) else if tk = 61 then (if a = b then 1 else 0) else (if a ≠ 0 ∨ b ≠ 0 then 1 else 0)
theorem joinN {tk : Int32} (zc1 : ∀ q ∈ ([(8, 94), (42, 60), (43, 64), (45, 68), (60, 72), (61, 83)] : List (Int × Nat)), tk.toInt ≠ q.1) : ¬ tk = 8 ∧ ¬ tk = 42 ∧ ¬ tk = 43 ∧ ¬ tk = 45 ∧ ¬ tk = 60 ∧ ¬ tk = 61 :=
  ⟨fun e => zc1 (8, 94) (by decide) (by rw [e]; decide), fun e => zc1 (42, 60) (by decide) (by rw [e]; decide), fun e => zc1 (43, 64) (by decide) (by rw [e]; decide), fun e => zc1 (45, 68) (by decide) (by rw [e]; decide), fun e => zc1 (60, 72) (by decide) (by rw [e]; decide), fun e => zc1 (61, 83) (by decide) (by rw [e]; decide)⟩
theorem ok_X1_joined {T : Tb} {S : Nat → Bool} {w : Wd} {d : Nat} {M : Mem} (tk a b : Int32) : lr_Ok T S w d jX1_joined [vi tk, vi a, vi b] M (qI (joinC tk a b) M) := by
  refine lr_ok (ls := [some (vi tk), some (vi a), some (vi b)]) (by decide +kernel) rfl ?_
  refine ri_ild a_X1_joined_0 rfl ?_
  refine ri_lsw a_X1_joined_1 ⟨fun zc1 => ?_, fun zc1 => ?_, fun zc1 => ?_, fun zc1 => ?_, fun zc1 => ?_, fun zc1 => ?_, trivial⟩ (fun zc1 => ?_)
  · replace zc1 : tk = 8 := zc1.trans (by decide)
    refine ri_ild a_X1_joined_94 rfl ?_
    refine ri_if_eq a_X1_joined_95 (fun zc2 => ?_) (fun zc2 => ?_)
    · refine ri_ic a_X1_joined_106 ?_
      refine ri_ireturn a_X1_joined_107 rfl rfl ?_
      first | (subst zc1; refine rI ?_ rfl; simp [joinC, *]; done) | (refine rI ?_ rfl; have g := joinN zc1; simp [joinC, *]; done)
    · refine ri_ild a_X1_joined_98 rfl ?_
      refine ri_if_eq a_X1_joined_99 (fun zc3 => ?_) (fun zc3 => ?_)
      · refine ri_ic a_X1_joined_106 ?_
        refine ri_ireturn a_X1_joined_107 rfl rfl ?_
        first | (subst zc1; refine rI ?_ rfl; simp [joinC, *]; done) | (refine rI ?_ rfl; have g := joinN zc1; simp [joinC, *]; done)
      · refine ri_ic a_X1_joined_102 ?_
        refine ri_goto a_X1_joined_103 ?_
        refine ri_ireturn a_X1_joined_107 rfl rfl ?_
        first | (subst zc1; refine rI ?_ rfl; simp [joinC, *]; done) | (refine rI ?_ rfl; have g := joinN zc1; simp [joinC, *]; done)
  · replace zc1 : tk = 42 := zc1.trans (by decide)
    refine ri_ild a_X1_joined_60 rfl ?_
    refine ri_ild a_X1_joined_61 rfl ?_
    refine ri_imul a_X1_joined_62 ?_
    refine ri_ireturn a_X1_joined_63 rfl rfl ?_
    first | (subst zc1; refine rI ?_ rfl; simp [joinC, *]; done) | (refine rI ?_ rfl; have g := joinN zc1; simp [joinC, *]; done)
  · replace zc1 : tk = 43 := zc1.trans (by decide)
    refine ri_ild a_X1_joined_64 rfl ?_
    refine ri_ild a_X1_joined_65 rfl ?_
    refine ri_iadd a_X1_joined_66 ?_
    refine ri_ireturn a_X1_joined_67 rfl rfl ?_
    first | (subst zc1; refine rI ?_ rfl; simp [joinC, *]; done) | (refine rI ?_ rfl; have g := joinN zc1; simp [joinC, *]; done)
  · replace zc1 : tk = 45 := zc1.trans (by decide)
    refine ri_ild a_X1_joined_68 rfl ?_
    refine ri_ild a_X1_joined_69 rfl ?_
    refine ri_isub a_X1_joined_70 ?_
    refine ri_ireturn a_X1_joined_71 rfl rfl ?_
    first | (subst zc1; refine rI ?_ rfl; simp [joinC, *]; done) | (refine rI ?_ rfl; have g := joinN zc1; simp [joinC, *]; done)
  · replace zc1 : tk = 60 := zc1.trans (by decide)
    refine ri_ild a_X1_joined_72 rfl ?_
    refine ri_ild a_X1_joined_73 rfl ?_
    refine ri_icmp_ge a_X1_joined_74 (fun zc4 => ?_) (fun zc4 => ?_)
    · refine ri_ic a_X1_joined_81 ?_
      refine ri_ireturn a_X1_joined_82 rfl rfl ?_
      first | (subst zc1; refine rI ?_ rfl; simp [joinC, *]; done) | (refine rI ?_ rfl; have g := joinN zc1; simp [joinC, *]; done)
    · refine ri_ic a_X1_joined_77 ?_
      refine ri_goto a_X1_joined_78 ?_
      refine ri_ireturn a_X1_joined_82 rfl rfl ?_
      first | (subst zc1; refine rI ?_ rfl; simp [joinC, *]; done) | (refine rI ?_ rfl; have g := joinN zc1; simp [joinC, *]; done)
  · replace zc1 : tk = 61 := zc1.trans (by decide)
    refine ri_ild a_X1_joined_83 rfl ?_
    refine ri_ild a_X1_joined_84 rfl ?_
    refine ri_icmp_ne a_X1_joined_85 (fun zc5 => ?_) (fun zc5 => ?_)
    · refine ri_ic a_X1_joined_92 ?_
      refine ri_ireturn a_X1_joined_93 rfl rfl ?_
      first | (subst zc1; refine rI ?_ rfl; simp [joinC, *]; done) | (refine rI ?_ rfl; have g := joinN zc1; simp [joinC, *]; done)
    · refine ri_ic a_X1_joined_88 ?_
      refine ri_goto a_X1_joined_89 ?_
      refine ri_ireturn a_X1_joined_93 rfl rfl ?_
      first | (subst zc1; refine rI ?_ rfl; simp [joinC, *]; done) | (refine rI ?_ rfl; have g := joinN zc1; simp [joinC, *]; done)
  · refine ri_ild a_X1_joined_108 rfl ?_
    refine ri_if_ne a_X1_joined_109 (fun zc6 => ?_) (fun zc6 => ?_)
    · refine ri_ic a_X1_joined_116 ?_
      refine ri_goto a_X1_joined_117 ?_
      refine ri_ireturn a_X1_joined_121 rfl rfl ?_
      first | (subst zc1; refine rI ?_ rfl; simp [joinC, *]; done) | (refine rI ?_ rfl; have g := joinN zc1; simp [joinC, *]; done)
    · refine ri_ild a_X1_joined_112 rfl ?_
      refine ri_if_eq a_X1_joined_113 (fun zc7 => ?_) (fun zc7 => ?_)
      · refine ri_ic a_X1_joined_120 ?_
        refine ri_ireturn a_X1_joined_121 rfl rfl ?_
        first | (subst zc1; refine rI ?_ rfl; simp [joinC, *]; done) | (refine rI ?_ rfl; have g := joinN zc1; simp [joinC, *]; done)
      · refine ri_ic a_X1_joined_116 ?_
        refine ri_goto a_X1_joined_117 ?_
        refine ri_ireturn a_X1_joined_121 rfl rfl ?_
        first | (subst zc1; refine rI ?_ rfl; simp [joinC, *]; done) | (refine rI ?_ rfl; have g := joinN zc1; simp [joinC, *]; done)
theorem joinC_opc {k : Nat} (h : k ≤ 6) (a b : Int32) : joinC (opc k) a b = binF k a b := by
  have hkk : k = 0 ∨ k = 1 ∨ k = 2 ∨ k = 3 ∨ k = 4 ∨ k = 5 ∨ k = 6 := by omega
  rcases hkk with rfl | rfl | rfl | rfl | rfl | rfl | rfl <;> rfl

