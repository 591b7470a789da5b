/-! reference: an expression is read -/
/-- the tape, the words, what has come: between expressions -/
def bsN (tp : Nat → Int32) (n tc : Nat) (N : Mem) (acc : List Op) : Prop := N 0 0 12 = nI tc ∧ wdN N ∧ N 6 0 = tp ∧ N 0 0 9 = nI n ∧ N 0 0 29 = nI acc.length ∧ ∀ i o, acc[i]? = some o → N 7 0 (200 * tc + i) = encM o
theorem edN_bs {tp : Nat → Int32} {n tc : Nat} {N : Mem} {K : List Nat} {acc : List Op} (h : edN tp n tc N K acc) : bsN tp n tc N acc := by
  obtain ⟨a1, a2, a3, a4, a5, a6, a7, a8, a9, a10⟩ := h
  exact ⟨a1, a2, a3, a4, a9, a10⟩
def b01 (b : Bool) : Int32 := if b = true then 1 else 0
theorem rk_all : ∀ t ∈ TL, (¬ rkT t = 1) ∧ (rkT t = 2 ↔ t.1 = 3 ∧ 6 ≤ t.2) ∧ (rkT t = 6 ↔ t = (3, 5)) ∧ (rkT t = 45 ↔ t = (4, 45)) ∧ (rkT t = 40 ↔ t = (4, 40)) ∧ (rkT t = 59 ↔ t = (4, 59)) ∧ (rkT t = 41 ↔ t = (4, 41)) ∧ (rkT t = 0 ↔ t = (0, 0)) ∧ (rkT t = 3 ↔ t.1 = 3 ∧ t.2 < 3) := by decide +kernel
theorem rk_num {t : Tok} (ht : okT t) : rkT t = 1 ↔ t.1 = 2 := by
  rcases TL_ok ht with h | h
  · exact ⟨fun _ => h, fun _ => rkT_2 h⟩
  · exact ⟨fun e => absurd e (rk_all t h).1, fun e => rkT_2 e⟩
theorem rk_is {t : Tok} (ht : okT t) : (rkT t = 2 ↔ t.1 = 3 ∧ 6 ≤ t.2) ∧ (rkT t = 6 ↔ t = (3, 5)) ∧ (rkT t = 45 ↔ t = (4, 45)) ∧ (rkT t = 40 ↔ t = (4, 40)) ∧ (rkT t = 59 ↔ t = (4, 59)) ∧ (rkT t = 41 ↔ t = (4, 41)) ∧ (rkT t = 0 ↔ t = (0, 0)) ∧ (rkT t = 3 ↔ t.1 = 3 ∧ t.2 < 3) := by
  rcases TL_ok ht with h | h
  · rw [rkT_2 h]
    obtain ⟨a, b⟩ := t
    have h : a = 2 := h
    subst h
    refine ⟨⟨fun e => absurd e (by decide), fun e => absurd (show (2 : Nat) = 3 from e.1) (by decide)⟩, ?_, ?_, ?_, ?_, ?_, ?_, ⟨fun e => absurd e (by decide), fun e => absurd (show (2 : Nat) = 3 from e.1) (by decide)⟩⟩
    all_goals exact ⟨fun e => absurd e (by decide), fun e => absurd (show (2 : Nat) = _ from congrArg Prod.fst e) (by decide)⟩
  · exact (rk_all t h).2
theorem unw_tpr {r : Nat} : ∀ (K : List Nat) (o : List Op), tpr (unw r K o).1 r := by
  intro K
  induction K with
  | nil => intro o; exact trivial
  | cons h t ih =>
    intro o
    rw [unw]
    split
    · exact ih _
    · unfold tpr
      dsimp only
      omega
theorem rk_0 {h : Nat} (hh : hdO h) (e : rk h < 1) : h = 0 := by
  rcases hdO_c hh with rfl | rfl | rfl | rfl | rfl | rfl | rfl | rfl | rfl | rfl
  · rfl
  all_goals exact absurd e (by decide)
def erQ (tp : Nat → Int32) (n tc : Nat) (N0 : Mem) (acc0 : List Op) (res : PR) (r : Int32) (N' : Mem) : Prop := match res with
  | .inl p => r = 0 ∧ p ≤ n ∧ N' 0 0 22 = nI p ∧ frE tc N0 N'
  | .inr x => r = 1 ∧ okS n x.1 ∧ okT x.1.1 ∧ rtN N' x.1 ∧ bsN tp n tc N' (acc0 ++ x.2) ∧ frE tc N0 N' ∧ (acc0 ++ x.2).length ≤ x.1.2.1
theorem lp_eRead {w : Wd} {d : Nat} (hd : 3 ≤ d) {tp : Nat → Int32} {n tc : Nat} (hn2 : n ≤ 160) (ht6 : tc < 6) {N0 : Mem} {acc0 : List Op} : ∀ f (s : PS) (K : List Nat) (o : List Op) (b mn : Bool) (N : Mem) (j3 : Option AV), okS n s → okT s.1 → n + 2 ≤ f + s.2.1 → edN tp n tc N K (acc0 ++ o) → rtN N s → frE tc N0 N → (acc0 ++ o).length + K.length ≤ s.2.1 → lr_W tM sM w d jX7_eRead 18 [some (vo 0 0), some (vi (b01 b)), some (vi (b01 mn)), j3] [] N (qX fun r N' => erQ tp n tc N0 acc0 (qgo tp n f s K o b mn) r N') := by
  intro f
  induction f with
  | zero => intro s K o b mn N j3 hs _ hf; exact absurd hs.1 (by omega)
  | succ f ih =>
    intro s K o b mn N j3 hs ht hf he hr hfr hl
    have hsn := hs.1
    have hnx := pnx_ok tp hs
    have hnt := pnx_okT tp n s
    obtain ⟨r1, r2, r3, r4, r5, r6⟩ := id hr
    have hrk := rk_is ht
    rw [← r3] at hrk
    obtain ⟨q2, q6, q45, q40, q59, q41, q0, q3⟩ := hrk
    have q1 := rk_num ht
    rw [← r3] at q1
    have n0 : ∀ {t : Tok}, s.1 = t → t.1 ≠ 0 → s.1.1 ≠ 0 := fun e h => by rw [e]; exact h
    -- the next token, and on
    have go : ∀ (K' : List Nat) (o' : List Op) (b' mn' : Bool) (N1 : Mem) (j3 : Option AV), s.1.1 ≠ 0 → edN tp n tc N1 K' (acc0 ++ o') → N1 0 0 21 = nI s.2.2 → frE tc N0 N1 → (acc0 ++ o').length + K'.length ≤ s.2.1 + 1 → lr_W tM sM w d jX7_eRead 14 [some (vo 0 0), some (vi (b01 b')), some (vi (b01 mn')), j3] [] N1 (qX fun r N' => erQ tp n tc N0 acc0 (qgo tp n f (pnx tp n s) K' o' b' mn') r N') := by
      intro K' o' b' mn' N1 j3 h0 he1 h21 hf1 hl1
      have hlt := hs.2.2.2 h0
      have hgn := ok_X7_goesNext (w := w) (d := d - 1) (by omega) he1.2.1 he1.2.2.2.1 hn2 h21 hs.2.1
      rw [he1.2.2.1] at hgn
      refine ri_ald a_X7_eRead_14 rfl ?_
      refine ri_cVxv (as := []) (rest := []) (d' := d - 1) a_X7_eRead_15 mv_X7_goesNext ml_X7_155 (rcM_0 iM_0) (by omega) (hgn) (Nat.le_of_ble_eq_true rfl) rfl (fun zM11 hzM11 => ?_)
      exact ih (pnx tp n s) K' o' b' mn' zM11 j3 hnx.1 hnt (by omega) (edN_K hzM11.1 he1) hzM11.2 (frE_tr hf1 (frK_E hzM11.1)) (by omega)
    have bad : ∀ (Q : PR) (N1 : Mem), Q = .inl s.2.1 → frE tc N0 N1 → N1 0 0 22 = nI s.2.1 → erQ tp n tc N0 acc0 Q 0 N1 := by
      intro Q N1 hQ h1 h2
      rw [hQ]
      exact ⟨rfl, hsn, h2, h1⟩
    cases b
    case true =>
      -- a number or a word
      have val : ∀ op x, s.1.1 ≠ 0 → x = encM op → qgo tp n (f + 1) s K o true mn = qgo tp n f (pnx tp n s) (unw 7 K (o ++ [op])).1 (unw 7 K (o ++ [op])).2 false mn → lr_W tM sM w d jX7_eRead 61 [some (vo 0 0), some (vi 1), some (vi (b01 mn)), j3] [vi x, vo 0 0] N (qX fun r N' => erQ tp n tc N0 acc0 (qgo tp n (f + 1) s K o true mn) r N') := by
        intro op x h0 hx hq
        have hpl := hs.2.2.2 h0
        rw [hq]
        refine ri_cVxv (as := [vi x]) (rest := []) (d' := d - 1) a_X7_eRead_61 mv_X7_puts ml_X7_145 (rcM_0 iM_0) (by omega) (ok_X7_puts he.1 ht6 he.2.2.2.2.2.2.2.2.1 (by omega) x) (Nat.le_of_ble_eq_true rfl) rfl (fun zM11 hzM11 => ?_)
        refine ri_ald a_X7_eRead_64 rfl ?_
        refine ri_ic a_X7_eRead_65 ?_
        refine ri_cVxv (as := [vi 7]) (rest := []) (d' := d - 1) a_X7_eRead_67 mv_X7_unwinds ml_X7_152 (rcM_0 iM_0) (by omega) (ok_X7_unwinds (by omega) (tp := tp) (n := n) (tc := tc) (r := 7) ht6 (by decide) (by decide) K _ ((acc0 ++ o) ++ [op]) (ptM_ed he (by rw [← hx]; assumption)) (by simp only [List.length_append, List.length_cons, List.length_nil] at hl ⊢; omega)) (Nat.le_of_ble_eq_true rfl) rfl (fun zM12 hzM12 => ?_)
        refine ri_ic a_X7_eRead_70 ?_
        refine ri_istk (ls' := [some (vo 0 0), some (vi 0), some (vi (b01 mn)), j3]) a_X7_eRead_71 rfl ?_
        refine ri_goto a_X7_eRead_72 ?_
        have hp := @ptM_fr tc (acc0 ++ o).length N x (by omega)
        rw [← hzM11] at hp
        have hul := @unw_len 7 K (o ++ [op])
        rw [List.append_assoc, unw_app] at hzM12
        refine go _ _ false mn zM12 j3 h0 hzM12.2.2 (by rw [hzM12.2.1 21 (by decide) (by decide), hp.2 21 (by decide) (by decide)]; exact r1) (frE_tr hfr (frE_tr hp.1 hzM12.1)) ?_
        simp only [List.length_append, List.length_cons, List.length_nil] at hl hul ⊢
        omega
      -- a sign that opens
      have one := fun h (hh : h = 0 ∨ h = 13 ∨ h = 19) => ok_X7_opensOne (w := w) (d := d - 1) (by omega) he (by omega) hh
      have o13 : s.1.1 ≠ 0 → qgo tp n (f + 1) s K o true mn = (if opn K = 5 then .inl s.2.1 else qgo tp n f (pnx tp n s) (13 :: K) o true mn) → lr_W tM sM w d jX7_eRead 88 [some (vo 0 0), some (vi 1), some (vi (b01 mn)), j3] [] N (qX fun r N' => erQ tp n tc N0 acc0 (qgo tp n (f + 1) s K o true mn) r N') := by
        intro h0 hq
        rw [hq]
        have hone := one 13 (by decide)
        by_cases h5 : opn K = 5
        · rw [if_pos h5]
          simp only [if_pos h5] at hone
          refine ri_ald a_X7_eRead_88 rfl ?_
          refine ri_ic a_X7_eRead_89 ?_
          refine ri_cVxi (as := [vi 13]) (rest := []) (d' := d - 1) a_X7_eRead_91 mv_X7_opensOne ml_X7_159 (rcM_0 iM_0) (by omega) (hone) (Nat.le_of_ble_eq_true rfl) rfl (fun zy11 zM12 hzy11 => ?_)
          refine ri_if_ne a_X7_eRead_94 (fun zc13 => ?_) (fun zc13 => ?_)
          · first
            | exact rX (bad _ _ rfl (by rw [hzy11.2]; exact hfr) (by rw [hzy11.2]; exact r2))
            | exact absurd hzy11.1 zc13
          · refine ri_ic a_X7_eRead_97 ?_
            refine ri_ireturn a_X7_eRead_98 rfl (by decide) ?_
            first
            | exact rX (bad _ _ rfl (by rw [hzy11.2]; exact hfr) (by rw [hzy11.2]; exact r2))
            | exact absurd hzy11.1 zc13
        · rw [if_neg h5]
          simp only [if_neg h5] at hone
          refine ri_ald a_X7_eRead_88 rfl ?_
          refine ri_ic a_X7_eRead_89 ?_
          refine ri_cVxi (as := [vi 13]) (rest := []) (d' := d - 1) a_X7_eRead_91 mv_X7_opensOne ml_X7_159 (rcM_0 iM_0) (by omega) (hone) (Nat.le_of_ble_eq_true rfl) rfl (fun zy11 zM12 hzy11 => ?_)
          refine ri_if_ne a_X7_eRead_94 (fun zc13 => ?_) (fun zc13 => ?_)
          · first
            | exact absurd (hzy11.1.symm.trans zc13) (by decide)
            | exact absurd (hzy11.1.symm.trans zc13) (by decide)
            | exact go (13 :: K) o true mn _ j3 h0 hzy11.2.2.2 (by rw [hzy11.2.2.1 21 (by decide) (by decide)]; exact r1) (frE_tr hfr hzy11.2.1) (by simp only [List.length_cons]; omega)
          · refine ri_ic a_X7_eRead_97 ?_
            refine ri_ireturn a_X7_eRead_98 rfl (by decide) ?_
            first
            | exact absurd (hzy11.1.symm.trans zc13) (by decide)
            | exact absurd (hzy11.1.symm.trans zc13) (by decide)
            | exact go (13 :: K) o true mn _ j3 h0 hzy11.2.2.2 (by rw [hzy11.2.2.1 21 (by decide) (by decide)]; exact r1) (frE_tr hfr hzy11.2.1) (by simp only [List.length_cons]; omega)
      have o19 : s.1.1 ≠ 0 → qgo tp n (f + 1) s K o true mn = (if opn K = 5 then .inl s.2.1 else qgo tp n f (pnx tp n s) (19 :: K) o true false) → lr_W tM sM w d jX7_eRead 108 [some (vo 0 0), some (vi 1), some (vi (b01 mn)), j3] [] N (qX fun r N' => erQ tp n tc N0 acc0 (qgo tp n (f + 1) s K o true mn) r N') := by
        intro h0 hq
        rw [hq]
        have hone := one 19 (by decide)
        by_cases h5 : opn K = 5
        · rw [if_pos h5]
          simp only [if_pos h5] at hone
          refine ri_ald a_X7_eRead_108 rfl ?_
          refine ri_ic a_X7_eRead_109 ?_
          refine ri_cVxi (as := [vi 19]) (rest := []) (d' := d - 1) a_X7_eRead_111 mv_X7_opensOne ml_X7_159 (rcM_0 iM_0) (by omega) (hone) (Nat.le_of_ble_eq_true rfl) rfl (fun zy11 zM12 hzy11 => ?_)
          refine ri_if_ne a_X7_eRead_114 (fun zc13 => ?_) (fun zc13 => ?_)
          · refine ri_ic a_X7_eRead_119 ?_
            refine ri_istk (ls' := [some (vo 0 0), some (vi 1), some (vi 0), j3]) a_X7_eRead_120 rfl ?_
            refine ri_goto a_X7_eRead_121 ?_
            first
            | exact rX (bad _ _ rfl (by rw [hzy11.2]; exact hfr) (by rw [hzy11.2]; exact r2))
            | exact absurd hzy11.1 zc13
          · refine ri_ic a_X7_eRead_117 ?_
            refine ri_ireturn a_X7_eRead_118 rfl (by decide) ?_
            first
            | exact rX (bad _ _ rfl (by rw [hzy11.2]; exact hfr) (by rw [hzy11.2]; exact r2))
            | exact absurd hzy11.1 zc13
        · rw [if_neg h5]
          simp only [if_neg h5] at hone
          refine ri_ald a_X7_eRead_108 rfl ?_
          refine ri_ic a_X7_eRead_109 ?_
          refine ri_cVxi (as := [vi 19]) (rest := []) (d' := d - 1) a_X7_eRead_111 mv_X7_opensOne ml_X7_159 (rcM_0 iM_0) (by omega) (hone) (Nat.le_of_ble_eq_true rfl) rfl (fun zy11 zM12 hzy11 => ?_)
          refine ri_if_ne a_X7_eRead_114 (fun zc13 => ?_) (fun zc13 => ?_)
          · refine ri_ic a_X7_eRead_119 ?_
            refine ri_istk (ls' := [some (vo 0 0), some (vi 1), some (vi 0), j3]) a_X7_eRead_120 rfl ?_
            refine ri_goto a_X7_eRead_121 ?_
            first
            | exact absurd (hzy11.1.symm.trans zc13) (by decide)
            | exact absurd (hzy11.1.symm.trans zc13) (by decide)
            | exact go (19 :: K) o true false _ j3 h0 hzy11.2.2.2 (by rw [hzy11.2.2.1 21 (by decide) (by decide)]; exact r1) (frE_tr hfr hzy11.2.1) (by simp only [List.length_cons]; omega)
          · refine ri_ic a_X7_eRead_117 ?_
            refine ri_ireturn a_X7_eRead_118 rfl (by decide) ?_
            first
            | exact absurd (hzy11.1.symm.trans zc13) (by decide)
            | exact absurd (hzy11.1.symm.trans zc13) (by decide)
            | exact go (19 :: K) o true false _ j3 h0 hzy11.2.2.2 (by rw [hzy11.2.2.1 21 (by decide) (by decide)]; exact r1) (frE_tr hfr hzy11.2.1) (by simp only [List.length_cons]; omega)
      have o0 : s.1.1 ≠ 0 → qgo tp n (f + 1) s K o true mn = (if opn K = 5 then .inl s.2.1 else qgo tp n f (pnx tp n s) (0 :: K) o true true) → lr_W tM sM w d jX7_eRead 133 [some (vo 0 0), some (vi 1), some (vi (b01 mn)), j3] [] N (qX fun r N' => erQ tp n tc N0 acc0 (qgo tp n (f + 1) s K o true mn) r N') := by
        intro h0 hq
        rw [hq]
        have hone := one 0 (by decide)
        by_cases h5 : opn K = 5
        · rw [if_pos h5]
          simp only [if_pos h5] at hone
          refine ri_ald a_X7_eRead_133 rfl ?_
          refine ri_ic a_X7_eRead_134 ?_
          refine ri_cVxi (as := [vi 0]) (rest := []) (d' := d - 1) a_X7_eRead_135 mv_X7_opensOne ml_X7_159 (rcM_0 iM_0) (by omega) (hone) (Nat.le_of_ble_eq_true rfl) rfl (fun zy11 zM12 hzy11 => ?_)
          refine ri_if_ne a_X7_eRead_138 (fun zc13 => ?_) (fun zc13 => ?_)
          · refine ri_ic a_X7_eRead_143 ?_
            refine ri_istk (ls' := [some (vo 0 0), some (vi 1), some (vi 1), j3]) a_X7_eRead_144 rfl ?_
            refine ri_goto a_X7_eRead_145 ?_
            first
            | exact rX (bad _ _ rfl (by rw [hzy11.2]; exact hfr) (by rw [hzy11.2]; exact r2))
            | exact absurd hzy11.1 zc13
          · refine ri_ic a_X7_eRead_141 ?_
            refine ri_ireturn a_X7_eRead_142 rfl (by decide) ?_
            first
            | exact rX (bad _ _ rfl (by rw [hzy11.2]; exact hfr) (by rw [hzy11.2]; exact r2))
            | exact absurd hzy11.1 zc13
        · rw [if_neg h5]
          simp only [if_neg h5] at hone
          refine ri_ald a_X7_eRead_133 rfl ?_
          refine ri_ic a_X7_eRead_134 ?_
          refine ri_cVxi (as := [vi 0]) (rest := []) (d' := d - 1) a_X7_eRead_135 mv_X7_opensOne ml_X7_159 (rcM_0 iM_0) (by omega) (hone) (Nat.le_of_ble_eq_true rfl) rfl (fun zy11 zM12 hzy11 => ?_)
          refine ri_if_ne a_X7_eRead_138 (fun zc13 => ?_) (fun zc13 => ?_)
          · refine ri_ic a_X7_eRead_143 ?_
            refine ri_istk (ls' := [some (vo 0 0), some (vi 1), some (vi 1), j3]) a_X7_eRead_144 rfl ?_
            refine ri_goto a_X7_eRead_145 ?_
            first
            | exact absurd (hzy11.1.symm.trans zc13) (by decide)
            | exact absurd (hzy11.1.symm.trans zc13) (by decide)
            | exact go (0 :: K) o true true _ j3 h0 hzy11.2.2.2 (by rw [hzy11.2.2.1 21 (by decide) (by decide)]; exact r1) (frE_tr hfr hzy11.2.1) (by simp only [List.length_cons]; omega)
          · refine ri_ic a_X7_eRead_141 ?_
            refine ri_ireturn a_X7_eRead_142 rfl (by decide) ?_
            first
            | exact absurd (hzy11.1.symm.trans zc13) (by decide)
            | exact absurd (hzy11.1.symm.trans zc13) (by decide)
            | exact go (0 :: K) o true true _ j3 h0 hzy11.2.2.2 (by rw [hzy11.2.2.1 21 (by decide) (by decide)]; exact r1) (frE_tr hfr hzy11.2.1) (by simp only [List.length_cons]; omega)
      refine ri_ild a_X7_eRead_18 rfl ?_
      refine ri_if_eq a_X7_eRead_19 (fun zc21 => ?_) (fun zc21 => ?_)
      · exact absurd zc21 (by decide)
      · refine ri_ald a_X7_eRead_22 rfl ?_
        refine ri_getI a_X7_eRead_23 fl_X7_122 kM_0_23 rfl iM_0 ?_
        refine ri_ic a_X7_eRead_26 ?_
        refine ri_icmp_eq a_X7_eRead_27 (fun zc22 => ?_) (fun zc22 => ?_)
        · refine ri_ald a_X7_eRead_38 rfl ?_
          refine ri_ald a_X7_eRead_39 rfl ?_
          refine ri_getI a_X7_eRead_40 fl_X7_122 kM_0_23 rfl iM_0 ?_
          refine ri_ic a_X7_eRead_43 ?_
          refine ri_icmp_ne a_X7_eRead_44 (fun zc23 => ?_) (fun zc23 => ?_)
          · refine ri_ald a_X7_eRead_57 rfl ?_
            refine ri_getI a_X7_eRead_58 fl_X7_125 kM_0_24 rfl iM_0 ?_
            exact absurd zc22 zc23
          · refine ri_ic a_X7_eRead_47 ?_
            refine ri_ald a_X7_eRead_49 rfl ?_
            refine ri_getI a_X7_eRead_50 fl_X7_125 kM_0_24 rfl iM_0 ?_
            refine ri_iadd a_X7_eRead_53 ?_
            refine ri_goto a_X7_eRead_54 ?_
            have e := q1.1 zc22
            refine val (0, s.1.2) _ (by omega) ?_ (by rw [qgo, if_pos e])
            rw [r4 e, show (100000 : Int32) = nI 100000 from rfl, nI_add]
            rfl
        · refine ri_ald a_X7_eRead_30 rfl ?_
          refine ri_getI a_X7_eRead_31 fl_X7_122 kM_0_23 rfl iM_0 ?_
          refine ri_ic a_X7_eRead_34 ?_
          refine ri_icmp_ne a_X7_eRead_35 (fun zc24 => ?_) (fun zc24 => ?_)
          · refine ri_ald a_X7_eRead_75 rfl ?_
            refine ri_getI a_X7_eRead_76 fl_X7_122 kM_0_23 rfl iM_0 ?_
            refine ri_ic a_X7_eRead_79 ?_
            refine ri_icmp_ne a_X7_eRead_81 (fun zc25 => ?_) (fun zc25 => ?_)
            · refine ri_ald a_X7_eRead_99 rfl ?_
              refine ri_getI a_X7_eRead_100 fl_X7_122 kM_0_23 rfl iM_0 ?_
              refine ri_ic a_X7_eRead_103 ?_
              refine ri_icmp_ne a_X7_eRead_105 (fun zc26 => ?_) (fun zc26 => ?_)
              · refine ri_ald a_X7_eRead_124 rfl ?_
                refine ri_getI a_X7_eRead_125 fl_X7_122 kM_0_23 rfl iM_0 ?_
                refine ri_ic a_X7_eRead_128 ?_
                refine ri_icmp_ne a_X7_eRead_130 (fun zc27 => ?_) (fun zc27 => ?_)
                · refine ri_ic a_X7_eRead_148 ?_
                  refine ri_ireturn a_X7_eRead_149 rfl (by decide) ?_
                  refine rX (bad _ _ ?_ hfr r2)
                  rw [qgo, if_neg (fun z => zc22 (q1.2 z)), if_neg (fun z => zc24 (q2.2 z)), if_neg (fun z => zc25 (q6.2 z.1)), if_neg (fun z => zc26 (q45.2 z)), if_neg (fun z => zc27 (q40.2 z))]
                · refine o0 (n0 (q40.1 zc27) (by decide)) ?_
                  rw [qgo, if_neg (fun z => zc22 (q1.2 z)), if_neg (fun z => zc24 (q2.2 z)), if_neg (fun z => zc25 (q6.2 z.1)), if_neg (fun z => zc26 (q45.2 z)), if_pos (q40.1 zc27)]
              · refine o19 (n0 (q45.1 zc26) (by decide)) ?_
                rw [qgo, if_neg (fun z => zc22 (q1.2 z)), if_neg (fun z => zc24 (q2.2 z)), if_neg (fun z => zc25 (q6.2 z.1)), if_pos (q45.1 zc26)]
            · refine ri_ild a_X7_eRead_84 rfl ?_
              refine ri_if_eq a_X7_eRead_85 (fun zc28 => ?_) (fun zc28 => ?_)
              · refine ri_ald a_X7_eRead_99 rfl ?_
                refine ri_getI a_X7_eRead_100 fl_X7_122 kM_0_23 rfl iM_0 ?_
                refine ri_ic a_X7_eRead_103 ?_
                refine ri_icmp_ne a_X7_eRead_105 (fun zc29 => ?_) (fun zc29 => ?_)
                · refine ri_ald a_X7_eRead_124 rfl ?_
                  refine ri_getI a_X7_eRead_125 fl_X7_122 kM_0_23 rfl iM_0 ?_
                  refine ri_ic a_X7_eRead_128 ?_
                  refine ri_icmp_ne a_X7_eRead_130 (fun zc30 => ?_) (fun zc30 => ?_)
                  · refine ri_ic a_X7_eRead_148 ?_
                    refine ri_ireturn a_X7_eRead_149 rfl (by decide) ?_
                    refine rX (bad _ _ ?_ hfr r2)
                    have hmn : mn ≠ true := fun z => by rw [z] at zc28; exact absurd zc28 (by decide)
                    rw [qgo, if_neg (fun z => zc22 (q1.2 z)), if_neg (fun z => zc24 (q2.2 z)), if_neg (fun z => hmn z.2), if_neg (fun z => zc29 (q45.2 z)), if_neg (fun z => zc30 (q40.2 z))]
                  · exact absurd (zc25.symm.trans zc30) (by decide)
                · exact absurd (zc25.symm.trans zc29) (by decide)
              · have hmn : mn = true := by
                  cases mn
                  · exact absurd rfl zc28
                  · rfl
                refine o13 (n0 (q6.1 zc25) (by decide)) ?_
                rw [qgo, if_neg (fun z => zc22 (q1.2 z)), if_neg (fun z => zc24 (q2.2 z)), if_pos ⟨q6.1 zc25, hmn⟩]
          · refine ri_ald a_X7_eRead_38 rfl ?_
            refine ri_ald a_X7_eRead_39 rfl ?_
            refine ri_getI a_X7_eRead_40 fl_X7_122 kM_0_23 rfl iM_0 ?_
            refine ri_ic a_X7_eRead_43 ?_
            refine ri_icmp_ne a_X7_eRead_44 (fun zc31 => ?_) (fun zc31 => ?_)
            · refine ri_ald a_X7_eRead_57 rfl ?_
              refine ri_getI a_X7_eRead_58 fl_X7_125 kM_0_24 rfl iM_0 ?_
              have e := q2.1 zc24
              refine val (1, s.1.2 - 6) _ (by omega) ?_ (by rw [qgo, if_neg (by omega), if_pos e])
              rw [r6 e.1 e.2]
              rfl
            · refine ri_ic a_X7_eRead_47 ?_
              refine ri_ald a_X7_eRead_49 rfl ?_
              refine ri_getI a_X7_eRead_50 fl_X7_125 kM_0_24 rfl iM_0 ?_
              refine ri_iadd a_X7_eRead_53 ?_
              refine ri_goto a_X7_eRead_54 ?_
              exact absurd zc31 zc22
    case false =>
      have hul := @unw_len 1 K o
      have hun := fun hd => ok_X7_unwinds (w := w) (d := d - 1) hd ht6 (r := 1) (by decide) (by decide) K N (acc0 ++ o) he (by omega)
      rw [unw_app] at hun
      have htop := @unw_tpr 1 K o
      generalize hU : unw 1 K o = U at hul hun htop
      simp only [List.length_append] at hl
      have e27 : ∀ {N1 : Mem} {L : List Nat} {a : List Op}, edN tp n tc N1 L a → N1 0 0 27 = nI L.length := fun h => h.2.2.2.2.1
      have nil0 : ∀ {N1 : Mem} {a : List Op}, edN tp n tc N1 U.1 a → N1 0 0 27 = 0 → U.1 = [] := by
        intro N1 a h1 h2
        rw [e27 h1] at h2
        exact List.length_eq_zero_iff.1 ((nI_eq (a := U.1.length) (b := 0) (by omega) (by decide)).1 h2)
      -- a bracket closes
      have cls : ∀ h t N1, U.1 = h :: t → frE tc N N1 → tkS N N1 → edN tp n tc N1 (h :: t) (acc0 ++ U.2) → s.1.1 ≠ 0 → lr_W tM sM w d jX7_eRead 200 [some (vo 0 0), some (vi 0), some (vi (b01 mn)), j3] [] N1 (qX fun r N' => erQ tp n tc N0 acc0 (qgo tp n f (pnx tp n s) (unw 7 t U.2).1 (unw 7 t U.2).2 false mn) r N') := by
        intro h t N1 hUt hf1 hs1 he1 h0
        have hpl := hs.2.2.2 h0
        obtain ⟨a1, a2, a3, a4, a5, a6, a7, a8, a9, a10⟩ := id he1
        have hh0 : h = 0 := by
          rw [hUt] at htop
          exact rk_0 (a7 h List.mem_cons_self) htop
        have hlen : U.1.length = t.length + 1 := by rw [hUt]; rfl
        have he2 : edN tp n tc (up (up N1 0 0 27 (nI t.length)) 0 0 28 (nI (opn t))) t (acc0 ++ U.2) := ⟨a1, fun k hk c hc => a2 k hk c hc, a3, a4, by rw [up_k (by decide), up_same], a6.2, fun q hq => a7 q (List.mem_cons_of_mem _ hq), by rw [up_same], a9, fun i o ho => a10 i o ho⟩
        have o28 : opn (h :: t) = opn t + 1 := by rw [opn, if_pos (Or.inl hh0)]; omega
        have hu2 := ok_X7_unwinds (w := w) (d := d - 1) (by omega) (tp := tp) (n := n) (tc := tc) (r := 7) ht6 (by decide) (by decide) t _ (acc0 ++ U.2) he2 (by simp only [List.length_append]; omega)
        have hul2 := @unw_len 7 t U.2
        refine ri_ald a_X7_eRead_200 rfl ?_
        refine ri_dup a_X7_eRead_201 (fun _ h => by cases h) ?_
        refine ri_getI a_X7_eRead_202 fl_X7_135 kM_0_27 rfl iM_0 ?_
        refine ri_ic a_X7_eRead_205 ?_
        refine ri_isub a_X7_eRead_206 ?_
        refine ri_putI a_X7_eRead_207 fp_X7_135 kM_0_27 rfl iM_0 (fun zM41 ezM41 => ?_)
        refine ri_ald a_X7_eRead_210 rfl ?_
        refine ri_dup a_X7_eRead_211 (fun _ h => by cases h) ?_
        refine ri_getI a_X7_eRead_212 fl_X7_142 kM_0_28 rfl iM_0 ?_
        refine ri_ic a_X7_eRead_215 ?_
        refine ri_isub a_X7_eRead_216 ?_
        refine ri_putI a_X7_eRead_217 fp_X7_142 kM_0_28 rfl iM_0 (fun zM42 ezM42 => ?_)
        refine ri_ald a_X7_eRead_220 rfl ?_
        refine ri_ic a_X7_eRead_221 ?_
        refine ri_cVxv (as := [vi 7]) (rest := []) (d' := d - 1) a_X7_eRead_223 mv_X7_unwinds ml_X7_152 (rcM_0 iM_0) (by omega) ((by rw [ezM42, ezM41, up_k (by decide), a8, o28, a5, List.length_cons, nI_pred, nI_pred]; exact hu2)) (Nat.le_of_ble_eq_true rfl) rfl (fun zM43 hzM43 => ?_)
        refine ri_goto a_X7_eRead_226 ?_
        rw [unw_app] at hzM43
        refine go _ _ false mn zM43 j3 h0 hzM43.2.2 (by rw [hzM43.2.1 21 (by decide) (by decide), up_k (by decide), up_k (by decide), hs1 21 (by decide) (by decide)]; exact r1) (frE_tr hfr (frE_tr hf1 (frE_tr (fun t i k a b c => ?_) hzM43.1))) (by simp only [List.length_append]; omega)
        rw [up_apply, if_neg (fun q => c ⟨q.1, q.2.1, by omega, by omega⟩), up_apply, if_neg (fun q => c ⟨q.1, q.2.1, by omega, by omega⟩)]
      refine ri_ild a_X7_eRead_18 rfl ?_
      refine ri_if_eq a_X7_eRead_19 (fun zc21 => ?_) (fun zc21 => ?_)
      · refine ri_ald a_X7_eRead_150 rfl ?_
        refine ri_getI a_X7_eRead_151 fl_X7_122 kM_0_23 rfl iM_0 ?_
        refine ri_ic a_X7_eRead_154 ?_
        refine ri_icmp_ne a_X7_eRead_156 (fun zc22 => ?_) (fun zc22 => ?_)
        · refine ri_ald a_X7_eRead_177 rfl ?_
          refine ri_getI a_X7_eRead_178 fl_X7_122 kM_0_23 rfl iM_0 ?_
          refine ri_ic a_X7_eRead_181 ?_
          refine ri_icmp_ne a_X7_eRead_183 (fun zc23 => ?_) (fun zc23 => ?_)
          · have e59 : ¬ s.1 = (4, 59) := fun z => zc22 (q59.2 z)
            have e41 : ¬ s.1 = (4, 41) := fun z => zc23 (q41.2 z)
            have hsg := ok_X7_signOf (w := w) (d := d - 1) ht r3
            cases hb : bSg s.1 with
            | none =>
              have es : sgR s.1 = -1 := by unfold sgR; rw [hb]
              rw [es] at hsg
              refine ri_ald a_X7_eRead_229 rfl ?_
              refine ri_cVpk (as := []) (rest := []) (d' := d - 1) a_X7_eRead_230 mv_X7_signOf ml_X7_162 (rcM_0 iM_0) (by omega) (hsg) (Nat.le_of_ble_eq_true rfl) rfl ?_
              refine ri_istk (ls' := [some (vo 0 0), some (vi 0), some (vi (b01 mn)), some (vi (-1))]) a_X7_eRead_233 rfl ?_
              refine ri_ild a_X7_eRead_234 rfl ?_
              refine ri_ic a_X7_eRead_235 ?_
              refine ri_icmp_eq a_X7_eRead_236 (fun _ => ?_) (fun q => absurd q (by decide))
              refine ri_ic a_X7_eRead_247 ?_
              refine ri_ireturn a_X7_eRead_248 rfl (by decide) ?_
              refine rX (bad _ _ ?_ hfr r2)
              rw [qgo, if_neg e59, if_neg e41, hb]
            | some h =>
              have es : sgR s.1 = nI h := by unfold sgR; rw [hb]
              rw [es] at hsg
              have h0 : s.1.1 ≠ 0 := fun z => by
                have : s.1 = (0, 0) := Prod.ext z (ht.2.2.2.2 (by omega))
                rw [this] at hb
                exact absurd hb (fun q => by cases q)
              have hpl := hs.2.2.2 h0
              have hbt := ok_X7_between (w := w) (d := d - 1) (by omega) ht6 he (by simp only [List.length_append]; omega) (bSg_hd hb)
              rw [unw_app] at hbt
              have hbt := fun x (hx : x = nI h) => hx ▸ hbt
              have hul2 := @unw_len (if rk h = 4 then 5 else rk h) K o
              have eq : qgo tp n (f + 1) s K o false mn = if rk h = 4 ∧ tis (unw (if rk h = 4 then 5 else rk h) K o).1 4 = true then .inl s.2.1 else qgo tp n f (pnx tp n s) (h :: (unw (if rk h = 4 then 5 else rk h) K o).1) (unw (if rk h = 4 then 5 else rk h) K o).2 true (decide (h ≤ 12)) := by
                rw [qgo, if_neg e59, if_neg e41, hb]
              rw [eq]
              generalize unw (if rk h = 4 then 5 else rk h) K o = W at hbt hul2 ⊢
              by_cases h5 : rk h = 4 ∧ tis W.1 4 = true
              · rw [if_pos h5]
                simp only [if_pos h5] at hbt
                refine ri_ald a_X7_eRead_229 rfl ?_
                refine ri_cVpi (as := []) (rest := []) (d' := d - 1) a_X7_eRead_230 mv_X7_signOf ml_X7_162 (rcM_0 iM_0) (by omega) (hsg) (Nat.le_of_ble_eq_true rfl) rfl (fun zy41 ezy41 => ?_)
                refine ri_istk (ls' := [some (vo 0 0), some (vi 0), some (vi (b01 mn)), some (vi zy41)]) a_X7_eRead_233 rfl ?_
                refine ri_ild a_X7_eRead_234 rfl ?_
                refine ri_ic a_X7_eRead_235 ?_
                refine ri_icmp_eq a_X7_eRead_236 (fun zc42 => ?_) (fun zc42 => ?_)
                · refine ri_ic a_X7_eRead_247 ?_
                  refine ri_ireturn a_X7_eRead_248 rfl (by decide) ?_
                  exact absurd (ezy41.symm.trans zc42) (nI_m1n (by have := bSg_hd hb; omega))
                · refine ri_ald a_X7_eRead_239 rfl ?_
                  refine ri_ild a_X7_eRead_240 rfl ?_
                  refine ri_cVxi (as := [vi zy41]) (rest := []) (d' := d - 1) a_X7_eRead_241 mv_X7_between ml_X7_165 (rcM_0 iM_0) (by omega) (hbt _ ezy41) (Nat.le_of_ble_eq_true rfl) rfl (fun zy43 zM44 hzy43 => ?_)
                  refine ri_if_ne a_X7_eRead_244 (fun zc45 => ?_) (fun zc45 => ?_)
                  · exact absurd hzy43.1 zc45
                  · refine ri_ic a_X7_eRead_247 ?_
                    refine ri_ireturn a_X7_eRead_248 rfl (by decide) ?_
                    exact rX (bad _ _ rfl (frE_tr hfr hzy43.2.1) (by rw [hzy43.2.2 22 (by decide) (by decide)]; exact r2))
              · rw [if_neg h5]
                simp only [if_neg h5] at hbt
                refine ri_ald a_X7_eRead_229 rfl ?_
                refine ri_cVpi (as := []) (rest := []) (d' := d - 1) a_X7_eRead_230 mv_X7_signOf ml_X7_162 (rcM_0 iM_0) (by omega) (hsg) (Nat.le_of_ble_eq_true rfl) rfl (fun zy41 ezy41 => ?_)
                refine ri_istk (ls' := [some (vo 0 0), some (vi 0), some (vi (b01 mn)), some (vi zy41)]) a_X7_eRead_233 rfl ?_
                refine ri_ild a_X7_eRead_234 rfl ?_
                refine ri_ic a_X7_eRead_235 ?_
                refine ri_icmp_eq a_X7_eRead_236 (fun zc42 => ?_) (fun zc42 => ?_)
                · refine ri_ic a_X7_eRead_247 ?_
                  refine ri_ireturn a_X7_eRead_248 rfl (by decide) ?_
                  exact absurd (ezy41.symm.trans zc42) (nI_m1n (by have := bSg_hd hb; omega))
                · refine ri_ald a_X7_eRead_239 rfl ?_
                  refine ri_ild a_X7_eRead_240 rfl ?_
                  refine ri_cVxi (as := [vi zy41]) (rest := []) (d' := d - 1) a_X7_eRead_241 mv_X7_between ml_X7_165 (rcM_0 iM_0) (by omega) (hbt _ ezy41) (Nat.le_of_ble_eq_true rfl) rfl (fun zy43 zM44 hzy43 => ?_)
                  refine ri_if_ne a_X7_eRead_244 (fun zc45 => ?_) (fun zc45 => ?_)
                  · refine ri_ic a_X7_eRead_249 ?_
                    refine ri_istk (ls' := [some (vo 0 0), some (vi 1), some (vi (b01 mn)), some (vi zy41)]) a_X7_eRead_250 rfl ?_
                    refine ri_ild a_X7_eRead_251 rfl ?_
                    refine ri_ic a_X7_eRead_252 ?_
                    refine ri_icmp_gt a_X7_eRead_254 (fun zc46 => ?_) (fun zc46 => ?_)
                    · refine ri_ic a_X7_eRead_261 ?_
                      refine ri_istk (ls' := [some (vo 0 0), some (vi 1), some (vi 0), some (vi zy41)]) a_X7_eRead_262 rfl ?_
                      refine ri_goto a_X7_eRead_263 ?_
                      rw [ezy41] at zc46
                      have : decide (h ≤ 12) = false := by
                        rw [decide_eq_false_iff_not]
                        intro q
                        exact Int32.not_le.mpr zc46 ((nI_leI (b := 12) (by omega) (by decide)).2 q)
                      rw [this]
                      exact go (h :: W.1) W.2 true false _ _ h0 hzy43.2.2.2 (by rw [hzy43.2.2.1 21 (by decide) (by decide)]; exact r1) (frE_tr hfr hzy43.2.1) (by simp only [List.length_append, List.length_cons]; omega)
                    · refine ri_ic a_X7_eRead_257 ?_
                      refine ri_goto a_X7_eRead_258 ?_
                      refine ri_istk (ls' := [some (vo 0 0), some (vi 1), some (vi 1), some (vi zy41)]) a_X7_eRead_262 rfl ?_
                      refine ri_goto a_X7_eRead_263 ?_
                      rw [ezy41] at zc46
                      have : decide (h ≤ 12) = true := by
                        rw [decide_eq_true_eq]
                        exact (nI_leI (b := 12) (by have := bSg_hd hb; omega) (by decide)).1 (Int32.not_lt.mp zc46)
                      rw [this]
                      exact go (h :: W.1) W.2 true true _ _ h0 hzy43.2.2.2 (by rw [hzy43.2.2.1 21 (by decide) (by decide)]; exact r1) (frE_tr hfr hzy43.2.1) (by simp only [List.length_append, List.length_cons]; omega)
                  · refine ri_ic a_X7_eRead_247 ?_
                    refine ri_ireturn a_X7_eRead_248 rfl (by decide) ?_
                    exact absurd (hzy43.1.symm.trans zc45) (by decide)
          · refine ri_ald a_X7_eRead_186 rfl ?_
            refine ri_ic a_X7_eRead_187 ?_
            refine ri_cVxv (as := [vi 1]) (rest := []) (d' := d - 1) a_X7_eRead_188 mv_X7_unwinds ml_X7_152 (rcM_0 iM_0) (by omega) (hun (by omega)) (Nat.le_of_ble_eq_true rfl) rfl (fun zM24 hzM24 => ?_)
            refine ri_ald a_X7_eRead_191 rfl ?_
            refine ri_getI a_X7_eRead_192 fl_X7_135 kM_0_27 rfl iM_0 ?_
            refine ri_if_ne a_X7_eRead_195 (fun zc25 => ?_) (fun zc25 => ?_)
            · cases hUt : U.1 with
              | nil =>
                have := e27 hzM24.2.2
                rw [hUt] at this
                exact absurd this zc25
              | cons h t =>
                have he1 := hzM24.2.2
                dsimp only at he1
                rw [hUt] at he1
                have e59 : ¬ s.1 = (4, 59) := fun z => zc22 (q59.2 z)
                refine lr_Wimp (cls h t zM24 hUt hzM24.1 hzM24.2.1 he1 (n0 (q41.1 zc23) (by decide))) ?_
                rintro r M' ⟨y, h1, h2⟩
                refine ⟨y, h1, ?_⟩
                dsimp only
                rw [qgo, if_neg e59, if_pos (q41.1 zc23), hU, hUt]
                exact h2
            · refine ri_ic a_X7_eRead_198 ?_
              refine ri_ireturn a_X7_eRead_199 rfl (by decide) ?_
              have hnl := nil0 hzM24.2.2 (zc25)
              have e59 : ¬ s.1 = (4, 59) := fun z => zc22 (q59.2 z)
              refine rX (bad _ _ ?_ (frE_tr hfr hzM24.1) (by rw [hzM24.2.1 22 (by decide) (by decide)]; exact r2))
              rw [qgo, if_neg e59, if_pos (q41.1 zc23), hU, hnl]
        · refine ri_ald a_X7_eRead_159 rfl ?_
          refine ri_ic a_X7_eRead_160 ?_
          refine ri_cVxv (as := [vi 1]) (rest := []) (d' := d - 1) a_X7_eRead_161 mv_X7_unwinds ml_X7_152 (rcM_0 iM_0) (by omega) (hun (by omega)) (Nat.le_of_ble_eq_true rfl) rfl (fun zM26 hzM26 => ?_)
          refine ri_ald a_X7_eRead_164 rfl ?_
          refine ri_getI a_X7_eRead_165 fl_X7_135 kM_0_27 rfl iM_0 ?_
          refine ri_if_ne a_X7_eRead_168 (fun zc27 => ?_) (fun zc27 => ?_)
          · refine ri_ic a_X7_eRead_175 ?_
            refine ri_ireturn a_X7_eRead_176 rfl (by decide) ?_
            have e59 : s.1 = (4, 59) := q59.1 (zc22)
            refine rX (bad _ _ ?_ (frE_tr hfr hzM26.1) (by rw [hzM26.2.1 22 (by decide) (by decide)]; exact r2))
            rw [qgo, if_pos e59, hU, if_neg (fun z => zc27 (by rw [e27 hzM26.2.2]; dsimp only; rw [z]; rfl))]
          · refine ri_ic a_X7_eRead_171 ?_
            refine ri_goto a_X7_eRead_172 ?_
            refine ri_ireturn a_X7_eRead_176 rfl (by decide) ?_
            have e59 : s.1 = (4, 59) := q59.1 (zc22)
            have hnl := nil0 hzM26.2.2 (zc27)
            refine rX ?_
            rw [qgo, if_pos e59, hU, if_pos hnl]
            exact ⟨rfl, hs, ht, tkS_rt hzM26.2.1 hr, edN_bs hzM26.2.2, frE_tr hfr hzM26.1, by simp only [List.length_append]; omega⟩
      · exact absurd (by decide) zc21

