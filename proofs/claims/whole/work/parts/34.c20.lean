/-! class: first digits, fractions -/
def ffO (L : List (List Op)) (V : Vw) (g : Nat → Int32) (fd : Nat → Int32) (v : Nat → Int32) (set rung : Nat) : Nat → Nat → Option Nat
  | 0, _ => none
  | r + 1, p => if ¬ fd p = -1 ∧ ¬ set ||| 2 ^ p = set ∧ 0 < v (set ||| 2 ^ p) ∧ fitF L V g p rung then some p else ffO L V g fd v set rung r (p + 1)
def ov : Option Nat → Int32
  | none => -1
  | some p => nI p
theorem ffO_lt {L : List (List Op)} {V : Vw} {g fd v : Nat → Int32} {set rung : Nat} : ∀ r p z, ffO L V g fd v set rung r p = some z → z < p + r := by
  intro r
  induction r with
  | zero => intro p z h; cases h
  | succ r ih =>
    intro p z h
    rw [ffO] at h
    split at h
    · cases h; omega
    · have := ih (p + 1) z h
      omega
theorem ok_X6_firstFitting {w : Wd} {d : Nat} (hd : 5 ≤ d) {M : Mem} {s k n set rung : Nat} {L : List (List Op)} (hL : lawC M 0 L) (hs : s < 4) (hn : M 1 0 6 = nI n) (hn8 : n ≤ 8) (hk : M 1 0 7 = nI k) (hk8 : k ≤ 8) (hset : set < 256) (hr : rung < 40) : lr_Ok tC sC w d jX6_firstFitting [vo 0 0, vo 19 s, vi (nI set), vi (nI rung)] M (qI (ov (ffO L (vwC M 0) (M 20 s) (fun p => fnd (M 7 0) (nI p) k 0) (M 24 0) set rung n 0)) M) := by
  have loop : ∀ r p j5 j6, n = p + r → lr_W tC sC w d jX6_firstFitting 3 [some (vo 0 0), some (vo 19 s), some (vi (nI set)), some (vi (nI rung)), some (vi (nI p)), j5, j6] [] M (qI (ov (ffO L (vwC M 0) (M 20 s) (fun p => fnd (M 7 0) (nI p) k 0) (M 24 0) set rung r p)) M) := by
    intro r
    induction r with
    | zero =>
      intro p j5 j6 hp
      have : n = p := hp
      subst this
      refine ri_ild a_X6_firstFitting_3 rfl ?_
      refine ri_ald a_X6_firstFitting_5 rfl ?_
      refine ri_getR (t' := 1) (i' := 0) a_X6_firstFitting_6 fl_X6_10 kC_0_0 rfl iC_0 (Or.inr ⟨rfl, rfl, rfl⟩) ?_
      refine ri_getI a_X6_firstFitting_9 fl_X6_87 kC_1_6 rfl (iC_1 (by decide)) ?_
      refine ri_icmp_ge a_X6_firstFitting_12 (fun zc1 => ?_) (fun zc1 => ?_)
      · refine ri_ic a_X6_firstFitting_84 ?_
        refine ri_ireturn a_X6_firstFitting_85 rfl rfl ?_
        exact rI rfl rfl
      · exact absurd (by rw [hn]; exact Int32.le_refl _) zc1
    | succ r ih =>
      intro p j5 j6 hp
      obtain ⟨el, el2⟩ := lgr_eq set hset p (by omega)
      have e24 : (nI (set ||| 2 ^ p)).toNatClampNeg = set ||| 2 ^ p := nI_clamp (by omega)
      have i24 : vp_in (nI (set ||| 2 ^ p)) 256 := vp_in_nI el2 (by decide)
      have nxt : ∀ j6, ¬ (¬ fnd (M 7 0) (nI p) k 0 = -1 ∧ ¬ set ||| 2 ^ p = set ∧ 0 < M 24 0 (set ||| 2 ^ p) ∧ fitF L (vwC M 0) (M 20 s) p rung) → lr_W tC sC w d jX6_firstFitting 78 [some (vo 0 0), some (vo 19 s), some (vi (nI set)), some (vi (nI rung)), some (vi (nI p)), some (vi (nI (set ||| 2 ^ p))), j6] [] M (qI (ov (ffO L (vwC M 0) (M 20 s) (fun p => fnd (M 7 0) (nI p) k 0) (M 24 0) set rung (r + 1) p)) M) := by
        intro j6 hno
        rw [ffO, if_neg hno]
        refine ri_iinc (c0 := 1) (f := fun zx11 => [some (vo 0 0), some (vo 19 s), some (vi (nI set)), some (vi (nI rung)), some (vi zx11), some (vi (nI (set ||| 2 ^ p))), j6]) a_X6_firstFitting_78 rfl (by decide) (fun _ => rfl) (fun zx11 ezx11 => ?_)
        refine ri_goto a_X6_firstFitting_81 ?_
        rw [ezx11, nI_1]
        exact ih (p + 1) _ _ (by omega)
      refine ri_ild a_X6_firstFitting_3 rfl ?_
      refine ri_ald a_X6_firstFitting_5 rfl ?_
      refine ri_getR (t' := 1) (i' := 0) a_X6_firstFitting_6 fl_X6_10 kC_0_0 rfl iC_0 (Or.inr ⟨rfl, rfl, rfl⟩) ?_
      refine ri_getI a_X6_firstFitting_9 fl_X6_87 kC_1_6 rfl (iC_1 (by decide)) ?_
      refine ri_icmp_ge a_X6_firstFitting_12 (fun zc11 => ?_) (fun zc11 => ?_)
      · refine ri_ic a_X6_firstFitting_84 ?_
        refine ri_ireturn a_X6_firstFitting_85 rfl rfl ?_
        exact absurd zc11 (by rw [hn]; exact nI_ge (by omega) (by omega))
      · refine ri_ild a_X6_firstFitting_15 rfl ?_
        refine ri_ic a_X6_firstFitting_16 ?_
        refine ri_ild a_X6_firstFitting_17 rfl ?_
        refine ri_ishl a_X6_firstFitting_19 ?_
        refine ri_ior a_X6_firstFitting_20 ?_
        rw [el]
        refine ri_istk (ls' := [some (vo 0 0), some (vo 19 s), some (vi (nI set)), some (vi (nI rung)), some (vi (nI p)), some (vi (nI (set ||| 2 ^ p))), j6]) a_X6_firstFitting_21 rfl ?_
        refine ri_ald a_X6_firstFitting_23 rfl ?_
        refine ri_getR (t' := 1) (i' := 0) a_X6_firstFitting_24 fl_X6_10 kC_0_0 rfl iC_0 (Or.inr ⟨rfl, rfl, rfl⟩) ?_
        refine ri_ild a_X6_firstFitting_27 rfl ?_
        refine ri_cVpi (as := [vi (nI p)]) (rest := []) (d' := d - 1) a_X6_firstFitting_29 mv_X0_rungOf ml_X6_140 (rcC_1 (iC_1 (by decide))) (by omega) (ok_X0_rungOf (by decide) (nI p) hk hk8) (Nat.le_of_ble_eq_true rfl) rfl (fun zy21 ezy21 => ?_)
        refine ri_ic a_X6_firstFitting_32 ?_
        refine ri_icmp_eq a_X6_firstFitting_33 (fun zc22 => ?_) (fun zc22 => ?_)
        · refine ri_ic a_X6_firstFitting_46 ?_
          refine ri_istk (ls' := [some (vo 0 0), some (vo 19 s), some (vi (nI set)), some (vi (nI rung)), some (vi (nI p)), some (vi (nI (set ||| 2 ^ p))), some (vi 0)]) a_X6_firstFitting_47 rfl ?_
          refine ri_ild a_X6_firstFitting_49 rfl ?_
          refine ri_if_eq a_X6_firstFitting_51 (fun _ => ?_) (fun q => absurd q (by decide))
          subst ezy21
          exact nxt _ (fun q => q.1 zc22)
        · refine ri_ild a_X6_firstFitting_36 rfl ?_
          refine ri_ild a_X6_firstFitting_38 rfl ?_
          refine ri_icmp_eq a_X6_firstFitting_39 (fun zc23 => ?_) (fun zc23 => ?_)
          · refine ri_ic a_X6_firstFitting_46 ?_
            refine ri_istk (ls' := [some (vo 0 0), some (vo 19 s), some (vi (nI set)), some (vi (nI rung)), some (vi (nI p)), some (vi (nI (set ||| 2 ^ p))), some (vi 0)]) a_X6_firstFitting_47 rfl ?_
            refine ri_ild a_X6_firstFitting_49 rfl ?_
            refine ri_if_eq a_X6_firstFitting_51 (fun _ => ?_) (fun q => absurd q (by decide))
            exact nxt _ (fun q => q.2.1 ((nI_eq (by omega) (by omega)).1 zc23))
          · refine ri_ic a_X6_firstFitting_42 ?_
            refine ri_goto a_X6_firstFitting_43 ?_
            refine ri_istk (ls' := [some (vo 0 0), some (vo 19 s), some (vi (nI set)), some (vi (nI rung)), some (vi (nI p)), some (vi (nI (set ||| 2 ^ p))), some (vi 1)]) a_X6_firstFitting_47 rfl ?_
            refine ri_ild a_X6_firstFitting_49 rfl ?_
            refine ri_if_eq a_X6_firstFitting_51 (fun q => absurd q (by decide)) (fun _ => ?_)
            refine ri_ald a_X6_firstFitting_54 rfl ?_
            refine ri_getR (t' := 24) (i' := 0) a_X6_firstFitting_55 fl_X6_53 kC_0_10 rfl iC_0 (Or.inr ⟨rfl, rfl, rfl⟩) ?_
            refine ri_ild a_X6_firstFitting_58 rfl ?_
            refine ri_iaload a_X6_firstFitting_60 lC_24 rfl iC_24 i24 ?_
            refine ri_if_le a_X6_firstFitting_61 (fun zc24 => ?_) (fun zc24 => ?_)
            · rw [e24] at zc24
              exact nxt _ (fun q => Int32.not_le.mpr q.2.2.1 zc24)
            · refine ri_ald a_X6_firstFitting_64 rfl ?_
              refine ri_ald a_X6_firstFitting_65 rfl ?_
              refine ri_ild a_X6_firstFitting_66 rfl ?_
              refine ri_ild a_X6_firstFitting_68 rfl ?_
              refine ri_cVpb (as := [vo 19 s, vi (nI p), vi (nI rung)]) (rest := []) (d' := d - 1) a_X6_firstFitting_69 mv_X6_fits ml_X6_299 (rcC_0 iC_0) (by omega) (ok_X6_fits (by omega) hL hs (by omega) hr) (Nat.le_of_ble_eq_true rfl) rfl (fun zc25 => ?_) (fun zc25 => ?_)
              · refine ri_if_eq a_X6_firstFitting_72 (fun q => absurd q (by decide)) (fun _ => ?_)
                refine ri_ild a_X6_firstFitting_75 rfl ?_
                refine ri_ireturn a_X6_firstFitting_77 rfl rfl ?_
                rw [e24] at zc24
                subst ezy21
                exact rI (by rw [ffO, if_pos ⟨zc22, fun q => zc23 (by rw [q]), Int32.not_le.mp zc24, zc25⟩]; rfl) rfl
              · refine ri_if_eq a_X6_firstFitting_72 (fun _ => ?_) (fun q => absurd q (by decide))
                exact nxt _ (fun q => zc25 q.2.2.2)
  refine lr_ok (by decide +kernel) rfl ?_
  refine ri_ic a_X6_firstFitting_0 ?_
  refine ri_istk (ls' := [some (vo 0 0), some (vo 19 s), some (vi (nI set)), some (vi (nI rung)), some (vi 0), none, none]) a_X6_firstFitting_1 rfl ?_
  exact loop n 0 none none (by omega)
def fdF (L : List (List Op)) (V : Vw) (g : Nat → Int32) (fd : Nat → Int32) (v : Nat → Int32) (n : Nat) : Nat → Nat → Nat → Int32 → Int32
  | 0, _, _, dg => dg
  | r + 1, rung, set, dg => match ffO L V g fd v set rung n 0 with
    | none => 0
    | some p => fdF L V g fd v n r (rung + 1) (set ||| 2 ^ p) (dg * 10 + nI p + 1)
theorem ok_X6_firstDigits {w : Wd} {d : Nat} (hd : 6 ≤ d) {M : Mem} {s m k n : Nat} {L : List (List Op)} (hL : lawC M 0 L) (hs : s < 4) (hm : M 19 s 2 = nI m) (hm40 : m ≤ 40) (hn : M 1 0 6 = nI n) (hn8 : n ≤ 8) (hk : M 1 0 7 = nI k) (hk8 : k ≤ 8) : lr_Ok tC sC w d jX6_firstDigits [vo 0 0, vo 19 s] M (qI (fdF L (vwC M 0) (M 20 s) (fun p => fnd (M 7 0) (nI p) k 0) (M 24 0) n m 0 0 0) M) := by
  have loop : ∀ r rung set dg j5, m = rung + r → set < 256 → lr_W tC sC w d jX6_firstDigits 7 [some (vo 0 0), some (vo 19 s), some (vi dg), some (vi (nI set)), some (vi (nI rung)), j5] [] M (qI (fdF L (vwC M 0) (M 20 s) (fun p => fnd (M 7 0) (nI p) k 0) (M 24 0) n r rung set dg) M) := by
    intro r
    induction r with
    | zero =>
      intro rung set dg j5 hr hset
      have : m = rung := hr
      subst this
      refine ri_ild a_X6_firstDigits_7 rfl ?_
      refine ri_ald a_X6_firstDigits_9 rfl ?_
      refine ri_getI a_X6_firstDigits_10 fl_X6_256 kC_19_2 rfl (iC_19 (by assumption)) ?_
      refine ri_icmp_ge a_X6_firstDigits_13 (fun zc1 => ?_) (fun zc1 => ?_)
      · refine ri_ild a_X6_firstDigits_57 rfl ?_
        refine ri_ireturn a_X6_firstDigits_58 rfl rfl ?_
        exact rI rfl rfl
      · exact absurd (by rw [hm]; exact Int32.le_refl _) zc1
    | succ r ih =>
      intro rung set dg j5 hr hset
      rw [fdF]
      have hlt := @ffO_lt L (vwC M 0) (M 20 s) (fun p => fnd (M 7 0) (nI p) k 0) (M 24 0) set rung n 0
      have hok := @ok_X6_firstFitting w (d - 1) (by omega) M s k n set rung L hL hs hn hn8 hk hk8 hset (by omega)
      generalize ffO L (vwC M 0) (M 20 s) (fun p => fnd (M 7 0) (nI p) k 0) (M 24 0) set rung n 0 = z at hlt hok
      cases z with
      | none =>
        refine ri_ild a_X6_firstDigits_7 rfl ?_
        refine ri_ald a_X6_firstDigits_9 rfl ?_
        refine ri_getI a_X6_firstDigits_10 fl_X6_256 kC_19_2 rfl (iC_19 (by assumption)) ?_
        refine ri_icmp_ge a_X6_firstDigits_13 (fun zc11 => ?_) (fun zc11 => ?_)
        · refine ri_ild a_X6_firstDigits_57 rfl ?_
          refine ri_ireturn a_X6_firstDigits_58 rfl rfl ?_
          exact absurd zc11 (by rw [hm]; exact nI_ge (by omega) (by omega))
        · refine ri_ald a_X6_firstDigits_16 rfl ?_
          refine ri_ald a_X6_firstDigits_17 rfl ?_
          refine ri_ild a_X6_firstDigits_18 rfl ?_
          refine ri_ild a_X6_firstDigits_19 rfl ?_
          refine ri_cVpi (as := [vo 19 s, vi (nI set), vi (nI rung)]) (rest := []) (d' := d - 1) a_X6_firstDigits_21 mv_X6_firstFitting ml_X6_303 (rcC_0 iC_0) (by omega) (hok) (Nat.le_of_ble_eq_true rfl) rfl (fun zy12 ezy12 => ?_)
          refine ri_istk (ls' := [some (vo 0 0), some (vo 19 s), some (vi dg), some (vi (nI set)), some (vi (nI rung)), some (vi zy12)]) a_X6_firstDigits_24 rfl ?_
          refine ri_ild a_X6_firstDigits_26 rfl ?_
          refine ri_ic a_X6_firstDigits_28 ?_
          refine ri_icmp_ne a_X6_firstDigits_29 (fun zc13 => ?_) (fun zc13 => ?_)
          · subst ezy12
            exact absurd rfl zc13
          · refine ri_ic a_X6_firstDigits_32 ?_
            refine ri_ireturn a_X6_firstDigits_33 rfl rfl ?_
            exact rI rfl rfl
      | some p =>
        have hp : p < 8 := by have := hlt p rfl; omega
        obtain ⟨el, el2⟩ := lgr_eq set hset p hp
        refine ri_ild a_X6_firstDigits_7 rfl ?_
        refine ri_ald a_X6_firstDigits_9 rfl ?_
        refine ri_getI a_X6_firstDigits_10 fl_X6_256 kC_19_2 rfl (iC_19 (by assumption)) ?_
        refine ri_icmp_ge a_X6_firstDigits_13 (fun zc11 => ?_) (fun zc11 => ?_)
        · refine ri_ild a_X6_firstDigits_57 rfl ?_
          refine ri_ireturn a_X6_firstDigits_58 rfl rfl ?_
          exact absurd zc11 (by rw [hm]; exact nI_ge (by omega) (by omega))
        · refine ri_ald a_X6_firstDigits_16 rfl ?_
          refine ri_ald a_X6_firstDigits_17 rfl ?_
          refine ri_ild a_X6_firstDigits_18 rfl ?_
          refine ri_ild a_X6_firstDigits_19 rfl ?_
          refine ri_cVpi (as := [vo 19 s, vi (nI set), vi (nI rung)]) (rest := []) (d' := d - 1) a_X6_firstDigits_21 mv_X6_firstFitting ml_X6_303 (rcC_0 iC_0) (by omega) (hok) (Nat.le_of_ble_eq_true rfl) rfl (fun zy12 ezy12 => ?_)
          refine ri_istk (ls' := [some (vo 0 0), some (vo 19 s), some (vi dg), some (vi (nI set)), some (vi (nI rung)), some (vi zy12)]) a_X6_firstDigits_24 rfl ?_
          refine ri_ild a_X6_firstDigits_26 rfl ?_
          refine ri_ic a_X6_firstDigits_28 ?_
          refine ri_icmp_ne a_X6_firstDigits_29 (fun zc13 => ?_) (fun zc13 => ?_)
          · subst ezy12
            refine ri_ild a_X6_firstDigits_34 rfl ?_
            refine ri_ic a_X6_firstDigits_35 ?_
            refine ri_ild a_X6_firstDigits_36 rfl ?_
            refine ri_ishl a_X6_firstDigits_38 ?_
            refine ri_ior a_X6_firstDigits_39 ?_
            refine ri_ist (f := fun zx21 => [some (vo 0 0), some (vo 19 s), some (vi dg), some (vi zx21), some (vi (nI rung)), some (vi (nI p))]) a_X6_firstDigits_40 (fun _ => rfl) (fun zx21 ezx21 => ?_)
            refine ri_ild a_X6_firstDigits_41 rfl ?_
            refine ri_ic a_X6_firstDigits_42 ?_
            refine ri_imul a_X6_firstDigits_44 ?_
            refine ri_ild a_X6_firstDigits_45 rfl ?_
            refine ri_iadd a_X6_firstDigits_47 ?_
            refine ri_ic a_X6_firstDigits_48 ?_
            refine ri_iadd a_X6_firstDigits_49 ?_
            refine ri_ist (f := fun zx22 => [some (vo 0 0), some (vo 19 s), some (vi zx22), some (vi zx21), some (vi (nI rung)), some (vi (nI p))]) a_X6_firstDigits_50 (fun _ => rfl) (fun zx22 ezx22 => ?_)
            refine ri_iinc (c0 := 1) (f := fun zx23 => [some (vo 0 0), some (vo 19 s), some (vi zx22), some (vi zx21), some (vi zx23), some (vi (nI p))]) a_X6_firstDigits_51 rfl (by decide) (fun _ => rfl) (fun zx23 ezx23 => ?_)
            refine ri_goto a_X6_firstDigits_54 ?_
            rw [ezx21, show nI set ||| (1 <<< (ov (some p) &&& 31)) = nI (set ||| 2 ^ p) from el, ezx22, ezx23, nI_1]
            exact ih (rung + 1) _ _ _ (by omega) el2
          · refine ri_ic a_X6_firstDigits_32 ?_
            refine ri_ireturn a_X6_firstDigits_33 rfl rfl ?_
            subst ezy12
            exact absurd zc13 (nI_m1n (by omega))
  refine lr_ok (by decide +kernel) rfl ?_
  refine ri_ic a_X6_firstDigits_0 ?_
  refine ri_istk (ls' := [some (vo 0 0), some (vo 19 s), some (vi 0), none, none, none]) a_X6_firstDigits_1 rfl ?_
  refine ri_ic a_X6_firstDigits_2 ?_
  refine ri_istk (ls' := [some (vo 0 0), some (vo 19 s), some (vi 0), some (vi 0), none, none]) a_X6_firstDigits_3 rfl ?_
  refine ri_ic a_X6_firstDigits_4 ?_
  refine ri_istk (ls' := [some (vo 0 0), some (vo 19 s), some (vi 0), some (vi 0), some (vi 0), none]) a_X6_firstDigits_5 rfl ?_
  exact loop m 0 0 0 none (by omega) (by decide)
/-- the common measure of two numbers -/
def euL : Nat → Int64 → Int64 → Int64
  | 0, c, _ => c
  | n + 1, c, r => if r = 0 then c else euL n r (c - c / r * r)
def lowV (a b : Int64) (part : Int32) : Int64 := if euL 200 b a = 0 then -4611686018427387904 else (if part = 0 then a else b) / euL 200 b a
theorem ok_X6_lowest {w : Wd} {d : Nat} {M : Mem} (a b : Int64) (part : Int32) : lr_Ok tC sC w d jX6_lowest [vl a, vl b, vi part] M (qL (lowV a b part) M) := by
  have fin : ∀ c x y j10, euL 200 b a = c → lr_W tC sC w d jX6_lowest 45 [some (vl a), none, some (vl b), none, some (vi part), some (vl c), none, some (vl x), none, some (vi y), j10, none] [] M (qL (lowV a b part) M) := by
    intro c x y j10 hc
    refine ri_lld a_X6_lowest_45 rfl ?_
    refine ri_lc a_X6_lowest_47 ?_
    refine ri_lcmp a_X6_lowest_48 ?_
    refine ri_if_ne a_X6_lowest_49 (fun zc11 => ?_) (fun zc11 => ?_)
    · refine ri_ild a_X6_lowest_56 rfl ?_
      refine ri_if_ne a_X6_lowest_58 (fun zc12 => ?_) (fun zc12 => ?_)
      · refine ri_lld a_X6_lowest_65 rfl ?_
        refine ri_lld a_X6_lowest_66 rfl ?_
        refine ri_ldiv a_X6_lowest_68 (fun q => zc11 ((lg_cmp_eq c 0).2 q)) ?_
        refine ri_lreturn a_X6_lowest_69 rfl ?_
        have h0 : ¬ c = 0 := fun q => zc11 ((lg_cmp_eq c 0).2 q)
        exact rL (by rw [lowV, hc, if_neg h0, if_neg zc12]) rfl
      · refine ri_lld a_X6_lowest_61 rfl ?_
        refine ri_goto a_X6_lowest_62 ?_
        refine ri_lld a_X6_lowest_66 rfl ?_
        refine ri_ldiv a_X6_lowest_68 (fun q => zc11 ((lg_cmp_eq c 0).2 q)) ?_
        refine ri_lreturn a_X6_lowest_69 rfl ?_
        have h0 : ¬ c = 0 := fun q => zc11 ((lg_cmp_eq c 0).2 q)
        exact rL (by rw [lowV, hc, if_neg h0, if_pos zc12]) rfl
    · refine ri_lc a_X6_lowest_52 ?_
      refine ri_lreturn a_X6_lowest_55 rfl ?_
      have h0 : c = 0 := (lg_cmp_eq c 0).1 zc11
      exact rL (by rw [lowV, hc, if_pos h0]) rfl
  have loop : ∀ n i c x j10, 200 = i + n → euL n c x = euL 200 b a → lr_W tC sC w d jX6_lowest 9 [some (vl a), none, some (vl b), none, some (vi part), some (vl c), none, some (vl x), none, some (vi (nI i)), j10, none] [] M (qL (lowV a b part) M) := by
    intro n
    induction n with
    | zero =>
      intro i c x j10 hi he
      have : i = 200 := by omega
      subst this
      refine ri_ild a_X6_lowest_9 rfl ?_
      refine ri_ic a_X6_lowest_11 ?_
      refine ri_icmp_ge a_X6_lowest_14 (fun zc11 => ?_) (fun zc11 => ?_)
      · exact fin _ _ _ _ he.symm
      · exact absurd (by decide) zc11
    | succ n ih =>
      intro i c x j10 hi he
      refine ri_ild a_X6_lowest_9 rfl ?_
      refine ri_ic a_X6_lowest_11 ?_
      refine ri_icmp_ge a_X6_lowest_14 (fun zc11 => ?_) (fun zc11 => ?_)
      · exact absurd zc11 (nI_ge (b := 200) (by omega) (by decide))
      · refine ri_lld a_X6_lowest_17 rfl ?_
        refine ri_lc a_X6_lowest_19 ?_
        refine ri_lcmp a_X6_lowest_20 ?_
        refine ri_if_eq a_X6_lowest_21 (fun zc12 => ?_) (fun zc12 => ?_)
        · have h0 : x = 0 := (lg_cmp_eq x 0).1 zc12
          rw [euL, if_pos h0] at he
          exact fin _ _ _ _ he.symm
        · refine ri_lld a_X6_lowest_24 rfl ?_
          refine ri_lld a_X6_lowest_26 rfl ?_
          refine ri_lrem a_X6_lowest_28 (fun q => zc12 ((lg_cmp_eq x 0).2 q)) ?_
          refine ri_lst (f := fun zx13 => [some (vl a), none, some (vl b), none, some (vi part), some (vl c), none, some (vl x), none, some (vi (nI i)), some (vl zx13), none]) a_X6_lowest_29 (fun _ => rfl) (fun zx13 ezx13 => ?_)
          refine ri_lld a_X6_lowest_31 rfl ?_
          refine ri_lstk (ls' := [some (vl a), none, some (vl b), none, some (vi part), some (vl x), none, some (vl x), none, some (vi (nI i)), some (vl zx13), none]) a_X6_lowest_33 rfl ?_
          refine ri_lld a_X6_lowest_35 rfl ?_
          refine ri_lstk (ls' := [some (vl a), none, some (vl b), none, some (vi part), some (vl x), none, some (vl zx13), none, some (vi (nI i)), some (vl zx13), none]) a_X6_lowest_37 rfl ?_
          refine ri_iinc (c0 := 1) (f := fun zx14 => [some (vl a), none, some (vl b), none, some (vi part), some (vl x), none, some (vl zx13), none, some (vi zx14), some (vl zx13), none]) a_X6_lowest_39 rfl (by decide) (fun _ => rfl) (fun zx14 ezx14 => ?_)
          refine ri_goto a_X6_lowest_42 ?_
          have h0 : ¬ x = 0 := fun q => zc12 ((lg_cmp_eq x 0).2 q)
          rw [euL, if_neg h0, ← ezx13] at he
          rw [ezx14, nI_1]
          exact ih (i + 1) _ _ _ (by omega) he
  refine lr_ok (by decide +kernel) rfl ?_
  refine ri_lld a_X6_lowest_0 rfl ?_
  refine ri_lstk (ls' := [some (vl a), none, some (vl b), none, some (vi part), some (vl b), none, none, none, none, none, none]) a_X6_lowest_1 rfl ?_
  refine ri_lld a_X6_lowest_3 rfl ?_
  refine ri_lstk (ls' := [some (vl a), none, some (vl b), none, some (vi part), some (vl b), none, some (vl a), none, none, none, none]) a_X6_lowest_4 rfl ?_
  refine ri_ic a_X6_lowest_6 ?_
  refine ri_istk (ls' := [some (vl a), none, some (vl b), none, some (vi part), some (vl b), none, some (vl a), none, some (vi 0), none, none]) a_X6_lowest_7 rfl ?_
  exact loop 200 0 b a none (by omega) rfl

