/-! the law: its loop -/
theorem lt_7 {L i : Nat} (hL : L ≤ 3584) (hi : i ≤ 3591) (h : L < i + 7) : nI L - 7 < nI i := by
  rw [Int32.lt_iff_toInt_lt, show (7 : Int32) = nI 7 from rfl, nI_subI (by omega) (by omega), nI_toInt (by omega)]
  omega
theorem ge_7 {L i : Nat} (hL : L ≤ 3584) (hi : i ≤ 3591) (h : i + 7 ≤ L) : ¬ nI L - 7 < nI i := by
  rw [Int32.lt_iff_toInt_lt, show (7 : Int32) = nI 7 from rfl, nI_subI (by omega) (by omega), nI_toInt (by omega)]
  omega
theorem ll_loop {F : LkF} {w : Wd} {A1 A2 : Nat → Nat → Nat} {b L : Nat} {xs : Nat → Int32} {Q : State → Prop} (C : ll_X F w A1 A2 b L xs) (nx : ∀ M N i, ll_W F w Q (ll_I w A1 A2 M N) 1455 (ll_l b A1 A2 i) []) : ∀ r i : Nat, L < i + 7 * r → i ≤ 3591 → ∀ M N, Cp M N → ll_W F w Q (ll_I w A1 A2 M N) 18 (ll_l b A1 A2 i) [] := by
  obtain ⟨X, ⟨hX, hb, hL⟩, -⟩ := id C
  have hbA : ¬ F.2.2.1.heap.size ≤ b := Nat.not_le.mpr hb
  intro r
  induction r with
  | zero =>
    intro i hr hi M N hC
    refine lk_ild X a_L_18 rfl ?_
    refine lk_ald X a_L_19 rfl ?_
    refine lk_slen X hX hb hbA a_L_20 ?_
    refine lk_ic X a_L_21 ?_
    refine lk_isub X a_L_23 ?_
    exact lk_icmp_gt X a_L_24 (fun _ => nx M N i) (fun q => absurd (lt_7 hL hi (by omega)) q)
  | succ r ih =>
    intro i hr hi M N hC
    refine lk_ild X a_L_18 rfl ?_
    refine lk_ald X a_L_19 rfl ?_
    refine lk_slen X hX hb hbA a_L_20 ?_
    refine lk_ic X a_L_21 ?_
    refine lk_isub X a_L_23 ?_
    refine lk_icmp_gt X a_L_24 (fun _ => nx M N i) (fun q => ?_)
    have hi7 : i + 7 ≤ L := (Nat.lt_or_ge L (i + 7)).elim (fun z => absurd (lt_7 hL hi z) q) id
    refine lk_ald X a_L_27 rfl ?_
    refine lk_ild X a_L_28 rfl ?_
    refine lk_sld X hX hb hbA (vp_in_nI (by omega) (by omega)) a_L_29 ?_
    refine lk_ic X a_L_30 ?_
    refine lk_iand X a_L_32 ?_
    have inc : ∀ M1 N1, Cp M1 N1 → ll_W F w Q (ll_I w A1 A2 M1 N1) 1449 (ll_l b A1 A2 i) [] := by
      intro M1 N1 hC1
      refine lk_iinck (v := nI (i + 7)) (ls' := ll_l b A1 A2 (i + 7)) X a_L_1449 rfl (nI_add i 7) rfl ?_
      refine lk_goto X a_L_1452 ?_
      exact ih (i + 7) (by omega) (by omega) M1 N1 hC1
    refine lk_tsw X a_L_33 (fun k t hk => ?_) (inc M N hC)
    match k, hk with
    | 0, hk => cases hk; exact ll_count C hi7 hC inc
    | 1, hk => cases hk; exact ll_winters C hi7 hC inc
    | 2, hk => cases hk; exact ll_feed C hi7 hC inc
    | 3, hk => cases hk; exact ll_text C hi7 hC inc
    | 4, hk => cases hk; exact ll_force C hi7 hC inc
    | 5, hk => cases hk; exact ll_asks C hi7 hC inc
    | 6, hk => cases hk; exact ll_person C hi7 hC inc
    | 7, hk => cases hk; exact ll_put C hi7 hC inc
    | 8, hk => cases hk; exact ll_feud C hi7 hC inc
    | 9, hk => cases hk; exact ll_told C hi7 hC inc
    | 10, hk => cases hk; exact ll_ladder C hi7 hC inc
    | 11, hk => cases hk; exact ll_stand C hi7 hC inc
    | 12, hk => cases hk; exact ll_fire C hi7 hC inc
    | 13, hk => cases hk; exact ll_door C hi7 hC inc
    | 14, hk => cases hk; exact ll_highest C hi7 hC inc
    | 15, hk => cases hk; exact ll_fewest C hi7 hC inc
    | 16, hk => cases hk; exact ll_missed C hi7 hC inc
    | 17, hk => cases hk; exact ll_next C hi7 hC inc
    | 18, hk => cases hk; exact ll_rusts C hi7 hC inc
    | 19, hk => cases hk; exact ll_come C hi7 hC inc
    | 20, hk => cases hk; exact ll_reach C hi7 hC inc
    | 21, hk => cases hk; exact ll_chain C hi7 hC inc
    | 22, hk => cases hk; exact ll_judge C hi7 hC inc
    | 23, hk => cases hk; exact ll_kinds C hi7 hC inc
    | 24, hk => cases hk; exact ll_heights C hi7 hC inc
    | 25, hk => cases hk; exact ll_years C hi7 hC inc
    | 26, hk => cases hk; exact ll_whose C hi7 hC inc
    | 27, hk => cases hk; exact ll_laws C hi7 hC inc
    | 28, hk => cases hk; exact ll_film C hi7 hC inc
    | 29, hk => cases hk; exact ll_drawn C hi7 hC inc
    | 30, hk => cases hk; exact ll_odds C hi7 hC inc
    | 31, hk => cases hk; exact ll_image C hi7 hC inc
    | 32, hk => cases hk; exact ll_back C hi7 hC inc
    | 33, hk => cases hk; exact ll_sheet C hi7 hC inc
    | 34, hk => cases hk; exact ll_cell C hi7 hC inc
    | 35, hk => cases hk; exact ll_copy C hi7 hC inc
    | 36, hk => cases hk; exact ll_peopleBy C hi7 hC inc
    | 37, hk => cases hk; exact ll_taken C hi7 hC inc
    | k + 38, hk => simp at hk
