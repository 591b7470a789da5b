/-! reference: texts, what they say -/
def siM (k : Nat) : Int32 := match k with
  | 0 => 11
  | 1 => 12
  | 2 => 14
  | 3 => 15
  | 4 => 16
  | 5 => 17
  | _ => 18
def encM (o : Op) : Int32 := match o.1 with
  | 0 => nI (100000 + o.2)
  | 1 => nI o.2
  | 2 => if o.2 = 0 then 13 else 19
  | _ => siM o.2
def txN (N : Mem) (t : Nat) (L : List (List Op)) : Prop := L.length = 3 ∧ (∀ i o, L.flatten[i]? = some o → N 7 0 (200 * t + i) = encM o) ∧ (∀ j, j ≤ 3 → N 8 0 (4 * t + j) = nI (L.take j).flatten.length) ∧ L.flatten.length ≤ 160 ∧ ∀ ops ∈ L, wfd 32 ops 0
def lawN (N : Mem) (L : List (List Op)) : Prop := ∃ t, t < 6 ∧ N 0 0 13 = nI t ∧ txN N t L
theorem ok_X7_two {T : Tb} {S : Nat → Bool} {w : Wd} {d : Nat} {M : Mem} {k : Nat} (hk : k ≤ 6) (a b : Int32) : lr_Ok T S w d jX7_two [vi (siM k), vi a, vi b] M (qI (binF k a b) M) := by
  refine lr_ok (by decide +kernel) rfl ?_
  have hkk : k = 0 ∨ k = 1 ∨ k = 2 ∨ k = 3 ∨ k = 4 ∨ k = 5 ∨ k = 6 := by omega
  rcases hkk with rfl | rfl | rfl | rfl | rfl | rfl | rfl
  · skip
    refine ri_ild a_X7_two_0 rfl ?_
    refine ri_tsw a_X7_two_1 ⟨fun zc1 => ?_, fun zc1 => ?_, fun zc1 => ?_, fun zc1 => ?_, fun zc1 => ?_, fun zc1 => ?_, fun zc1 => ?_, trivial⟩ (fun zc1 => ?_)
    · replace zc1 : (siM 0) = 11 := zc1.trans (by decide)
      refine ri_ild a_X7_two_44 rfl ?_
      refine ri_if_ne a_X7_two_45 (fun zc2 => ?_) (fun zc2 => ?_)
      · refine ri_ic a_X7_two_52 ?_
        refine ri_goto a_X7_two_53 ?_
        refine ri_ireturn a_X7_two_57 rfl rfl ?_
        first | (exfalso; revert zc1; decide) | (refine rI ?_ rfl; simp [binF, *]; done) | (refine rI ?_ rfl; simp_all [binF]; done)
      · refine ri_ild a_X7_two_48 rfl ?_
        refine ri_if_eq a_X7_two_49 (fun zc3 => ?_) (fun zc3 => ?_)
        · refine ri_ic a_X7_two_56 ?_
          refine ri_ireturn a_X7_two_57 rfl rfl ?_
          first | (exfalso; revert zc1; decide) | (refine rI ?_ rfl; simp [binF, *]; done) | (refine rI ?_ rfl; simp_all [binF]; done)
        · refine ri_ic a_X7_two_52 ?_
          refine ri_goto a_X7_two_53 ?_
          refine ri_ireturn a_X7_two_57 rfl rfl ?_
          first | (exfalso; revert zc1; decide) | (refine rI ?_ rfl; simp [binF, *]; done) | (refine rI ?_ rfl; simp_all [binF]; done)
    · replace zc1 : (siM 0) = 12 := zc1.trans (by decide)
      refine ri_ild a_X7_two_58 rfl ?_
      refine ri_if_eq a_X7_two_59 (fun zc4 => ?_) (fun zc4 => ?_)
      · refine ri_ic a_X7_two_70 ?_
        refine ri_ireturn a_X7_two_71 rfl rfl ?_
        first | (exfalso; revert zc1; decide) | (refine rI ?_ rfl; simp [binF, *]; done) | (refine rI ?_ rfl; simp_all [binF]; done)
      · refine ri_ild a_X7_two_62 rfl ?_
        refine ri_if_eq a_X7_two_63 (fun zc5 => ?_) (fun zc5 => ?_)
        · refine ri_ic a_X7_two_70 ?_
          refine ri_ireturn a_X7_two_71 rfl rfl ?_
          first | (exfalso; revert zc1; decide) | (refine rI ?_ rfl; simp [binF, *]; done) | (refine rI ?_ rfl; simp_all [binF]; done)
        · refine ri_ic a_X7_two_66 ?_
          refine ri_goto a_X7_two_67 ?_
          refine ri_ireturn a_X7_two_71 rfl rfl ?_
          first | (exfalso; revert zc1; decide) | (refine rI ?_ rfl; simp [binF, *]; done) | (refine rI ?_ rfl; simp_all [binF]; done)
    · replace zc1 : (siM 0) = 13 := zc1.trans (by decide)
      refine ri_ild a_X7_two_102 rfl ?_
      refine ri_ild a_X7_two_103 rfl ?_
      refine ri_imul a_X7_two_104 ?_
      refine ri_ireturn a_X7_two_105 rfl rfl ?_
      first | (exfalso; revert zc1; decide) | (refine rI ?_ rfl; simp [binF, *]; done) | (refine rI ?_ rfl; simp_all [binF]; done)
    · replace zc1 : (siM 0) = 14 := zc1.trans (by decide)
      refine ri_ild a_X7_two_72 rfl ?_
      refine ri_ild a_X7_two_73 rfl ?_
      refine ri_icmp_ge a_X7_two_74 (fun zc6 => ?_) (fun zc6 => ?_)
      · refine ri_ic a_X7_two_81 ?_
        refine ri_ireturn a_X7_two_82 rfl rfl ?_
        first | (exfalso; revert zc1; decide) | (refine rI ?_ rfl; simp [binF, *]; done) | (refine rI ?_ rfl; simp_all [binF]; done)
      · refine ri_ic a_X7_two_77 ?_
        refine ri_goto a_X7_two_78 ?_
        refine ri_ireturn a_X7_two_82 rfl rfl ?_
        first | (exfalso; revert zc1; decide) | (refine rI ?_ rfl; simp [binF, *]; done) | (refine rI ?_ rfl; simp_all [binF]; done)
    · replace zc1 : (siM 0) = 15 := zc1.trans (by decide)
      refine ri_ild a_X7_two_83 rfl ?_
      refine ri_ild a_X7_two_84 rfl ?_
      refine ri_icmp_ne a_X7_two_85 (fun zc7 => ?_) (fun zc7 => ?_)
      · refine ri_ic a_X7_two_92 ?_
        refine ri_ireturn a_X7_two_93 rfl rfl ?_
        first | (exfalso; revert zc1; decide) | (refine rI ?_ rfl; simp [binF, *]; done) | (refine rI ?_ rfl; simp_all [binF]; done)
      · refine ri_ic a_X7_two_88 ?_
        refine ri_goto a_X7_two_89 ?_
        refine ri_ireturn a_X7_two_93 rfl rfl ?_
        first | (exfalso; revert zc1; decide) | (refine rI ?_ rfl; simp [binF, *]; done) | (refine rI ?_ rfl; simp_all [binF]; done)
    · replace zc1 : (siM 0) = 16 := zc1.trans (by decide)
      refine ri_ild a_X7_two_94 rfl ?_
      refine ri_ild a_X7_two_95 rfl ?_
      refine ri_iadd a_X7_two_96 ?_
      refine ri_ireturn a_X7_two_97 rfl rfl ?_
      first | (exfalso; revert zc1; decide) | (refine rI ?_ rfl; simp [binF, *]; done) | (refine rI ?_ rfl; simp_all [binF]; done)
    · replace zc1 : (siM 0) = 17 := zc1.trans (by decide)
      refine ri_ild a_X7_two_98 rfl ?_
      refine ri_ild a_X7_two_99 rfl ?_
      refine ri_isub a_X7_two_100 ?_
      refine ri_ireturn a_X7_two_101 rfl rfl ?_
      first | (exfalso; revert zc1; decide) | (refine rI ?_ rfl; simp [binF, *]; done) | (refine rI ?_ rfl; simp_all [binF]; done)
    · refine ri_ild a_X7_two_102 rfl ?_
      refine ri_ild a_X7_two_103 rfl ?_
      refine ri_imul a_X7_two_104 ?_
      refine ri_ireturn a_X7_two_105 rfl rfl ?_
      first | (exfalso; revert zc1; decide) | (refine rI ?_ rfl; simp [binF, *]; done) | (refine rI ?_ rfl; simp_all [binF]; done)
  · skip
    refine ri_ild a_X7_two_0 rfl ?_
    refine ri_tsw a_X7_two_1 ⟨fun zc1 => ?_, fun zc1 => ?_, fun zc1 => ?_, fun zc1 => ?_, fun zc1 => ?_, fun zc1 => ?_, fun zc1 => ?_, trivial⟩ (fun zc1 => ?_)
    · replace zc1 : (siM 1) = 11 := zc1.trans (by decide)
      refine ri_ild a_X7_two_44 rfl ?_
      refine ri_if_ne a_X7_two_45 (fun zc2 => ?_) (fun zc2 => ?_)
      · refine ri_ic a_X7_two_52 ?_
        refine ri_goto a_X7_two_53 ?_
        refine ri_ireturn a_X7_two_57 rfl rfl ?_
        first | (exfalso; revert zc1; decide) | (refine rI ?_ rfl; simp [binF, *]; done) | (refine rI ?_ rfl; simp_all [binF]; done)
      · refine ri_ild a_X7_two_48 rfl ?_
        refine ri_if_eq a_X7_two_49 (fun zc3 => ?_) (fun zc3 => ?_)
        · refine ri_ic a_X7_two_56 ?_
          refine ri_ireturn a_X7_two_57 rfl rfl ?_
          first | (exfalso; revert zc1; decide) | (refine rI ?_ rfl; simp [binF, *]; done) | (refine rI ?_ rfl; simp_all [binF]; done)
        · refine ri_ic a_X7_two_52 ?_
          refine ri_goto a_X7_two_53 ?_
          refine ri_ireturn a_X7_two_57 rfl rfl ?_
          first | (exfalso; revert zc1; decide) | (refine rI ?_ rfl; simp [binF, *]; done) | (refine rI ?_ rfl; simp_all [binF]; done)
    · replace zc1 : (siM 1) = 12 := zc1.trans (by decide)
      refine ri_ild a_X7_two_58 rfl ?_
      refine ri_if_eq a_X7_two_59 (fun zc4 => ?_) (fun zc4 => ?_)
      · refine ri_ic a_X7_two_70 ?_
        refine ri_ireturn a_X7_two_71 rfl rfl ?_
        first | (exfalso; revert zc1; decide) | (refine rI ?_ rfl; simp [binF, *]; done) | (refine rI ?_ rfl; simp_all [binF]; done)
      · refine ri_ild a_X7_two_62 rfl ?_
        refine ri_if_eq a_X7_two_63 (fun zc5 => ?_) (fun zc5 => ?_)
        · refine ri_ic a_X7_two_70 ?_
          refine ri_ireturn a_X7_two_71 rfl rfl ?_
          first | (exfalso; revert zc1; decide) | (refine rI ?_ rfl; simp [binF, *]; done) | (refine rI ?_ rfl; simp_all [binF]; done)
        · refine ri_ic a_X7_two_66 ?_
          refine ri_goto a_X7_two_67 ?_
          refine ri_ireturn a_X7_two_71 rfl rfl ?_
          first | (exfalso; revert zc1; decide) | (refine rI ?_ rfl; simp [binF, *]; done) | (refine rI ?_ rfl; simp_all [binF]; done)
    · replace zc1 : (siM 1) = 13 := zc1.trans (by decide)
      refine ri_ild a_X7_two_102 rfl ?_
      refine ri_ild a_X7_two_103 rfl ?_
      refine ri_imul a_X7_two_104 ?_
      refine ri_ireturn a_X7_two_105 rfl rfl ?_
      first | (exfalso; revert zc1; decide) | (refine rI ?_ rfl; simp [binF, *]; done) | (refine rI ?_ rfl; simp_all [binF]; done)
    · replace zc1 : (siM 1) = 14 := zc1.trans (by decide)
      refine ri_ild a_X7_two_72 rfl ?_
      refine ri_ild a_X7_two_73 rfl ?_
      refine ri_icmp_ge a_X7_two_74 (fun zc6 => ?_) (fun zc6 => ?_)
      · refine ri_ic a_X7_two_81 ?_
        refine ri_ireturn a_X7_two_82 rfl rfl ?_
        first | (exfalso; revert zc1; decide) | (refine rI ?_ rfl; simp [binF, *]; done) | (refine rI ?_ rfl; simp_all [binF]; done)
      · refine ri_ic a_X7_two_77 ?_
        refine ri_goto a_X7_two_78 ?_
        refine ri_ireturn a_X7_two_82 rfl rfl ?_
        first | (exfalso; revert zc1; decide) | (refine rI ?_ rfl; simp [binF, *]; done) | (refine rI ?_ rfl; simp_all [binF]; done)
    · replace zc1 : (siM 1) = 15 := zc1.trans (by decide)
      refine ri_ild a_X7_two_83 rfl ?_
      refine ri_ild a_X7_two_84 rfl ?_
      refine ri_icmp_ne a_X7_two_85 (fun zc7 => ?_) (fun zc7 => ?_)
      · refine ri_ic a_X7_two_92 ?_
        refine ri_ireturn a_X7_two_93 rfl rfl ?_
        first | (exfalso; revert zc1; decide) | (refine rI ?_ rfl; simp [binF, *]; done) | (refine rI ?_ rfl; simp_all [binF]; done)
      · refine ri_ic a_X7_two_88 ?_
        refine ri_goto a_X7_two_89 ?_
        refine ri_ireturn a_X7_two_93 rfl rfl ?_
        first | (exfalso; revert zc1; decide) | (refine rI ?_ rfl; simp [binF, *]; done) | (refine rI ?_ rfl; simp_all [binF]; done)
    · replace zc1 : (siM 1) = 16 := zc1.trans (by decide)
      refine ri_ild a_X7_two_94 rfl ?_
      refine ri_ild a_X7_two_95 rfl ?_
      refine ri_iadd a_X7_two_96 ?_
      refine ri_ireturn a_X7_two_97 rfl rfl ?_
      first | (exfalso; revert zc1; decide) | (refine rI ?_ rfl; simp [binF, *]; done) | (refine rI ?_ rfl; simp_all [binF]; done)
    · replace zc1 : (siM 1) = 17 := zc1.trans (by decide)
      refine ri_ild a_X7_two_98 rfl ?_
      refine ri_ild a_X7_two_99 rfl ?_
      refine ri_isub a_X7_two_100 ?_
      refine ri_ireturn a_X7_two_101 rfl rfl ?_
      first | (exfalso; revert zc1; decide) | (refine rI ?_ rfl; simp [binF, *]; done) | (refine rI ?_ rfl; simp_all [binF]; done)
    · refine ri_ild a_X7_two_102 rfl ?_
      refine ri_ild a_X7_two_103 rfl ?_
      refine ri_imul a_X7_two_104 ?_
      refine ri_ireturn a_X7_two_105 rfl rfl ?_
      first | (exfalso; revert zc1; decide) | (refine rI ?_ rfl; simp [binF, *]; done) | (refine rI ?_ rfl; simp_all [binF]; done)
  · skip
    refine ri_ild a_X7_two_0 rfl ?_
    refine ri_tsw a_X7_two_1 ⟨fun zc1 => ?_, fun zc1 => ?_, fun zc1 => ?_, fun zc1 => ?_, fun zc1 => ?_, fun zc1 => ?_, fun zc1 => ?_, trivial⟩ (fun zc1 => ?_)
    · replace zc1 : (siM 2) = 11 := zc1.trans (by decide)
      refine ri_ild a_X7_two_44 rfl ?_
      refine ri_if_ne a_X7_two_45 (fun zc2 => ?_) (fun zc2 => ?_)
      · refine ri_ic a_X7_two_52 ?_
        refine ri_goto a_X7_two_53 ?_
        refine ri_ireturn a_X7_two_57 rfl rfl ?_
        first | (exfalso; revert zc1; decide) | (refine rI ?_ rfl; simp [binF, *]; done) | (refine rI ?_ rfl; simp_all [binF]; done)
      · refine ri_ild a_X7_two_48 rfl ?_
        refine ri_if_eq a_X7_two_49 (fun zc3 => ?_) (fun zc3 => ?_)
        · refine ri_ic a_X7_two_56 ?_
          refine ri_ireturn a_X7_two_57 rfl rfl ?_
          first | (exfalso; revert zc1; decide) | (refine rI ?_ rfl; simp [binF, *]; done) | (refine rI ?_ rfl; simp_all [binF]; done)
        · refine ri_ic a_X7_two_52 ?_
          refine ri_goto a_X7_two_53 ?_
          refine ri_ireturn a_X7_two_57 rfl rfl ?_
          first | (exfalso; revert zc1; decide) | (refine rI ?_ rfl; simp [binF, *]; done) | (refine rI ?_ rfl; simp_all [binF]; done)
    · replace zc1 : (siM 2) = 12 := zc1.trans (by decide)
      refine ri_ild a_X7_two_58 rfl ?_
      refine ri_if_eq a_X7_two_59 (fun zc4 => ?_) (fun zc4 => ?_)
      · refine ri_ic a_X7_two_70 ?_
        refine ri_ireturn a_X7_two_71 rfl rfl ?_
        first | (exfalso; revert zc1; decide) | (refine rI ?_ rfl; simp [binF, *]; done) | (refine rI ?_ rfl; simp_all [binF]; done)
      · refine ri_ild a_X7_two_62 rfl ?_
        refine ri_if_eq a_X7_two_63 (fun zc5 => ?_) (fun zc5 => ?_)
        · refine ri_ic a_X7_two_70 ?_
          refine ri_ireturn a_X7_two_71 rfl rfl ?_
          first | (exfalso; revert zc1; decide) | (refine rI ?_ rfl; simp [binF, *]; done) | (refine rI ?_ rfl; simp_all [binF]; done)
        · refine ri_ic a_X7_two_66 ?_
          refine ri_goto a_X7_two_67 ?_
          refine ri_ireturn a_X7_two_71 rfl rfl ?_
          first | (exfalso; revert zc1; decide) | (refine rI ?_ rfl; simp [binF, *]; done) | (refine rI ?_ rfl; simp_all [binF]; done)
    · replace zc1 : (siM 2) = 13 := zc1.trans (by decide)
      refine ri_ild a_X7_two_102 rfl ?_
      refine ri_ild a_X7_two_103 rfl ?_
      refine ri_imul a_X7_two_104 ?_
      refine ri_ireturn a_X7_two_105 rfl rfl ?_
      first | (exfalso; revert zc1; decide) | (refine rI ?_ rfl; simp [binF, *]; done) | (refine rI ?_ rfl; simp_all [binF]; done)
    · replace zc1 : (siM 2) = 14 := zc1.trans (by decide)
      refine ri_ild a_X7_two_72 rfl ?_
      refine ri_ild a_X7_two_73 rfl ?_
      refine ri_icmp_ge a_X7_two_74 (fun zc6 => ?_) (fun zc6 => ?_)
      · refine ri_ic a_X7_two_81 ?_
        refine ri_ireturn a_X7_two_82 rfl rfl ?_
        first | (exfalso; revert zc1; decide) | (refine rI ?_ rfl; simp [binF, *]; done) | (refine rI ?_ rfl; simp_all [binF]; done)
      · refine ri_ic a_X7_two_77 ?_
        refine ri_goto a_X7_two_78 ?_
        refine ri_ireturn a_X7_two_82 rfl rfl ?_
        first | (exfalso; revert zc1; decide) | (refine rI ?_ rfl; simp [binF, *]; done) | (refine rI ?_ rfl; simp_all [binF]; done)
    · replace zc1 : (siM 2) = 15 := zc1.trans (by decide)
      refine ri_ild a_X7_two_83 rfl ?_
      refine ri_ild a_X7_two_84 rfl ?_
      refine ri_icmp_ne a_X7_two_85 (fun zc7 => ?_) (fun zc7 => ?_)
      · refine ri_ic a_X7_two_92 ?_
        refine ri_ireturn a_X7_two_93 rfl rfl ?_
        first | (exfalso; revert zc1; decide) | (refine rI ?_ rfl; simp [binF, *]; done) | (refine rI ?_ rfl; simp_all [binF]; done)
      · refine ri_ic a_X7_two_88 ?_
        refine ri_goto a_X7_two_89 ?_
        refine ri_ireturn a_X7_two_93 rfl rfl ?_
        first | (exfalso; revert zc1; decide) | (refine rI ?_ rfl; simp [binF, *]; done) | (refine rI ?_ rfl; simp_all [binF]; done)
    · replace zc1 : (siM 2) = 16 := zc1.trans (by decide)
      refine ri_ild a_X7_two_94 rfl ?_
      refine ri_ild a_X7_two_95 rfl ?_
      refine ri_iadd a_X7_two_96 ?_
      refine ri_ireturn a_X7_two_97 rfl rfl ?_
      first | (exfalso; revert zc1; decide) | (refine rI ?_ rfl; simp [binF, *]; done) | (refine rI ?_ rfl; simp_all [binF]; done)
    · replace zc1 : (siM 2) = 17 := zc1.trans (by decide)
      refine ri_ild a_X7_two_98 rfl ?_
      refine ri_ild a_X7_two_99 rfl ?_
      refine ri_isub a_X7_two_100 ?_
      refine ri_ireturn a_X7_two_101 rfl rfl ?_
      first | (exfalso; revert zc1; decide) | (refine rI ?_ rfl; simp [binF, *]; done) | (refine rI ?_ rfl; simp_all [binF]; done)
    · refine ri_ild a_X7_two_102 rfl ?_
      refine ri_ild a_X7_two_103 rfl ?_
      refine ri_imul a_X7_two_104 ?_
      refine ri_ireturn a_X7_two_105 rfl rfl ?_
      first | (exfalso; revert zc1; decide) | (refine rI ?_ rfl; simp [binF, *]; done) | (refine rI ?_ rfl; simp_all [binF]; done)
  · skip
    refine ri_ild a_X7_two_0 rfl ?_
    refine ri_tsw a_X7_two_1 ⟨fun zc1 => ?_, fun zc1 => ?_, fun zc1 => ?_, fun zc1 => ?_, fun zc1 => ?_, fun zc1 => ?_, fun zc1 => ?_, trivial⟩ (fun zc1 => ?_)
    · replace zc1 : (siM 3) = 11 := zc1.trans (by decide)
      refine ri_ild a_X7_two_44 rfl ?_
      refine ri_if_ne a_X7_two_45 (fun zc2 => ?_) (fun zc2 => ?_)
      · refine ri_ic a_X7_two_52 ?_
        refine ri_goto a_X7_two_53 ?_
        refine ri_ireturn a_X7_two_57 rfl rfl ?_
        first | (exfalso; revert zc1; decide) | (refine rI ?_ rfl; simp [binF, *]; done) | (refine rI ?_ rfl; simp_all [binF]; done)
      · refine ri_ild a_X7_two_48 rfl ?_
        refine ri_if_eq a_X7_two_49 (fun zc3 => ?_) (fun zc3 => ?_)
        · refine ri_ic a_X7_two_56 ?_
          refine ri_ireturn a_X7_two_57 rfl rfl ?_
          first | (exfalso; revert zc1; decide) | (refine rI ?_ rfl; simp [binF, *]; done) | (refine rI ?_ rfl; simp_all [binF]; done)
        · refine ri_ic a_X7_two_52 ?_
          refine ri_goto a_X7_two_53 ?_
          refine ri_ireturn a_X7_two_57 rfl rfl ?_
          first | (exfalso; revert zc1; decide) | (refine rI ?_ rfl; simp [binF, *]; done) | (refine rI ?_ rfl; simp_all [binF]; done)
    · replace zc1 : (siM 3) = 12 := zc1.trans (by decide)
      refine ri_ild a_X7_two_58 rfl ?_
      refine ri_if_eq a_X7_two_59 (fun zc4 => ?_) (fun zc4 => ?_)
      · refine ri_ic a_X7_two_70 ?_
        refine ri_ireturn a_X7_two_71 rfl rfl ?_
        first | (exfalso; revert zc1; decide) | (refine rI ?_ rfl; simp [binF, *]; done) | (refine rI ?_ rfl; simp_all [binF]; done)
      · refine ri_ild a_X7_two_62 rfl ?_
        refine ri_if_eq a_X7_two_63 (fun zc5 => ?_) (fun zc5 => ?_)
        · refine ri_ic a_X7_two_70 ?_
          refine ri_ireturn a_X7_two_71 rfl rfl ?_
          first | (exfalso; revert zc1; decide) | (refine rI ?_ rfl; simp [binF, *]; done) | (refine rI ?_ rfl; simp_all [binF]; done)
        · refine ri_ic a_X7_two_66 ?_
          refine ri_goto a_X7_two_67 ?_
          refine ri_ireturn a_X7_two_71 rfl rfl ?_
          first | (exfalso; revert zc1; decide) | (refine rI ?_ rfl; simp [binF, *]; done) | (refine rI ?_ rfl; simp_all [binF]; done)
    · replace zc1 : (siM 3) = 13 := zc1.trans (by decide)
      refine ri_ild a_X7_two_102 rfl ?_
      refine ri_ild a_X7_two_103 rfl ?_
      refine ri_imul a_X7_two_104 ?_
      refine ri_ireturn a_X7_two_105 rfl rfl ?_
      first | (exfalso; revert zc1; decide) | (refine rI ?_ rfl; simp [binF, *]; done) | (refine rI ?_ rfl; simp_all [binF]; done)
    · replace zc1 : (siM 3) = 14 := zc1.trans (by decide)
      refine ri_ild a_X7_two_72 rfl ?_
      refine ri_ild a_X7_two_73 rfl ?_
      refine ri_icmp_ge a_X7_two_74 (fun zc6 => ?_) (fun zc6 => ?_)
      · refine ri_ic a_X7_two_81 ?_
        refine ri_ireturn a_X7_two_82 rfl rfl ?_
        first | (exfalso; revert zc1; decide) | (refine rI ?_ rfl; simp [binF, *]; done) | (refine rI ?_ rfl; simp_all [binF]; done)
      · refine ri_ic a_X7_two_77 ?_
        refine ri_goto a_X7_two_78 ?_
        refine ri_ireturn a_X7_two_82 rfl rfl ?_
        first | (exfalso; revert zc1; decide) | (refine rI ?_ rfl; simp [binF, *]; done) | (refine rI ?_ rfl; simp_all [binF]; done)
    · replace zc1 : (siM 3) = 15 := zc1.trans (by decide)
      refine ri_ild a_X7_two_83 rfl ?_
      refine ri_ild a_X7_two_84 rfl ?_
      refine ri_icmp_ne a_X7_two_85 (fun zc7 => ?_) (fun zc7 => ?_)
      · refine ri_ic a_X7_two_92 ?_
        refine ri_ireturn a_X7_two_93 rfl rfl ?_
        first | (exfalso; revert zc1; decide) | (refine rI ?_ rfl; simp [binF, *]; done) | (refine rI ?_ rfl; simp_all [binF]; done)
      · refine ri_ic a_X7_two_88 ?_
        refine ri_goto a_X7_two_89 ?_
        refine ri_ireturn a_X7_two_93 rfl rfl ?_
        first | (exfalso; revert zc1; decide) | (refine rI ?_ rfl; simp [binF, *]; done) | (refine rI ?_ rfl; simp_all [binF]; done)
    · replace zc1 : (siM 3) = 16 := zc1.trans (by decide)
      refine ri_ild a_X7_two_94 rfl ?_
      refine ri_ild a_X7_two_95 rfl ?_
      refine ri_iadd a_X7_two_96 ?_
      refine ri_ireturn a_X7_two_97 rfl rfl ?_
      first | (exfalso; revert zc1; decide) | (refine rI ?_ rfl; simp [binF, *]; done) | (refine rI ?_ rfl; simp_all [binF]; done)
    · replace zc1 : (siM 3) = 17 := zc1.trans (by decide)
      refine ri_ild a_X7_two_98 rfl ?_
      refine ri_ild a_X7_two_99 rfl ?_
      refine ri_isub a_X7_two_100 ?_
      refine ri_ireturn a_X7_two_101 rfl rfl ?_
      first | (exfalso; revert zc1; decide) | (refine rI ?_ rfl; simp [binF, *]; done) | (refine rI ?_ rfl; simp_all [binF]; done)
    · refine ri_ild a_X7_two_102 rfl ?_
      refine ri_ild a_X7_two_103 rfl ?_
      refine ri_imul a_X7_two_104 ?_
      refine ri_ireturn a_X7_two_105 rfl rfl ?_
      first | (exfalso; revert zc1; decide) | (refine rI ?_ rfl; simp [binF, *]; done) | (refine rI ?_ rfl; simp_all [binF]; done)
  · skip
    refine ri_ild a_X7_two_0 rfl ?_
    refine ri_tsw a_X7_two_1 ⟨fun zc1 => ?_, fun zc1 => ?_, fun zc1 => ?_, fun zc1 => ?_, fun zc1 => ?_, fun zc1 => ?_, fun zc1 => ?_, trivial⟩ (fun zc1 => ?_)
    · replace zc1 : (siM 4) = 11 := zc1.trans (by decide)
      refine ri_ild a_X7_two_44 rfl ?_
      refine ri_if_ne a_X7_two_45 (fun zc2 => ?_) (fun zc2 => ?_)
      · refine ri_ic a_X7_two_52 ?_
        refine ri_goto a_X7_two_53 ?_
        refine ri_ireturn a_X7_two_57 rfl rfl ?_
        first | (exfalso; revert zc1; decide) | (refine rI ?_ rfl; simp [binF, *]; done) | (refine rI ?_ rfl; simp_all [binF]; done)
      · refine ri_ild a_X7_two_48 rfl ?_
        refine ri_if_eq a_X7_two_49 (fun zc3 => ?_) (fun zc3 => ?_)
        · refine ri_ic a_X7_two_56 ?_
          refine ri_ireturn a_X7_two_57 rfl rfl ?_
          first | (exfalso; revert zc1; decide) | (refine rI ?_ rfl; simp [binF, *]; done) | (refine rI ?_ rfl; simp_all [binF]; done)
        · refine ri_ic a_X7_two_52 ?_
          refine ri_goto a_X7_two_53 ?_
          refine ri_ireturn a_X7_two_57 rfl rfl ?_
          first | (exfalso; revert zc1; decide) | (refine rI ?_ rfl; simp [binF, *]; done) | (refine rI ?_ rfl; simp_all [binF]; done)
    · replace zc1 : (siM 4) = 12 := zc1.trans (by decide)
      refine ri_ild a_X7_two_58 rfl ?_
      refine ri_if_eq a_X7_two_59 (fun zc4 => ?_) (fun zc4 => ?_)
      · refine ri_ic a_X7_two_70 ?_
        refine ri_ireturn a_X7_two_71 rfl rfl ?_
        first | (exfalso; revert zc1; decide) | (refine rI ?_ rfl; simp [binF, *]; done) | (refine rI ?_ rfl; simp_all [binF]; done)
      · refine ri_ild a_X7_two_62 rfl ?_
        refine ri_if_eq a_X7_two_63 (fun zc5 => ?_) (fun zc5 => ?_)
        · refine ri_ic a_X7_two_70 ?_
          refine ri_ireturn a_X7_two_71 rfl rfl ?_
          first | (exfalso; revert zc1; decide) | (refine rI ?_ rfl; simp [binF, *]; done) | (refine rI ?_ rfl; simp_all [binF]; done)
        · refine ri_ic a_X7_two_66 ?_
          refine ri_goto a_X7_two_67 ?_
          refine ri_ireturn a_X7_two_71 rfl rfl ?_
          first | (exfalso; revert zc1; decide) | (refine rI ?_ rfl; simp [binF, *]; done) | (refine rI ?_ rfl; simp_all [binF]; done)
    · replace zc1 : (siM 4) = 13 := zc1.trans (by decide)
      refine ri_ild a_X7_two_102 rfl ?_
      refine ri_ild a_X7_two_103 rfl ?_
      refine ri_imul a_X7_two_104 ?_
      refine ri_ireturn a_X7_two_105 rfl rfl ?_
      first | (exfalso; revert zc1; decide) | (refine rI ?_ rfl; simp [binF, *]; done) | (refine rI ?_ rfl; simp_all [binF]; done)
    · replace zc1 : (siM 4) = 14 := zc1.trans (by decide)
      refine ri_ild a_X7_two_72 rfl ?_
      refine ri_ild a_X7_two_73 rfl ?_
      refine ri_icmp_ge a_X7_two_74 (fun zc6 => ?_) (fun zc6 => ?_)
      · refine ri_ic a_X7_two_81 ?_
        refine ri_ireturn a_X7_two_82 rfl rfl ?_
        first | (exfalso; revert zc1; decide) | (refine rI ?_ rfl; simp [binF, *]; done) | (refine rI ?_ rfl; simp_all [binF]; done)
      · refine ri_ic a_X7_two_77 ?_
        refine ri_goto a_X7_two_78 ?_
        refine ri_ireturn a_X7_two_82 rfl rfl ?_
        first | (exfalso; revert zc1; decide) | (refine rI ?_ rfl; simp [binF, *]; done) | (refine rI ?_ rfl; simp_all [binF]; done)
    · replace zc1 : (siM 4) = 15 := zc1.trans (by decide)
      refine ri_ild a_X7_two_83 rfl ?_
      refine ri_ild a_X7_two_84 rfl ?_
      refine ri_icmp_ne a_X7_two_85 (fun zc7 => ?_) (fun zc7 => ?_)
      · refine ri_ic a_X7_two_92 ?_
        refine ri_ireturn a_X7_two_93 rfl rfl ?_
        first | (exfalso; revert zc1; decide) | (refine rI ?_ rfl; simp [binF, *]; done) | (refine rI ?_ rfl; simp_all [binF]; done)
      · refine ri_ic a_X7_two_88 ?_
        refine ri_goto a_X7_two_89 ?_
        refine ri_ireturn a_X7_two_93 rfl rfl ?_
        first | (exfalso; revert zc1; decide) | (refine rI ?_ rfl; simp [binF, *]; done) | (refine rI ?_ rfl; simp_all [binF]; done)
    · replace zc1 : (siM 4) = 16 := zc1.trans (by decide)
      refine ri_ild a_X7_two_94 rfl ?_
      refine ri_ild a_X7_two_95 rfl ?_
      refine ri_iadd a_X7_two_96 ?_
      refine ri_ireturn a_X7_two_97 rfl rfl ?_
      first | (exfalso; revert zc1; decide) | (refine rI ?_ rfl; simp [binF, *]; done) | (refine rI ?_ rfl; simp_all [binF]; done)
    · replace zc1 : (siM 4) = 17 := zc1.trans (by decide)
      refine ri_ild a_X7_two_98 rfl ?_
      refine ri_ild a_X7_two_99 rfl ?_
      refine ri_isub a_X7_two_100 ?_
      refine ri_ireturn a_X7_two_101 rfl rfl ?_
      first | (exfalso; revert zc1; decide) | (refine rI ?_ rfl; simp [binF, *]; done) | (refine rI ?_ rfl; simp_all [binF]; done)
    · refine ri_ild a_X7_two_102 rfl ?_
      refine ri_ild a_X7_two_103 rfl ?_
      refine ri_imul a_X7_two_104 ?_
      refine ri_ireturn a_X7_two_105 rfl rfl ?_
      first | (exfalso; revert zc1; decide) | (refine rI ?_ rfl; simp [binF, *]; done) | (refine rI ?_ rfl; simp_all [binF]; done)
  · skip
    refine ri_ild a_X7_two_0 rfl ?_
    refine ri_tsw a_X7_two_1 ⟨fun zc1 => ?_, fun zc1 => ?_, fun zc1 => ?_, fun zc1 => ?_, fun zc1 => ?_, fun zc1 => ?_, fun zc1 => ?_, trivial⟩ (fun zc1 => ?_)
    · replace zc1 : (siM 5) = 11 := zc1.trans (by decide)
      refine ri_ild a_X7_two_44 rfl ?_
      refine ri_if_ne a_X7_two_45 (fun zc2 => ?_) (fun zc2 => ?_)
      · refine ri_ic a_X7_two_52 ?_
        refine ri_goto a_X7_two_53 ?_
        refine ri_ireturn a_X7_two_57 rfl rfl ?_
        first | (exfalso; revert zc1; decide) | (refine rI ?_ rfl; simp [binF, *]; done) | (refine rI ?_ rfl; simp_all [binF]; done)
      · refine ri_ild a_X7_two_48 rfl ?_
        refine ri_if_eq a_X7_two_49 (fun zc3 => ?_) (fun zc3 => ?_)
        · refine ri_ic a_X7_two_56 ?_
          refine ri_ireturn a_X7_two_57 rfl rfl ?_
          first | (exfalso; revert zc1; decide) | (refine rI ?_ rfl; simp [binF, *]; done) | (refine rI ?_ rfl; simp_all [binF]; done)
        · refine ri_ic a_X7_two_52 ?_
          refine ri_goto a_X7_two_53 ?_
          refine ri_ireturn a_X7_two_57 rfl rfl ?_
          first | (exfalso; revert zc1; decide) | (refine rI ?_ rfl; simp [binF, *]; done) | (refine rI ?_ rfl; simp_all [binF]; done)
    · replace zc1 : (siM 5) = 12 := zc1.trans (by decide)
      refine ri_ild a_X7_two_58 rfl ?_
      refine ri_if_eq a_X7_two_59 (fun zc4 => ?_) (fun zc4 => ?_)
      · refine ri_ic a_X7_two_70 ?_
        refine ri_ireturn a_X7_two_71 rfl rfl ?_
        first | (exfalso; revert zc1; decide) | (refine rI ?_ rfl; simp [binF, *]; done) | (refine rI ?_ rfl; simp_all [binF]; done)
      · refine ri_ild a_X7_two_62 rfl ?_
        refine ri_if_eq a_X7_two_63 (fun zc5 => ?_) (fun zc5 => ?_)
        · refine ri_ic a_X7_two_70 ?_
          refine ri_ireturn a_X7_two_71 rfl rfl ?_
          first | (exfalso; revert zc1; decide) | (refine rI ?_ rfl; simp [binF, *]; done) | (refine rI ?_ rfl; simp_all [binF]; done)
        · refine ri_ic a_X7_two_66 ?_
          refine ri_goto a_X7_two_67 ?_
          refine ri_ireturn a_X7_two_71 rfl rfl ?_
          first | (exfalso; revert zc1; decide) | (refine rI ?_ rfl; simp [binF, *]; done) | (refine rI ?_ rfl; simp_all [binF]; done)
    · replace zc1 : (siM 5) = 13 := zc1.trans (by decide)
      refine ri_ild a_X7_two_102 rfl ?_
      refine ri_ild a_X7_two_103 rfl ?_
      refine ri_imul a_X7_two_104 ?_
      refine ri_ireturn a_X7_two_105 rfl rfl ?_
      first | (exfalso; revert zc1; decide) | (refine rI ?_ rfl; simp [binF, *]; done) | (refine rI ?_ rfl; simp_all [binF]; done)
    · replace zc1 : (siM 5) = 14 := zc1.trans (by decide)
      refine ri_ild a_X7_two_72 rfl ?_
      refine ri_ild a_X7_two_73 rfl ?_
      refine ri_icmp_ge a_X7_two_74 (fun zc6 => ?_) (fun zc6 => ?_)
      · refine ri_ic a_X7_two_81 ?_
        refine ri_ireturn a_X7_two_82 rfl rfl ?_
        first | (exfalso; revert zc1; decide) | (refine rI ?_ rfl; simp [binF, *]; done) | (refine rI ?_ rfl; simp_all [binF]; done)
      · refine ri_ic a_X7_two_77 ?_
        refine ri_goto a_X7_two_78 ?_
        refine ri_ireturn a_X7_two_82 rfl rfl ?_
        first | (exfalso; revert zc1; decide) | (refine rI ?_ rfl; simp [binF, *]; done) | (refine rI ?_ rfl; simp_all [binF]; done)
    · replace zc1 : (siM 5) = 15 := zc1.trans (by decide)
      refine ri_ild a_X7_two_83 rfl ?_
      refine ri_ild a_X7_two_84 rfl ?_
      refine ri_icmp_ne a_X7_two_85 (fun zc7 => ?_) (fun zc7 => ?_)
      · refine ri_ic a_X7_two_92 ?_
        refine ri_ireturn a_X7_two_93 rfl rfl ?_
        first | (exfalso; revert zc1; decide) | (refine rI ?_ rfl; simp [binF, *]; done) | (refine rI ?_ rfl; simp_all [binF]; done)
      · refine ri_ic a_X7_two_88 ?_
        refine ri_goto a_X7_two_89 ?_
        refine ri_ireturn a_X7_two_93 rfl rfl ?_
        first | (exfalso; revert zc1; decide) | (refine rI ?_ rfl; simp [binF, *]; done) | (refine rI ?_ rfl; simp_all [binF]; done)
    · replace zc1 : (siM 5) = 16 := zc1.trans (by decide)
      refine ri_ild a_X7_two_94 rfl ?_
      refine ri_ild a_X7_two_95 rfl ?_
      refine ri_iadd a_X7_two_96 ?_
      refine ri_ireturn a_X7_two_97 rfl rfl ?_
      first | (exfalso; revert zc1; decide) | (refine rI ?_ rfl; simp [binF, *]; done) | (refine rI ?_ rfl; simp_all [binF]; done)
    · replace zc1 : (siM 5) = 17 := zc1.trans (by decide)
      refine ri_ild a_X7_two_98 rfl ?_
      refine ri_ild a_X7_two_99 rfl ?_
      refine ri_isub a_X7_two_100 ?_
      refine ri_ireturn a_X7_two_101 rfl rfl ?_
      first | (exfalso; revert zc1; decide) | (refine rI ?_ rfl; simp [binF, *]; done) | (refine rI ?_ rfl; simp_all [binF]; done)
    · refine ri_ild a_X7_two_102 rfl ?_
      refine ri_ild a_X7_two_103 rfl ?_
      refine ri_imul a_X7_two_104 ?_
      refine ri_ireturn a_X7_two_105 rfl rfl ?_
      first | (exfalso; revert zc1; decide) | (refine rI ?_ rfl; simp [binF, *]; done) | (refine rI ?_ rfl; simp_all [binF]; done)
  · skip
    refine ri_ild a_X7_two_0 rfl ?_
    refine ri_tsw a_X7_two_1 ⟨fun zc1 => ?_, fun zc1 => ?_, fun zc1 => ?_, fun zc1 => ?_, fun zc1 => ?_, fun zc1 => ?_, fun zc1 => ?_, trivial⟩ (fun zc1 => ?_)
    · replace zc1 : (siM 6) = 11 := zc1.trans (by decide)
      refine ri_ild a_X7_two_44 rfl ?_
      refine ri_if_ne a_X7_two_45 (fun zc2 => ?_) (fun zc2 => ?_)
      · refine ri_ic a_X7_two_52 ?_
        refine ri_goto a_X7_two_53 ?_
        refine ri_ireturn a_X7_two_57 rfl rfl ?_
        first | (exfalso; revert zc1; decide) | (refine rI ?_ rfl; simp [binF, *]; done) | (refine rI ?_ rfl; simp_all [binF]; done)
      · refine ri_ild a_X7_two_48 rfl ?_
        refine ri_if_eq a_X7_two_49 (fun zc3 => ?_) (fun zc3 => ?_)
        · refine ri_ic a_X7_two_56 ?_
          refine ri_ireturn a_X7_two_57 rfl rfl ?_
          first | (exfalso; revert zc1; decide) | (refine rI ?_ rfl; simp [binF, *]; done) | (refine rI ?_ rfl; simp_all [binF]; done)
        · refine ri_ic a_X7_two_52 ?_
          refine ri_goto a_X7_two_53 ?_
          refine ri_ireturn a_X7_two_57 rfl rfl ?_
          first | (exfalso; revert zc1; decide) | (refine rI ?_ rfl; simp [binF, *]; done) | (refine rI ?_ rfl; simp_all [binF]; done)
    · replace zc1 : (siM 6) = 12 := zc1.trans (by decide)
      refine ri_ild a_X7_two_58 rfl ?_
      refine ri_if_eq a_X7_two_59 (fun zc4 => ?_) (fun zc4 => ?_)
      · refine ri_ic a_X7_two_70 ?_
        refine ri_ireturn a_X7_two_71 rfl rfl ?_
        first | (exfalso; revert zc1; decide) | (refine rI ?_ rfl; simp [binF, *]; done) | (refine rI ?_ rfl; simp_all [binF]; done)
      · refine ri_ild a_X7_two_62 rfl ?_
        refine ri_if_eq a_X7_two_63 (fun zc5 => ?_) (fun zc5 => ?_)
        · refine ri_ic a_X7_two_70 ?_
          refine ri_ireturn a_X7_two_71 rfl rfl ?_
          first | (exfalso; revert zc1; decide) | (refine rI ?_ rfl; simp [binF, *]; done) | (refine rI ?_ rfl; simp_all [binF]; done)
        · refine ri_ic a_X7_two_66 ?_
          refine ri_goto a_X7_two_67 ?_
          refine ri_ireturn a_X7_two_71 rfl rfl ?_
          first | (exfalso; revert zc1; decide) | (refine rI ?_ rfl; simp [binF, *]; done) | (refine rI ?_ rfl; simp_all [binF]; done)
    · replace zc1 : (siM 6) = 13 := zc1.trans (by decide)
      refine ri_ild a_X7_two_102 rfl ?_
      refine ri_ild a_X7_two_103 rfl ?_
      refine ri_imul a_X7_two_104 ?_
      refine ri_ireturn a_X7_two_105 rfl rfl ?_
      first | (exfalso; revert zc1; decide) | (refine rI ?_ rfl; simp [binF, *]; done) | (refine rI ?_ rfl; simp_all [binF]; done)
    · replace zc1 : (siM 6) = 14 := zc1.trans (by decide)
      refine ri_ild a_X7_two_72 rfl ?_
      refine ri_ild a_X7_two_73 rfl ?_
      refine ri_icmp_ge a_X7_two_74 (fun zc6 => ?_) (fun zc6 => ?_)
      · refine ri_ic a_X7_two_81 ?_
        refine ri_ireturn a_X7_two_82 rfl rfl ?_
        first | (exfalso; revert zc1; decide) | (refine rI ?_ rfl; simp [binF, *]; done) | (refine rI ?_ rfl; simp_all [binF]; done)
      · refine ri_ic a_X7_two_77 ?_
        refine ri_goto a_X7_two_78 ?_
        refine ri_ireturn a_X7_two_82 rfl rfl ?_
        first | (exfalso; revert zc1; decide) | (refine rI ?_ rfl; simp [binF, *]; done) | (refine rI ?_ rfl; simp_all [binF]; done)
    · replace zc1 : (siM 6) = 15 := zc1.trans (by decide)
      refine ri_ild a_X7_two_83 rfl ?_
      refine ri_ild a_X7_two_84 rfl ?_
      refine ri_icmp_ne a_X7_two_85 (fun zc7 => ?_) (fun zc7 => ?_)
      · refine ri_ic a_X7_two_92 ?_
        refine ri_ireturn a_X7_two_93 rfl rfl ?_
        first | (exfalso; revert zc1; decide) | (refine rI ?_ rfl; simp [binF, *]; done) | (refine rI ?_ rfl; simp_all [binF]; done)
      · refine ri_ic a_X7_two_88 ?_
        refine ri_goto a_X7_two_89 ?_
        refine ri_ireturn a_X7_two_93 rfl rfl ?_
        first | (exfalso; revert zc1; decide) | (refine rI ?_ rfl; simp [binF, *]; done) | (refine rI ?_ rfl; simp_all [binF]; done)
    · replace zc1 : (siM 6) = 16 := zc1.trans (by decide)
      refine ri_ild a_X7_two_94 rfl ?_
      refine ri_ild a_X7_two_95 rfl ?_
      refine ri_iadd a_X7_two_96 ?_
      refine ri_ireturn a_X7_two_97 rfl rfl ?_
      first | (exfalso; revert zc1; decide) | (refine rI ?_ rfl; simp [binF, *]; done) | (refine rI ?_ rfl; simp_all [binF]; done)
    · replace zc1 : (siM 6) = 17 := zc1.trans (by decide)
      refine ri_ild a_X7_two_98 rfl ?_
      refine ri_ild a_X7_two_99 rfl ?_
      refine ri_isub a_X7_two_100 ?_
      refine ri_ireturn a_X7_two_101 rfl rfl ?_
      first | (exfalso; revert zc1; decide) | (refine rI ?_ rfl; simp [binF, *]; done) | (refine rI ?_ rfl; simp_all [binF]; done)
    · refine ri_ild a_X7_two_102 rfl ?_
      refine ri_ild a_X7_two_103 rfl ?_
      refine ri_imul a_X7_two_104 ?_
      refine ri_ireturn a_X7_two_105 rfl rfl ?_
      first | (exfalso; revert zc1; decide) | (refine rI ?_ rfl; simp [binF, *]; done) | (refine rI ?_ rfl; simp_all [binF]; done)
theorem enM_kinds {o : Op} (hok : opOk o) : (o.1 = 0 ∧ 100000 ≤ encM o ∧ encM o - 100000 = nI o.2) ∨ (o.1 = 1 ∧ ¬ 100000 ≤ encM o ∧ encM o < 11 ∧ encM o = nI o.2 ∧ o.2 ≤ 5) ∨ (o.1 = 2 ∧ ¬ 100000 ≤ encM o ∧ ¬ encM o < 11 ∧ ((o.2 = 0 ∧ encM o = 13) ∨ (o.2 = 1 ∧ encM o = 19))) ∨ (o.1 = 3 ∧ ¬ 100000 ≤ encM o ∧ ¬ encM o < 11 ∧ ¬ encM o = 13 ∧ ¬ encM o = 19 ∧ encM o = siM o.2 ∧ o.2 ≤ 6) := by
  obtain ⟨a, b⟩ := o
  rcases hok with ⟨h1, h2⟩ | ⟨h1, h2⟩ | ⟨h1, h2⟩ | ⟨h1, h2⟩ <;> dsimp only at h1 h2 <;> subst h1
  · refine Or.inl ⟨rfl, ?_, ?_⟩
    · exact nI_le (a := 100000) (by omega) (by omega)
    · show nI (100000 + b) - 100000 = nI b
      rw [← nI_add, Int32.add_comm]
      exact Int32.add_sub_cancel _ _
  · refine Or.inr (Or.inl ⟨rfl, ?_⟩)
    have : b = 0 ∨ b = 1 ∨ b = 2 ∨ b = 3 ∨ b = 4 ∨ b = 5 := by omega
    rcases this with rfl | rfl | rfl | rfl | rfl | rfl <;> decide
  · refine Or.inr (Or.inr (Or.inl ⟨rfl, ?_⟩))
    have : b = 0 ∨ b = 1 := by omega
    rcases this with rfl | rfl <;> decide
  · refine Or.inr (Or.inr (Or.inr ⟨rfl, ?_⟩))
    have : b = 0 ∨ b = 1 ∨ b = 2 ∨ b = 3 ∨ b = 4 ∨ b = 5 ∨ b = 6 := by omega
    rcases this with rfl | rfl | rfl | rfl | rfl | rfl | rfl <;> decide
theorem txN_v {N : Mem} {t pt : Nat} {L : List (List Op)} (h : txN N t L) (hpt : pt < 3) : ∃ lo hi, N 8 0 (4 * t + pt) = nI lo ∧ N 8 0 (4 * t + pt + 1) = nI hi ∧ hi ≤ 160 ∧ lo + (L.getD pt []).length = hi ∧ (∀ k o, (L.getD pt [])[k]? = some o → N 7 0 (200 * t + (lo + k)) = encM o) ∧ wfd 32 (L.getD pt []) 0 := by
  obtain ⟨h3, hc, he, h160, hw⟩ := h
  match L, h3 with
  | [a, b, c], _ =>
  have e0 := he 0 (by decide)
  have e1 := he 1 (by decide)
  have e2 := he 2 (by decide)
  have e3 := he 3 (by decide)
  simp only [List.take_succ_cons, List.take_zero, List.flatten_cons, List.flatten_nil, List.append_nil, List.length_append, List.length_nil] at e0 e1 e2 e3 h160 hc
  match pt, hpt with
  | 0, _ => exact ⟨0, a.length, e0, e1, by omega, by simp, fun k o hk => by rw [Nat.zero_add]; exact hc k o (by rw [List.getElem?_append_left]; exact hk; exact (List.getElem?_eq_some_iff.1 hk).1), hw a (by simp)⟩
  | 1, _ => exact ⟨a.length, a.length + b.length, e1, e2, by omega, by simp, fun k o hk => hc _ o (by rw [List.getElem?_append_right (by omega), Nat.add_sub_cancel_left, List.getElem?_append_left]; exact hk; exact (List.getElem?_eq_some_iff.1 hk).1), hw b (by simp)⟩
  | 2, _ => exact ⟨a.length + b.length, a.length + (b.length + c.length), e2, e3, by omega, by simp [Nat.add_assoc], fun k o hk => hc _ o (by rw [List.getElem?_append_right (by omega), List.getElem?_append_right (by omega), show a.length + b.length + k - a.length - b.length = k by omega]; exact hk), hw c (by simp)⟩
theorem nI_4a (t y : Nat) : 4 * nI t + nI y = nI (4 * t + y) := by rw [show (4 : Int32) = nI 4 from rfl, nI_mul, nI_add]
theorem nI_200a (t y : Nat) : 200 * nI t + nI y = nI (200 * t + y) := by rw [show (200 : Int32) = nI 200 from rfl, nI_mul, nI_add]
theorem ok_X7_says0 {w : Wd} {d : Nat} (hd : 1 ≤ d) {N : Mem} {t pt : Nat} {L : List (List Op)} {nm : Nat → Int32} (ht : t < 6) (hr : N 0 0 13 = nI t) (hL : txN N t L) (hpt : pt < 3) (hnm : ∀ k, k ≤ 5 → N 18 0 k = nm k) :
    lr_Ok tM s0 w d jX7_says [vo 0 0, vi (nI pt)] N (fun r N' => r = some (vi (evA nm (L.getD pt []) [])) ∧ ∀ t, t ≠ 17 → N' t = N t) := by
  obtain ⟨lo, hi, hlo, hhi, h160, hlen, hcode, hwf⟩ := txN_v hL hpt
  generalize L.getD pt [] = ops at *
  have i8 : vp_in (4 * nI t + nI pt) 24 := by rw [nI_4a]; exact vp_in_nI (by omega) (by decide)
  have i81 : vp_in (4 * nI t + nI pt + 1) 24 := by rw [nI_4a, nI_1]; exact vp_in_nI (by omega) (by decide)
  have c8 : (4 * nI t + nI pt).toNatClampNeg = 4 * t + pt := by rw [nI_4a, nI_clamp (by omega)]
  have c81 : (4 * nI t + nI pt + 1).toNatClampNeg = 4 * t + pt + 1 := by rw [nI_4a, nI_1, nI_clamp (by omega)]
  have loop : ∀ (os : List Op) (st : List Int32) (i : Nat) (N1 : Mem) (j4 : Option AV), (∀ k o, os[k]? = some o → N 7 0 (200 * t + (i + k)) = encM o) → i + os.length = hi → wfd 32 os st.length → st.length ≤ 32 → stk (N1 17 0) st → (∀ t, t ≠ 17 → N1 t = N t) →
      lr_W tM s0 w d jX7_says 16 [some (vo 0 0), some (vi (nI pt)), some (vi (nI st.length)), some (vi (nI i)), j4] [] N1 (fun r N' => r = some (vi (evA nm os st)) ∧ ∀ t, t ≠ 17 → N' t = N t) := by
    intro os
    induction os with
    | nil =>
      intro st i N1 j4 hseg hi2 hw h32 hst hag
      have hlen1 : st.length = 1 := hw
      have e8 : N1 8 = N 8 := hag 8 (by decide)
      have e0 : N1 0 0 13 = nI t := by rw [hag 0 (by decide)]; exact hr
      have ei : hi = i := by simpa using hi2.symm
      subst ei
      obtain ⟨v, rfl⟩ : ∃ v, st = [v] := by
        match st, hlen1 with
        | [v], _ => exact ⟨v, rfl⟩
      refine ri_ild a_X7_says_16 rfl ?_
      refine ri_ald a_X7_says_17 rfl ?_
      refine ri_getR (t' := 8) (i' := 0) a_X7_says_18 fl_X7_31 kM_0_11 rfl iM_0 (Or.inr ⟨rfl, rfl, rfl⟩) ?_
      refine ri_ic a_X7_says_21 ?_
      refine ri_ald a_X7_says_22 rfl ?_
      refine ri_getI a_X7_says_23 fl_X7_109 kM_0_13 rfl iM_0 ?_
      refine ri_imul a_X7_says_26 ?_
      refine ri_ild a_X7_says_27 rfl ?_
      refine ri_iadd a_X7_says_28 ?_
      refine ri_ic a_X7_says_29 ?_
      refine ri_iadd a_X7_says_30 ?_
      refine ri_iaload a_X7_says_31 lM_8 rfl iM_8 (by rw [e0]; exact i81) ?_
      refine ri_icmp_ge a_X7_says_32 (fun zc11 => ?_) (fun zc11 => ?_)
      · refine ri_ald a_X7_says_197 rfl ?_
        refine ri_getR (t' := 17) (i' := 0) a_X7_says_198 fl_X7_58 kM_0_30 rfl iM_0 (Or.inr ⟨rfl, rfl, rfl⟩) ?_
        refine ri_ic a_X7_says_201 ?_
        refine ri_iaload a_X7_says_202 lM_17 rfl iM_17 (vp_in_lit (by decide) (by decide)) ?_
        refine ri_ireturn a_X7_says_203 rfl rfl ?_
        refine ⟨?_, hag⟩
        have h0 : N1 17 0 0 = v := hst.1
        show some (vi (N1 17 0 0)) = some (vi v)
        rw [h0]
      · exact absurd (by rw [e8, e0, c81, hhi]; exact Int32.le_refl _) zc11
    | cons o os ih =>
      intro st i N1 j4 hseg hi2 hw h32 hst hag
      have e7 : N1 7 = N 7 := hag 7 (by decide)
      have e8 : N1 8 = N 8 := hag 8 (by decide)
      have e18 : N1 18 = N 18 := hag 18 (by decide)
      have e0 : N1 0 0 13 = nI t := by rw [hag 0 (by decide)]; exact hr
      simp only [List.length_cons] at hi2
      have hseg2 : ∀ k o', os[k]? = some o' → N 7 0 (200 * t + (i + 1 + k)) = encM o' := fun k o' h => by
        have := hseg (k + 1) o' (by simpa using h)
        rwa [show i + (k + 1) = i + 1 + k by omega] at this
      have i7 : vp_in (200 * nI t + nI i) 1200 := by rw [nI_200a]; exact vp_in_nI (by omega) (by decide)
      have hco : N1 7 0 (200 * nI t + nI i).toNatClampNeg = encM o := by
        rw [e7, nI_200a, nI_clamp (by omega)]
        exact hseg 0 o rfl
      obtain ⟨hok, hw⟩ := hw
      have nxt : ∀ (st' : List Int32) (N2 : Mem) (j4 : Option AV), opSt nm o st = st' → wfd 32 os st'.length → st'.length ≤ 32 → stk (N2 17 0) st' → (∀ t, t ≠ 17 → N2 t = N t) → lr_W tM s0 w d jX7_says 191 [some (vo 0 0), some (vi (nI pt)), some (vi (nI st'.length)), some (vi (nI i)), j4] [] N2 (fun r N' => r = some (vi (evA nm (o :: os) st)) ∧ ∀ t, t ≠ 17 → N' t = N t) := by
        intro st' N2 j4 ho hw2 h322 hst2 hag2
        rw [evA, ho]
        refine ri_iinc (c0 := 1) (f := fun zx11 => [some (vo 0 0), some (vi (nI pt)), some (vi (nI st'.length)), some (vi zx11), j4]) a_X7_says_191 rfl (by decide) (fun _ => rfl) (fun zx11 ezx11 => ?_)
        refine ri_goto a_X7_says_194 ?_
        rw [ezx11, nI_1]
        exact ih st' (i + 1) N2 j4 hseg2 (by omega) hw2 h322 hst2 hag2
      have up17 : ∀ {p : Nat} {x : Int32}, ∀ t, t ≠ 17 → up N1 17 0 p x t = N t := fun {p x} t ht => by
        rw [← hag t ht]
        funext a b
        rw [up_apply, if_neg (fun q => ht q.1)]
      refine ri_ild a_X7_says_16 rfl ?_
      refine ri_ald a_X7_says_17 rfl ?_
      refine ri_getR (t' := 8) (i' := 0) a_X7_says_18 fl_X7_31 kM_0_11 rfl iM_0 (Or.inr ⟨rfl, rfl, rfl⟩) ?_
      refine ri_ic a_X7_says_21 ?_
      refine ri_ald a_X7_says_22 rfl ?_
      refine ri_getI a_X7_says_23 fl_X7_109 kM_0_13 rfl iM_0 ?_
      refine ri_imul a_X7_says_26 ?_
      refine ri_ild a_X7_says_27 rfl ?_
      refine ri_iadd a_X7_says_28 ?_
      refine ri_ic a_X7_says_29 ?_
      refine ri_iadd a_X7_says_30 ?_
      refine ri_iaload a_X7_says_31 lM_8 rfl iM_8 (by rw [e0]; exact i81) ?_
      refine ri_icmp_ge a_X7_says_32 (fun zc11 => ?_) (fun zc11 => ?_)
      · exact absurd zc11 (by rw [e8, e0, c81, hhi]; exact nI_ge (by omega) (by omega))
      · refine ri_ald a_X7_says_35 rfl ?_
        refine ri_getR (t' := 7) (i' := 0) a_X7_says_36 fl_X7_28 kM_0_10 rfl iM_0 (Or.inr ⟨rfl, rfl, rfl⟩) ?_
        refine ri_ic a_X7_says_39 ?_
        refine ri_ald a_X7_says_42 rfl ?_
        refine ri_getI a_X7_says_43 fl_X7_109 kM_0_13 rfl iM_0 ?_
        refine ri_imul a_X7_says_46 ?_
        refine ri_ild a_X7_says_47 rfl ?_
        refine ri_iadd a_X7_says_48 ?_
        refine ri_iaload a_X7_says_49 lM_7 rfl iM_7 (by rw [e0]; exact i7) ?_
        rw [e0, hco]
        refine ri_istk (ls' := [some (vo 0 0), some (vi (nI pt)), some (vi (nI st.length)), some (vi (nI i)), some (vi (encM o))]) a_X7_says_50 rfl ?_
        rcases enM_kinds hok with ⟨hk, h1, h2⟩ | ⟨hk, h1, h2, h3, h5⟩ | ⟨hk, h1, h2, h3⟩ | ⟨hk, h1, h2, h3, h4, h5, h6⟩
        · rw [hk] at hw
          have hop : opSt nm o st = nI o.2 :: st := by simp only [opSt, hk]
          have nlt : ¬ encM o < 11 := fun q => Int32.lt_irrefl (Int32.lt_of_lt_of_le q (Int32.le_trans (show (11 : Int32) ≤ 100000 by decide) h1))
          refine ri_ild a_X7_says_52 rfl ?_
          refine ri_ic a_X7_says_54 ?_
          refine ri_icmp_ge a_X7_says_56 (fun zc21 => ?_) (fun zc21 => ?_)
          · refine ri_ald a_X7_says_66 rfl ?_
            refine ri_getR (t' := 17) (i' := 0) a_X7_says_67 fl_X7_58 kM_0_30 rfl iM_0 (Or.inr ⟨rfl, rfl, rfl⟩) ?_
            refine ri_ild a_X7_says_70 rfl ?_
            refine ri_ild a_X7_says_71 rfl ?_
            refine ri_ic a_X7_says_73 ?_
            refine ri_icmp_ge a_X7_says_75 (fun zc22 => ?_) (fun zc22 => ?_)
            · refine ri_ild a_X7_says_88 rfl ?_
              refine ri_ic a_X7_says_90 ?_
              refine ri_isub a_X7_says_92 ?_
              refine ri_iastore a_X7_says_93 lM_17 rfl iM_17 ?_ (fun zM23 ezM23 => ?_)
              · exact vp_in_nI (by omega) (by decide)
              refine ri_iinc (c0 := 1) (f := fun zx24 => [some (vo 0 0), some (vi (nI pt)), some (vi zx24), some (vi (nI i)), some (vi (encM o))]) a_X7_says_94 rfl (by decide) (fun _ => rfl) (fun zx24 ezx24 => ?_)
              refine ri_goto a_X7_says_97 ?_
              rw [ezx24, nI_1]
              refine nxt (nI o.2 :: st) _ _ hop hw.2 (by have := hw.1; simp only [List.length_cons]; omega) ?_ ?_
              · rw [ezM23, nI_clamp (by omega), h2, up_at]
                exact stk_push hst
              · rw [ezM23]; exact up17
            · exact absurd (Int32.not_le.mp (by assumption)) nlt
          · exact absurd h1 (by assumption)
        · rw [hk] at hw
          have hop : opSt nm o st = nm o.2 :: st := by simp only [opSt, hk]
          refine ri_ild a_X7_says_52 rfl ?_
          refine ri_ic a_X7_says_54 ?_
          refine ri_icmp_ge a_X7_says_56 (fun zc21 => ?_) (fun zc21 => ?_)
          · refine ri_ald a_X7_says_66 rfl ?_
            refine ri_getR (t' := 17) (i' := 0) a_X7_says_67 fl_X7_58 kM_0_30 rfl iM_0 (Or.inr ⟨rfl, rfl, rfl⟩) ?_
            refine ri_ild a_X7_says_70 rfl ?_
            refine ri_ild a_X7_says_71 rfl ?_
            refine ri_ic a_X7_says_73 ?_
            refine ri_icmp_ge a_X7_says_75 (fun zc22 => ?_) (fun zc22 => ?_)
            · exact absurd h2 (Int32.not_lt.mpr (by assumption))
            · refine ri_ald a_X7_says_78 rfl ?_
              refine ri_getR (t' := 18) (i' := 0) a_X7_says_79 fl_X7_61 kM_0_31 rfl iM_0 (Or.inr ⟨rfl, rfl, rfl⟩) ?_
              refine ri_ild a_X7_says_82 rfl ?_
              refine ri_iaload a_X7_says_84 lM_18 rfl iM_18 (by rw [h3]; exact vp_in_nI (by omega) (by decide)) ?_
              refine ri_goto a_X7_says_85 ?_
              refine ri_iastore a_X7_says_93 lM_17 rfl iM_17 ?_ (fun zM23 ezM23 => ?_)
              · exact vp_in_nI (by omega) (by decide)
              refine ri_iinc (c0 := 1) (f := fun zx24 => [some (vo 0 0), some (vi (nI pt)), some (vi zx24), some (vi (nI i)), some (vi (encM o))]) a_X7_says_94 rfl (by decide) (fun _ => rfl) (fun zx24 ezx24 => ?_)
              refine ri_goto a_X7_says_97 ?_
              exact absurd zc21 h1
          · refine ri_ild a_X7_says_59 rfl ?_
            refine ri_ic a_X7_says_61 ?_
            refine ri_icmp_ge a_X7_says_63 (fun zc25 => ?_) (fun zc25 => ?_)
            · exact absurd h2 (Int32.not_lt.mpr (by assumption))
            · refine ri_ald a_X7_says_66 rfl ?_
              refine ri_getR (t' := 17) (i' := 0) a_X7_says_67 fl_X7_58 kM_0_30 rfl iM_0 (Or.inr ⟨rfl, rfl, rfl⟩) ?_
              refine ri_ild a_X7_says_70 rfl ?_
              refine ri_ild a_X7_says_71 rfl ?_
              refine ri_ic a_X7_says_73 ?_
              refine ri_icmp_ge a_X7_says_75 (fun zc26 => ?_) (fun zc26 => ?_)
              · exact absurd h2 (Int32.not_lt.mpr (by assumption))
              · refine ri_ald a_X7_says_78 rfl ?_
                refine ri_getR (t' := 18) (i' := 0) a_X7_says_79 fl_X7_61 kM_0_31 rfl iM_0 (Or.inr ⟨rfl, rfl, rfl⟩) ?_
                refine ri_ild a_X7_says_82 rfl ?_
                refine ri_iaload a_X7_says_84 lM_18 rfl iM_18 (by rw [h3]; exact vp_in_nI (by omega) (by decide)) ?_
                refine ri_goto a_X7_says_85 ?_
                refine ri_iastore a_X7_says_93 lM_17 rfl iM_17 ?_ (fun zM27 ezM27 => ?_)
                · exact vp_in_nI (by omega) (by decide)
                refine ri_iinc (c0 := 1) (f := fun zx28 => [some (vo 0 0), some (vi (nI pt)), some (vi zx28), some (vi (nI i)), some (vi (encM o))]) a_X7_says_94 rfl (by decide) (fun _ => rfl) (fun zx28 ezx28 => ?_)
                refine ri_goto a_X7_says_97 ?_
                rw [ezx28, nI_1]
                refine nxt (nm o.2 :: st) _ _ hop hw.2 (by have := hw.1; simp only [List.length_cons]; omega) ?_ ?_
                · rw [ezM27, nI_clamp (by omega), h3, e18, nI_clamp (by omega), hnm _ h5, up_at]
                  exact stk_push hst
                · rw [ezM27]; exact up17
        · rw [hk] at hw
          match st, hw, hst, h32 with
          | v :: r, hw, hst, h32 =>
          simp only [List.length_cons] at hw h32
          have e1 : nI (v :: r).length - 1 = nI r.length := by rw [List.length_cons]; exact nI_pred _
          have hti : vp_in (nI (v :: r).length - 1) 200 := by rw [e1]; exact vp_in_nI (by omega) (by decide)
          have hv : N1 17 0 (nI (v :: r).length - 1).toNatClampNeg = v := by rw [e1, nI_clamp (by omega)]; exact hst.1
          have fin : ∀ y N2 j4, N2 = up N1 17 0 (nI (v :: r).length - 1).toNatClampNeg y → y = unF o.2 v → lr_W tM s0 w d jX7_says 191 [some (vo 0 0), some (vi (nI pt)), some (vi (nI (v :: r).length)), some (vi (nI i)), j4] [] N2 (fun r' N' => r' = some (vi (evA nm (o :: os) (v :: r))) ∧ ∀ t, t ≠ 17 → N' t = N t) := by
            intro y N2 j4 hN2 hy
            rw [e1, nI_clamp (by omega)] at hN2
            have hop : opSt nm o (v :: r) = y :: r := by simp only [opSt, hk, hy]
            refine nxt (y :: r) N2 j4 hop (by simpa using hw.2) (by simp only [List.length_cons]; omega) ?_ ?_
            · rw [hN2, up_at]
              exact stk_push hst.2
            · rw [hN2]; exact up17
          rcases h3 with ⟨h3, h4⟩ | ⟨h3, h4⟩
          · rw [h4]
            refine ri_ild a_X7_says_52 rfl ?_
            refine ri_ic a_X7_says_54 ?_
            refine ri_icmp_ge a_X7_says_56 (fun q => absurd q (by decide)) (fun _ => ?_)
            refine ri_ild a_X7_says_59 rfl ?_
            refine ri_ic a_X7_says_61 ?_
            refine ri_icmp_ge a_X7_says_63 (fun _ => ?_) (fun q => absurd q (by decide))
            refine ri_ild a_X7_says_100 rfl ?_
            refine ri_ic a_X7_says_102 ?_
            refine ri_icmp_ne a_X7_says_104 (fun q => absurd q (by decide)) (fun _ => ?_)
            refine ri_ald a_X7_says_107 rfl ?_
            refine ri_getR (t' := 17) (i' := 0) a_X7_says_108 fl_X7_58 kM_0_30 rfl iM_0 (Or.inr ⟨rfl, rfl, rfl⟩) ?_
            refine ri_ild a_X7_says_111 rfl ?_
            refine ri_ic a_X7_says_112 ?_
            refine ri_isub a_X7_says_113 ?_
            refine ri_ald a_X7_says_114 rfl ?_
            refine ri_getR (t' := 17) (i' := 0) a_X7_says_115 fl_X7_58 kM_0_30 rfl iM_0 (Or.inr ⟨rfl, rfl, rfl⟩) ?_
            refine ri_ild a_X7_says_118 rfl ?_
            refine ri_ic a_X7_says_119 ?_
            refine ri_isub a_X7_says_120 ?_
            refine ri_iaload a_X7_says_121 lM_17 rfl iM_17 hti ?_
            refine ri_if_ne a_X7_says_122 (fun zc21 => ?_) (fun zc21 => ?_)
            · refine ri_ic a_X7_says_129 ?_
              refine ri_iastore a_X7_says_130 lM_17 rfl iM_17 hti (fun zM22 ezM22 => ?_)
              refine ri_goto a_X7_says_131 ?_
              rw [hv] at zc21
              exact fin _ _ _ ezM22 (by rw [unF, h3, if_pos rfl, if_neg zc21])
            · refine ri_ic a_X7_says_125 ?_
              refine ri_goto a_X7_says_126 ?_
              refine ri_iastore a_X7_says_130 lM_17 rfl iM_17 hti (fun zM23 ezM23 => ?_)
              refine ri_goto a_X7_says_131 ?_
              rw [hv] at zc21
              exact fin _ _ _ ezM23 (by rw [unF, h3, if_pos rfl, if_pos zc21])
          · rw [h4]
            refine ri_ild a_X7_says_52 rfl ?_
            refine ri_ic a_X7_says_54 ?_
            refine ri_icmp_ge a_X7_says_56 (fun q => absurd q (by decide)) (fun _ => ?_)
            refine ri_ild a_X7_says_59 rfl ?_
            refine ri_ic a_X7_says_61 ?_
            refine ri_icmp_ge a_X7_says_63 (fun _ => ?_) (fun q => absurd q (by decide))
            refine ri_ild a_X7_says_100 rfl ?_
            refine ri_ic a_X7_says_102 ?_
            refine ri_icmp_ne a_X7_says_104 (fun _ => ?_) (fun q => absurd q (by decide))
            refine ri_ild a_X7_says_134 rfl ?_
            refine ri_ic a_X7_says_136 ?_
            refine ri_icmp_ne a_X7_says_138 (fun q => absurd q (by decide)) (fun _ => ?_)
            refine ri_ald a_X7_says_141 rfl ?_
            refine ri_getR (t' := 17) (i' := 0) a_X7_says_142 fl_X7_58 kM_0_30 rfl iM_0 (Or.inr ⟨rfl, rfl, rfl⟩) ?_
            refine ri_ild a_X7_says_145 rfl ?_
            refine ri_ic a_X7_says_146 ?_
            refine ri_isub a_X7_says_147 ?_
            refine ri_ald a_X7_says_148 rfl ?_
            refine ri_getR (t' := 17) (i' := 0) a_X7_says_149 fl_X7_58 kM_0_30 rfl iM_0 (Or.inr ⟨rfl, rfl, rfl⟩) ?_
            refine ri_ild a_X7_says_152 rfl ?_
            refine ri_ic a_X7_says_153 ?_
            refine ri_isub a_X7_says_154 ?_
            refine ri_iaload a_X7_says_155 lM_17 rfl iM_17 hti ?_
            refine ri_ineg a_X7_says_156 ?_
            refine ri_iastore a_X7_says_157 lM_17 rfl iM_17 hti (fun zM21 ezM21 => ?_)
            refine ri_goto a_X7_says_158 ?_
            rw [hv] at ezM21
            exact fin _ _ _ ezM21 (by rw [unF, h3, if_neg (by decide)])
        · rw [hk] at hw
          match st, hw, hst, h32 with
          | [], hw, hst, h32 => exact absurd hw.1 (by simp)
          | [v], hw, hst, h32 => exact absurd hw.1 (by simp)
          | b :: a :: r, hw, hst, h32 =>
          simp only [List.length_cons] at hw h32
          have e0 : nI (b :: a :: r).length + (-1) = nI (r.length + 1) := by simp only [List.length_cons]; exact nI_m1 _
          have e1 : nI (r.length + 1) - 1 = nI r.length := nI_pred _
          refine ri_ild a_X7_says_52 rfl ?_
          refine ri_ic a_X7_says_54 ?_
          refine ri_icmp_ge a_X7_says_56 (fun zc21 => ?_) (fun zc21 => ?_)
          · first | exact absurd (by assumption) h1 | exact absurd (Int32.not_le.mp (by assumption)) h2
          · refine ri_ild a_X7_says_59 rfl ?_
            refine ri_ic a_X7_says_61 ?_
            refine ri_icmp_ge a_X7_says_63 (fun zc22 => ?_) (fun zc22 => ?_)
            · refine ri_ild a_X7_says_100 rfl ?_
              refine ri_ic a_X7_says_102 ?_
              refine ri_icmp_ne a_X7_says_104 (fun zc23 => ?_) (fun zc23 => ?_)
              · refine ri_ild a_X7_says_134 rfl ?_
                refine ri_ic a_X7_says_136 ?_
                refine ri_icmp_ne a_X7_says_138 (fun zc24 => ?_) (fun zc24 => ?_)
                · rw [h5]
                  refine ri_iinc (c0 := (-1)) (f := fun zx41 => [some (vo 0 0), some (vi (nI pt)), some (vi zx41), some (vi (nI i)), some (vi (siM o.2))]) a_X7_says_161 rfl (by decide) (fun _ => rfl) (fun zx41 ezx41 => ?_)
                  refine ri_ald a_X7_says_164 rfl ?_
                  refine ri_getR (t' := 17) (i' := 0) a_X7_says_165 fl_X7_58 kM_0_30 rfl iM_0 (Or.inr ⟨rfl, rfl, rfl⟩) ?_
                  refine ri_ild a_X7_says_168 rfl ?_
                  refine ri_ic a_X7_says_169 ?_
                  refine ri_isub a_X7_says_170 ?_
                  refine ri_ild a_X7_says_171 rfl ?_
                  refine ri_ald a_X7_says_173 rfl ?_
                  refine ri_getR (t' := 17) (i' := 0) a_X7_says_174 fl_X7_58 kM_0_30 rfl iM_0 (Or.inr ⟨rfl, rfl, rfl⟩) ?_
                  refine ri_ild a_X7_says_177 rfl ?_
                  refine ri_ic a_X7_says_178 ?_
                  refine ri_isub a_X7_says_179 ?_
                  refine ri_iaload a_X7_says_180 lM_17 rfl iM_17 ?_ ?_
                  · rw [ezx41, e0, e1]; exact vp_in_nI (by omega) (by decide)
                  refine ri_ald a_X7_says_181 rfl ?_
                  refine ri_getR (t' := 17) (i' := 0) a_X7_says_182 fl_X7_58 kM_0_30 rfl iM_0 (Or.inr ⟨rfl, rfl, rfl⟩) ?_
                  refine ri_ild a_X7_says_185 rfl ?_
                  refine ri_iaload a_X7_says_186 lM_17 rfl iM_17 ?_ ?_
                  · rw [ezx41, e0]; exact vp_in_nI (by omega) (by decide)
                  refine ri_cSpi (as := [vi (siM o.2), vi (N1 17 0 (zx41 - 1).toNatClampNeg), vi (N1 17 0 zx41.toNatClampNeg)]) (rest := [vi (zx41 - 1), vo 17 0]) (d' := d - 1) a_X7_says_187 ms_X7_two ml_X7_172 (by omega) (ok_X7_two h6 (N1 17 0 (zx41 - 1).toNatClampNeg) (N1 17 0 zx41.toNatClampNeg)) (Nat.le_of_ble_eq_true rfl) rfl (fun zy42 ezy42 => ?_)
                  refine ri_iastore a_X7_says_190 lM_17 rfl iM_17 ?_ (fun zM43 ezM43 => ?_)
                  · rw [ezx41, e0, e1]; exact vp_in_nI (by omega) (by decide)
                  rw [ezx41, e0, e1, nI_clamp (by omega), nI_clamp (by omega), show N1 17 0 r.length = a from hst.2.1, show N1 17 0 (r.length + 1) = b from hst.1] at ezy42
                  rw [ezx41, e0, e1, nI_clamp (by omega)] at ezM43
                  have hop : opSt nm o (b :: a :: r) = zy42 :: r := by simp only [opSt, hk, ezy42]
                  rw [ezx41, e0]
                  refine nxt (zy42 :: r) zM43 _ hop (by simpa using hw.2) (by simp only [List.length_cons]; omega) ?_ ?_
                  · rw [ezM43, up_at]
                    exact stk_push hst.2.2
                  · rw [ezM43]; exact up17
                · exact absurd (by assumption) h4
              · exact absurd (by assumption) h3
            · first | exact absurd (by assumption) h1 | exact absurd (Int32.not_le.mp (by assumption)) h2
  refine lr_ok (by decide +kernel) rfl ?_
  refine ri_ic a_X7_says_0 ?_
  refine ri_istk (ls' := [some (vo 0 0), some (vi (nI pt)), some (vi 0), none, none]) a_X7_says_1 rfl ?_
  refine ri_ald a_X7_says_2 rfl ?_
  refine ri_getR (t' := 8) (i' := 0) a_X7_says_3 fl_X7_31 kM_0_11 rfl iM_0 (Or.inr ⟨rfl, rfl, rfl⟩) ?_
  refine ri_ic a_X7_says_6 ?_
  refine ri_ald a_X7_says_7 rfl ?_
  refine ri_getI a_X7_says_8 fl_X7_109 kM_0_13 rfl iM_0 ?_
  refine ri_imul a_X7_says_11 ?_
  refine ri_ild a_X7_says_12 rfl ?_
  refine ri_iadd a_X7_says_13 ?_
  refine ri_iaload a_X7_says_14 lM_8 rfl iM_8 (by rw [hr]; exact i8) ?_
  rw [hr, c8, hlo]
  refine ri_istk (ls' := [some (vo 0 0), some (vi (nI pt)), some (vi 0), some (vi (nI lo)), none]) a_X7_says_15 rfl ?_
  exact loop ops [] lo N none hcode hlen hwf (Nat.zero_le _) True.intro (fun _ _ => rfl)
/-- who is asked, as the reference keeps it -/
def vwM (N : Mem) : Vw := (N 1 0, N 2 0, fun p => N 3 0 (2 * p), fun p => N 3 0 (2 * p + 1), N 0 0 7, N 0 0 6)
theorem txN_eq {N N' : Mem} {t : Nat} {L : List (List Op)} (h7 : N' 7 = N 7) (h8 : N' 8 = N 8) (h : txN N t L) : txN N' t L := by
  unfold txN at h ⊢
  rw [h7, h8]
  exact h
theorem clp_eq {hi v : Int32} (h : 0 ≤ hi) : (if 0 ≤ v then (if v ≤ hi then v else hi) else 0) = clp hi v := by
  unfold clp
  have e0 : (0 : Int32).toInt = 0 := rfl
  rw [Int32.le_iff_toInt_le, e0] at h
  simp only [Int32.le_iff_toInt_le, Int32.lt_iff_toInt_lt, GT.gt, e0]
  repeat' split
  all_goals first | rfl | (exfalso; omega) | exact Int32.toInt_inj.mp (by omega)
theorem mxV_pos (pt : Nat) : 0 ≤ mxV pt := by
  unfold mxV
  split <;> decide
theorem ok_X7_asksOf {w : Wd} {d : Nat} (hd : 2 ≤ d) {N : Mem} {pt q : Nat} {L : List (List Op)} (hL : lawN N L) (hq : q < 8) (hpt : pt < 3) (rung : Int32) : lr_Ok tM sM w d jX7_asksOf [vo 0 0, vi (nI pt), vi (nI q), vi rung] N (qI (sayV L (vwM N) pt q rung) N) := by
  obtain ⟨t, ht, hr, hL⟩ := hL
  refine lr_hide (fun N0 h0 => ?_)
  have hL0 : txN N0 t L := txN_eq (h0 7 rfl) (h0 8 rfl) hL
  have hr0 : N0 0 0 13 = nI t := by rw [h0 0 rfl]; exact hr
  have i2 : vp_in (2 * nI q) 16 := by rw [nI_2m]; exact vp_in_nI (by omega) (by decide)
  have i21 : vp_in (2 * nI q + 1) 16 := by rw [nI_2m, nI_1]; exact vp_in_nI (by omega) (by decide)
  have i8 : vp_in (nI q) 8 := vp_in_nI hq (by decide)
  refine lr_ok (by decide +kernel) rfl ?_
  refine ri_ald a_X7_asksOf_0 rfl ?_
  refine ri_getR (t' := 18) (i' := 0) a_X7_asksOf_1 fl_X7_61 kM_0_31 rfl iM_0 (Or.inr ⟨rfl, rfl, rfl⟩) ?_
  refine ri_ic a_X7_asksOf_4 ?_
  refine ri_ald a_X7_asksOf_5 rfl ?_
  refine ri_getR (t' := 3) (i' := 0) a_X7_asksOf_6 fl_X7_16 kM_0_3 rfl iM_0 (Or.inr ⟨rfl, rfl, rfl⟩) ?_
  refine ri_ic a_X7_asksOf_9 ?_
  refine ri_ild a_X7_asksOf_10 rfl ?_
  refine ri_imul a_X7_asksOf_11 ?_
  refine ri_iaload a_X7_asksOf_12 lM_3 rfl iM_3 i2 ?_
  refine ri_iastore a_X7_asksOf_13 lM_18 rfl iM_18 (vp_in_lit (by decide) (by decide)) (fun zM1 ezM1 => ?_)
  refine ri_ald a_X7_asksOf_14 rfl ?_
  refine ri_getR (t' := 18) (i' := 0) a_X7_asksOf_15 fl_X7_61 kM_0_31 rfl iM_0 (Or.inr ⟨rfl, rfl, rfl⟩) ?_
  refine ri_ic a_X7_asksOf_18 ?_
  refine ri_ald a_X7_asksOf_19 rfl ?_
  refine ri_getR (t' := 3) (i' := 0) a_X7_asksOf_20 fl_X7_16 kM_0_3 rfl iM_0 (Or.inr ⟨rfl, rfl, rfl⟩) ?_
  refine ri_ic a_X7_asksOf_23 ?_
  refine ri_ild a_X7_asksOf_24 rfl ?_
  refine ri_imul a_X7_asksOf_25 ?_
  refine ri_ic a_X7_asksOf_26 ?_
  refine ri_iadd a_X7_asksOf_27 ?_
  refine ri_iaload a_X7_asksOf_28 lM_3 rfl iM_3 i21 ?_
  refine ri_iastore a_X7_asksOf_29 lM_18 rfl iM_18 (vp_in_lit (by decide) (by decide)) (fun zM2 ezM2 => ?_)
  refine ri_ald a_X7_asksOf_30 rfl ?_
  refine ri_getR (t' := 18) (i' := 0) a_X7_asksOf_31 fl_X7_61 kM_0_31 rfl iM_0 (Or.inr ⟨rfl, rfl, rfl⟩) ?_
  refine ri_ic a_X7_asksOf_34 ?_
  refine ri_ald a_X7_asksOf_35 rfl ?_
  refine ri_getI a_X7_asksOf_36 fl_X7_103 kM_0_7 rfl iM_0 ?_
  refine ri_iastore a_X7_asksOf_39 lM_18 rfl iM_18 (vp_in_lit (by decide) (by decide)) (fun zM3 ezM3 => ?_)
  refine ri_ald a_X7_asksOf_40 rfl ?_
  refine ri_getR (t' := 18) (i' := 0) a_X7_asksOf_41 fl_X7_61 kM_0_31 rfl iM_0 (Or.inr ⟨rfl, rfl, rfl⟩) ?_
  refine ri_ic a_X7_asksOf_44 ?_
  refine ri_ild a_X7_asksOf_45 rfl ?_
  refine ri_iastore a_X7_asksOf_46 lM_18 rfl iM_18 (vp_in_lit (by decide) (by decide)) (fun zM4 ezM4 => ?_)
  refine ri_ald a_X7_asksOf_47 rfl ?_
  refine ri_getR (t' := 18) (i' := 0) a_X7_asksOf_48 fl_X7_61 kM_0_31 rfl iM_0 (Or.inr ⟨rfl, rfl, rfl⟩) ?_
  refine ri_ic a_X7_asksOf_51 ?_
  refine ri_ald a_X7_asksOf_52 rfl ?_
  refine ri_getI a_X7_asksOf_53 fl_X7_100 kM_0_6 rfl iM_0 ?_
  refine ri_iastore a_X7_asksOf_56 lM_18 rfl iM_18 (vp_in_lit (by decide) (by decide)) (fun zM5 ezM5 => ?_)
  refine ri_ald a_X7_asksOf_57 rfl ?_
  refine ri_getR (t' := 18) (i' := 0) a_X7_asksOf_58 fl_X7_61 kM_0_31 rfl iM_0 (Or.inr ⟨rfl, rfl, rfl⟩) ?_
  refine ri_ic a_X7_asksOf_61 ?_
  refine ri_ald a_X7_asksOf_62 rfl ?_
  refine ri_getR (t' := 2) (i' := 0) a_X7_asksOf_63 fl_X7_13 kM_0_2 rfl iM_0 (Or.inr ⟨rfl, rfl, rfl⟩) ?_
  refine ri_ild a_X7_asksOf_66 rfl ?_
  refine ri_iaload a_X7_asksOf_67 lM_2 rfl iM_2 i8 ?_
  refine ri_iastore a_X7_asksOf_68 lM_18 rfl iM_18 (vp_in_lit (by decide) (by decide)) (fun zM6 ezM6 => ?_)
  have c0 : (0 : Int32).toNatClampNeg = 0 := rfl
  have c1 : (1 : Int32).toNatClampNeg = 1 := rfl
  have c2 : (2 : Int32).toNatClampNeg = 2 := rfl
  have c3 : (3 : Int32).toNatClampNeg = 3 := rfl
  have c4 : (4 : Int32).toNatClampNeg = 4 := rfl
  have c5 : (5 : Int32).toNatClampNeg = 5 := rfl
  rw [c0, nI_2m, nI_clamp (by omega)] at ezM1
  rw [c1, nI_2m, nI_1, nI_clamp (by omega)] at ezM2
  rw [c2] at ezM3
  rw [c3] at ezM4
  rw [c4] at ezM5
  rw [c5, nI_clamp (by omega)] at ezM6
  have f1 : ∀ t, t ≠ 18 → zM1 t = N0 t := fun t ht => by rw [ezM1]; funext a b; rw [up_apply, if_neg (fun q => ht q.1)]
  have f2 : ∀ t, t ≠ 18 → zM2 t = N0 t := fun t ht => by rw [← f1 t ht, ezM2]; funext a b; rw [up_apply, if_neg (fun q => ht q.1)]
  have f3 : ∀ t, t ≠ 18 → zM3 t = N0 t := fun t ht => by rw [← f2 t ht, ezM3]; funext a b; rw [up_apply, if_neg (fun q => ht q.1)]
  have f4 : ∀ t, t ≠ 18 → zM4 t = N0 t := fun t ht => by rw [← f3 t ht, ezM4]; funext a b; rw [up_apply, if_neg (fun q => ht q.1)]
  have f5 : ∀ t, t ≠ 18 → zM5 t = N0 t := fun t ht => by rw [← f4 t ht, ezM5]; funext a b; rw [up_apply, if_neg (fun q => ht q.1)]
  have f6 : ∀ t, t ≠ 18 → zM6 t = N0 t := fun t ht => by rw [← f5 t ht, ezM6]; funext a b; rw [up_apply, if_neg (fun q => ht q.1)]
  rw [f1 3 (by decide), h0 3 rfl] at ezM2
  rw [f2 0 (by decide), h0 0 rfl] at ezM3
  rw [f4 0 (by decide), h0 0 rfl] at ezM5
  rw [f5 2 (by decide), h0 2 rfl] at ezM6
  rw [h0 3 rfl] at ezM1
  have hnm : ∀ k, k ≤ 5 → zM6 18 0 k = nmV (vwM N) q rung k := by
    intro k hk
    have hkk : k = 0 ∨ k = 1 ∨ k = 2 ∨ k = 3 ∨ k = 4 ∨ k = 5 := by omega
    rw [ezM6, ezM5, ezM4, ezM3, ezM2, ezM1]
    simp only [up_apply]
    rcases hkk with rfl | rfl | rfl | rfl | rfl | rfl <;> rfl
  have hs := ok_X7_says0 (w := w) (d := d - 1) (by omega) ht (by rw [f6 0 (by decide)]; exact hr0) (txN_eq (f6 7 (by decide)) (f6 8 (by decide)) hL0) hpt hnm
  have fin : ∀ y : Int32, y = sayV L (vwM N) pt q rung → ∀ N' : Mem, (∀ t, t ≠ 17 → N' t = zM6 t) → (some (vi y) = some (vi (sayV L (vwM N) pt q rung)) ∧ ∀ t, sM t = false → N' t = N0 t) := by
    intro y hy N' hN'
    refine ⟨by rw [hy], fun t ht => ?_⟩
    have h17 : t ≠ 17 := fun e => by subst e; cases ht
    have h18 : t ≠ 18 := fun e => by subst e; cases ht
    rw [hN' t h17, f6 t h18]
  have hs2 : lr_Ok tM s0 w (d - 1) jX7_says [vo 0 0, vi (nI pt)] zM6 (qX fun y N' => y = evA (nmV (vwM N) q rung) (L.getD pt []) [] ∧ ∀ t, t ≠ 17 → N' t = zM6 t) := lr_imp hs (fun r M' h => ⟨_, h.1, rfl, h.2⟩)
  have hp : pt = 0 ∨ pt = 1 ∨ pt = 2 := by omega
  refine ri_ald a_X7_asksOf_69 rfl ?_
  refine ri_ild a_X7_asksOf_70 rfl ?_
  refine ri_cVxi (as := [vi (nI pt)]) (rest := []) (d' := d - 1) a_X7_asksOf_71 mv_X7_says ml_X7_176 (rcM_0 iM_0) (by omega) (hs2) (Nat.le_of_ble_eq_true rfl) rfl (fun zy21 zM22 hzy21 => ?_)
  refine ri_ic a_X7_asksOf_74 ?_
  refine ri_ild a_X7_asksOf_75 rfl ?_
  refine ri_if_ne a_X7_asksOf_76 (fun zc23 => ?_) (fun zc23 => ?_)
  · refine ri_ild a_X7_asksOf_84 rfl ?_
    refine ri_ic a_X7_asksOf_85 ?_
    refine ri_icmp_ne a_X7_asksOf_86 (fun zc24 => ?_) (fun zc24 => ?_)
    · refine ri_ic a_X7_asksOf_95 ?_
      refine ri_cSpi (as := [vi zy21, vi 0, vi 100]) (rest := []) (d' := d - 1) a_X7_asksOf_97 ms_X7_within ml_X7_179 (by omega) (ok_X7_within zy21 0 100) (Nat.le_of_ble_eq_true rfl) rfl (fun zy25 ezy25 => ?_)
      refine ri_ireturn a_X7_asksOf_100 rfl rfl ?_
      refine fin _ ?_ _ hzy21.2
      rw [ezy25, hzy21.1]
      rcases hp with rfl | rfl | rfl
      · exact absurd rfl zc23
      · exact absurd rfl zc24
      · exact clp_eq (hi := 100) (by decide)
    · refine ri_ic a_X7_asksOf_89 ?_
      refine ri_goto a_X7_asksOf_92 ?_
      refine ri_cSpi (as := [vi zy21, vi 0, vi 999]) (rest := []) (d' := d - 1) a_X7_asksOf_97 ms_X7_within ml_X7_179 (by omega) (ok_X7_within zy21 0 999) (Nat.le_of_ble_eq_true rfl) rfl (fun zy26 ezy26 => ?_)
      refine ri_ireturn a_X7_asksOf_100 rfl rfl ?_
      refine fin _ ?_ _ hzy21.2
      rw [ezy26, hzy21.1]
      rcases hp with rfl | rfl | rfl
      · exact absurd zc24 (by decide)
      · exact clp_eq (hi := 999) (by decide)
      · exact absurd zc24 (by decide)
  · refine ri_ic a_X7_asksOf_79 ?_
    refine ri_goto a_X7_asksOf_81 ?_
    refine ri_cSpi (as := [vi zy21, vi 0, vi 99]) (rest := []) (d' := d - 1) a_X7_asksOf_97 ms_X7_within ml_X7_179 (by omega) (ok_X7_within zy21 0 99) (Nat.le_of_ble_eq_true rfl) rfl (fun zy27 ezy27 => ?_)
    refine ri_ireturn a_X7_asksOf_100 rfl rfl ?_
    refine fin _ ?_ _ hzy21.2
    rw [ezy27, hzy21.1]
    rcases hp with rfl | rfl | rfl
    · exact clp_eq (hi := 99) (by decide)
    · exact absurd zc23 (by decide)
    · exact absurd zc23 (by decide)
theorem ok_X7_asks {w : Wd} {d : Nat} (hd : 3 ≤ d) {N : Mem} {n : Nat} {L : List (List Op)} (hL : lawN N L) (hn : N 0 0 0 = nI n) (hn8 : n ≤ 8) (a p b : Int32) : lr_Ok tM sM w d jX7_asks [vo 0 0, vi a, vi p, vi b] N (qI (if (0 ≤ a ∧ a ≤ 2) ∧ (0 ≤ p ∧ p < nI n) ∧ 0 ≤ b ∧ b ≤ 7 then sayV L (vwM N) a.toNatClampNeg p.toNatClampNeg b else -2) N) := by
  refine lr_ok (by decide +kernel) rfl ?_
  refine ri_ild a_X7_asks_0 rfl ?_
  refine ri_ic a_X7_asks_1 ?_
  refine ri_ic a_X7_asks_2 ?_
  refine ri_cSpb (as := [vi a, vi 0, vi 2]) (rest := []) (d' := d - 1) a_X7_asks_3 ms_X7_in ml_X7_96 (by omega) (ok_X7_in a 0 2) (Nat.le_of_ble_eq_true rfl) rfl (fun zc1 => ?_) (fun zc1 => ?_)
  · refine ri_if_eq a_X7_asks_6 (fun q => absurd q (by decide)) (fun _ => ?_)
    refine ri_ald a_X7_asks_9 rfl ?_
    refine ri_ild a_X7_asks_10 rfl ?_
    refine ri_cVpb (as := [vi p]) (rest := []) (d' := d - 1) a_X7_asks_11 mv_X7_isOne ml_X7_182 (rcM_0 iM_0) (by omega) (ok_X7_isOne (by omega) hn hn8 p) (Nat.le_of_ble_eq_true rfl) rfl (fun zc2 => ?_) (fun zc2 => ?_)
    · refine ri_if_eq a_X7_asks_14 (fun q => absurd q (by decide)) (fun _ => ?_)
      refine ri_ild a_X7_asks_17 rfl ?_
      refine ri_ic a_X7_asks_18 ?_
      refine ri_ic a_X7_asks_19 ?_
      refine ri_cSpb (as := [vi b, vi 0, vi 7]) (rest := []) (d' := d - 1) a_X7_asks_21 ms_X7_in ml_X7_96 (by omega) (ok_X7_in b 0 7) (Nat.le_of_ble_eq_true rfl) rfl (fun zc3 => ?_) (fun zc3 => ?_)
      · refine ri_if_eq a_X7_asks_24 (fun q => absurd q (by decide)) (fun _ => ?_)
        rw [if_pos ⟨zc1, zc2, zc3⟩]
        obtain ⟨q, rfl, hq⟩ := inP zc2 rfl hn8
        obtain ⟨y, hy, rfl⟩ := nI_of2 (n := 2) (M := 2) (by decide) (Int32.not_lt.mpr zc1.1) zc1.2
        rw [nI_clamp (by omega), nI_clamp (by omega)]
        refine ri_ald a_X7_asks_27 rfl ?_
        refine ri_ild a_X7_asks_28 rfl ?_
        refine ri_ild a_X7_asks_29 rfl ?_
        refine ri_ild a_X7_asks_30 rfl ?_
        refine ri_cVpi (as := [vi (nI y), vi (nI q), vi b]) (rest := []) (d' := d - 1) a_X7_asks_31 mv_X7_asksOf ml_X7_185 (rcM_0 iM_0) (by omega) (ok_X7_asksOf (by omega) hL (by omega) (by omega) b) (Nat.le_of_ble_eq_true rfl) rfl (fun zy11 ezy11 => ?_)
        refine ri_goto a_X7_asks_34 ?_
        refine ri_ireturn a_X7_asks_39 rfl rfl ?_
        exact rI ezy11 rfl
      · refine ri_if_eq a_X7_asks_24 (fun _ => ?_) (fun q => absurd q (by decide))
        refine ri_ic a_X7_asks_37 ?_
        refine ri_ireturn a_X7_asks_39 rfl rfl ?_
        exact rI (by rw [if_neg (fun q => zc3 q.2.2)]) rfl
    · refine ri_if_eq a_X7_asks_14 (fun _ => ?_) (fun q => absurd q (by decide))
      refine ri_ic a_X7_asks_37 ?_
      refine ri_ireturn a_X7_asks_39 rfl rfl ?_
      exact rI (by rw [if_neg (fun q => zc2 q.2.1)]) rfl
  · refine ri_if_eq a_X7_asks_6 (fun _ => ?_) (fun q => absurd q (by decide))
    refine ri_ic a_X7_asks_37 ?_
    refine ri_ireturn a_X7_asks_39 rfl rfl ?_
    exact rI (by rw [if_neg (fun q => zc1 q.1)]) rfl
theorem clp_nn (hi v : Int32) : 0 ≤ clp hi v := by
  unfold clp
  generalize (if hi > v then v else hi) = x
  by_cases h : 0 < x
  · rw [if_pos h]; exact Int32.le_of_lt h
  · rw [if_neg h]; exact Int32.le_refl _
theorem ok_X7_risesOf {w : Wd} {d : Nat} (hd : 3 ≤ d) {N : Mem} {q : Nat} {L : List (List Op)} (hL : lawN N L) (hq : q < 8) (rung : Int32) : lr_Ok tM sM w d jX7_risesOf [vo 0 0, vi (nI q), vi rung] N (qI (risV L (vwM N) q rung) N) := by
  have e8 : (nI q).toNatClampNeg = q := nI_clamp (by omega)
  have i8 : vp_in (nI q) 8 := vp_in_nI hq (by decide)
  have hnn : 0 ≤ sayV L (vwM N) 0 q rung := clp_nn _ _
  have V1 : (vwM N).1 q = N 1 0 q := rfl
  have V2 : (vwM N).2.1 q = N 2 0 q := rfl
  have V5 : (vwM N).2.2.2.2.1 = N 0 0 7 := rfl
  refine lr_ok (by decide +kernel) rfl ?_
  refine ri_ald a_X7_risesOf_0 rfl ?_
  refine ri_ic a_X7_risesOf_1 ?_
  refine ri_ild a_X7_risesOf_2 rfl ?_
  refine ri_ild a_X7_risesOf_3 rfl ?_
  refine ri_cVpi (as := [vi 0, vi (nI q), vi rung]) (rest := []) (d' := d - 1) a_X7_risesOf_4 mv_X7_asksOf ml_X7_185 (rcM_0 iM_0) (by omega) (ok_X7_asksOf (pt := 0) (by omega) hL hq (by decide) rung) (Nat.le_of_ble_eq_true rfl) rfl (fun zy1 ezy1 => ?_)
  refine ri_istk (ls' := [some (vo 0 0), some (vi (nI q)), some (vi rung), some (vi zy1)]) a_X7_risesOf_7 rfl ?_
  refine ri_ald a_X7_risesOf_8 rfl ?_
  refine ri_getR (t' := 1) (i' := 0) a_X7_risesOf_9 fl_X7_7 kM_0_1 rfl iM_0 (Or.inr ⟨rfl, rfl, rfl⟩) ?_
  refine ri_ild a_X7_risesOf_12 rfl ?_
  refine ri_iaload a_X7_risesOf_13 lM_1 rfl iM_1 i8 ?_
  refine ri_tsw a_X7_risesOf_14 ⟨fun zc2 => ?_, fun zc2 => ?_, fun zc2 => ?_, fun zc2 => ?_, trivial⟩ (fun zc2 => ?_)
  · replace zc2 : (N 1 0 (nI q).toNatClampNeg) = 2 := zc2.trans (by decide)
    refine ri_ild a_X7_risesOf_44 rfl ?_
    refine ri_ald a_X7_risesOf_45 rfl ?_
    refine ri_getR (t' := 2) (i' := 0) a_X7_risesOf_46 fl_X7_13 kM_0_2 rfl iM_0 (Or.inr ⟨rfl, rfl, rfl⟩) ?_
    refine ri_ild a_X7_risesOf_49 rfl ?_
    refine ri_iaload a_X7_risesOf_50 lM_2 rfl iM_2 i8 ?_
    refine ri_iadd a_X7_risesOf_51 ?_
    refine ri_ireturn a_X7_risesOf_52 rfl rfl ?_
    rw [e8] at *
    exact rI (by unfold risV; rw [V1, zc2, if_pos rfl, ezy1]; rfl) rfl
  · replace zc2 : (N 1 0 (nI q).toNatClampNeg) = 3 := zc2.trans (by decide)
    refine ri_ild a_X7_risesOf_88 rfl ?_
    refine ri_ireturn a_X7_risesOf_89 rfl rfl ?_
    rw [e8] at *
    exact rI (by unfold risV; rw [V1, zc2, if_neg (by decide), if_neg (by decide), if_neg (by decide), ezy1]) rfl
  · replace zc2 : (N 1 0 (nI q).toNatClampNeg) = 4 := zc2.trans (by decide)
    refine ri_ild a_X7_risesOf_53 rfl ?_
    refine ri_ic a_X7_risesOf_54 ?_
    refine ri_idiv a_X7_risesOf_55 (by decide) ?_
    refine ri_ireturn a_X7_risesOf_56 rfl rfl ?_
    rw [e8] at *
    exact rI (by unfold risV; rw [V1, zc2, if_neg (by decide), if_pos rfl, ezy1]) rfl
  · replace zc2 : (N 1 0 (nI q).toNatClampNeg) = 5 := zc2.trans (by decide)
    refine ri_ild a_X7_risesOf_57 rfl ?_
    refine ri_ald a_X7_risesOf_58 rfl ?_
    refine ri_getI a_X7_risesOf_59 fl_X7_103 kM_0_7 rfl iM_0 ?_
    refine ri_ald a_X7_risesOf_62 rfl ?_
    refine ri_getR (t' := 2) (i' := 0) a_X7_risesOf_63 fl_X7_13 kM_0_2 rfl iM_0 (Or.inr ⟨rfl, rfl, rfl⟩) ?_
    refine ri_ild a_X7_risesOf_66 rfl ?_
    refine ri_iaload a_X7_risesOf_67 lM_2 rfl iM_2 i8 ?_
    refine ri_icmp_le a_X7_risesOf_68 (fun zc3 => ?_) (fun zc3 => ?_)
    · refine ri_ic a_X7_risesOf_75 ?_
      refine ri_isub a_X7_risesOf_76 ?_
      refine ri_ist (f := fun zx4 => [some (vo 0 0), some (vi (nI q)), some (vi rung), some (vi zx4)]) a_X7_risesOf_77 (fun _ => rfl) (fun zx4 ezx4 => ?_)
      refine ri_ild a_X7_risesOf_78 rfl ?_
      refine ri_if_ge a_X7_risesOf_79 (fun zc5 => ?_) (fun zc5 => ?_)
      · refine ri_ild a_X7_risesOf_86 rfl ?_
        refine ri_ireturn a_X7_risesOf_87 rfl rfl ?_
        rw [e8] at *
        exact rI (by unfold risV; rw [V1, zc2, if_neg (by decide), if_neg (by decide), if_pos rfl, V5, V2, if_pos zc3, ezx4, ezy1, Int32.sub_zero]) rfl
      · refine ri_ic a_X7_risesOf_82 ?_
        refine ri_goto a_X7_risesOf_83 ?_
        refine ri_ireturn a_X7_risesOf_87 rfl rfl ?_
        rw [e8] at *
        rw [ezx4, ezy1, Int32.sub_zero] at zc5
        exact absurd hnn zc5
    · refine ri_ic a_X7_risesOf_71 ?_
      refine ri_goto a_X7_risesOf_72 ?_
      refine ri_isub a_X7_risesOf_76 ?_
      refine ri_ist (f := fun zx6 => [some (vo 0 0), some (vi (nI q)), some (vi rung), some (vi zx6)]) a_X7_risesOf_77 (fun _ => rfl) (fun zx6 ezx6 => ?_)
      refine ri_ild a_X7_risesOf_78 rfl ?_
      refine ri_if_ge a_X7_risesOf_79 (fun zc7 => ?_) (fun zc7 => ?_)
      · refine ri_ild a_X7_risesOf_86 rfl ?_
        refine ri_ireturn a_X7_risesOf_87 rfl rfl ?_
        rw [e8] at *
        refine rI ?_ rfl
        unfold risV
        rw [V1, zc2, if_neg (by decide), if_neg (by decide), if_pos rfl, V5, V2, if_neg zc3]
        rw [ezx6, ezy1] at zc7
        rw [ezx6, ezy1]
        split
        · rfl
        · rename_i h
          rw [Int32.lt_iff_toInt_lt] at h
          rw [Int32.le_iff_toInt_le] at zc7
          exact Int32.toInt_inj.mp (by have e0 : (0 : Int32).toInt = 0 := rfl; omega)
      · refine ri_ic a_X7_risesOf_82 ?_
        refine ri_goto a_X7_risesOf_83 ?_
        refine ri_ireturn a_X7_risesOf_87 rfl rfl ?_
        rw [e8] at *
        refine rI ?_ rfl
        unfold risV
        rw [V1, zc2, if_neg (by decide), if_neg (by decide), if_pos rfl, V5, V2, if_neg zc3]
        rw [ezx6, ezy1] at zc7
        rw [if_neg (fun q => zc7 (Int32.le_of_lt q))]
  · refine ri_ild a_X7_risesOf_88 rfl ?_
    refine ri_ireturn a_X7_risesOf_89 rfl rfl ?_
    rw [e8] at *
    have n := tsw_no zc2
    exact rI (by unfold risV; rw [V1, if_neg (n 2 (by decide) (by decide)), if_neg (n 4 (by decide) (by decide)), if_neg (n 5 (by decide) (by decide)), ezy1]) rfl
theorem ok_X7_bearsOf {w : Wd} {d : Nat} (hd : 3 ≤ d) {N : Mem} {q : Nat} {L : List (List Op)} (hL : lawN N L) (hq : q < 8) (rung : Int32) : lr_Ok tM sM w d jX7_bearsOf [vo 0 0, vi (nI q), vi rung] N (qI (beaV L (vwM N) q rung) N) := by
  have e8 : (nI q).toNatClampNeg = q := nI_clamp (by omega)
  have i8 : vp_in (nI q) 8 := vp_in_nI hq (by decide)
  have V1 : (vwM N).1 q = N 1 0 q := rfl
  have V2 : (vwM N).2.1 q = N 2 0 q := rfl
  refine lr_ok (by decide +kernel) rfl ?_
  refine ri_ald a_X7_bearsOf_0 rfl ?_
  refine ri_ic a_X7_bearsOf_1 ?_
  refine ri_ild a_X7_bearsOf_2 rfl ?_
  refine ri_ild a_X7_bearsOf_3 rfl ?_
  refine ri_cVpi (as := [vi 1, vi (nI q), vi rung]) (rest := []) (d' := d - 1) a_X7_bearsOf_4 mv_X7_asksOf ml_X7_185 (rcM_0 iM_0) (by omega) (ok_X7_asksOf (pt := 1) (by omega) hL hq (by decide) rung) (Nat.le_of_ble_eq_true rfl) rfl (fun zy1 ezy1 => ?_)
  refine ri_istk (ls' := [some (vo 0 0), some (vi (nI q)), some (vi rung), some (vi zy1)]) a_X7_bearsOf_7 rfl ?_
  refine ri_ald a_X7_bearsOf_8 rfl ?_
  refine ri_getR (t' := 1) (i' := 0) a_X7_bearsOf_9 fl_X7_7 kM_0_1 rfl iM_0 (Or.inr ⟨rfl, rfl, rfl⟩) ?_
  refine ri_ild a_X7_bearsOf_12 rfl ?_
  refine ri_iaload a_X7_bearsOf_13 lM_1 rfl iM_1 i8 ?_
  refine ri_tsw a_X7_bearsOf_14 ⟨fun zc2 => ?_, fun zc2 => ?_, fun zc2 => ?_, fun zc2 => ?_, trivial⟩ (fun zc2 => ?_)
  · replace zc2 : (N 1 0 (nI q).toNatClampNeg) = 1 := zc2.trans (by decide)
    refine ri_ild a_X7_bearsOf_44 rfl ?_
    refine ri_ic a_X7_bearsOf_45 ?_
    refine ri_ald a_X7_bearsOf_47 rfl ?_
    refine ri_getR (t' := 2) (i' := 0) a_X7_bearsOf_48 fl_X7_13 kM_0_2 rfl iM_0 (Or.inr ⟨rfl, rfl, rfl⟩) ?_
    refine ri_ild a_X7_bearsOf_51 rfl ?_
    refine ri_iaload a_X7_bearsOf_52 lM_2 rfl iM_2 i8 ?_
    refine ri_imul a_X7_bearsOf_53 ?_
    refine ri_iadd a_X7_bearsOf_54 ?_
    refine ri_ireturn a_X7_bearsOf_55 rfl rfl ?_
    rw [e8] at *
    exact rI (by unfold beaV; rw [V1, zc2, if_pos rfl, ezy1]; rfl) rfl
  · replace zc2 : (N 1 0 (nI q).toNatClampNeg) = 2 := zc2.trans (by decide)
    refine ri_ild a_X7_bearsOf_56 rfl ?_
    refine ri_ic a_X7_bearsOf_57 ?_
    refine ri_idiv a_X7_bearsOf_58 (by decide) ?_
    refine ri_ireturn a_X7_bearsOf_59 rfl rfl ?_
    rw [e8] at *
    exact rI (by unfold beaV; rw [V1, zc2, if_neg (by decide), if_pos rfl, ezy1]) rfl
  · replace zc2 : (N 1 0 (nI q).toNatClampNeg) = 3 := zc2.trans (by decide)
    refine ri_ic a_X7_bearsOf_60 ?_
    refine ri_ild a_X7_bearsOf_61 rfl ?_
    refine ri_ic a_X7_bearsOf_62 ?_
    refine ri_ald a_X7_bearsOf_64 rfl ?_
    refine ri_getR (t' := 2) (i' := 0) a_X7_bearsOf_65 fl_X7_13 kM_0_2 rfl iM_0 (Or.inr ⟨rfl, rfl, rfl⟩) ?_
    refine ri_ild a_X7_bearsOf_68 rfl ?_
    refine ri_iaload a_X7_bearsOf_69 lM_2 rfl iM_2 i8 ?_
    refine ri_imul a_X7_bearsOf_70 ?_
    refine ri_iadd a_X7_bearsOf_71 ?_
    refine ri_imul a_X7_bearsOf_72 ?_
    refine ri_ireturn a_X7_bearsOf_73 rfl rfl ?_
    rw [e8] at *
    exact rI (by unfold beaV; rw [V1, zc2, if_neg (by decide), if_neg (by decide), if_pos rfl, ezy1]; rfl) rfl
  · replace zc2 : (N 1 0 (nI q).toNatClampNeg) = 4 := zc2.trans (by decide)
    refine ri_ild a_X7_bearsOf_56 rfl ?_
    refine ri_ic a_X7_bearsOf_57 ?_
    refine ri_idiv a_X7_bearsOf_58 (by decide) ?_
    refine ri_ireturn a_X7_bearsOf_59 rfl rfl ?_
    rw [e8] at *
    exact rI (by unfold beaV; rw [V1, zc2, if_neg (by decide), if_neg (by decide), if_neg (by decide), if_pos rfl, ezy1]) rfl
  · refine ri_ild a_X7_bearsOf_74 rfl ?_
    refine ri_ireturn a_X7_bearsOf_75 rfl rfl ?_
    rw [e8] at *
    have n := tsw_no zc2
    exact rI (by unfold beaV; rw [V1, if_neg (n 1 (by decide) (by decide)), if_neg (n 2 (by decide) (by decide)), if_neg (n 3 (by decide) (by decide)), if_neg (n 4 (by decide) (by decide)), ezy1]) rfl
theorem ok_X7_weighsOf {w : Wd} {d : Nat} {N : Mem} {q : Nat} (hq : q < 8) : lr_Ok tM sM w d jX7_weighsOf [vo 0 0, vi (nI q)] N (qI (weiV (vwM N) q) N) := by
  have e8 : (nI q).toNatClampNeg = q := nI_clamp (by omega)
  have i8 : vp_in (nI q) 8 := vp_in_nI hq (by decide)
  have i2 : vp_in (2 * nI q) 16 := by rw [nI_2m]; exact vp_in_nI (by omega) (by decide)
  have e2 : (2 * nI q).toNatClampNeg = 2 * q := by rw [nI_2m, nI_clamp (by omega)]
  have V1 : (vwM N).1 q = N 1 0 q := rfl
  have V3 : (vwM N).2.2.1 q = N 3 0 (2 * q) := rfl
  refine lr_ok (by decide +kernel) rfl ?_
  refine ri_ald a_X7_weighsOf_0 rfl ?_
  refine ri_getR (t' := 3) (i' := 0) a_X7_weighsOf_1 fl_X7_16 kM_0_3 rfl iM_0 (Or.inr ⟨rfl, rfl, rfl⟩) ?_
  refine ri_ic a_X7_weighsOf_4 ?_
  refine ri_ild a_X7_weighsOf_5 rfl ?_
  refine ri_imul a_X7_weighsOf_6 ?_
  refine ri_iaload a_X7_weighsOf_7 lM_3 rfl iM_3 i2 ?_
  refine ri_ic a_X7_weighsOf_8 ?_
  refine ri_idiv a_X7_weighsOf_9 (by decide) ?_
  refine ri_ist (f := fun zx1 => [some (vo 0 0), some (vi (nI q)), some (vi zx1)]) a_X7_weighsOf_10 (fun _ => rfl) (fun zx1 ezx1 => ?_)
  refine ri_ald a_X7_weighsOf_11 rfl ?_
  refine ri_getR (t' := 1) (i' := 0) a_X7_weighsOf_12 fl_X7_7 kM_0_1 rfl iM_0 (Or.inr ⟨rfl, rfl, rfl⟩) ?_
  refine ri_ild a_X7_weighsOf_15 rfl ?_
  refine ri_iaload a_X7_weighsOf_16 lM_1 rfl iM_1 i8 ?_
  refine ri_ic a_X7_weighsOf_17 ?_
  refine ri_icmp_ne a_X7_weighsOf_18 (fun zc2 => ?_) (fun zc2 => ?_)
  · refine ri_ald a_X7_weighsOf_28 rfl ?_
    refine ri_getR (t' := 1) (i' := 0) a_X7_weighsOf_29 fl_X7_7 kM_0_1 rfl iM_0 (Or.inr ⟨rfl, rfl, rfl⟩) ?_
    refine ri_ild a_X7_weighsOf_32 rfl ?_
    refine ri_iaload a_X7_weighsOf_33 lM_1 rfl iM_1 i8 ?_
    refine ri_ic a_X7_weighsOf_34 ?_
    refine ri_icmp_ne a_X7_weighsOf_35 (fun zc3 => ?_) (fun zc3 => ?_)
    · refine ri_ald a_X7_weighsOf_44 rfl ?_
      refine ri_getR (t' := 1) (i' := 0) a_X7_weighsOf_45 fl_X7_7 kM_0_1 rfl iM_0 (Or.inr ⟨rfl, rfl, rfl⟩) ?_
      refine ri_ild a_X7_weighsOf_48 rfl ?_
      refine ri_iaload a_X7_weighsOf_49 lM_1 rfl iM_1 i8 ?_
      refine ri_ic a_X7_weighsOf_50 ?_
      refine ri_icmp_ne a_X7_weighsOf_51 (fun zc4 => ?_) (fun zc4 => ?_)
      · refine ri_ild a_X7_weighsOf_65 rfl ?_
        refine ri_ireturn a_X7_weighsOf_66 rfl rfl ?_
        rw [e8, e2] at *
        exact rI (by unfold weiV; simp only [V1, V3, *]; rfl) rfl
      · refine ri_ald a_X7_weighsOf_54 rfl ?_
        refine ri_getR (t' := 3) (i' := 0) a_X7_weighsOf_55 fl_X7_16 kM_0_3 rfl iM_0 (Or.inr ⟨rfl, rfl, rfl⟩) ?_
        refine ri_ic a_X7_weighsOf_58 ?_
        refine ri_ild a_X7_weighsOf_59 rfl ?_
        refine ri_imul a_X7_weighsOf_60 ?_
        refine ri_iaload a_X7_weighsOf_61 lM_3 rfl iM_3 i2 ?_
        refine ri_goto a_X7_weighsOf_62 ?_
        refine ri_ireturn a_X7_weighsOf_66 rfl rfl ?_
        rw [e8, e2] at *
        exact rI (by unfold weiV; simp only [V1, V3, *]; rfl) rfl
    · refine ri_ild a_X7_weighsOf_38 rfl ?_
      refine ri_ic a_X7_weighsOf_39 ?_
      refine ri_idiv a_X7_weighsOf_40 (by decide) ?_
      refine ri_goto a_X7_weighsOf_41 ?_
      refine ri_ireturn a_X7_weighsOf_66 rfl rfl ?_
      rw [e8, e2] at *
      exact rI (by unfold weiV; simp only [V1, V3, *]; rfl) rfl
  · refine ri_ild a_X7_weighsOf_21 rfl ?_
    refine ri_ic a_X7_weighsOf_22 ?_
    refine ri_iadd a_X7_weighsOf_24 ?_
    refine ri_goto a_X7_weighsOf_25 ?_
    refine ri_ireturn a_X7_weighsOf_66 rfl rfl ?_
    rw [e8, e2] at *
    exact rI (by unfold weiV; simp only [V1, V3, *]; rfl) rfl

