/-! constructors: the reference, as far as its loop -/
theorem lp_X7_i1 {w : Wd} {Af : Nat → Prop} {Z : Array Value → State → Outcome → State → Prop} {a : Nat} (nx : ∀ q7 q15 q23 q31 q39 q48 q57 q65, lc_W w (rm_c 10 25 2358) Af jX7_init Z 25 2358 73 [some (vr (some a)), none] [vi 32, vr (some a)] 8 1432 [(a, .inr (6, [.int 0, .ref q7, .ref q15, .ref q23, .ref q31, .ref q39, .int 0, .int 0, .ref q48, .int 0, .ref q57, .ref q65, .int 0, .int 0, .int 0, .null, .null, .null, .null, .null, .null, .int 0, .int 0, .int 0, .int 0, .null, .null, .int 0, .int 0, .int 0, .null, .null, .null, .null, .null, .null, .int 0, .int 0, .int 0, .null, .null, .null])), (q7, .inl (wdC w 0, 8, .inl (fun _ => 0))), (q15, .inl (wdC w 0, 8, .inl (fun _ => 0))), (q23, .inl (wdC w 0, 16, .inl (fun _ => 0))), (q31, .inl (wdC w 0, 8, .inl (fun _ => 0))), (q39, .inl (wdC w 0, 8, .inl (fun _ => 0))), (q48, .inl (wdC w 0, 160, .inl (fun _ => 0))), (q57, .inl (wdC w 0, 1200, .inl (fun _ => 0))), (q65, .inl (wdC w 0, 24, .inl (fun _ => 0)))]) : lc_W w (rm_c 10 25 2358) Af jX7_init Z 25 2358 0 [some (vr (some a)), none] [] 0 0 [(a, .inr (6, [.int 0, .null, .null, .null, .null, .null, .int 0, .int 0, .null, .int 0, .null, .null, .int 0, .int 0, .int 0, .null, .null, .null, .null, .null, .null, .int 0, .int 0, .int 0, .int 0, .null, .null, .int 0, .int 0, .int 0, .null, .null, .null, .null, .null, .null, .int 0, .int 0, .int 0, .null, .null, .null]))] := by
  refine lc_ald a_X7_init_0 rfl ?_
  refine lc_objInit a_X7_init_1 (aw_in (by decide +kernel) rfl) (aw_in (by decide +kernel) rfl) (aw_in (by decide +kernel) rfl) (by decide) (by decide) rfl (by decide) ?_
  refine lc_ald a_X7_init_4 rfl ?_
  refine lc_ic a_X7_init_5 ?_
  refine lc_newa (N := 8) a_X7_init_7 (aw_in (by decide +kernel) rfl) (by decide) (by decide) (by decide) (fun q7 => ?_)
  refine lc_putF (q0 := 0) (ci := 6) (k := 1) (ty := (.array .int)) a_X7_init_9 rfl rfl rfl (by decide) (Nat.le_of_ble_eq_true rfl) rfl (by decide +kernel) rfl (aw_in (by decide +kernel) rfl) rfl rfl rfl ?_
  refine lc_ald a_X7_init_12 rfl ?_
  refine lc_ic a_X7_init_13 ?_
  refine lc_newa (N := 8) a_X7_init_15 (aw_in (by decide +kernel) rfl) (by decide) (by decide) (by decide) (fun q15 => ?_)
  refine lc_putF (q0 := 0) (ci := 6) (k := 2) (ty := (.array .int)) a_X7_init_17 rfl rfl rfl (by decide) (Nat.le_of_ble_eq_true rfl) rfl (by decide +kernel) rfl (aw_in (by decide +kernel) rfl) rfl rfl rfl ?_
  refine lc_ald a_X7_init_20 rfl ?_
  refine lc_ic a_X7_init_21 ?_
  refine lc_newa (N := 16) a_X7_init_23 (aw_in (by decide +kernel) rfl) (by decide) (by decide) (by decide) (fun q23 => ?_)
  refine lc_putF (q0 := 0) (ci := 6) (k := 3) (ty := (.array .int)) a_X7_init_25 rfl rfl rfl (by decide) (Nat.le_of_ble_eq_true rfl) rfl (by decide +kernel) rfl (aw_in (by decide +kernel) rfl) rfl rfl rfl ?_
  refine lc_ald a_X7_init_28 rfl ?_
  refine lc_ic a_X7_init_29 ?_
  refine lc_newa (N := 8) a_X7_init_31 (aw_in (by decide +kernel) rfl) (by decide) (by decide) (by decide) (fun q31 => ?_)
  refine lc_putF (q0 := 0) (ci := 6) (k := 4) (ty := (.array .int)) a_X7_init_33 rfl rfl rfl (by decide) (Nat.le_of_ble_eq_true rfl) rfl (by decide +kernel) rfl (aw_in (by decide +kernel) rfl) rfl rfl rfl ?_
  refine lc_ald a_X7_init_36 rfl ?_
  refine lc_ic a_X7_init_37 ?_
  refine lc_newa (N := 8) a_X7_init_39 (aw_in (by decide +kernel) rfl) (by decide) (by decide) (by decide) (fun q39 => ?_)
  refine lc_putF (q0 := 0) (ci := 6) (k := 5) (ty := (.array .int)) a_X7_init_41 rfl rfl rfl (by decide) (Nat.le_of_ble_eq_true rfl) rfl (by decide +kernel) rfl (aw_in (by decide +kernel) rfl) rfl rfl rfl ?_
  refine lc_ald a_X7_init_44 rfl ?_
  refine lc_ic a_X7_init_45 ?_
  refine lc_newa (N := 160) a_X7_init_48 (aw_in (by decide +kernel) rfl) (by decide) (by decide) (by decide) (fun q48 => ?_)
  refine lc_putF (q0 := 0) (ci := 6) (k := 8) (ty := (.array .int)) a_X7_init_50 rfl rfl rfl (by decide) (Nat.le_of_ble_eq_true rfl) rfl (by decide +kernel) rfl (aw_in (by decide +kernel) rfl) rfl rfl rfl ?_
  refine lc_ald a_X7_init_53 rfl ?_
  refine lc_ic a_X7_init_54 ?_
  refine lc_newa (N := 1200) a_X7_init_57 (aw_in (by decide +kernel) rfl) (by decide) (by decide) (by decide) (fun q57 => ?_)
  refine lc_putF (q0 := 0) (ci := 6) (k := 10) (ty := (.array .int)) a_X7_init_59 rfl rfl rfl (by decide) (Nat.le_of_ble_eq_true rfl) rfl (by decide +kernel) rfl (aw_in (by decide +kernel) rfl) rfl rfl rfl ?_
  refine lc_ald a_X7_init_62 rfl ?_
  refine lc_ic a_X7_init_63 ?_
  refine lc_newa (N := 24) a_X7_init_65 (aw_in (by decide +kernel) rfl) (by decide) (by decide) (by decide) (fun q65 => ?_)
  refine lc_putF (q0 := 0) (ci := 6) (k := 11) (ty := (.array .int)) a_X7_init_67 rfl rfl rfl (by decide) (Nat.le_of_ble_eq_true rfl) rfl (by decide +kernel) rfl (aw_in (by decide +kernel) rfl) rfl rfl rfl ?_
  refine lc_ald a_X7_init_70 rfl ?_
  refine lc_ic a_X7_init_71 ?_
  exact nx q7 q15 q23 q31 q39 q48 q57 q65
theorem lp_X7_i2 {w : Wd} {Af : Nat → Prop} {Z : Array Value → State → Outcome → State → Prop} {a q7 q15 q23 q31 q39 q48 q57 q65 : Nat} (nx : ∀ q73 q80 q87 q110 q119, lc_W w (rm_c 10 25 2358) Af jX7_init Z 25 2358 127 [some (vr (some a)), none] [vi 50, vr (some a)] 13 1636 [(a, .inr (6, [.int 0, .ref q7, .ref q15, .ref q23, .ref q31, .ref q39, .int 0, .int 0, .ref q48, .int 0, .ref q57, .ref q65, .int 0, .int 0, .int 0, .ref q73, .ref q80, .ref q87, .ref q110, .ref q119, .null, .int 0, .int 0, .int 0, .int 0, .null, .null, .int 0, .int 0, .int 0, .null, .null, .null, .null, .null, .null, .int 0, .int 0, .int 0, .null, .null, .null])), (q7, .inl (wdC w 0, 8, .inl (fun _ => 0))), (q15, .inl (wdC w 0, 8, .inl (fun _ => 0))), (q23, .inl (wdC w 0, 16, .inl (fun _ => 0))), (q31, .inl (wdC w 0, 8, .inl (fun _ => 0))), (q39, .inl (wdC w 0, 8, .inl (fun _ => 0))), (q48, .inl (wdC w 0, 160, .inl (fun _ => 0))), (q57, .inl (wdC w 0, 1200, .inl (fun _ => 0))), (q65, .inl (wdC w 0, 24, .inl (fun _ => 0))), (q73, .inl (wdC w 0, 32, .inl (fun _ => 0))), (q80, .inl (wdC w 0, 4, .inl (fun _ => 0))), (q87, .inl (wdC w 0, 4, .inl (upd (upd (upd (upd (fun _ => 0) 0 (-1)) 1 (-1)) 2 (-1)) 3 (-1)))), (q110, .inl (wdC w 0, 4, .inl (fun _ => 0))), (q119, .inl (wdC w 0, 160, .inl (fun _ => 0)))]) : lc_W w (rm_c 10 25 2358) Af jX7_init Z 25 2358 73 [some (vr (some a)), none] [vi 32, vr (some a)] 8 1432 [(a, .inr (6, [.int 0, .ref q7, .ref q15, .ref q23, .ref q31, .ref q39, .int 0, .int 0, .ref q48, .int 0, .ref q57, .ref q65, .int 0, .int 0, .int 0, .null, .null, .null, .null, .null, .null, .int 0, .int 0, .int 0, .int 0, .null, .null, .int 0, .int 0, .int 0, .null, .null, .null, .null, .null, .null, .int 0, .int 0, .int 0, .null, .null, .null])), (q7, .inl (wdC w 0, 8, .inl (fun _ => 0))), (q15, .inl (wdC w 0, 8, .inl (fun _ => 0))), (q23, .inl (wdC w 0, 16, .inl (fun _ => 0))), (q31, .inl (wdC w 0, 8, .inl (fun _ => 0))), (q39, .inl (wdC w 0, 8, .inl (fun _ => 0))), (q48, .inl (wdC w 0, 160, .inl (fun _ => 0))), (q57, .inl (wdC w 0, 1200, .inl (fun _ => 0))), (q65, .inl (wdC w 0, 24, .inl (fun _ => 0)))] := by
  refine lc_newa (N := 32) a_X7_init_73 (aw_in (by decide +kernel) rfl) (by decide) (by decide) (by decide) (fun q73 => ?_)
  refine lc_putF (q0 := 0) (ci := 6) (k := 15) (ty := (.array .int)) a_X7_init_75 rfl rfl rfl (by decide) (Nat.le_of_ble_eq_true rfl) rfl (by decide +kernel) rfl (aw_in (by decide +kernel) rfl) rfl rfl rfl ?_
  refine lc_ald a_X7_init_78 rfl ?_
  refine lc_ic a_X7_init_79 ?_
  refine lc_newa (N := 4) a_X7_init_80 (aw_in (by decide +kernel) rfl) (by decide) (by decide) (by decide) (fun q80 => ?_)
  refine lc_putF (q0 := 0) (ci := 6) (k := 16) (ty := (.array .int)) a_X7_init_82 rfl rfl rfl (by decide) (Nat.le_of_ble_eq_true rfl) rfl (by decide +kernel) rfl (aw_in (by decide +kernel) rfl) rfl rfl rfl ?_
  refine lc_ald a_X7_init_85 rfl ?_
  refine lc_ic a_X7_init_86 ?_
  refine lc_newa (N := 4) a_X7_init_87 (aw_in (by decide +kernel) rfl) (by decide) (by decide) (by decide) (fun q87 => ?_)
  refine lc_dup a_X7_init_89 ?_
  refine lc_ic a_X7_init_90 ?_
  refine lc_ic a_X7_init_91 ?_
  refine lc_iast (q0 := 11) (k := 0) (v := (-1)) a_X7_init_92 rfl (Nat.le_of_ble_eq_true rfl) (by decide) rfl ?_
  refine lc_dup a_X7_init_93 ?_
  refine lc_ic a_X7_init_94 ?_
  refine lc_ic a_X7_init_95 ?_
  refine lc_iast (q0 := 11) (k := 1) (v := (-1)) a_X7_init_96 rfl (Nat.le_of_ble_eq_true rfl) (by decide) rfl ?_
  refine lc_dup a_X7_init_97 ?_
  refine lc_ic a_X7_init_98 ?_
  refine lc_ic a_X7_init_99 ?_
  refine lc_iast (q0 := 11) (k := 2) (v := (-1)) a_X7_init_100 rfl (Nat.le_of_ble_eq_true rfl) (by decide) rfl ?_
  refine lc_dup a_X7_init_101 ?_
  refine lc_ic a_X7_init_102 ?_
  refine lc_ic a_X7_init_103 ?_
  refine lc_iast (q0 := 11) (k := 3) (v := (-1)) a_X7_init_104 rfl (Nat.le_of_ble_eq_true rfl) (by decide) rfl ?_
  refine lc_putF (q0 := 0) (ci := 6) (k := 17) (ty := (.array .int)) a_X7_init_105 rfl rfl rfl (by decide) (Nat.le_of_ble_eq_true rfl) rfl (by decide +kernel) rfl (aw_in (by decide +kernel) rfl) rfl rfl rfl ?_
  refine lc_ald a_X7_init_108 rfl ?_
  refine lc_ic a_X7_init_109 ?_
  refine lc_newa (N := 4) a_X7_init_110 (aw_in (by decide +kernel) rfl) (by decide) (by decide) (by decide) (fun q110 => ?_)
  refine lc_putF (q0 := 0) (ci := 6) (k := 18) (ty := (.array .int)) a_X7_init_112 rfl rfl rfl (by decide) (Nat.le_of_ble_eq_true rfl) rfl (by decide +kernel) rfl (aw_in (by decide +kernel) rfl) rfl rfl rfl ?_
  refine lc_ald a_X7_init_115 rfl ?_
  refine lc_ic a_X7_init_116 ?_
  refine lc_newa (N := 160) a_X7_init_119 (aw_in (by decide +kernel) rfl) (by decide) (by decide) (by decide) (fun q119 => ?_)
  refine lc_putF (q0 := 0) (ci := 6) (k := 19) (ty := (.array .int)) a_X7_init_121 rfl rfl rfl (by decide) (Nat.le_of_ble_eq_true rfl) rfl (by decide +kernel) rfl (aw_in (by decide +kernel) rfl) rfl rfl rfl ?_
  refine lc_ald a_X7_init_124 rfl ?_
  refine lc_ic a_X7_init_125 ?_
  exact nx q73 q80 q87 q110 q119
theorem lp_X7_i3 {w : Wd} {Af : Nat → Prop} {Z : Array Value → State → Outcome → State → Prop} {a q7 q15 q23 q31 q39 q48 q57 q65 q73 q80 q87 q110 q119 : Nat} (nx : ∀ q127, lc_W w (rm_c 10 25 2358) Af jX7_init Z 25 2358 176 [some (vr (some a)), none] [vi 103, vi 8, vr (some q127), vr (some q127), vr (some a)] 14 1686 [(a, .inr (6, [.int 0, .ref q7, .ref q15, .ref q23, .ref q31, .ref q39, .int 0, .int 0, .ref q48, .int 0, .ref q57, .ref q65, .int 0, .int 0, .int 0, .ref q73, .ref q80, .ref q87, .ref q110, .ref q119, .null, .int 0, .int 0, .int 0, .int 0, .null, .null, .int 0, .int 0, .int 0, .null, .null, .null, .null, .null, .null, .int 0, .int 0, .int 0, .null, .null, .null])), (q7, .inl (wdC w 0, 8, .inl (fun _ => 0))), (q15, .inl (wdC w 0, 8, .inl (fun _ => 0))), (q23, .inl (wdC w 0, 16, .inl (fun _ => 0))), (q31, .inl (wdC w 0, 8, .inl (fun _ => 0))), (q39, .inl (wdC w 0, 8, .inl (fun _ => 0))), (q48, .inl (wdC w 0, 160, .inl (fun _ => 0))), (q57, .inl (wdC w 0, 1200, .inl (fun _ => 0))), (q65, .inl (wdC w 0, 24, .inl (fun _ => 0))), (q73, .inl (wdC w 0, 32, .inl (fun _ => 0))), (q80, .inl (wdC w 0, 4, .inl (fun _ => 0))), (q87, .inl (wdC w 0, 4, .inl (upd (upd (upd (upd (fun _ => 0) 0 (-1)) 1 (-1)) 2 (-1)) 3 (-1)))), (q110, .inl (wdC w 0, 4, .inl (fun _ => 0))), (q119, .inl (wdC w 0, 160, .inl (fun _ => 0))), (q127, .inl (wdC w 0, 50, .inl (upd (upd (upd (upd (upd (upd (upd (upd (fun _ => 0) 0 116) 1 97) 2 108) 3 108) 4 32) 5 104) 6 101) 7 105)))]) : lc_W w (rm_c 10 25 2358) Af jX7_init Z 25 2358 127 [some (vr (some a)), none] [vi 50, vr (some a)] 13 1636 [(a, .inr (6, [.int 0, .ref q7, .ref q15, .ref q23, .ref q31, .ref q39, .int 0, .int 0, .ref q48, .int 0, .ref q57, .ref q65, .int 0, .int 0, .int 0, .ref q73, .ref q80, .ref q87, .ref q110, .ref q119, .null, .int 0, .int 0, .int 0, .int 0, .null, .null, .int 0, .int 0, .int 0, .null, .null, .null, .null, .null, .null, .int 0, .int 0, .int 0, .null, .null, .null])), (q7, .inl (wdC w 0, 8, .inl (fun _ => 0))), (q15, .inl (wdC w 0, 8, .inl (fun _ => 0))), (q23, .inl (wdC w 0, 16, .inl (fun _ => 0))), (q31, .inl (wdC w 0, 8, .inl (fun _ => 0))), (q39, .inl (wdC w 0, 8, .inl (fun _ => 0))), (q48, .inl (wdC w 0, 160, .inl (fun _ => 0))), (q57, .inl (wdC w 0, 1200, .inl (fun _ => 0))), (q65, .inl (wdC w 0, 24, .inl (fun _ => 0))), (q73, .inl (wdC w 0, 32, .inl (fun _ => 0))), (q80, .inl (wdC w 0, 4, .inl (fun _ => 0))), (q87, .inl (wdC w 0, 4, .inl (upd (upd (upd (upd (fun _ => 0) 0 (-1)) 1 (-1)) 2 (-1)) 3 (-1)))), (q110, .inl (wdC w 0, 4, .inl (fun _ => 0))), (q119, .inl (wdC w 0, 160, .inl (fun _ => 0)))] := by
  refine lc_newa (N := 50) a_X7_init_127 (aw_in (by decide +kernel) rfl) (by decide) (by decide) (by decide) (fun q127 => ?_)
  refine lc_dup a_X7_init_129 ?_
  refine lc_ic a_X7_init_130 ?_
  refine lc_ic a_X7_init_131 ?_
  refine lc_iast (q0 := 14) (k := 0) (v := 116) a_X7_init_133 rfl (Nat.le_of_ble_eq_true rfl) (by decide) rfl ?_
  refine lc_dup a_X7_init_134 ?_
  refine lc_ic a_X7_init_135 ?_
  refine lc_ic a_X7_init_136 ?_
  refine lc_iast (q0 := 14) (k := 1) (v := 97) a_X7_init_138 rfl (Nat.le_of_ble_eq_true rfl) (by decide) rfl ?_
  refine lc_dup a_X7_init_139 ?_
  refine lc_ic a_X7_init_140 ?_
  refine lc_ic a_X7_init_141 ?_
  refine lc_iast (q0 := 14) (k := 2) (v := 108) a_X7_init_143 rfl (Nat.le_of_ble_eq_true rfl) (by decide) rfl ?_
  refine lc_dup a_X7_init_144 ?_
  refine lc_ic a_X7_init_145 ?_
  refine lc_ic a_X7_init_146 ?_
  refine lc_iast (q0 := 14) (k := 3) (v := 108) a_X7_init_148 rfl (Nat.le_of_ble_eq_true rfl) (by decide) rfl ?_
  refine lc_dup a_X7_init_149 ?_
  refine lc_ic a_X7_init_150 ?_
  refine lc_ic a_X7_init_151 ?_
  refine lc_iast (q0 := 14) (k := 4) (v := 32) a_X7_init_153 rfl (Nat.le_of_ble_eq_true rfl) (by decide) rfl ?_
  refine lc_dup a_X7_init_154 ?_
  refine lc_ic a_X7_init_155 ?_
  refine lc_ic a_X7_init_156 ?_
  refine lc_iast (q0 := 14) (k := 5) (v := 104) a_X7_init_158 rfl (Nat.le_of_ble_eq_true rfl) (by decide) rfl ?_
  refine lc_dup a_X7_init_159 ?_
  refine lc_ic a_X7_init_160 ?_
  refine lc_ic a_X7_init_162 ?_
  refine lc_iast (q0 := 14) (k := 6) (v := 101) a_X7_init_164 rfl (Nat.le_of_ble_eq_true rfl) (by decide) rfl ?_
  refine lc_dup a_X7_init_165 ?_
  refine lc_ic a_X7_init_166 ?_
  refine lc_ic a_X7_init_168 ?_
  refine lc_iast (q0 := 14) (k := 7) (v := 105) a_X7_init_170 rfl (Nat.le_of_ble_eq_true rfl) (by decide) rfl ?_
  refine lc_dup a_X7_init_171 ?_
  refine lc_ic a_X7_init_172 ?_
  refine lc_ic a_X7_init_174 ?_
  exact nx q127
theorem lp_X7_i4 {w : Wd} {Af : Nat → Prop} {Z : Array Value → State → Outcome → State → Prop} {a q7 q15 q23 q31 q39 q48 q57 q65 q73 q80 q87 q110 q119 q127 : Nat} (nx : lc_W w (rm_c 10 25 2358) Af jX7_init Z 25 2358 230 [some (vr (some a)), none] [vi 114, vi 17, vr (some q127), vr (some q127), vr (some a)] 14 1686 [(a, .inr (6, [.int 0, .ref q7, .ref q15, .ref q23, .ref q31, .ref q39, .int 0, .int 0, .ref q48, .int 0, .ref q57, .ref q65, .int 0, .int 0, .int 0, .ref q73, .ref q80, .ref q87, .ref q110, .ref q119, .null, .int 0, .int 0, .int 0, .int 0, .null, .null, .int 0, .int 0, .int 0, .null, .null, .null, .null, .null, .null, .int 0, .int 0, .int 0, .null, .null, .null])), (q7, .inl (wdC w 0, 8, .inl (fun _ => 0))), (q15, .inl (wdC w 0, 8, .inl (fun _ => 0))), (q23, .inl (wdC w 0, 16, .inl (fun _ => 0))), (q31, .inl (wdC w 0, 8, .inl (fun _ => 0))), (q39, .inl (wdC w 0, 8, .inl (fun _ => 0))), (q48, .inl (wdC w 0, 160, .inl (fun _ => 0))), (q57, .inl (wdC w 0, 1200, .inl (fun _ => 0))), (q65, .inl (wdC w 0, 24, .inl (fun _ => 0))), (q73, .inl (wdC w 0, 32, .inl (fun _ => 0))), (q80, .inl (wdC w 0, 4, .inl (fun _ => 0))), (q87, .inl (wdC w 0, 4, .inl (upd (upd (upd (upd (fun _ => 0) 0 (-1)) 1 (-1)) 2 (-1)) 3 (-1)))), (q110, .inl (wdC w 0, 4, .inl (fun _ => 0))), (q119, .inl (wdC w 0, 160, .inl (fun _ => 0))), (q127, .inl (wdC w 0, 50, .inl (upd (upd (upd (upd (upd (upd (upd (upd (upd (upd (upd (upd (upd (upd (upd (upd (upd (fun _ => 0) 0 116) 1 97) 2 108) 3 108) 4 32) 5 104) 6 101) 7 105) 8 103) 9 104) 10 116) 11 32) 12 59) 13 32) 14 98) 15 101) 16 97)))]) : lc_W w (rm_c 10 25 2358) Af jX7_init Z 25 2358 176 [some (vr (some a)), none] [vi 103, vi 8, vr (some q127), vr (some q127), vr (some a)] 14 1686 [(a, .inr (6, [.int 0, .ref q7, .ref q15, .ref q23, .ref q31, .ref q39, .int 0, .int 0, .ref q48, .int 0, .ref q57, .ref q65, .int 0, .int 0, .int 0, .ref q73, .ref q80, .ref q87, .ref q110, .ref q119, .null, .int 0, .int 0, .int 0, .int 0, .null, .null, .int 0, .int 0, .int 0, .null, .null, .null, .null, .null, .null, .int 0, .int 0, .int 0, .null, .null, .null])), (q7, .inl (wdC w 0, 8, .inl (fun _ => 0))), (q15, .inl (wdC w 0, 8, .inl (fun _ => 0))), (q23, .inl (wdC w 0, 16, .inl (fun _ => 0))), (q31, .inl (wdC w 0, 8, .inl (fun _ => 0))), (q39, .inl (wdC w 0, 8, .inl (fun _ => 0))), (q48, .inl (wdC w 0, 160, .inl (fun _ => 0))), (q57, .inl (wdC w 0, 1200, .inl (fun _ => 0))), (q65, .inl (wdC w 0, 24, .inl (fun _ => 0))), (q73, .inl (wdC w 0, 32, .inl (fun _ => 0))), (q80, .inl (wdC w 0, 4, .inl (fun _ => 0))), (q87, .inl (wdC w 0, 4, .inl (upd (upd (upd (upd (fun _ => 0) 0 (-1)) 1 (-1)) 2 (-1)) 3 (-1)))), (q110, .inl (wdC w 0, 4, .inl (fun _ => 0))), (q119, .inl (wdC w 0, 160, .inl (fun _ => 0))), (q127, .inl (wdC w 0, 50, .inl (upd (upd (upd (upd (upd (upd (upd (upd (fun _ => 0) 0 116) 1 97) 2 108) 3 108) 4 32) 5 104) 6 101) 7 105)))] := by
  refine lc_iast (q0 := 14) (k := 8) (v := 103) a_X7_init_176 rfl (Nat.le_of_ble_eq_true rfl) (by decide) rfl ?_
  refine lc_dup a_X7_init_177 ?_
  refine lc_ic a_X7_init_178 ?_
  refine lc_ic a_X7_init_180 ?_
  refine lc_iast (q0 := 14) (k := 9) (v := 104) a_X7_init_182 rfl (Nat.le_of_ble_eq_true rfl) (by decide) rfl ?_
  refine lc_dup a_X7_init_183 ?_
  refine lc_ic a_X7_init_184 ?_
  refine lc_ic a_X7_init_186 ?_
  refine lc_iast (q0 := 14) (k := 10) (v := 116) a_X7_init_188 rfl (Nat.le_of_ble_eq_true rfl) (by decide) rfl ?_
  refine lc_dup a_X7_init_189 ?_
  refine lc_ic a_X7_init_190 ?_
  refine lc_ic a_X7_init_192 ?_
  refine lc_iast (q0 := 14) (k := 11) (v := 32) a_X7_init_194 rfl (Nat.le_of_ble_eq_true rfl) (by decide) rfl ?_
  refine lc_dup a_X7_init_195 ?_
  refine lc_ic a_X7_init_196 ?_
  refine lc_ic a_X7_init_198 ?_
  refine lc_iast (q0 := 14) (k := 12) (v := 59) a_X7_init_200 rfl (Nat.le_of_ble_eq_true rfl) (by decide) rfl ?_
  refine lc_dup a_X7_init_201 ?_
  refine lc_ic a_X7_init_202 ?_
  refine lc_ic a_X7_init_204 ?_
  refine lc_iast (q0 := 14) (k := 13) (v := 32) a_X7_init_206 rfl (Nat.le_of_ble_eq_true rfl) (by decide) rfl ?_
  refine lc_dup a_X7_init_207 ?_
  refine lc_ic a_X7_init_208 ?_
  refine lc_ic a_X7_init_210 ?_
  refine lc_iast (q0 := 14) (k := 14) (v := 98) a_X7_init_212 rfl (Nat.le_of_ble_eq_true rfl) (by decide) rfl ?_
  refine lc_dup a_X7_init_213 ?_
  refine lc_ic a_X7_init_214 ?_
  refine lc_ic a_X7_init_216 ?_
  refine lc_iast (q0 := 14) (k := 15) (v := 101) a_X7_init_218 rfl (Nat.le_of_ble_eq_true rfl) (by decide) rfl ?_
  refine lc_dup a_X7_init_219 ?_
  refine lc_ic a_X7_init_220 ?_
  refine lc_ic a_X7_init_222 ?_
  refine lc_iast (q0 := 14) (k := 16) (v := 97) a_X7_init_224 rfl (Nat.le_of_ble_eq_true rfl) (by decide) rfl ?_
  refine lc_dup a_X7_init_225 ?_
  refine lc_ic a_X7_init_226 ?_
  refine lc_ic a_X7_init_228 ?_
  exact nx
theorem lp_X7_i5 {w : Wd} {Af : Nat → Prop} {Z : Array Value → State → Outcome → State → Prop} {a q7 q15 q23 q31 q39 q48 q57 q65 q73 q80 q87 q110 q119 q127 : Nat} (nx : lc_W w (rm_c 10 25 2358) Af jX7_init Z 25 2358 284 [some (vr (some a)), none] [vi 32, vi 26, vr (some q127), vr (some q127), vr (some a)] 14 1686 [(a, .inr (6, [.int 0, .ref q7, .ref q15, .ref q23, .ref q31, .ref q39, .int 0, .int 0, .ref q48, .int 0, .ref q57, .ref q65, .int 0, .int 0, .int 0, .ref q73, .ref q80, .ref q87, .ref q110, .ref q119, .null, .int 0, .int 0, .int 0, .int 0, .null, .null, .int 0, .int 0, .int 0, .null, .null, .null, .null, .null, .null, .int 0, .int 0, .int 0, .null, .null, .null])), (q7, .inl (wdC w 0, 8, .inl (fun _ => 0))), (q15, .inl (wdC w 0, 8, .inl (fun _ => 0))), (q23, .inl (wdC w 0, 16, .inl (fun _ => 0))), (q31, .inl (wdC w 0, 8, .inl (fun _ => 0))), (q39, .inl (wdC w 0, 8, .inl (fun _ => 0))), (q48, .inl (wdC w 0, 160, .inl (fun _ => 0))), (q57, .inl (wdC w 0, 1200, .inl (fun _ => 0))), (q65, .inl (wdC w 0, 24, .inl (fun _ => 0))), (q73, .inl (wdC w 0, 32, .inl (fun _ => 0))), (q80, .inl (wdC w 0, 4, .inl (fun _ => 0))), (q87, .inl (wdC w 0, 4, .inl (upd (upd (upd (upd (fun _ => 0) 0 (-1)) 1 (-1)) 2 (-1)) 3 (-1)))), (q110, .inl (wdC w 0, 4, .inl (fun _ => 0))), (q119, .inl (wdC w 0, 160, .inl (fun _ => 0))), (q127, .inl (wdC w 0, 50, .inl (upd (upd (upd (upd (upd (upd (upd (upd (upd (upd (upd (upd (upd (upd (upd (upd (upd (upd (upd (upd (upd (upd (upd (upd (upd (upd (fun _ => 0) 0 116) 1 97) 2 108) 3 108) 4 32) 5 104) 6 101) 7 105) 8 103) 9 104) 10 116) 11 32) 12 59) 13 32) 14 98) 15 101) 16 97) 17 114) 18 115) 19 32) 20 115) 21 116) 22 114) 23 111) 24 110) 25 103)))]) : lc_W w (rm_c 10 25 2358) Af jX7_init Z 25 2358 230 [some (vr (some a)), none] [vi 114, vi 17, vr (some q127), vr (some q127), vr (some a)] 14 1686 [(a, .inr (6, [.int 0, .ref q7, .ref q15, .ref q23, .ref q31, .ref q39, .int 0, .int 0, .ref q48, .int 0, .ref q57, .ref q65, .int 0, .int 0, .int 0, .ref q73, .ref q80, .ref q87, .ref q110, .ref q119, .null, .int 0, .int 0, .int 0, .int 0, .null, .null, .int 0, .int 0, .int 0, .null, .null, .null, .null, .null, .null, .int 0, .int 0, .int 0, .null, .null, .null])), (q7, .inl (wdC w 0, 8, .inl (fun _ => 0))), (q15, .inl (wdC w 0, 8, .inl (fun _ => 0))), (q23, .inl (wdC w 0, 16, .inl (fun _ => 0))), (q31, .inl (wdC w 0, 8, .inl (fun _ => 0))), (q39, .inl (wdC w 0, 8, .inl (fun _ => 0))), (q48, .inl (wdC w 0, 160, .inl (fun _ => 0))), (q57, .inl (wdC w 0, 1200, .inl (fun _ => 0))), (q65, .inl (wdC w 0, 24, .inl (fun _ => 0))), (q73, .inl (wdC w 0, 32, .inl (fun _ => 0))), (q80, .inl (wdC w 0, 4, .inl (fun _ => 0))), (q87, .inl (wdC w 0, 4, .inl (upd (upd (upd (upd (fun _ => 0) 0 (-1)) 1 (-1)) 2 (-1)) 3 (-1)))), (q110, .inl (wdC w 0, 4, .inl (fun _ => 0))), (q119, .inl (wdC w 0, 160, .inl (fun _ => 0))), (q127, .inl (wdC w 0, 50, .inl (upd (upd (upd (upd (upd (upd (upd (upd (upd (upd (upd (upd (upd (upd (upd (upd (upd (fun _ => 0) 0 116) 1 97) 2 108) 3 108) 4 32) 5 104) 6 101) 7 105) 8 103) 9 104) 10 116) 11 32) 12 59) 13 32) 14 98) 15 101) 16 97)))] := by
  refine lc_iast (q0 := 14) (k := 17) (v := 114) a_X7_init_230 rfl (Nat.le_of_ble_eq_true rfl) (by decide) rfl ?_
  refine lc_dup a_X7_init_231 ?_
  refine lc_ic a_X7_init_232 ?_
  refine lc_ic a_X7_init_234 ?_
  refine lc_iast (q0 := 14) (k := 18) (v := 115) a_X7_init_236 rfl (Nat.le_of_ble_eq_true rfl) (by decide) rfl ?_
  refine lc_dup a_X7_init_237 ?_
  refine lc_ic a_X7_init_238 ?_
  refine lc_ic a_X7_init_240 ?_
  refine lc_iast (q0 := 14) (k := 19) (v := 32) a_X7_init_242 rfl (Nat.le_of_ble_eq_true rfl) (by decide) rfl ?_
  refine lc_dup a_X7_init_243 ?_
  refine lc_ic a_X7_init_244 ?_
  refine lc_ic a_X7_init_246 ?_
  refine lc_iast (q0 := 14) (k := 20) (v := 115) a_X7_init_248 rfl (Nat.le_of_ble_eq_true rfl) (by decide) rfl ?_
  refine lc_dup a_X7_init_249 ?_
  refine lc_ic a_X7_init_250 ?_
  refine lc_ic a_X7_init_252 ?_
  refine lc_iast (q0 := 14) (k := 21) (v := 116) a_X7_init_254 rfl (Nat.le_of_ble_eq_true rfl) (by decide) rfl ?_
  refine lc_dup a_X7_init_255 ?_
  refine lc_ic a_X7_init_256 ?_
  refine lc_ic a_X7_init_258 ?_
  refine lc_iast (q0 := 14) (k := 22) (v := 114) a_X7_init_260 rfl (Nat.le_of_ble_eq_true rfl) (by decide) rfl ?_
  refine lc_dup a_X7_init_261 ?_
  refine lc_ic a_X7_init_262 ?_
  refine lc_ic a_X7_init_264 ?_
  refine lc_iast (q0 := 14) (k := 23) (v := 111) a_X7_init_266 rfl (Nat.le_of_ble_eq_true rfl) (by decide) rfl ?_
  refine lc_dup a_X7_init_267 ?_
  refine lc_ic a_X7_init_268 ?_
  refine lc_ic a_X7_init_270 ?_
  refine lc_iast (q0 := 14) (k := 24) (v := 110) a_X7_init_272 rfl (Nat.le_of_ble_eq_true rfl) (by decide) rfl ?_
  refine lc_dup a_X7_init_273 ?_
  refine lc_ic a_X7_init_274 ?_
  refine lc_ic a_X7_init_276 ?_
  refine lc_iast (q0 := 14) (k := 25) (v := 103) a_X7_init_278 rfl (Nat.le_of_ble_eq_true rfl) (by decide) rfl ?_
  refine lc_dup a_X7_init_279 ?_
  refine lc_ic a_X7_init_280 ?_
  refine lc_ic a_X7_init_282 ?_
  exact nx
theorem lp_X7_i6 {w : Wd} {Af : Nat → Prop} {Z : Array Value → State → Outcome → State → Prop} {a q7 q15 q23 q31 q39 q48 q57 q65 q73 q80 q87 q110 q119 q127 : Nat} (nx : lc_W w (rm_c 10 25 2358) Af jX7_init Z 25 2358 338 [some (vr (some a)), none] [vi 56, vi 35, vr (some q127), vr (some q127), vr (some a)] 14 1686 [(a, .inr (6, [.int 0, .ref q7, .ref q15, .ref q23, .ref q31, .ref q39, .int 0, .int 0, .ref q48, .int 0, .ref q57, .ref q65, .int 0, .int 0, .int 0, .ref q73, .ref q80, .ref q87, .ref q110, .ref q119, .null, .int 0, .int 0, .int 0, .int 0, .null, .null, .int 0, .int 0, .int 0, .null, .null, .null, .null, .null, .null, .int 0, .int 0, .int 0, .null, .null, .null])), (q7, .inl (wdC w 0, 8, .inl (fun _ => 0))), (q15, .inl (wdC w 0, 8, .inl (fun _ => 0))), (q23, .inl (wdC w 0, 16, .inl (fun _ => 0))), (q31, .inl (wdC w 0, 8, .inl (fun _ => 0))), (q39, .inl (wdC w 0, 8, .inl (fun _ => 0))), (q48, .inl (wdC w 0, 160, .inl (fun _ => 0))), (q57, .inl (wdC w 0, 1200, .inl (fun _ => 0))), (q65, .inl (wdC w 0, 24, .inl (fun _ => 0))), (q73, .inl (wdC w 0, 32, .inl (fun _ => 0))), (q80, .inl (wdC w 0, 4, .inl (fun _ => 0))), (q87, .inl (wdC w 0, 4, .inl (upd (upd (upd (upd (fun _ => 0) 0 (-1)) 1 (-1)) 2 (-1)) 3 (-1)))), (q110, .inl (wdC w 0, 4, .inl (fun _ => 0))), (q119, .inl (wdC w 0, 160, .inl (fun _ => 0))), (q127, .inl (wdC w 0, 50, .inl (upd (upd (upd (upd (upd (upd (upd (upd (upd (upd (upd (upd (upd (upd (upd (upd (upd (upd (upd (upd (upd (upd (upd (upd (upd (upd (upd (upd (upd (upd (upd (upd (upd (upd (upd (fun _ => 0) 0 116) 1 97) 2 108) 3 108) 4 32) 5 104) 6 101) 7 105) 8 103) 9 104) 10 116) 11 32) 12 59) 13 32) 14 98) 15 101) 16 97) 17 114) 18 115) 19 32) 20 115) 21 116) 22 114) 23 111) 24 110) 25 103) 26 32) 27 59) 28 32) 29 99) 30 111) 31 109) 32 101) 33 115) 34 32)))]) : lc_W w (rm_c 10 25 2358) Af jX7_init Z 25 2358 284 [some (vr (some a)), none] [vi 32, vi 26, vr (some q127), vr (some q127), vr (some a)] 14 1686 [(a, .inr (6, [.int 0, .ref q7, .ref q15, .ref q23, .ref q31, .ref q39, .int 0, .int 0, .ref q48, .int 0, .ref q57, .ref q65, .int 0, .int 0, .int 0, .ref q73, .ref q80, .ref q87, .ref q110, .ref q119, .null, .int 0, .int 0, .int 0, .int 0, .null, .null, .int 0, .int 0, .int 0, .null, .null, .null, .null, .null, .null, .int 0, .int 0, .int 0, .null, .null, .null])), (q7, .inl (wdC w 0, 8, .inl (fun _ => 0))), (q15, .inl (wdC w 0, 8, .inl (fun _ => 0))), (q23, .inl (wdC w 0, 16, .inl (fun _ => 0))), (q31, .inl (wdC w 0, 8, .inl (fun _ => 0))), (q39, .inl (wdC w 0, 8, .inl (fun _ => 0))), (q48, .inl (wdC w 0, 160, .inl (fun _ => 0))), (q57, .inl (wdC w 0, 1200, .inl (fun _ => 0))), (q65, .inl (wdC w 0, 24, .inl (fun _ => 0))), (q73, .inl (wdC w 0, 32, .inl (fun _ => 0))), (q80, .inl (wdC w 0, 4, .inl (fun _ => 0))), (q87, .inl (wdC w 0, 4, .inl (upd (upd (upd (upd (fun _ => 0) 0 (-1)) 1 (-1)) 2 (-1)) 3 (-1)))), (q110, .inl (wdC w 0, 4, .inl (fun _ => 0))), (q119, .inl (wdC w 0, 160, .inl (fun _ => 0))), (q127, .inl (wdC w 0, 50, .inl (upd (upd (upd (upd (upd (upd (upd (upd (upd (upd (upd (upd (upd (upd (upd (upd (upd (upd (upd (upd (upd (upd (upd (upd (upd (upd (fun _ => 0) 0 116) 1 97) 2 108) 3 108) 4 32) 5 104) 6 101) 7 105) 8 103) 9 104) 10 116) 11 32) 12 59) 13 32) 14 98) 15 101) 16 97) 17 114) 18 115) 19 32) 20 115) 21 116) 22 114) 23 111) 24 110) 25 103)))] := by
  refine lc_iast (q0 := 14) (k := 26) (v := 32) a_X7_init_284 rfl (Nat.le_of_ble_eq_true rfl) (by decide) rfl ?_
  refine lc_dup a_X7_init_285 ?_
  refine lc_ic a_X7_init_286 ?_
  refine lc_ic a_X7_init_288 ?_
  refine lc_iast (q0 := 14) (k := 27) (v := 59) a_X7_init_290 rfl (Nat.le_of_ble_eq_true rfl) (by decide) rfl ?_
  refine lc_dup a_X7_init_291 ?_
  refine lc_ic a_X7_init_292 ?_
  refine lc_ic a_X7_init_294 ?_
  refine lc_iast (q0 := 14) (k := 28) (v := 32) a_X7_init_296 rfl (Nat.le_of_ble_eq_true rfl) (by decide) rfl ?_
  refine lc_dup a_X7_init_297 ?_
  refine lc_ic a_X7_init_298 ?_
  refine lc_ic a_X7_init_300 ?_
  refine lc_iast (q0 := 14) (k := 29) (v := 99) a_X7_init_302 rfl (Nat.le_of_ble_eq_true rfl) (by decide) rfl ?_
  refine lc_dup a_X7_init_303 ?_
  refine lc_ic a_X7_init_304 ?_
  refine lc_ic a_X7_init_306 ?_
  refine lc_iast (q0 := 14) (k := 30) (v := 111) a_X7_init_308 rfl (Nat.le_of_ble_eq_true rfl) (by decide) rfl ?_
  refine lc_dup a_X7_init_309 ?_
  refine lc_ic a_X7_init_310 ?_
  refine lc_ic a_X7_init_312 ?_
  refine lc_iast (q0 := 14) (k := 31) (v := 109) a_X7_init_314 rfl (Nat.le_of_ble_eq_true rfl) (by decide) rfl ?_
  refine lc_dup a_X7_init_315 ?_
  refine lc_ic a_X7_init_316 ?_
  refine lc_ic a_X7_init_318 ?_
  refine lc_iast (q0 := 14) (k := 32) (v := 101) a_X7_init_320 rfl (Nat.le_of_ble_eq_true rfl) (by decide) rfl ?_
  refine lc_dup a_X7_init_321 ?_
  refine lc_ic a_X7_init_322 ?_
  refine lc_ic a_X7_init_324 ?_
  refine lc_iast (q0 := 14) (k := 33) (v := 115) a_X7_init_326 rfl (Nat.le_of_ble_eq_true rfl) (by decide) rfl ?_
  refine lc_dup a_X7_init_327 ?_
  refine lc_ic a_X7_init_328 ?_
  refine lc_ic a_X7_init_330 ?_
  refine lc_iast (q0 := 14) (k := 34) (v := 32) a_X7_init_332 rfl (Nat.le_of_ble_eq_true rfl) (by decide) rfl ?_
  refine lc_dup a_X7_init_333 ?_
  refine lc_ic a_X7_init_334 ?_
  refine lc_ic a_X7_init_336 ?_
  exact nx
theorem lp_X7_i7 {w : Wd} {Af : Nat → Prop} {Z : Array Value → State → Outcome → State → Prop} {a q7 q15 q23 q31 q39 q48 q57 q65 q73 q80 q87 q110 q119 q127 : Nat} (nx : lc_W w (rm_c 10 25 2358) Af jX7_init Z 25 2358 392 [some (vr (some a)), none] [vi 32, vi 44, vr (some q127), vr (some q127), vr (some a)] 14 1686 [(a, .inr (6, [.int 0, .ref q7, .ref q15, .ref q23, .ref q31, .ref q39, .int 0, .int 0, .ref q48, .int 0, .ref q57, .ref q65, .int 0, .int 0, .int 0, .ref q73, .ref q80, .ref q87, .ref q110, .ref q119, .null, .int 0, .int 0, .int 0, .int 0, .null, .null, .int 0, .int 0, .int 0, .null, .null, .null, .null, .null, .null, .int 0, .int 0, .int 0, .null, .null, .null])), (q7, .inl (wdC w 0, 8, .inl (fun _ => 0))), (q15, .inl (wdC w 0, 8, .inl (fun _ => 0))), (q23, .inl (wdC w 0, 16, .inl (fun _ => 0))), (q31, .inl (wdC w 0, 8, .inl (fun _ => 0))), (q39, .inl (wdC w 0, 8, .inl (fun _ => 0))), (q48, .inl (wdC w 0, 160, .inl (fun _ => 0))), (q57, .inl (wdC w 0, 1200, .inl (fun _ => 0))), (q65, .inl (wdC w 0, 24, .inl (fun _ => 0))), (q73, .inl (wdC w 0, 32, .inl (fun _ => 0))), (q80, .inl (wdC w 0, 4, .inl (fun _ => 0))), (q87, .inl (wdC w 0, 4, .inl (upd (upd (upd (upd (fun _ => 0) 0 (-1)) 1 (-1)) 2 (-1)) 3 (-1)))), (q110, .inl (wdC w 0, 4, .inl (fun _ => 0))), (q119, .inl (wdC w 0, 160, .inl (fun _ => 0))), (q127, .inl (wdC w 0, 50, .inl (upd (upd (upd (upd (upd (upd (upd (upd (upd (upd (upd (upd (upd (upd (upd (upd (upd (upd (upd (upd (upd (upd (upd (upd (upd (upd (upd (upd (upd (upd (upd (upd (upd (upd (upd (upd (upd (upd (upd (upd (upd (upd (upd (upd (fun _ => 0) 0 116) 1 97) 2 108) 3 108) 4 32) 5 104) 6 101) 7 105) 8 103) 9 104) 10 116) 11 32) 12 59) 13 32) 14 98) 15 101) 16 97) 17 114) 18 115) 19 32) 20 115) 21 116) 22 114) 23 111) 24 110) 25 103) 26 32) 27 59) 28 32) 29 99) 30 111) 31 109) 32 101) 33 115) 34 32) 35 56) 36 48) 37 32) 38 45) 39 32) 40 114) 41 117) 42 115) 43 116)))]) : lc_W w (rm_c 10 25 2358) Af jX7_init Z 25 2358 338 [some (vr (some a)), none] [vi 56, vi 35, vr (some q127), vr (some q127), vr (some a)] 14 1686 [(a, .inr (6, [.int 0, .ref q7, .ref q15, .ref q23, .ref q31, .ref q39, .int 0, .int 0, .ref q48, .int 0, .ref q57, .ref q65, .int 0, .int 0, .int 0, .ref q73, .ref q80, .ref q87, .ref q110, .ref q119, .null, .int 0, .int 0, .int 0, .int 0, .null, .null, .int 0, .int 0, .int 0, .null, .null, .null, .null, .null, .null, .int 0, .int 0, .int 0, .null, .null, .null])), (q7, .inl (wdC w 0, 8, .inl (fun _ => 0))), (q15, .inl (wdC w 0, 8, .inl (fun _ => 0))), (q23, .inl (wdC w 0, 16, .inl (fun _ => 0))), (q31, .inl (wdC w 0, 8, .inl (fun _ => 0))), (q39, .inl (wdC w 0, 8, .inl (fun _ => 0))), (q48, .inl (wdC w 0, 160, .inl (fun _ => 0))), (q57, .inl (wdC w 0, 1200, .inl (fun _ => 0))), (q65, .inl (wdC w 0, 24, .inl (fun _ => 0))), (q73, .inl (wdC w 0, 32, .inl (fun _ => 0))), (q80, .inl (wdC w 0, 4, .inl (fun _ => 0))), (q87, .inl (wdC w 0, 4, .inl (upd (upd (upd (upd (fun _ => 0) 0 (-1)) 1 (-1)) 2 (-1)) 3 (-1)))), (q110, .inl (wdC w 0, 4, .inl (fun _ => 0))), (q119, .inl (wdC w 0, 160, .inl (fun _ => 0))), (q127, .inl (wdC w 0, 50, .inl (upd (upd (upd (upd (upd (upd (upd (upd (upd (upd (upd (upd (upd (upd (upd (upd (upd (upd (upd (upd (upd (upd (upd (upd (upd (upd (upd (upd (upd (upd (upd (upd (upd (upd (upd (fun _ => 0) 0 116) 1 97) 2 108) 3 108) 4 32) 5 104) 6 101) 7 105) 8 103) 9 104) 10 116) 11 32) 12 59) 13 32) 14 98) 15 101) 16 97) 17 114) 18 115) 19 32) 20 115) 21 116) 22 114) 23 111) 24 110) 25 103) 26 32) 27 59) 28 32) 29 99) 30 111) 31 109) 32 101) 33 115) 34 32)))] := by
  refine lc_iast (q0 := 14) (k := 35) (v := 56) a_X7_init_338 rfl (Nat.le_of_ble_eq_true rfl) (by decide) rfl ?_
  refine lc_dup a_X7_init_339 ?_
  refine lc_ic a_X7_init_340 ?_
  refine lc_ic a_X7_init_342 ?_
  refine lc_iast (q0 := 14) (k := 36) (v := 48) a_X7_init_344 rfl (Nat.le_of_ble_eq_true rfl) (by decide) rfl ?_
  refine lc_dup a_X7_init_345 ?_
  refine lc_ic a_X7_init_346 ?_
  refine lc_ic a_X7_init_348 ?_
  refine lc_iast (q0 := 14) (k := 37) (v := 32) a_X7_init_350 rfl (Nat.le_of_ble_eq_true rfl) (by decide) rfl ?_
  refine lc_dup a_X7_init_351 ?_
  refine lc_ic a_X7_init_352 ?_
  refine lc_ic a_X7_init_354 ?_
  refine lc_iast (q0 := 14) (k := 38) (v := 45) a_X7_init_356 rfl (Nat.le_of_ble_eq_true rfl) (by decide) rfl ?_
  refine lc_dup a_X7_init_357 ?_
  refine lc_ic a_X7_init_358 ?_
  refine lc_ic a_X7_init_360 ?_
  refine lc_iast (q0 := 14) (k := 39) (v := 32) a_X7_init_362 rfl (Nat.le_of_ble_eq_true rfl) (by decide) rfl ?_
  refine lc_dup a_X7_init_363 ?_
  refine lc_ic a_X7_init_364 ?_
  refine lc_ic a_X7_init_366 ?_
  refine lc_iast (q0 := 14) (k := 40) (v := 114) a_X7_init_368 rfl (Nat.le_of_ble_eq_true rfl) (by decide) rfl ?_
  refine lc_dup a_X7_init_369 ?_
  refine lc_ic a_X7_init_370 ?_
  refine lc_ic a_X7_init_372 ?_
  refine lc_iast (q0 := 14) (k := 41) (v := 117) a_X7_init_374 rfl (Nat.le_of_ble_eq_true rfl) (by decide) rfl ?_
  refine lc_dup a_X7_init_375 ?_
  refine lc_ic a_X7_init_376 ?_
  refine lc_ic a_X7_init_378 ?_
  refine lc_iast (q0 := 14) (k := 42) (v := 115) a_X7_init_380 rfl (Nat.le_of_ble_eq_true rfl) (by decide) rfl ?_
  refine lc_dup a_X7_init_381 ?_
  refine lc_ic a_X7_init_382 ?_
  refine lc_ic a_X7_init_384 ?_
  refine lc_iast (q0 := 14) (k := 43) (v := 116) a_X7_init_386 rfl (Nat.le_of_ble_eq_true rfl) (by decide) rfl ?_
  refine lc_dup a_X7_init_387 ?_
  refine lc_ic a_X7_init_388 ?_
  refine lc_ic a_X7_init_390 ?_
  exact nx
theorem lp_X7_i8 {w : Wd} {Af : Nat → Prop} {Z : Array Value → State → Outcome → State → Prop} {a q7 q15 q23 q31 q39 q48 q57 q65 q73 q80 q87 q110 q119 q127 : Nat} (nx : ∀ q429, lc_W w (rm_c 10 25 2358) Af jX7_init Z 25 2358 445 [some (vr (some a)), none] [vi 108, vi 2, vr (some q429), vr (some q429), vr (some a)] 15 1782 [(a, .inr (6, [.int 0, .ref q7, .ref q15, .ref q23, .ref q31, .ref q39, .int 0, .int 0, .ref q48, .int 0, .ref q57, .ref q65, .int 0, .int 0, .int 0, .ref q73, .ref q80, .ref q87, .ref q110, .ref q119, .ref q127, .int 0, .int 0, .int 0, .int 0, .null, .null, .int 0, .int 0, .int 0, .null, .null, .null, .null, .null, .null, .int 0, .int 0, .int 0, .null, .null, .null])), (q7, .inl (wdC w 0, 8, .inl (fun _ => 0))), (q15, .inl (wdC w 0, 8, .inl (fun _ => 0))), (q23, .inl (wdC w 0, 16, .inl (fun _ => 0))), (q31, .inl (wdC w 0, 8, .inl (fun _ => 0))), (q39, .inl (wdC w 0, 8, .inl (fun _ => 0))), (q48, .inl (wdC w 0, 160, .inl (fun _ => 0))), (q57, .inl (wdC w 0, 1200, .inl (fun _ => 0))), (q65, .inl (wdC w 0, 24, .inl (fun _ => 0))), (q73, .inl (wdC w 0, 32, .inl (fun _ => 0))), (q80, .inl (wdC w 0, 4, .inl (fun _ => 0))), (q87, .inl (wdC w 0, 4, .inl (upd (upd (upd (upd (fun _ => 0) 0 (-1)) 1 (-1)) 2 (-1)) 3 (-1)))), (q110, .inl (wdC w 0, 4, .inl (fun _ => 0))), (q119, .inl (wdC w 0, 160, .inl (fun _ => 0))), (q127, .inl (wdC w 0, 50, .inl (upd (upd (upd (upd (upd (upd (upd (upd (upd (upd (upd (upd (upd (upd (upd (upd (upd (upd (upd (upd (upd (upd (upd (upd (upd (upd (upd (upd (upd (upd (upd (upd (upd (upd (upd (upd (upd (upd (upd (upd (upd (upd (upd (upd (upd (upd (upd (upd (upd (upd (fun _ => 0) 0 116) 1 97) 2 108) 3 108) 4 32) 5 104) 6 101) 7 105) 8 103) 9 104) 10 116) 11 32) 12 59) 13 32) 14 98) 15 101) 16 97) 17 114) 18 115) 19 32) 20 115) 21 116) 22 114) 23 111) 24 110) 25 103) 26 32) 27 59) 28 32) 29 99) 30 111) 31 109) 32 101) 33 115) 34 32) 35 56) 36 48) 37 32) 38 45) 39 32) 40 114) 41 117) 42 115) 43 116) 44 32) 45 42) 46 32) 47 53) 48 32) 49 59))), (q429, .inl (wdC w 0, 96, .inl (upd (upd (fun _ => 0) 0 116) 1 97)))]) : lc_W w (rm_c 10 25 2358) Af jX7_init Z 25 2358 392 [some (vr (some a)), none] [vi 32, vi 44, vr (some q127), vr (some q127), vr (some a)] 14 1686 [(a, .inr (6, [.int 0, .ref q7, .ref q15, .ref q23, .ref q31, .ref q39, .int 0, .int 0, .ref q48, .int 0, .ref q57, .ref q65, .int 0, .int 0, .int 0, .ref q73, .ref q80, .ref q87, .ref q110, .ref q119, .null, .int 0, .int 0, .int 0, .int 0, .null, .null, .int 0, .int 0, .int 0, .null, .null, .null, .null, .null, .null, .int 0, .int 0, .int 0, .null, .null, .null])), (q7, .inl (wdC w 0, 8, .inl (fun _ => 0))), (q15, .inl (wdC w 0, 8, .inl (fun _ => 0))), (q23, .inl (wdC w 0, 16, .inl (fun _ => 0))), (q31, .inl (wdC w 0, 8, .inl (fun _ => 0))), (q39, .inl (wdC w 0, 8, .inl (fun _ => 0))), (q48, .inl (wdC w 0, 160, .inl (fun _ => 0))), (q57, .inl (wdC w 0, 1200, .inl (fun _ => 0))), (q65, .inl (wdC w 0, 24, .inl (fun _ => 0))), (q73, .inl (wdC w 0, 32, .inl (fun _ => 0))), (q80, .inl (wdC w 0, 4, .inl (fun _ => 0))), (q87, .inl (wdC w 0, 4, .inl (upd (upd (upd (upd (fun _ => 0) 0 (-1)) 1 (-1)) 2 (-1)) 3 (-1)))), (q110, .inl (wdC w 0, 4, .inl (fun _ => 0))), (q119, .inl (wdC w 0, 160, .inl (fun _ => 0))), (q127, .inl (wdC w 0, 50, .inl (upd (upd (upd (upd (upd (upd (upd (upd (upd (upd (upd (upd (upd (upd (upd (upd (upd (upd (upd (upd (upd (upd (upd (upd (upd (upd (upd (upd (upd (upd (upd (upd (upd (upd (upd (upd (upd (upd (upd (upd (upd (upd (upd (upd (fun _ => 0) 0 116) 1 97) 2 108) 3 108) 4 32) 5 104) 6 101) 7 105) 8 103) 9 104) 10 116) 11 32) 12 59) 13 32) 14 98) 15 101) 16 97) 17 114) 18 115) 19 32) 20 115) 21 116) 22 114) 23 111) 24 110) 25 103) 26 32) 27 59) 28 32) 29 99) 30 111) 31 109) 32 101) 33 115) 34 32) 35 56) 36 48) 37 32) 38 45) 39 32) 40 114) 41 117) 42 115) 43 116)))] := by
  refine lc_iast (q0 := 14) (k := 44) (v := 32) a_X7_init_392 rfl (Nat.le_of_ble_eq_true rfl) (by decide) rfl ?_
  refine lc_dup a_X7_init_393 ?_
  refine lc_ic a_X7_init_394 ?_
  refine lc_ic a_X7_init_396 ?_
  refine lc_iast (q0 := 14) (k := 45) (v := 42) a_X7_init_398 rfl (Nat.le_of_ble_eq_true rfl) (by decide) rfl ?_
  refine lc_dup a_X7_init_399 ?_
  refine lc_ic a_X7_init_400 ?_
  refine lc_ic a_X7_init_402 ?_
  refine lc_iast (q0 := 14) (k := 46) (v := 32) a_X7_init_404 rfl (Nat.le_of_ble_eq_true rfl) (by decide) rfl ?_
  refine lc_dup a_X7_init_405 ?_
  refine lc_ic a_X7_init_406 ?_
  refine lc_ic a_X7_init_408 ?_
  refine lc_iast (q0 := 14) (k := 47) (v := 53) a_X7_init_410 rfl (Nat.le_of_ble_eq_true rfl) (by decide) rfl ?_
  refine lc_dup a_X7_init_411 ?_
  refine lc_ic a_X7_init_412 ?_
  refine lc_ic a_X7_init_414 ?_
  refine lc_iast (q0 := 14) (k := 48) (v := 32) a_X7_init_416 rfl (Nat.le_of_ble_eq_true rfl) (by decide) rfl ?_
  refine lc_dup a_X7_init_417 ?_
  refine lc_ic a_X7_init_418 ?_
  refine lc_ic a_X7_init_420 ?_
  refine lc_iast (q0 := 14) (k := 49) (v := 59) a_X7_init_422 rfl (Nat.le_of_ble_eq_true rfl) (by decide) rfl ?_
  refine lc_putF (q0 := 0) (ci := 6) (k := 20) (ty := (.array .int)) a_X7_init_423 rfl rfl rfl (by decide) (Nat.le_of_ble_eq_true rfl) rfl (by decide +kernel) rfl (aw_in (by decide +kernel) rfl) rfl rfl rfl ?_
  refine lc_ald a_X7_init_426 rfl ?_
  refine lc_ic a_X7_init_427 ?_
  refine lc_newa (N := 96) a_X7_init_429 (aw_in (by decide +kernel) rfl) (by decide) (by decide) (by decide) (fun q429 => ?_)
  refine lc_dup a_X7_init_431 ?_
  refine lc_ic a_X7_init_432 ?_
  refine lc_ic a_X7_init_433 ?_
  refine lc_iast (q0 := 15) (k := 0) (v := 116) a_X7_init_435 rfl (Nat.le_of_ble_eq_true rfl) (by decide) rfl ?_
  refine lc_dup a_X7_init_436 ?_
  refine lc_ic a_X7_init_437 ?_
  refine lc_ic a_X7_init_438 ?_
  refine lc_iast (q0 := 15) (k := 1) (v := 97) a_X7_init_440 rfl (Nat.le_of_ble_eq_true rfl) (by decide) rfl ?_
  refine lc_dup a_X7_init_441 ?_
  refine lc_ic a_X7_init_442 ?_
  refine lc_ic a_X7_init_443 ?_
  exact nx q429
theorem lp_X7_i9 {w : Wd} {Af : Nat → Prop} {Z : Array Value → State → Outcome → State → Prop} {a q7 q15 q23 q31 q39 q48 q57 q65 q73 q80 q87 q110 q119 q127 q429 : Nat} (nx : lc_W w (rm_c 10 25 2358) Af jX7_init Z 25 2358 496 [some (vr (some a)), none] [vi 114, vi 11, vr (some q429), vr (some q429), vr (some a)] 15 1782 [(a, .inr (6, [.int 0, .ref q7, .ref q15, .ref q23, .ref q31, .ref q39, .int 0, .int 0, .ref q48, .int 0, .ref q57, .ref q65, .int 0, .int 0, .int 0, .ref q73, .ref q80, .ref q87, .ref q110, .ref q119, .ref q127, .int 0, .int 0, .int 0, .int 0, .null, .null, .int 0, .int 0, .int 0, .null, .null, .null, .null, .null, .null, .int 0, .int 0, .int 0, .null, .null, .null])), (q7, .inl (wdC w 0, 8, .inl (fun _ => 0))), (q15, .inl (wdC w 0, 8, .inl (fun _ => 0))), (q23, .inl (wdC w 0, 16, .inl (fun _ => 0))), (q31, .inl (wdC w 0, 8, .inl (fun _ => 0))), (q39, .inl (wdC w 0, 8, .inl (fun _ => 0))), (q48, .inl (wdC w 0, 160, .inl (fun _ => 0))), (q57, .inl (wdC w 0, 1200, .inl (fun _ => 0))), (q65, .inl (wdC w 0, 24, .inl (fun _ => 0))), (q73, .inl (wdC w 0, 32, .inl (fun _ => 0))), (q80, .inl (wdC w 0, 4, .inl (fun _ => 0))), (q87, .inl (wdC w 0, 4, .inl (upd (upd (upd (upd (fun _ => 0) 0 (-1)) 1 (-1)) 2 (-1)) 3 (-1)))), (q110, .inl (wdC w 0, 4, .inl (fun _ => 0))), (q119, .inl (wdC w 0, 160, .inl (fun _ => 0))), (q127, .inl (wdC w 0, 50, .inl (upd (upd (upd (upd (upd (upd (upd (upd (upd (upd (upd (upd (upd (upd (upd (upd (upd (upd (upd (upd (upd (upd (upd (upd (upd (upd (upd (upd (upd (upd (upd (upd (upd (upd (upd (upd (upd (upd (upd (upd (upd (upd (upd (upd (upd (upd (upd (upd (upd (upd (fun _ => 0) 0 116) 1 97) 2 108) 3 108) 4 32) 5 104) 6 101) 7 105) 8 103) 9 104) 10 116) 11 32) 12 59) 13 32) 14 98) 15 101) 16 97) 17 114) 18 115) 19 32) 20 115) 21 116) 22 114) 23 111) 24 110) 25 103) 26 32) 27 59) 28 32) 29 99) 30 111) 31 109) 32 101) 33 115) 34 32) 35 56) 36 48) 37 32) 38 45) 39 32) 40 114) 41 117) 42 115) 43 116) 44 32) 45 42) 46 32) 47 53) 48 32) 49 59))), (q429, .inl (wdC w 0, 96, .inl (upd (upd (upd (upd (upd (upd (upd (upd (upd (upd (upd (fun _ => 0) 0 116) 1 97) 2 108) 3 108) 4 32) 5 32) 6 32) 7 32) 8 98) 9 101) 10 97)))]) : lc_W w (rm_c 10 25 2358) Af jX7_init Z 25 2358 445 [some (vr (some a)), none] [vi 108, vi 2, vr (some q429), vr (some q429), vr (some a)] 15 1782 [(a, .inr (6, [.int 0, .ref q7, .ref q15, .ref q23, .ref q31, .ref q39, .int 0, .int 0, .ref q48, .int 0, .ref q57, .ref q65, .int 0, .int 0, .int 0, .ref q73, .ref q80, .ref q87, .ref q110, .ref q119, .ref q127, .int 0, .int 0, .int 0, .int 0, .null, .null, .int 0, .int 0, .int 0, .null, .null, .null, .null, .null, .null, .int 0, .int 0, .int 0, .null, .null, .null])), (q7, .inl (wdC w 0, 8, .inl (fun _ => 0))), (q15, .inl (wdC w 0, 8, .inl (fun _ => 0))), (q23, .inl (wdC w 0, 16, .inl (fun _ => 0))), (q31, .inl (wdC w 0, 8, .inl (fun _ => 0))), (q39, .inl (wdC w 0, 8, .inl (fun _ => 0))), (q48, .inl (wdC w 0, 160, .inl (fun _ => 0))), (q57, .inl (wdC w 0, 1200, .inl (fun _ => 0))), (q65, .inl (wdC w 0, 24, .inl (fun _ => 0))), (q73, .inl (wdC w 0, 32, .inl (fun _ => 0))), (q80, .inl (wdC w 0, 4, .inl (fun _ => 0))), (q87, .inl (wdC w 0, 4, .inl (upd (upd (upd (upd (fun _ => 0) 0 (-1)) 1 (-1)) 2 (-1)) 3 (-1)))), (q110, .inl (wdC w 0, 4, .inl (fun _ => 0))), (q119, .inl (wdC w 0, 160, .inl (fun _ => 0))), (q127, .inl (wdC w 0, 50, .inl (upd (upd (upd (upd (upd (upd (upd (upd (upd (upd (upd (upd (upd (upd (upd (upd (upd (upd (upd (upd (upd (upd (upd (upd (upd (upd (upd (upd (upd (upd (upd (upd (upd (upd (upd (upd (upd (upd (upd (upd (upd (upd (upd (upd (upd (upd (upd (upd (upd (upd (fun _ => 0) 0 116) 1 97) 2 108) 3 108) 4 32) 5 104) 6 101) 7 105) 8 103) 9 104) 10 116) 11 32) 12 59) 13 32) 14 98) 15 101) 16 97) 17 114) 18 115) 19 32) 20 115) 21 116) 22 114) 23 111) 24 110) 25 103) 26 32) 27 59) 28 32) 29 99) 30 111) 31 109) 32 101) 33 115) 34 32) 35 56) 36 48) 37 32) 38 45) 39 32) 40 114) 41 117) 42 115) 43 116) 44 32) 45 42) 46 32) 47 53) 48 32) 49 59))), (q429, .inl (wdC w 0, 96, .inl (upd (upd (fun _ => 0) 0 116) 1 97)))] := by
  refine lc_iast (q0 := 15) (k := 2) (v := 108) a_X7_init_445 rfl (Nat.le_of_ble_eq_true rfl) (by decide) rfl ?_
  refine lc_dup a_X7_init_446 ?_
  refine lc_ic a_X7_init_447 ?_
  refine lc_ic a_X7_init_448 ?_
  refine lc_iast (q0 := 15) (k := 3) (v := 108) a_X7_init_450 rfl (Nat.le_of_ble_eq_true rfl) (by decide) rfl ?_
  refine lc_dup a_X7_init_451 ?_
  refine lc_ic a_X7_init_452 ?_
  refine lc_ic a_X7_init_453 ?_
  refine lc_iast (q0 := 15) (k := 4) (v := 32) a_X7_init_455 rfl (Nat.le_of_ble_eq_true rfl) (by decide) rfl ?_
  refine lc_dup a_X7_init_456 ?_
  refine lc_ic a_X7_init_457 ?_
  refine lc_ic a_X7_init_458 ?_
  refine lc_iast (q0 := 15) (k := 5) (v := 32) a_X7_init_460 rfl (Nat.le_of_ble_eq_true rfl) (by decide) rfl ?_
  refine lc_dup a_X7_init_461 ?_
  refine lc_ic a_X7_init_462 ?_
  refine lc_ic a_X7_init_464 ?_
  refine lc_iast (q0 := 15) (k := 6) (v := 32) a_X7_init_466 rfl (Nat.le_of_ble_eq_true rfl) (by decide) rfl ?_
  refine lc_dup a_X7_init_467 ?_
  refine lc_ic a_X7_init_468 ?_
  refine lc_ic a_X7_init_470 ?_
  refine lc_iast (q0 := 15) (k := 7) (v := 32) a_X7_init_472 rfl (Nat.le_of_ble_eq_true rfl) (by decide) rfl ?_
  refine lc_dup a_X7_init_473 ?_
  refine lc_ic a_X7_init_474 ?_
  refine lc_ic a_X7_init_476 ?_
  refine lc_iast (q0 := 15) (k := 8) (v := 98) a_X7_init_478 rfl (Nat.le_of_ble_eq_true rfl) (by decide) rfl ?_
  refine lc_dup a_X7_init_479 ?_
  refine lc_ic a_X7_init_480 ?_
  refine lc_ic a_X7_init_482 ?_
  refine lc_iast (q0 := 15) (k := 9) (v := 101) a_X7_init_484 rfl (Nat.le_of_ble_eq_true rfl) (by decide) rfl ?_
  refine lc_dup a_X7_init_485 ?_
  refine lc_ic a_X7_init_486 ?_
  refine lc_ic a_X7_init_488 ?_
  refine lc_iast (q0 := 15) (k := 10) (v := 97) a_X7_init_490 rfl (Nat.le_of_ble_eq_true rfl) (by decide) rfl ?_
  refine lc_dup a_X7_init_491 ?_
  refine lc_ic a_X7_init_492 ?_
  refine lc_ic a_X7_init_494 ?_
  exact nx
theorem lp_X7_i10 {w : Wd} {Af : Nat → Prop} {Z : Array Value → State → Outcome → State → Prop} {a q7 q15 q23 q31 q39 q48 q57 q65 q73 q80 q87 q110 q119 q127 q429 : Nat} (nx : lc_W w (rm_c 10 25 2358) Af jX7_init Z 25 2358 550 [some (vr (some a)), none] [vi 115, vi 20, vr (some q429), vr (some q429), vr (some a)] 15 1782 [(a, .inr (6, [.int 0, .ref q7, .ref q15, .ref q23, .ref q31, .ref q39, .int 0, .int 0, .ref q48, .int 0, .ref q57, .ref q65, .int 0, .int 0, .int 0, .ref q73, .ref q80, .ref q87, .ref q110, .ref q119, .ref q127, .int 0, .int 0, .int 0, .int 0, .null, .null, .int 0, .int 0, .int 0, .null, .null, .null, .null, .null, .null, .int 0, .int 0, .int 0, .null, .null, .null])), (q7, .inl (wdC w 0, 8, .inl (fun _ => 0))), (q15, .inl (wdC w 0, 8, .inl (fun _ => 0))), (q23, .inl (wdC w 0, 16, .inl (fun _ => 0))), (q31, .inl (wdC w 0, 8, .inl (fun _ => 0))), (q39, .inl (wdC w 0, 8, .inl (fun _ => 0))), (q48, .inl (wdC w 0, 160, .inl (fun _ => 0))), (q57, .inl (wdC w 0, 1200, .inl (fun _ => 0))), (q65, .inl (wdC w 0, 24, .inl (fun _ => 0))), (q73, .inl (wdC w 0, 32, .inl (fun _ => 0))), (q80, .inl (wdC w 0, 4, .inl (fun _ => 0))), (q87, .inl (wdC w 0, 4, .inl (upd (upd (upd (upd (fun _ => 0) 0 (-1)) 1 (-1)) 2 (-1)) 3 (-1)))), (q110, .inl (wdC w 0, 4, .inl (fun _ => 0))), (q119, .inl (wdC w 0, 160, .inl (fun _ => 0))), (q127, .inl (wdC w 0, 50, .inl (upd (upd (upd (upd (upd (upd (upd (upd (upd (upd (upd (upd (upd (upd (upd (upd (upd (upd (upd (upd (upd (upd (upd (upd (upd (upd (upd (upd (upd (upd (upd (upd (upd (upd (upd (upd (upd (upd (upd (upd (upd (upd (upd (upd (upd (upd (upd (upd (upd (upd (fun _ => 0) 0 116) 1 97) 2 108) 3 108) 4 32) 5 104) 6 101) 7 105) 8 103) 9 104) 10 116) 11 32) 12 59) 13 32) 14 98) 15 101) 16 97) 17 114) 18 115) 19 32) 20 115) 21 116) 22 114) 23 111) 24 110) 25 103) 26 32) 27 59) 28 32) 29 99) 30 111) 31 109) 32 101) 33 115) 34 32) 35 56) 36 48) 37 32) 38 45) 39 32) 40 114) 41 117) 42 115) 43 116) 44 32) 45 42) 46 32) 47 53) 48 32) 49 59))), (q429, .inl (wdC w 0, 96, .inl (upd (upd (upd (upd (upd (upd (upd (upd (upd (upd (upd (upd (upd (upd (upd (upd (upd (upd (upd (upd (fun _ => 0) 0 116) 1 97) 2 108) 3 108) 4 32) 5 32) 6 32) 7 32) 8 98) 9 101) 10 97) 11 114) 12 115) 13 32) 14 32) 15 32) 16 99) 17 111) 18 109) 19 101)))]) : lc_W w (rm_c 10 25 2358) Af jX7_init Z 25 2358 496 [some (vr (some a)), none] [vi 114, vi 11, vr (some q429), vr (some q429), vr (some a)] 15 1782 [(a, .inr (6, [.int 0, .ref q7, .ref q15, .ref q23, .ref q31, .ref q39, .int 0, .int 0, .ref q48, .int 0, .ref q57, .ref q65, .int 0, .int 0, .int 0, .ref q73, .ref q80, .ref q87, .ref q110, .ref q119, .ref q127, .int 0, .int 0, .int 0, .int 0, .null, .null, .int 0, .int 0, .int 0, .null, .null, .null, .null, .null, .null, .int 0, .int 0, .int 0, .null, .null, .null])), (q7, .inl (wdC w 0, 8, .inl (fun _ => 0))), (q15, .inl (wdC w 0, 8, .inl (fun _ => 0))), (q23, .inl (wdC w 0, 16, .inl (fun _ => 0))), (q31, .inl (wdC w 0, 8, .inl (fun _ => 0))), (q39, .inl (wdC w 0, 8, .inl (fun _ => 0))), (q48, .inl (wdC w 0, 160, .inl (fun _ => 0))), (q57, .inl (wdC w 0, 1200, .inl (fun _ => 0))), (q65, .inl (wdC w 0, 24, .inl (fun _ => 0))), (q73, .inl (wdC w 0, 32, .inl (fun _ => 0))), (q80, .inl (wdC w 0, 4, .inl (fun _ => 0))), (q87, .inl (wdC w 0, 4, .inl (upd (upd (upd (upd (fun _ => 0) 0 (-1)) 1 (-1)) 2 (-1)) 3 (-1)))), (q110, .inl (wdC w 0, 4, .inl (fun _ => 0))), (q119, .inl (wdC w 0, 160, .inl (fun _ => 0))), (q127, .inl (wdC w 0, 50, .inl (upd (upd (upd (upd (upd (upd (upd (upd (upd (upd (upd (upd (upd (upd (upd (upd (upd (upd (upd (upd (upd (upd (upd (upd (upd (upd (upd (upd (upd (upd (upd (upd (upd (upd (upd (upd (upd (upd (upd (upd (upd (upd (upd (upd (upd (upd (upd (upd (upd (upd (fun _ => 0) 0 116) 1 97) 2 108) 3 108) 4 32) 5 104) 6 101) 7 105) 8 103) 9 104) 10 116) 11 32) 12 59) 13 32) 14 98) 15 101) 16 97) 17 114) 18 115) 19 32) 20 115) 21 116) 22 114) 23 111) 24 110) 25 103) 26 32) 27 59) 28 32) 29 99) 30 111) 31 109) 32 101) 33 115) 34 32) 35 56) 36 48) 37 32) 38 45) 39 32) 40 114) 41 117) 42 115) 43 116) 44 32) 45 42) 46 32) 47 53) 48 32) 49 59))), (q429, .inl (wdC w 0, 96, .inl (upd (upd (upd (upd (upd (upd (upd (upd (upd (upd (upd (fun _ => 0) 0 116) 1 97) 2 108) 3 108) 4 32) 5 32) 6 32) 7 32) 8 98) 9 101) 10 97)))] := by
  refine lc_iast (q0 := 15) (k := 11) (v := 114) a_X7_init_496 rfl (Nat.le_of_ble_eq_true rfl) (by decide) rfl ?_
  refine lc_dup a_X7_init_497 ?_
  refine lc_ic a_X7_init_498 ?_
  refine lc_ic a_X7_init_500 ?_
  refine lc_iast (q0 := 15) (k := 12) (v := 115) a_X7_init_502 rfl (Nat.le_of_ble_eq_true rfl) (by decide) rfl ?_
  refine lc_dup a_X7_init_503 ?_
  refine lc_ic a_X7_init_504 ?_
  refine lc_ic a_X7_init_506 ?_
  refine lc_iast (q0 := 15) (k := 13) (v := 32) a_X7_init_508 rfl (Nat.le_of_ble_eq_true rfl) (by decide) rfl ?_
  refine lc_dup a_X7_init_509 ?_
  refine lc_ic a_X7_init_510 ?_
  refine lc_ic a_X7_init_512 ?_
  refine lc_iast (q0 := 15) (k := 14) (v := 32) a_X7_init_514 rfl (Nat.le_of_ble_eq_true rfl) (by decide) rfl ?_
  refine lc_dup a_X7_init_515 ?_
  refine lc_ic a_X7_init_516 ?_
  refine lc_ic a_X7_init_518 ?_
  refine lc_iast (q0 := 15) (k := 15) (v := 32) a_X7_init_520 rfl (Nat.le_of_ble_eq_true rfl) (by decide) rfl ?_
  refine lc_dup a_X7_init_521 ?_
  refine lc_ic a_X7_init_522 ?_
  refine lc_ic a_X7_init_524 ?_
  refine lc_iast (q0 := 15) (k := 16) (v := 99) a_X7_init_526 rfl (Nat.le_of_ble_eq_true rfl) (by decide) rfl ?_
  refine lc_dup a_X7_init_527 ?_
  refine lc_ic a_X7_init_528 ?_
  refine lc_ic a_X7_init_530 ?_
  refine lc_iast (q0 := 15) (k := 17) (v := 111) a_X7_init_532 rfl (Nat.le_of_ble_eq_true rfl) (by decide) rfl ?_
  refine lc_dup a_X7_init_533 ?_
  refine lc_ic a_X7_init_534 ?_
  refine lc_ic a_X7_init_536 ?_
  refine lc_iast (q0 := 15) (k := 18) (v := 109) a_X7_init_538 rfl (Nat.le_of_ble_eq_true rfl) (by decide) rfl ?_
  refine lc_dup a_X7_init_539 ?_
  refine lc_ic a_X7_init_540 ?_
  refine lc_ic a_X7_init_542 ?_
  refine lc_iast (q0 := 15) (k := 19) (v := 101) a_X7_init_544 rfl (Nat.le_of_ble_eq_true rfl) (by decide) rfl ?_
  refine lc_dup a_X7_init_545 ?_
  refine lc_ic a_X7_init_546 ?_
  refine lc_ic a_X7_init_548 ?_
  exact nx
theorem lp_X7_i11 {w : Wd} {Af : Nat → Prop} {Z : Array Value → State → Outcome → State → Prop} {a q7 q15 q23 q31 q39 q48 q57 q65 q73 q80 q87 q110 q119 q127 q429 : Nat} (nx : lc_W w (rm_c 10 25 2358) Af jX7_init Z 25 2358 604 [some (vr (some a)), none] [vi 116, vi 29, vr (some q429), vr (some q429), vr (some a)] 15 1782 [(a, .inr (6, [.int 0, .ref q7, .ref q15, .ref q23, .ref q31, .ref q39, .int 0, .int 0, .ref q48, .int 0, .ref q57, .ref q65, .int 0, .int 0, .int 0, .ref q73, .ref q80, .ref q87, .ref q110, .ref q119, .ref q127, .int 0, .int 0, .int 0, .int 0, .null, .null, .int 0, .int 0, .int 0, .null, .null, .null, .null, .null, .null, .int 0, .int 0, .int 0, .null, .null, .null])), (q7, .inl (wdC w 0, 8, .inl (fun _ => 0))), (q15, .inl (wdC w 0, 8, .inl (fun _ => 0))), (q23, .inl (wdC w 0, 16, .inl (fun _ => 0))), (q31, .inl (wdC w 0, 8, .inl (fun _ => 0))), (q39, .inl (wdC w 0, 8, .inl (fun _ => 0))), (q48, .inl (wdC w 0, 160, .inl (fun _ => 0))), (q57, .inl (wdC w 0, 1200, .inl (fun _ => 0))), (q65, .inl (wdC w 0, 24, .inl (fun _ => 0))), (q73, .inl (wdC w 0, 32, .inl (fun _ => 0))), (q80, .inl (wdC w 0, 4, .inl (fun _ => 0))), (q87, .inl (wdC w 0, 4, .inl (upd (upd (upd (upd (fun _ => 0) 0 (-1)) 1 (-1)) 2 (-1)) 3 (-1)))), (q110, .inl (wdC w 0, 4, .inl (fun _ => 0))), (q119, .inl (wdC w 0, 160, .inl (fun _ => 0))), (q127, .inl (wdC w 0, 50, .inl (upd (upd (upd (upd (upd (upd (upd (upd (upd (upd (upd (upd (upd (upd (upd (upd (upd (upd (upd (upd (upd (upd (upd (upd (upd (upd (upd (upd (upd (upd (upd (upd (upd (upd (upd (upd (upd (upd (upd (upd (upd (upd (upd (upd (upd (upd (upd (upd (upd (upd (fun _ => 0) 0 116) 1 97) 2 108) 3 108) 4 32) 5 104) 6 101) 7 105) 8 103) 9 104) 10 116) 11 32) 12 59) 13 32) 14 98) 15 101) 16 97) 17 114) 18 115) 19 32) 20 115) 21 116) 22 114) 23 111) 24 110) 25 103) 26 32) 27 59) 28 32) 29 99) 30 111) 31 109) 32 101) 33 115) 34 32) 35 56) 36 48) 37 32) 38 45) 39 32) 40 114) 41 117) 42 115) 43 116) 44 32) 45 42) 46 32) 47 53) 48 32) 49 59))), (q429, .inl (wdC w 0, 96, .inl (upd (upd (upd (upd (upd (upd (upd (upd (upd (upd (upd (upd (upd (upd (upd (upd (upd (upd (upd (upd (upd (upd (upd (upd (upd (upd (upd (upd (upd (fun _ => 0) 0 116) 1 97) 2 108) 3 108) 4 32) 5 32) 6 32) 7 32) 8 98) 9 101) 10 97) 11 114) 12 115) 13 32) 14 32) 15 32) 16 99) 17 111) 18 109) 19 101) 20 115) 21 32) 22 32) 23 32) 24 104) 25 101) 26 105) 27 103) 28 104)))]) : lc_W w (rm_c 10 25 2358) Af jX7_init Z 25 2358 550 [some (vr (some a)), none] [vi 115, vi 20, vr (some q429), vr (some q429), vr (some a)] 15 1782 [(a, .inr (6, [.int 0, .ref q7, .ref q15, .ref q23, .ref q31, .ref q39, .int 0, .int 0, .ref q48, .int 0, .ref q57, .ref q65, .int 0, .int 0, .int 0, .ref q73, .ref q80, .ref q87, .ref q110, .ref q119, .ref q127, .int 0, .int 0, .int 0, .int 0, .null, .null, .int 0, .int 0, .int 0, .null, .null, .null, .null, .null, .null, .int 0, .int 0, .int 0, .null, .null, .null])), (q7, .inl (wdC w 0, 8, .inl (fun _ => 0))), (q15, .inl (wdC w 0, 8, .inl (fun _ => 0))), (q23, .inl (wdC w 0, 16, .inl (fun _ => 0))), (q31, .inl (wdC w 0, 8, .inl (fun _ => 0))), (q39, .inl (wdC w 0, 8, .inl (fun _ => 0))), (q48, .inl (wdC w 0, 160, .inl (fun _ => 0))), (q57, .inl (wdC w 0, 1200, .inl (fun _ => 0))), (q65, .inl (wdC w 0, 24, .inl (fun _ => 0))), (q73, .inl (wdC w 0, 32, .inl (fun _ => 0))), (q80, .inl (wdC w 0, 4, .inl (fun _ => 0))), (q87, .inl (wdC w 0, 4, .inl (upd (upd (upd (upd (fun _ => 0) 0 (-1)) 1 (-1)) 2 (-1)) 3 (-1)))), (q110, .inl (wdC w 0, 4, .inl (fun _ => 0))), (q119, .inl (wdC w 0, 160, .inl (fun _ => 0))), (q127, .inl (wdC w 0, 50, .inl (upd (upd (upd (upd (upd (upd (upd (upd (upd (upd (upd (upd (upd (upd (upd (upd (upd (upd (upd (upd (upd (upd (upd (upd (upd (upd (upd (upd (upd (upd (upd (upd (upd (upd (upd (upd (upd (upd (upd (upd (upd (upd (upd (upd (upd (upd (upd (upd (upd (upd (fun _ => 0) 0 116) 1 97) 2 108) 3 108) 4 32) 5 104) 6 101) 7 105) 8 103) 9 104) 10 116) 11 32) 12 59) 13 32) 14 98) 15 101) 16 97) 17 114) 18 115) 19 32) 20 115) 21 116) 22 114) 23 111) 24 110) 25 103) 26 32) 27 59) 28 32) 29 99) 30 111) 31 109) 32 101) 33 115) 34 32) 35 56) 36 48) 37 32) 38 45) 39 32) 40 114) 41 117) 42 115) 43 116) 44 32) 45 42) 46 32) 47 53) 48 32) 49 59))), (q429, .inl (wdC w 0, 96, .inl (upd (upd (upd (upd (upd (upd (upd (upd (upd (upd (upd (upd (upd (upd (upd (upd (upd (upd (upd (upd (fun _ => 0) 0 116) 1 97) 2 108) 3 108) 4 32) 5 32) 6 32) 7 32) 8 98) 9 101) 10 97) 11 114) 12 115) 13 32) 14 32) 15 32) 16 99) 17 111) 18 109) 19 101)))] := by
  refine lc_iast (q0 := 15) (k := 20) (v := 115) a_X7_init_550 rfl (Nat.le_of_ble_eq_true rfl) (by decide) rfl ?_
  refine lc_dup a_X7_init_551 ?_
  refine lc_ic a_X7_init_552 ?_
  refine lc_ic a_X7_init_554 ?_
  refine lc_iast (q0 := 15) (k := 21) (v := 32) a_X7_init_556 rfl (Nat.le_of_ble_eq_true rfl) (by decide) rfl ?_
  refine lc_dup a_X7_init_557 ?_
  refine lc_ic a_X7_init_558 ?_
  refine lc_ic a_X7_init_560 ?_
  refine lc_iast (q0 := 15) (k := 22) (v := 32) a_X7_init_562 rfl (Nat.le_of_ble_eq_true rfl) (by decide) rfl ?_
  refine lc_dup a_X7_init_563 ?_
  refine lc_ic a_X7_init_564 ?_
  refine lc_ic a_X7_init_566 ?_
  refine lc_iast (q0 := 15) (k := 23) (v := 32) a_X7_init_568 rfl (Nat.le_of_ble_eq_true rfl) (by decide) rfl ?_
  refine lc_dup a_X7_init_569 ?_
  refine lc_ic a_X7_init_570 ?_
  refine lc_ic a_X7_init_572 ?_
  refine lc_iast (q0 := 15) (k := 24) (v := 104) a_X7_init_574 rfl (Nat.le_of_ble_eq_true rfl) (by decide) rfl ?_
  refine lc_dup a_X7_init_575 ?_
  refine lc_ic a_X7_init_576 ?_
  refine lc_ic a_X7_init_578 ?_
  refine lc_iast (q0 := 15) (k := 25) (v := 101) a_X7_init_580 rfl (Nat.le_of_ble_eq_true rfl) (by decide) rfl ?_
  refine lc_dup a_X7_init_581 ?_
  refine lc_ic a_X7_init_582 ?_
  refine lc_ic a_X7_init_584 ?_
  refine lc_iast (q0 := 15) (k := 26) (v := 105) a_X7_init_586 rfl (Nat.le_of_ble_eq_true rfl) (by decide) rfl ?_
  refine lc_dup a_X7_init_587 ?_
  refine lc_ic a_X7_init_588 ?_
  refine lc_ic a_X7_init_590 ?_
  refine lc_iast (q0 := 15) (k := 27) (v := 103) a_X7_init_592 rfl (Nat.le_of_ble_eq_true rfl) (by decide) rfl ?_
  refine lc_dup a_X7_init_593 ?_
  refine lc_ic a_X7_init_594 ?_
  refine lc_ic a_X7_init_596 ?_
  refine lc_iast (q0 := 15) (k := 28) (v := 104) a_X7_init_598 rfl (Nat.le_of_ble_eq_true rfl) (by decide) rfl ?_
  refine lc_dup a_X7_init_599 ?_
  refine lc_ic a_X7_init_600 ?_
  refine lc_ic a_X7_init_602 ?_
  exact nx
theorem lp_X7_i12 {w : Wd} {Af : Nat → Prop} {Z : Array Value → State → Outcome → State → Prop} {a q7 q15 q23 q31 q39 q48 q57 q65 q73 q80 q87 q110 q119 q127 q429 : Nat} (nx : lc_W w (rm_c 10 25 2358) Af jX7_init Z 25 2358 658 [some (vr (some a)), none] [vi 32, vi 38, vr (some q429), vr (some q429), vr (some a)] 15 1782 [(a, .inr (6, [.int 0, .ref q7, .ref q15, .ref q23, .ref q31, .ref q39, .int 0, .int 0, .ref q48, .int 0, .ref q57, .ref q65, .int 0, .int 0, .int 0, .ref q73, .ref q80, .ref q87, .ref q110, .ref q119, .ref q127, .int 0, .int 0, .int 0, .int 0, .null, .null, .int 0, .int 0, .int 0, .null, .null, .null, .null, .null, .null, .int 0, .int 0, .int 0, .null, .null, .null])), (q7, .inl (wdC w 0, 8, .inl (fun _ => 0))), (q15, .inl (wdC w 0, 8, .inl (fun _ => 0))), (q23, .inl (wdC w 0, 16, .inl (fun _ => 0))), (q31, .inl (wdC w 0, 8, .inl (fun _ => 0))), (q39, .inl (wdC w 0, 8, .inl (fun _ => 0))), (q48, .inl (wdC w 0, 160, .inl (fun _ => 0))), (q57, .inl (wdC w 0, 1200, .inl (fun _ => 0))), (q65, .inl (wdC w 0, 24, .inl (fun _ => 0))), (q73, .inl (wdC w 0, 32, .inl (fun _ => 0))), (q80, .inl (wdC w 0, 4, .inl (fun _ => 0))), (q87, .inl (wdC w 0, 4, .inl (upd (upd (upd (upd (fun _ => 0) 0 (-1)) 1 (-1)) 2 (-1)) 3 (-1)))), (q110, .inl (wdC w 0, 4, .inl (fun _ => 0))), (q119, .inl (wdC w 0, 160, .inl (fun _ => 0))), (q127, .inl (wdC w 0, 50, .inl (upd (upd (upd (upd (upd (upd (upd (upd (upd (upd (upd (upd (upd (upd (upd (upd (upd (upd (upd (upd (upd (upd (upd (upd (upd (upd (upd (upd (upd (upd (upd (upd (upd (upd (upd (upd (upd (upd (upd (upd (upd (upd (upd (upd (upd (upd (upd (upd (upd (upd (fun _ => 0) 0 116) 1 97) 2 108) 3 108) 4 32) 5 104) 6 101) 7 105) 8 103) 9 104) 10 116) 11 32) 12 59) 13 32) 14 98) 15 101) 16 97) 17 114) 18 115) 19 32) 20 115) 21 116) 22 114) 23 111) 24 110) 25 103) 26 32) 27 59) 28 32) 29 99) 30 111) 31 109) 32 101) 33 115) 34 32) 35 56) 36 48) 37 32) 38 45) 39 32) 40 114) 41 117) 42 115) 43 116) 44 32) 45 42) 46 32) 47 53) 48 32) 49 59))), (q429, .inl (wdC w 0, 96, .inl (upd (upd (upd (upd (upd (upd (upd (upd (upd (upd (upd (upd (upd (upd (upd (upd (upd (upd (upd (upd (upd (upd (upd (upd (upd (upd (upd (upd (upd (upd (upd (upd (upd (upd (upd (upd (upd (upd (fun _ => 0) 0 116) 1 97) 2 108) 3 108) 4 32) 5 32) 6 32) 7 32) 8 98) 9 101) 10 97) 11 114) 12 115) 13 32) 14 32) 15 32) 16 99) 17 111) 18 109) 19 101) 20 115) 21 32) 22 32) 23 32) 24 104) 25 101) 26 105) 27 103) 28 104) 29 116) 30 32) 31 32) 32 115) 33 116) 34 114) 35 111) 36 110) 37 103)))]) : lc_W w (rm_c 10 25 2358) Af jX7_init Z 25 2358 604 [some (vr (some a)), none] [vi 116, vi 29, vr (some q429), vr (some q429), vr (some a)] 15 1782 [(a, .inr (6, [.int 0, .ref q7, .ref q15, .ref q23, .ref q31, .ref q39, .int 0, .int 0, .ref q48, .int 0, .ref q57, .ref q65, .int 0, .int 0, .int 0, .ref q73, .ref q80, .ref q87, .ref q110, .ref q119, .ref q127, .int 0, .int 0, .int 0, .int 0, .null, .null, .int 0, .int 0, .int 0, .null, .null, .null, .null, .null, .null, .int 0, .int 0, .int 0, .null, .null, .null])), (q7, .inl (wdC w 0, 8, .inl (fun _ => 0))), (q15, .inl (wdC w 0, 8, .inl (fun _ => 0))), (q23, .inl (wdC w 0, 16, .inl (fun _ => 0))), (q31, .inl (wdC w 0, 8, .inl (fun _ => 0))), (q39, .inl (wdC w 0, 8, .inl (fun _ => 0))), (q48, .inl (wdC w 0, 160, .inl (fun _ => 0))), (q57, .inl (wdC w 0, 1200, .inl (fun _ => 0))), (q65, .inl (wdC w 0, 24, .inl (fun _ => 0))), (q73, .inl (wdC w 0, 32, .inl (fun _ => 0))), (q80, .inl (wdC w 0, 4, .inl (fun _ => 0))), (q87, .inl (wdC w 0, 4, .inl (upd (upd (upd (upd (fun _ => 0) 0 (-1)) 1 (-1)) 2 (-1)) 3 (-1)))), (q110, .inl (wdC w 0, 4, .inl (fun _ => 0))), (q119, .inl (wdC w 0, 160, .inl (fun _ => 0))), (q127, .inl (wdC w 0, 50, .inl (upd (upd (upd (upd (upd (upd (upd (upd (upd (upd (upd (upd (upd (upd (upd (upd (upd (upd (upd (upd (upd (upd (upd (upd (upd (upd (upd (upd (upd (upd (upd (upd (upd (upd (upd (upd (upd (upd (upd (upd (upd (upd (upd (upd (upd (upd (upd (upd (upd (upd (fun _ => 0) 0 116) 1 97) 2 108) 3 108) 4 32) 5 104) 6 101) 7 105) 8 103) 9 104) 10 116) 11 32) 12 59) 13 32) 14 98) 15 101) 16 97) 17 114) 18 115) 19 32) 20 115) 21 116) 22 114) 23 111) 24 110) 25 103) 26 32) 27 59) 28 32) 29 99) 30 111) 31 109) 32 101) 33 115) 34 32) 35 56) 36 48) 37 32) 38 45) 39 32) 40 114) 41 117) 42 115) 43 116) 44 32) 45 42) 46 32) 47 53) 48 32) 49 59))), (q429, .inl (wdC w 0, 96, .inl (upd (upd (upd (upd (upd (upd (upd (upd (upd (upd (upd (upd (upd (upd (upd (upd (upd (upd (upd (upd (upd (upd (upd (upd (upd (upd (upd (upd (upd (fun _ => 0) 0 116) 1 97) 2 108) 3 108) 4 32) 5 32) 6 32) 7 32) 8 98) 9 101) 10 97) 11 114) 12 115) 13 32) 14 32) 15 32) 16 99) 17 111) 18 109) 19 101) 20 115) 21 32) 22 32) 23 32) 24 104) 25 101) 26 105) 27 103) 28 104)))] := by
  refine lc_iast (q0 := 15) (k := 29) (v := 116) a_X7_init_604 rfl (Nat.le_of_ble_eq_true rfl) (by decide) rfl ?_
  refine lc_dup a_X7_init_605 ?_
  refine lc_ic a_X7_init_606 ?_
  refine lc_ic a_X7_init_608 ?_
  refine lc_iast (q0 := 15) (k := 30) (v := 32) a_X7_init_610 rfl (Nat.le_of_ble_eq_true rfl) (by decide) rfl ?_
  refine lc_dup a_X7_init_611 ?_
  refine lc_ic a_X7_init_612 ?_
  refine lc_ic a_X7_init_614 ?_
  refine lc_iast (q0 := 15) (k := 31) (v := 32) a_X7_init_616 rfl (Nat.le_of_ble_eq_true rfl) (by decide) rfl ?_
  refine lc_dup a_X7_init_617 ?_
  refine lc_ic a_X7_init_618 ?_
  refine lc_ic a_X7_init_620 ?_
  refine lc_iast (q0 := 15) (k := 32) (v := 115) a_X7_init_622 rfl (Nat.le_of_ble_eq_true rfl) (by decide) rfl ?_
  refine lc_dup a_X7_init_623 ?_
  refine lc_ic a_X7_init_624 ?_
  refine lc_ic a_X7_init_626 ?_
  refine lc_iast (q0 := 15) (k := 33) (v := 116) a_X7_init_628 rfl (Nat.le_of_ble_eq_true rfl) (by decide) rfl ?_
  refine lc_dup a_X7_init_629 ?_
  refine lc_ic a_X7_init_630 ?_
  refine lc_ic a_X7_init_632 ?_
  refine lc_iast (q0 := 15) (k := 34) (v := 114) a_X7_init_634 rfl (Nat.le_of_ble_eq_true rfl) (by decide) rfl ?_
  refine lc_dup a_X7_init_635 ?_
  refine lc_ic a_X7_init_636 ?_
  refine lc_ic a_X7_init_638 ?_
  refine lc_iast (q0 := 15) (k := 35) (v := 111) a_X7_init_640 rfl (Nat.le_of_ble_eq_true rfl) (by decide) rfl ?_
  refine lc_dup a_X7_init_641 ?_
  refine lc_ic a_X7_init_642 ?_
  refine lc_ic a_X7_init_644 ?_
  refine lc_iast (q0 := 15) (k := 36) (v := 110) a_X7_init_646 rfl (Nat.le_of_ble_eq_true rfl) (by decide) rfl ?_
  refine lc_dup a_X7_init_647 ?_
  refine lc_ic a_X7_init_648 ?_
  refine lc_ic a_X7_init_650 ?_
  refine lc_iast (q0 := 15) (k := 37) (v := 103) a_X7_init_652 rfl (Nat.le_of_ble_eq_true rfl) (by decide) rfl ?_
  refine lc_dup a_X7_init_653 ?_
  refine lc_ic a_X7_init_654 ?_
  refine lc_ic a_X7_init_656 ?_
  exact nx
theorem lp_X7_i13 {w : Wd} {Af : Nat → Prop} {Z : Array Value → State → Outcome → State → Prop} {a q7 q15 q23 q31 q39 q48 q57 q65 q73 q80 q87 q110 q119 q127 q429 : Nat} (nx : lc_W w (rm_c 10 25 2358) Af jX7_init Z 25 2358 712 [some (vr (some a)), none] [vi 32, vi 47, vr (some q429), vr (some q429), vr (some a)] 15 1782 [(a, .inr (6, [.int 0, .ref q7, .ref q15, .ref q23, .ref q31, .ref q39, .int 0, .int 0, .ref q48, .int 0, .ref q57, .ref q65, .int 0, .int 0, .int 0, .ref q73, .ref q80, .ref q87, .ref q110, .ref q119, .ref q127, .int 0, .int 0, .int 0, .int 0, .null, .null, .int 0, .int 0, .int 0, .null, .null, .null, .null, .null, .null, .int 0, .int 0, .int 0, .null, .null, .null])), (q7, .inl (wdC w 0, 8, .inl (fun _ => 0))), (q15, .inl (wdC w 0, 8, .inl (fun _ => 0))), (q23, .inl (wdC w 0, 16, .inl (fun _ => 0))), (q31, .inl (wdC w 0, 8, .inl (fun _ => 0))), (q39, .inl (wdC w 0, 8, .inl (fun _ => 0))), (q48, .inl (wdC w 0, 160, .inl (fun _ => 0))), (q57, .inl (wdC w 0, 1200, .inl (fun _ => 0))), (q65, .inl (wdC w 0, 24, .inl (fun _ => 0))), (q73, .inl (wdC w 0, 32, .inl (fun _ => 0))), (q80, .inl (wdC w 0, 4, .inl (fun _ => 0))), (q87, .inl (wdC w 0, 4, .inl (upd (upd (upd (upd (fun _ => 0) 0 (-1)) 1 (-1)) 2 (-1)) 3 (-1)))), (q110, .inl (wdC w 0, 4, .inl (fun _ => 0))), (q119, .inl (wdC w 0, 160, .inl (fun _ => 0))), (q127, .inl (wdC w 0, 50, .inl (upd (upd (upd (upd (upd (upd (upd (upd (upd (upd (upd (upd (upd (upd (upd (upd (upd (upd (upd (upd (upd (upd (upd (upd (upd (upd (upd (upd (upd (upd (upd (upd (upd (upd (upd (upd (upd (upd (upd (upd (upd (upd (upd (upd (upd (upd (upd (upd (upd (upd (fun _ => 0) 0 116) 1 97) 2 108) 3 108) 4 32) 5 104) 6 101) 7 105) 8 103) 9 104) 10 116) 11 32) 12 59) 13 32) 14 98) 15 101) 16 97) 17 114) 18 115) 19 32) 20 115) 21 116) 22 114) 23 111) 24 110) 25 103) 26 32) 27 59) 28 32) 29 99) 30 111) 31 109) 32 101) 33 115) 34 32) 35 56) 36 48) 37 32) 38 45) 39 32) 40 114) 41 117) 42 115) 43 116) 44 32) 45 42) 46 32) 47 53) 48 32) 49 59))), (q429, .inl (wdC w 0, 96, .inl (upd (upd (upd (upd (upd (upd (upd (upd (upd (upd (upd (upd (upd (upd (upd (upd (upd (upd (upd (upd (upd (upd (upd (upd (upd (upd (upd (upd (upd (upd (upd (upd (upd (upd (upd (upd (upd (upd (upd (upd (upd (upd (upd (upd (upd (upd (upd (fun _ => 0) 0 116) 1 97) 2 108) 3 108) 4 32) 5 32) 6 32) 7 32) 8 98) 9 101) 10 97) 11 114) 12 115) 13 32) 14 32) 15 32) 16 99) 17 111) 18 109) 19 101) 20 115) 21 32) 22 32) 23 32) 24 104) 25 101) 26 105) 27 103) 28 104) 29 116) 30 32) 31 32) 32 115) 33 116) 34 114) 35 111) 36 110) 37 103) 38 32) 39 32) 40 114) 41 117) 42 115) 43 116) 44 32) 45 32) 46 32)))]) : lc_W w (rm_c 10 25 2358) Af jX7_init Z 25 2358 658 [some (vr (some a)), none] [vi 32, vi 38, vr (some q429), vr (some q429), vr (some a)] 15 1782 [(a, .inr (6, [.int 0, .ref q7, .ref q15, .ref q23, .ref q31, .ref q39, .int 0, .int 0, .ref q48, .int 0, .ref q57, .ref q65, .int 0, .int 0, .int 0, .ref q73, .ref q80, .ref q87, .ref q110, .ref q119, .ref q127, .int 0, .int 0, .int 0, .int 0, .null, .null, .int 0, .int 0, .int 0, .null, .null, .null, .null, .null, .null, .int 0, .int 0, .int 0, .null, .null, .null])), (q7, .inl (wdC w 0, 8, .inl (fun _ => 0))), (q15, .inl (wdC w 0, 8, .inl (fun _ => 0))), (q23, .inl (wdC w 0, 16, .inl (fun _ => 0))), (q31, .inl (wdC w 0, 8, .inl (fun _ => 0))), (q39, .inl (wdC w 0, 8, .inl (fun _ => 0))), (q48, .inl (wdC w 0, 160, .inl (fun _ => 0))), (q57, .inl (wdC w 0, 1200, .inl (fun _ => 0))), (q65, .inl (wdC w 0, 24, .inl (fun _ => 0))), (q73, .inl (wdC w 0, 32, .inl (fun _ => 0))), (q80, .inl (wdC w 0, 4, .inl (fun _ => 0))), (q87, .inl (wdC w 0, 4, .inl (upd (upd (upd (upd (fun _ => 0) 0 (-1)) 1 (-1)) 2 (-1)) 3 (-1)))), (q110, .inl (wdC w 0, 4, .inl (fun _ => 0))), (q119, .inl (wdC w 0, 160, .inl (fun _ => 0))), (q127, .inl (wdC w 0, 50, .inl (upd (upd (upd (upd (upd (upd (upd (upd (upd (upd (upd (upd (upd (upd (upd (upd (upd (upd (upd (upd (upd (upd (upd (upd (upd (upd (upd (upd (upd (upd (upd (upd (upd (upd (upd (upd (upd (upd (upd (upd (upd (upd (upd (upd (upd (upd (upd (upd (upd (upd (fun _ => 0) 0 116) 1 97) 2 108) 3 108) 4 32) 5 104) 6 101) 7 105) 8 103) 9 104) 10 116) 11 32) 12 59) 13 32) 14 98) 15 101) 16 97) 17 114) 18 115) 19 32) 20 115) 21 116) 22 114) 23 111) 24 110) 25 103) 26 32) 27 59) 28 32) 29 99) 30 111) 31 109) 32 101) 33 115) 34 32) 35 56) 36 48) 37 32) 38 45) 39 32) 40 114) 41 117) 42 115) 43 116) 44 32) 45 42) 46 32) 47 53) 48 32) 49 59))), (q429, .inl (wdC w 0, 96, .inl (upd (upd (upd (upd (upd (upd (upd (upd (upd (upd (upd (upd (upd (upd (upd (upd (upd (upd (upd (upd (upd (upd (upd (upd (upd (upd (upd (upd (upd (upd (upd (upd (upd (upd (upd (upd (upd (upd (fun _ => 0) 0 116) 1 97) 2 108) 3 108) 4 32) 5 32) 6 32) 7 32) 8 98) 9 101) 10 97) 11 114) 12 115) 13 32) 14 32) 15 32) 16 99) 17 111) 18 109) 19 101) 20 115) 21 32) 22 32) 23 32) 24 104) 25 101) 26 105) 27 103) 28 104) 29 116) 30 32) 31 32) 32 115) 33 116) 34 114) 35 111) 36 110) 37 103)))] := by
  refine lc_iast (q0 := 15) (k := 38) (v := 32) a_X7_init_658 rfl (Nat.le_of_ble_eq_true rfl) (by decide) rfl ?_
  refine lc_dup a_X7_init_659 ?_
  refine lc_ic a_X7_init_660 ?_
  refine lc_ic a_X7_init_662 ?_
  refine lc_iast (q0 := 15) (k := 39) (v := 32) a_X7_init_664 rfl (Nat.le_of_ble_eq_true rfl) (by decide) rfl ?_
  refine lc_dup a_X7_init_665 ?_
  refine lc_ic a_X7_init_666 ?_
  refine lc_ic a_X7_init_668 ?_
  refine lc_iast (q0 := 15) (k := 40) (v := 114) a_X7_init_670 rfl (Nat.le_of_ble_eq_true rfl) (by decide) rfl ?_
  refine lc_dup a_X7_init_671 ?_
  refine lc_ic a_X7_init_672 ?_
  refine lc_ic a_X7_init_674 ?_
  refine lc_iast (q0 := 15) (k := 41) (v := 117) a_X7_init_676 rfl (Nat.le_of_ble_eq_true rfl) (by decide) rfl ?_
  refine lc_dup a_X7_init_677 ?_
  refine lc_ic a_X7_init_678 ?_
  refine lc_ic a_X7_init_680 ?_
  refine lc_iast (q0 := 15) (k := 42) (v := 115) a_X7_init_682 rfl (Nat.le_of_ble_eq_true rfl) (by decide) rfl ?_
  refine lc_dup a_X7_init_683 ?_
  refine lc_ic a_X7_init_684 ?_
  refine lc_ic a_X7_init_686 ?_
  refine lc_iast (q0 := 15) (k := 43) (v := 116) a_X7_init_688 rfl (Nat.le_of_ble_eq_true rfl) (by decide) rfl ?_
  refine lc_dup a_X7_init_689 ?_
  refine lc_ic a_X7_init_690 ?_
  refine lc_ic a_X7_init_692 ?_
  refine lc_iast (q0 := 15) (k := 44) (v := 32) a_X7_init_694 rfl (Nat.le_of_ble_eq_true rfl) (by decide) rfl ?_
  refine lc_dup a_X7_init_695 ?_
  refine lc_ic a_X7_init_696 ?_
  refine lc_ic a_X7_init_698 ?_
  refine lc_iast (q0 := 15) (k := 45) (v := 32) a_X7_init_700 rfl (Nat.le_of_ble_eq_true rfl) (by decide) rfl ?_
  refine lc_dup a_X7_init_701 ?_
  refine lc_ic a_X7_init_702 ?_
  refine lc_ic a_X7_init_704 ?_
  refine lc_iast (q0 := 15) (k := 46) (v := 32) a_X7_init_706 rfl (Nat.le_of_ble_eq_true rfl) (by decide) rfl ?_
  refine lc_dup a_X7_init_707 ?_
  refine lc_ic a_X7_init_708 ?_
  refine lc_ic a_X7_init_710 ?_
  exact nx
theorem lp_X7_i14 {w : Wd} {Af : Nat → Prop} {Z : Array Value → State → Outcome → State → Prop} {a q7 q15 q23 q31 q39 q48 q57 q65 q73 q80 q87 q110 q119 q127 q429 : Nat} (nx : lc_W w (rm_c 10 25 2358) Af jX7_init Z 25 2358 766 [some (vr (some a)), none] [vi 115, vi 56, vr (some q429), vr (some q429), vr (some a)] 15 1782 [(a, .inr (6, [.int 0, .ref q7, .ref q15, .ref q23, .ref q31, .ref q39, .int 0, .int 0, .ref q48, .int 0, .ref q57, .ref q65, .int 0, .int 0, .int 0, .ref q73, .ref q80, .ref q87, .ref q110, .ref q119, .ref q127, .int 0, .int 0, .int 0, .int 0, .null, .null, .int 0, .int 0, .int 0, .null, .null, .null, .null, .null, .null, .int 0, .int 0, .int 0, .null, .null, .null])), (q7, .inl (wdC w 0, 8, .inl (fun _ => 0))), (q15, .inl (wdC w 0, 8, .inl (fun _ => 0))), (q23, .inl (wdC w 0, 16, .inl (fun _ => 0))), (q31, .inl (wdC w 0, 8, .inl (fun _ => 0))), (q39, .inl (wdC w 0, 8, .inl (fun _ => 0))), (q48, .inl (wdC w 0, 160, .inl (fun _ => 0))), (q57, .inl (wdC w 0, 1200, .inl (fun _ => 0))), (q65, .inl (wdC w 0, 24, .inl (fun _ => 0))), (q73, .inl (wdC w 0, 32, .inl (fun _ => 0))), (q80, .inl (wdC w 0, 4, .inl (fun _ => 0))), (q87, .inl (wdC w 0, 4, .inl (upd (upd (upd (upd (fun _ => 0) 0 (-1)) 1 (-1)) 2 (-1)) 3 (-1)))), (q110, .inl (wdC w 0, 4, .inl (fun _ => 0))), (q119, .inl (wdC w 0, 160, .inl (fun _ => 0))), (q127, .inl (wdC w 0, 50, .inl (upd (upd (upd (upd (upd (upd (upd (upd (upd (upd (upd (upd (upd (upd (upd (upd (upd (upd (upd (upd (upd (upd (upd (upd (upd (upd (upd (upd (upd (upd (upd (upd (upd (upd (upd (upd (upd (upd (upd (upd (upd (upd (upd (upd (upd (upd (upd (upd (upd (upd (fun _ => 0) 0 116) 1 97) 2 108) 3 108) 4 32) 5 104) 6 101) 7 105) 8 103) 9 104) 10 116) 11 32) 12 59) 13 32) 14 98) 15 101) 16 97) 17 114) 18 115) 19 32) 20 115) 21 116) 22 114) 23 111) 24 110) 25 103) 26 32) 27 59) 28 32) 29 99) 30 111) 31 109) 32 101) 33 115) 34 32) 35 56) 36 48) 37 32) 38 45) 39 32) 40 114) 41 117) 42 115) 43 116) 44 32) 45 42) 46 32) 47 53) 48 32) 49 59))), (q429, .inl (wdC w 0, 96, .inl (upd (upd (upd (upd (upd (upd (upd (upd (upd (upd (upd (upd (upd (upd (upd (upd (upd (upd (upd (upd (upd (upd (upd (upd (upd (upd (upd (upd (upd (upd (upd (upd (upd (upd (upd (upd (upd (upd (upd (upd (upd (upd (upd (upd (upd (upd (upd (upd (upd (upd (upd (upd (upd (upd (upd (upd (fun _ => 0) 0 116) 1 97) 2 108) 3 108) 4 32) 5 32) 6 32) 7 32) 8 98) 9 101) 10 97) 11 114) 12 115) 13 32) 14 32) 15 32) 16 99) 17 111) 18 109) 19 101) 20 115) 21 32) 22 32) 23 32) 24 104) 25 101) 26 105) 27 103) 28 104) 29 116) 30 32) 31 32) 32 115) 33 116) 34 114) 35 111) 36 110) 37 103) 38 32) 39 32) 40 114) 41 117) 42 115) 43 116) 44 32) 45 32) 46 32) 47 32) 48 114) 49 117) 50 110) 51 103) 52 32) 53 32) 54 32) 55 32)))]) : lc_W w (rm_c 10 25 2358) Af jX7_init Z 25 2358 712 [some (vr (some a)), none] [vi 32, vi 47, vr (some q429), vr (some q429), vr (some a)] 15 1782 [(a, .inr (6, [.int 0, .ref q7, .ref q15, .ref q23, .ref q31, .ref q39, .int 0, .int 0, .ref q48, .int 0, .ref q57, .ref q65, .int 0, .int 0, .int 0, .ref q73, .ref q80, .ref q87, .ref q110, .ref q119, .ref q127, .int 0, .int 0, .int 0, .int 0, .null, .null, .int 0, .int 0, .int 0, .null, .null, .null, .null, .null, .null, .int 0, .int 0, .int 0, .null, .null, .null])), (q7, .inl (wdC w 0, 8, .inl (fun _ => 0))), (q15, .inl (wdC w 0, 8, .inl (fun _ => 0))), (q23, .inl (wdC w 0, 16, .inl (fun _ => 0))), (q31, .inl (wdC w 0, 8, .inl (fun _ => 0))), (q39, .inl (wdC w 0, 8, .inl (fun _ => 0))), (q48, .inl (wdC w 0, 160, .inl (fun _ => 0))), (q57, .inl (wdC w 0, 1200, .inl (fun _ => 0))), (q65, .inl (wdC w 0, 24, .inl (fun _ => 0))), (q73, .inl (wdC w 0, 32, .inl (fun _ => 0))), (q80, .inl (wdC w 0, 4, .inl (fun _ => 0))), (q87, .inl (wdC w 0, 4, .inl (upd (upd (upd (upd (fun _ => 0) 0 (-1)) 1 (-1)) 2 (-1)) 3 (-1)))), (q110, .inl (wdC w 0, 4, .inl (fun _ => 0))), (q119, .inl (wdC w 0, 160, .inl (fun _ => 0))), (q127, .inl (wdC w 0, 50, .inl (upd (upd (upd (upd (upd (upd (upd (upd (upd (upd (upd (upd (upd (upd (upd (upd (upd (upd (upd (upd (upd (upd (upd (upd (upd (upd (upd (upd (upd (upd (upd (upd (upd (upd (upd (upd (upd (upd (upd (upd (upd (upd (upd (upd (upd (upd (upd (upd (upd (upd (fun _ => 0) 0 116) 1 97) 2 108) 3 108) 4 32) 5 104) 6 101) 7 105) 8 103) 9 104) 10 116) 11 32) 12 59) 13 32) 14 98) 15 101) 16 97) 17 114) 18 115) 19 32) 20 115) 21 116) 22 114) 23 111) 24 110) 25 103) 26 32) 27 59) 28 32) 29 99) 30 111) 31 109) 32 101) 33 115) 34 32) 35 56) 36 48) 37 32) 38 45) 39 32) 40 114) 41 117) 42 115) 43 116) 44 32) 45 42) 46 32) 47 53) 48 32) 49 59))), (q429, .inl (wdC w 0, 96, .inl (upd (upd (upd (upd (upd (upd (upd (upd (upd (upd (upd (upd (upd (upd (upd (upd (upd (upd (upd (upd (upd (upd (upd (upd (upd (upd (upd (upd (upd (upd (upd (upd (upd (upd (upd (upd (upd (upd (upd (upd (upd (upd (upd (upd (upd (upd (upd (fun _ => 0) 0 116) 1 97) 2 108) 3 108) 4 32) 5 32) 6 32) 7 32) 8 98) 9 101) 10 97) 11 114) 12 115) 13 32) 14 32) 15 32) 16 99) 17 111) 18 109) 19 101) 20 115) 21 32) 22 32) 23 32) 24 104) 25 101) 26 105) 27 103) 28 104) 29 116) 30 32) 31 32) 32 115) 33 116) 34 114) 35 111) 36 110) 37 103) 38 32) 39 32) 40 114) 41 117) 42 115) 43 116) 44 32) 45 32) 46 32)))] := by
  refine lc_iast (q0 := 15) (k := 47) (v := 32) a_X7_init_712 rfl (Nat.le_of_ble_eq_true rfl) (by decide) rfl ?_
  refine lc_dup a_X7_init_713 ?_
  refine lc_ic a_X7_init_714 ?_
  refine lc_ic a_X7_init_716 ?_
  refine lc_iast (q0 := 15) (k := 48) (v := 114) a_X7_init_718 rfl (Nat.le_of_ble_eq_true rfl) (by decide) rfl ?_
  refine lc_dup a_X7_init_719 ?_
  refine lc_ic a_X7_init_720 ?_
  refine lc_ic a_X7_init_722 ?_
  refine lc_iast (q0 := 15) (k := 49) (v := 117) a_X7_init_724 rfl (Nat.le_of_ble_eq_true rfl) (by decide) rfl ?_
  refine lc_dup a_X7_init_725 ?_
  refine lc_ic a_X7_init_726 ?_
  refine lc_ic a_X7_init_728 ?_
  refine lc_iast (q0 := 15) (k := 50) (v := 110) a_X7_init_730 rfl (Nat.le_of_ble_eq_true rfl) (by decide) rfl ?_
  refine lc_dup a_X7_init_731 ?_
  refine lc_ic a_X7_init_732 ?_
  refine lc_ic a_X7_init_734 ?_
  refine lc_iast (q0 := 15) (k := 51) (v := 103) a_X7_init_736 rfl (Nat.le_of_ble_eq_true rfl) (by decide) rfl ?_
  refine lc_dup a_X7_init_737 ?_
  refine lc_ic a_X7_init_738 ?_
  refine lc_ic a_X7_init_740 ?_
  refine lc_iast (q0 := 15) (k := 52) (v := 32) a_X7_init_742 rfl (Nat.le_of_ble_eq_true rfl) (by decide) rfl ?_
  refine lc_dup a_X7_init_743 ?_
  refine lc_ic a_X7_init_744 ?_
  refine lc_ic a_X7_init_746 ?_
  refine lc_iast (q0 := 15) (k := 53) (v := 32) a_X7_init_748 rfl (Nat.le_of_ble_eq_true rfl) (by decide) rfl ?_
  refine lc_dup a_X7_init_749 ?_
  refine lc_ic a_X7_init_750 ?_
  refine lc_ic a_X7_init_752 ?_
  refine lc_iast (q0 := 15) (k := 54) (v := 32) a_X7_init_754 rfl (Nat.le_of_ble_eq_true rfl) (by decide) rfl ?_
  refine lc_dup a_X7_init_755 ?_
  refine lc_ic a_X7_init_756 ?_
  refine lc_ic a_X7_init_758 ?_
  refine lc_iast (q0 := 15) (k := 55) (v := 32) a_X7_init_760 rfl (Nat.le_of_ble_eq_true rfl) (by decide) rfl ?_
  refine lc_dup a_X7_init_761 ?_
  refine lc_ic a_X7_init_762 ?_
  refine lc_ic a_X7_init_764 ?_
  exact nx
theorem lp_X7_i15 {w : Wd} {Af : Nat → Prop} {Z : Array Value → State → Outcome → State → Prop} {a q7 q15 q23 q31 q39 q48 q57 q65 q73 q80 q87 q110 q119 q127 q429 : Nat} (nx : lc_W w (rm_c 10 25 2358) Af jX7_init Z 25 2358 820 [some (vr (some a)), none] [vi 111, vi 65, vr (some q429), vr (some q429), vr (some a)] 15 1782 [(a, .inr (6, [.int 0, .ref q7, .ref q15, .ref q23, .ref q31, .ref q39, .int 0, .int 0, .ref q48, .int 0, .ref q57, .ref q65, .int 0, .int 0, .int 0, .ref q73, .ref q80, .ref q87, .ref q110, .ref q119, .ref q127, .int 0, .int 0, .int 0, .int 0, .null, .null, .int 0, .int 0, .int 0, .null, .null, .null, .null, .null, .null, .int 0, .int 0, .int 0, .null, .null, .null])), (q7, .inl (wdC w 0, 8, .inl (fun _ => 0))), (q15, .inl (wdC w 0, 8, .inl (fun _ => 0))), (q23, .inl (wdC w 0, 16, .inl (fun _ => 0))), (q31, .inl (wdC w 0, 8, .inl (fun _ => 0))), (q39, .inl (wdC w 0, 8, .inl (fun _ => 0))), (q48, .inl (wdC w 0, 160, .inl (fun _ => 0))), (q57, .inl (wdC w 0, 1200, .inl (fun _ => 0))), (q65, .inl (wdC w 0, 24, .inl (fun _ => 0))), (q73, .inl (wdC w 0, 32, .inl (fun _ => 0))), (q80, .inl (wdC w 0, 4, .inl (fun _ => 0))), (q87, .inl (wdC w 0, 4, .inl (upd (upd (upd (upd (fun _ => 0) 0 (-1)) 1 (-1)) 2 (-1)) 3 (-1)))), (q110, .inl (wdC w 0, 4, .inl (fun _ => 0))), (q119, .inl (wdC w 0, 160, .inl (fun _ => 0))), (q127, .inl (wdC w 0, 50, .inl (upd (upd (upd (upd (upd (upd (upd (upd (upd (upd (upd (upd (upd (upd (upd (upd (upd (upd (upd (upd (upd (upd (upd (upd (upd (upd (upd (upd (upd (upd (upd (upd (upd (upd (upd (upd (upd (upd (upd (upd (upd (upd (upd (upd (upd (upd (upd (upd (upd (upd (fun _ => 0) 0 116) 1 97) 2 108) 3 108) 4 32) 5 104) 6 101) 7 105) 8 103) 9 104) 10 116) 11 32) 12 59) 13 32) 14 98) 15 101) 16 97) 17 114) 18 115) 19 32) 20 115) 21 116) 22 114) 23 111) 24 110) 25 103) 26 32) 27 59) 28 32) 29 99) 30 111) 31 109) 32 101) 33 115) 34 32) 35 56) 36 48) 37 32) 38 45) 39 32) 40 114) 41 117) 42 115) 43 116) 44 32) 45 42) 46 32) 47 53) 48 32) 49 59))), (q429, .inl (wdC w 0, 96, .inl (upd (upd (upd (upd (upd (upd (upd (upd (upd (upd (upd (upd (upd (upd (upd (upd (upd (upd (upd (upd (upd (upd (upd (upd (upd (upd (upd (upd (upd (upd (upd (upd (upd (upd (upd (upd (upd (upd (upd (upd (upd (upd (upd (upd (upd (upd (upd (upd (upd (upd (upd (upd (upd (upd (upd (upd (upd (upd (upd (upd (upd (upd (upd (upd (upd (fun _ => 0) 0 116) 1 97) 2 108) 3 108) 4 32) 5 32) 6 32) 7 32) 8 98) 9 101) 10 97) 11 114) 12 115) 13 32) 14 32) 15 32) 16 99) 17 111) 18 109) 19 101) 20 115) 21 32) 22 32) 23 32) 24 104) 25 101) 26 105) 27 103) 28 104) 29 116) 30 32) 31 32) 32 115) 33 116) 34 114) 35 111) 36 110) 37 103) 38 32) 39 32) 40 114) 41 117) 42 115) 43 116) 44 32) 45 32) 46 32) 47 32) 48 114) 49 117) 50 110) 51 103) 52 32) 53 32) 54 32) 55 32) 56 115) 57 97) 58 118) 59 101) 60 100) 61 32) 62 32) 63 32) 64 109)))]) : lc_W w (rm_c 10 25 2358) Af jX7_init Z 25 2358 766 [some (vr (some a)), none] [vi 115, vi 56, vr (some q429), vr (some q429), vr (some a)] 15 1782 [(a, .inr (6, [.int 0, .ref q7, .ref q15, .ref q23, .ref q31, .ref q39, .int 0, .int 0, .ref q48, .int 0, .ref q57, .ref q65, .int 0, .int 0, .int 0, .ref q73, .ref q80, .ref q87, .ref q110, .ref q119, .ref q127, .int 0, .int 0, .int 0, .int 0, .null, .null, .int 0, .int 0, .int 0, .null, .null, .null, .null, .null, .null, .int 0, .int 0, .int 0, .null, .null, .null])), (q7, .inl (wdC w 0, 8, .inl (fun _ => 0))), (q15, .inl (wdC w 0, 8, .inl (fun _ => 0))), (q23, .inl (wdC w 0, 16, .inl (fun _ => 0))), (q31, .inl (wdC w 0, 8, .inl (fun _ => 0))), (q39, .inl (wdC w 0, 8, .inl (fun _ => 0))), (q48, .inl (wdC w 0, 160, .inl (fun _ => 0))), (q57, .inl (wdC w 0, 1200, .inl (fun _ => 0))), (q65, .inl (wdC w 0, 24, .inl (fun _ => 0))), (q73, .inl (wdC w 0, 32, .inl (fun _ => 0))), (q80, .inl (wdC w 0, 4, .inl (fun _ => 0))), (q87, .inl (wdC w 0, 4, .inl (upd (upd (upd (upd (fun _ => 0) 0 (-1)) 1 (-1)) 2 (-1)) 3 (-1)))), (q110, .inl (wdC w 0, 4, .inl (fun _ => 0))), (q119, .inl (wdC w 0, 160, .inl (fun _ => 0))), (q127, .inl (wdC w 0, 50, .inl (upd (upd (upd (upd (upd (upd (upd (upd (upd (upd (upd (upd (upd (upd (upd (upd (upd (upd (upd (upd (upd (upd (upd (upd (upd (upd (upd (upd (upd (upd (upd (upd (upd (upd (upd (upd (upd (upd (upd (upd (upd (upd (upd (upd (upd (upd (upd (upd (upd (upd (fun _ => 0) 0 116) 1 97) 2 108) 3 108) 4 32) 5 104) 6 101) 7 105) 8 103) 9 104) 10 116) 11 32) 12 59) 13 32) 14 98) 15 101) 16 97) 17 114) 18 115) 19 32) 20 115) 21 116) 22 114) 23 111) 24 110) 25 103) 26 32) 27 59) 28 32) 29 99) 30 111) 31 109) 32 101) 33 115) 34 32) 35 56) 36 48) 37 32) 38 45) 39 32) 40 114) 41 117) 42 115) 43 116) 44 32) 45 42) 46 32) 47 53) 48 32) 49 59))), (q429, .inl (wdC w 0, 96, .inl (upd (upd (upd (upd (upd (upd (upd (upd (upd (upd (upd (upd (upd (upd (upd (upd (upd (upd (upd (upd (upd (upd (upd (upd (upd (upd (upd (upd (upd (upd (upd (upd (upd (upd (upd (upd (upd (upd (upd (upd (upd (upd (upd (upd (upd (upd (upd (upd (upd (upd (upd (upd (upd (upd (upd (upd (fun _ => 0) 0 116) 1 97) 2 108) 3 108) 4 32) 5 32) 6 32) 7 32) 8 98) 9 101) 10 97) 11 114) 12 115) 13 32) 14 32) 15 32) 16 99) 17 111) 18 109) 19 101) 20 115) 21 32) 22 32) 23 32) 24 104) 25 101) 26 105) 27 103) 28 104) 29 116) 30 32) 31 32) 32 115) 33 116) 34 114) 35 111) 36 110) 37 103) 38 32) 39 32) 40 114) 41 117) 42 115) 43 116) 44 32) 45 32) 46 32) 47 32) 48 114) 49 117) 50 110) 51 103) 52 32) 53 32) 54 32) 55 32)))] := by
  refine lc_iast (q0 := 15) (k := 56) (v := 115) a_X7_init_766 rfl (Nat.le_of_ble_eq_true rfl) (by decide) rfl ?_
  refine lc_dup a_X7_init_767 ?_
  refine lc_ic a_X7_init_768 ?_
  refine lc_ic a_X7_init_770 ?_
  refine lc_iast (q0 := 15) (k := 57) (v := 97) a_X7_init_772 rfl (Nat.le_of_ble_eq_true rfl) (by decide) rfl ?_
  refine lc_dup a_X7_init_773 ?_
  refine lc_ic a_X7_init_774 ?_
  refine lc_ic a_X7_init_776 ?_
  refine lc_iast (q0 := 15) (k := 58) (v := 118) a_X7_init_778 rfl (Nat.le_of_ble_eq_true rfl) (by decide) rfl ?_
  refine lc_dup a_X7_init_779 ?_
  refine lc_ic a_X7_init_780 ?_
  refine lc_ic a_X7_init_782 ?_
  refine lc_iast (q0 := 15) (k := 59) (v := 101) a_X7_init_784 rfl (Nat.le_of_ble_eq_true rfl) (by decide) rfl ?_
  refine lc_dup a_X7_init_785 ?_
  refine lc_ic a_X7_init_786 ?_
  refine lc_ic a_X7_init_788 ?_
  refine lc_iast (q0 := 15) (k := 60) (v := 100) a_X7_init_790 rfl (Nat.le_of_ble_eq_true rfl) (by decide) rfl ?_
  refine lc_dup a_X7_init_791 ?_
  refine lc_ic a_X7_init_792 ?_
  refine lc_ic a_X7_init_794 ?_
  refine lc_iast (q0 := 15) (k := 61) (v := 32) a_X7_init_796 rfl (Nat.le_of_ble_eq_true rfl) (by decide) rfl ?_
  refine lc_dup a_X7_init_797 ?_
  refine lc_ic a_X7_init_798 ?_
  refine lc_ic a_X7_init_800 ?_
  refine lc_iast (q0 := 15) (k := 62) (v := 32) a_X7_init_802 rfl (Nat.le_of_ble_eq_true rfl) (by decide) rfl ?_
  refine lc_dup a_X7_init_803 ?_
  refine lc_ic a_X7_init_804 ?_
  refine lc_ic a_X7_init_806 ?_
  refine lc_iast (q0 := 15) (k := 63) (v := 32) a_X7_init_808 rfl (Nat.le_of_ble_eq_true rfl) (by decide) rfl ?_
  refine lc_dup a_X7_init_809 ?_
  refine lc_ic a_X7_init_810 ?_
  refine lc_ic a_X7_init_812 ?_
  refine lc_iast (q0 := 15) (k := 64) (v := 109) a_X7_init_814 rfl (Nat.le_of_ble_eq_true rfl) (by decide) rfl ?_
  refine lc_dup a_X7_init_815 ?_
  refine lc_ic a_X7_init_816 ?_
  refine lc_ic a_X7_init_818 ?_
  exact nx
theorem lp_X7_i16 {w : Wd} {Af : Nat → Prop} {Z : Array Value → State → Outcome → State → Prop} {a q7 q15 q23 q31 q39 q48 q57 q65 q73 q80 q87 q110 q119 q127 q429 : Nat} (nx : lc_W w (rm_c 10 25 2358) Af jX7_init Z 25 2358 874 [some (vr (some a)), none] [vi 32, vi 74, vr (some q429), vr (some q429), vr (some a)] 15 1782 [(a, .inr (6, [.int 0, .ref q7, .ref q15, .ref q23, .ref q31, .ref q39, .int 0, .int 0, .ref q48, .int 0, .ref q57, .ref q65, .int 0, .int 0, .int 0, .ref q73, .ref q80, .ref q87, .ref q110, .ref q119, .ref q127, .int 0, .int 0, .int 0, .int 0, .null, .null, .int 0, .int 0, .int 0, .null, .null, .null, .null, .null, .null, .int 0, .int 0, .int 0, .null, .null, .null])), (q7, .inl (wdC w 0, 8, .inl (fun _ => 0))), (q15, .inl (wdC w 0, 8, .inl (fun _ => 0))), (q23, .inl (wdC w 0, 16, .inl (fun _ => 0))), (q31, .inl (wdC w 0, 8, .inl (fun _ => 0))), (q39, .inl (wdC w 0, 8, .inl (fun _ => 0))), (q48, .inl (wdC w 0, 160, .inl (fun _ => 0))), (q57, .inl (wdC w 0, 1200, .inl (fun _ => 0))), (q65, .inl (wdC w 0, 24, .inl (fun _ => 0))), (q73, .inl (wdC w 0, 32, .inl (fun _ => 0))), (q80, .inl (wdC w 0, 4, .inl (fun _ => 0))), (q87, .inl (wdC w 0, 4, .inl (upd (upd (upd (upd (fun _ => 0) 0 (-1)) 1 (-1)) 2 (-1)) 3 (-1)))), (q110, .inl (wdC w 0, 4, .inl (fun _ => 0))), (q119, .inl (wdC w 0, 160, .inl (fun _ => 0))), (q127, .inl (wdC w 0, 50, .inl (upd (upd (upd (upd (upd (upd (upd (upd (upd (upd (upd (upd (upd (upd (upd (upd (upd (upd (upd (upd (upd (upd (upd (upd (upd (upd (upd (upd (upd (upd (upd (upd (upd (upd (upd (upd (upd (upd (upd (upd (upd (upd (upd (upd (upd (upd (upd (upd (upd (upd (fun _ => 0) 0 116) 1 97) 2 108) 3 108) 4 32) 5 104) 6 101) 7 105) 8 103) 9 104) 10 116) 11 32) 12 59) 13 32) 14 98) 15 101) 16 97) 17 114) 18 115) 19 32) 20 115) 21 116) 22 114) 23 111) 24 110) 25 103) 26 32) 27 59) 28 32) 29 99) 30 111) 31 109) 32 101) 33 115) 34 32) 35 56) 36 48) 37 32) 38 45) 39 32) 40 114) 41 117) 42 115) 43 116) 44 32) 45 42) 46 32) 47 53) 48 32) 49 59))), (q429, .inl (wdC w 0, 96, .inl (upd (upd (upd (upd (upd (upd (upd (upd (upd (upd (upd (upd (upd (upd (upd (upd (upd (upd (upd (upd (upd (upd (upd (upd (upd (upd (upd (upd (upd (upd (upd (upd (upd (upd (upd (upd (upd (upd (upd (upd (upd (upd (upd (upd (upd (upd (upd (upd (upd (upd (upd (upd (upd (upd (upd (upd (upd (upd (upd (upd (upd (upd (upd (upd (upd (upd (upd (upd (upd (upd (upd (upd (upd (upd (fun _ => 0) 0 116) 1 97) 2 108) 3 108) 4 32) 5 32) 6 32) 7 32) 8 98) 9 101) 10 97) 11 114) 12 115) 13 32) 14 32) 15 32) 16 99) 17 111) 18 109) 19 101) 20 115) 21 32) 22 32) 23 32) 24 104) 25 101) 26 105) 27 103) 28 104) 29 116) 30 32) 31 32) 32 115) 33 116) 34 114) 35 111) 36 110) 37 103) 38 32) 39 32) 40 114) 41 117) 42 115) 43 116) 44 32) 45 32) 46 32) 47 32) 48 114) 49 117) 50 110) 51 103) 52 32) 53 32) 54 32) 55 32) 56 115) 57 97) 58 118) 59 101) 60 100) 61 32) 62 32) 63 32) 64 109) 65 111) 66 114) 67 101) 68 32) 69 32) 70 32) 71 32) 72 111) 73 114)))]) : lc_W w (rm_c 10 25 2358) Af jX7_init Z 25 2358 820 [some (vr (some a)), none] [vi 111, vi 65, vr (some q429), vr (some q429), vr (some a)] 15 1782 [(a, .inr (6, [.int 0, .ref q7, .ref q15, .ref q23, .ref q31, .ref q39, .int 0, .int 0, .ref q48, .int 0, .ref q57, .ref q65, .int 0, .int 0, .int 0, .ref q73, .ref q80, .ref q87, .ref q110, .ref q119, .ref q127, .int 0, .int 0, .int 0, .int 0, .null, .null, .int 0, .int 0, .int 0, .null, .null, .null, .null, .null, .null, .int 0, .int 0, .int 0, .null, .null, .null])), (q7, .inl (wdC w 0, 8, .inl (fun _ => 0))), (q15, .inl (wdC w 0, 8, .inl (fun _ => 0))), (q23, .inl (wdC w 0, 16, .inl (fun _ => 0))), (q31, .inl (wdC w 0, 8, .inl (fun _ => 0))), (q39, .inl (wdC w 0, 8, .inl (fun _ => 0))), (q48, .inl (wdC w 0, 160, .inl (fun _ => 0))), (q57, .inl (wdC w 0, 1200, .inl (fun _ => 0))), (q65, .inl (wdC w 0, 24, .inl (fun _ => 0))), (q73, .inl (wdC w 0, 32, .inl (fun _ => 0))), (q80, .inl (wdC w 0, 4, .inl (fun _ => 0))), (q87, .inl (wdC w 0, 4, .inl (upd (upd (upd (upd (fun _ => 0) 0 (-1)) 1 (-1)) 2 (-1)) 3 (-1)))), (q110, .inl (wdC w 0, 4, .inl (fun _ => 0))), (q119, .inl (wdC w 0, 160, .inl (fun _ => 0))), (q127, .inl (wdC w 0, 50, .inl (upd (upd (upd (upd (upd (upd (upd (upd (upd (upd (upd (upd (upd (upd (upd (upd (upd (upd (upd (upd (upd (upd (upd (upd (upd (upd (upd (upd (upd (upd (upd (upd (upd (upd (upd (upd (upd (upd (upd (upd (upd (upd (upd (upd (upd (upd (upd (upd (upd (upd (fun _ => 0) 0 116) 1 97) 2 108) 3 108) 4 32) 5 104) 6 101) 7 105) 8 103) 9 104) 10 116) 11 32) 12 59) 13 32) 14 98) 15 101) 16 97) 17 114) 18 115) 19 32) 20 115) 21 116) 22 114) 23 111) 24 110) 25 103) 26 32) 27 59) 28 32) 29 99) 30 111) 31 109) 32 101) 33 115) 34 32) 35 56) 36 48) 37 32) 38 45) 39 32) 40 114) 41 117) 42 115) 43 116) 44 32) 45 42) 46 32) 47 53) 48 32) 49 59))), (q429, .inl (wdC w 0, 96, .inl (upd (upd (upd (upd (upd (upd (upd (upd (upd (upd (upd (upd (upd (upd (upd (upd (upd (upd (upd (upd (upd (upd (upd (upd (upd (upd (upd (upd (upd (upd (upd (upd (upd (upd (upd (upd (upd (upd (upd (upd (upd (upd (upd (upd (upd (upd (upd (upd (upd (upd (upd (upd (upd (upd (upd (upd (upd (upd (upd (upd (upd (upd (upd (upd (upd (fun _ => 0) 0 116) 1 97) 2 108) 3 108) 4 32) 5 32) 6 32) 7 32) 8 98) 9 101) 10 97) 11 114) 12 115) 13 32) 14 32) 15 32) 16 99) 17 111) 18 109) 19 101) 20 115) 21 32) 22 32) 23 32) 24 104) 25 101) 26 105) 27 103) 28 104) 29 116) 30 32) 31 32) 32 115) 33 116) 34 114) 35 111) 36 110) 37 103) 38 32) 39 32) 40 114) 41 117) 42 115) 43 116) 44 32) 45 32) 46 32) 47 32) 48 114) 49 117) 50 110) 51 103) 52 32) 53 32) 54 32) 55 32) 56 115) 57 97) 58 118) 59 101) 60 100) 61 32) 62 32) 63 32) 64 109)))] := by
  refine lc_iast (q0 := 15) (k := 65) (v := 111) a_X7_init_820 rfl (Nat.le_of_ble_eq_true rfl) (by decide) rfl ?_
  refine lc_dup a_X7_init_821 ?_
  refine lc_ic a_X7_init_822 ?_
  refine lc_ic a_X7_init_824 ?_
  refine lc_iast (q0 := 15) (k := 66) (v := 114) a_X7_init_826 rfl (Nat.le_of_ble_eq_true rfl) (by decide) rfl ?_
  refine lc_dup a_X7_init_827 ?_
  refine lc_ic a_X7_init_828 ?_
  refine lc_ic a_X7_init_830 ?_
  refine lc_iast (q0 := 15) (k := 67) (v := 101) a_X7_init_832 rfl (Nat.le_of_ble_eq_true rfl) (by decide) rfl ?_
  refine lc_dup a_X7_init_833 ?_
  refine lc_ic a_X7_init_834 ?_
  refine lc_ic a_X7_init_836 ?_
  refine lc_iast (q0 := 15) (k := 68) (v := 32) a_X7_init_838 rfl (Nat.le_of_ble_eq_true rfl) (by decide) rfl ?_
  refine lc_dup a_X7_init_839 ?_
  refine lc_ic a_X7_init_840 ?_
  refine lc_ic a_X7_init_842 ?_
  refine lc_iast (q0 := 15) (k := 69) (v := 32) a_X7_init_844 rfl (Nat.le_of_ble_eq_true rfl) (by decide) rfl ?_
  refine lc_dup a_X7_init_845 ?_
  refine lc_ic a_X7_init_846 ?_
  refine lc_ic a_X7_init_848 ?_
  refine lc_iast (q0 := 15) (k := 70) (v := 32) a_X7_init_850 rfl (Nat.le_of_ble_eq_true rfl) (by decide) rfl ?_
  refine lc_dup a_X7_init_851 ?_
  refine lc_ic a_X7_init_852 ?_
  refine lc_ic a_X7_init_854 ?_
  refine lc_iast (q0 := 15) (k := 71) (v := 32) a_X7_init_856 rfl (Nat.le_of_ble_eq_true rfl) (by decide) rfl ?_
  refine lc_dup a_X7_init_857 ?_
  refine lc_ic a_X7_init_858 ?_
  refine lc_ic a_X7_init_860 ?_
  refine lc_iast (q0 := 15) (k := 72) (v := 111) a_X7_init_862 rfl (Nat.le_of_ble_eq_true rfl) (by decide) rfl ?_
  refine lc_dup a_X7_init_863 ?_
  refine lc_ic a_X7_init_864 ?_
  refine lc_ic a_X7_init_866 ?_
  refine lc_iast (q0 := 15) (k := 73) (v := 114) a_X7_init_868 rfl (Nat.le_of_ble_eq_true rfl) (by decide) rfl ?_
  refine lc_dup a_X7_init_869 ?_
  refine lc_ic a_X7_init_870 ?_
  refine lc_ic a_X7_init_872 ?_
  exact nx
theorem lp_X7_i17 {w : Wd} {Af : Nat → Prop} {Z : Array Value → State → Outcome → State → Prop} {a q7 q15 q23 q31 q39 q48 q57 q65 q73 q80 q87 q110 q119 q127 q429 : Nat} (nx : lc_W w (rm_c 10 25 2358) Af jX7_init Z 25 2358 928 [some (vr (some a)), none] [vi 32, vi 83, vr (some q429), vr (some q429), vr (some a)] 15 1782 [(a, .inr (6, [.int 0, .ref q7, .ref q15, .ref q23, .ref q31, .ref q39, .int 0, .int 0, .ref q48, .int 0, .ref q57, .ref q65, .int 0, .int 0, .int 0, .ref q73, .ref q80, .ref q87, .ref q110, .ref q119, .ref q127, .int 0, .int 0, .int 0, .int 0, .null, .null, .int 0, .int 0, .int 0, .null, .null, .null, .null, .null, .null, .int 0, .int 0, .int 0, .null, .null, .null])), (q7, .inl (wdC w 0, 8, .inl (fun _ => 0))), (q15, .inl (wdC w 0, 8, .inl (fun _ => 0))), (q23, .inl (wdC w 0, 16, .inl (fun _ => 0))), (q31, .inl (wdC w 0, 8, .inl (fun _ => 0))), (q39, .inl (wdC w 0, 8, .inl (fun _ => 0))), (q48, .inl (wdC w 0, 160, .inl (fun _ => 0))), (q57, .inl (wdC w 0, 1200, .inl (fun _ => 0))), (q65, .inl (wdC w 0, 24, .inl (fun _ => 0))), (q73, .inl (wdC w 0, 32, .inl (fun _ => 0))), (q80, .inl (wdC w 0, 4, .inl (fun _ => 0))), (q87, .inl (wdC w 0, 4, .inl (upd (upd (upd (upd (fun _ => 0) 0 (-1)) 1 (-1)) 2 (-1)) 3 (-1)))), (q110, .inl (wdC w 0, 4, .inl (fun _ => 0))), (q119, .inl (wdC w 0, 160, .inl (fun _ => 0))), (q127, .inl (wdC w 0, 50, .inl (upd (upd (upd (upd (upd (upd (upd (upd (upd (upd (upd (upd (upd (upd (upd (upd (upd (upd (upd (upd (upd (upd (upd (upd (upd (upd (upd (upd (upd (upd (upd (upd (upd (upd (upd (upd (upd (upd (upd (upd (upd (upd (upd (upd (upd (upd (upd (upd (upd (upd (fun _ => 0) 0 116) 1 97) 2 108) 3 108) 4 32) 5 104) 6 101) 7 105) 8 103) 9 104) 10 116) 11 32) 12 59) 13 32) 14 98) 15 101) 16 97) 17 114) 18 115) 19 32) 20 115) 21 116) 22 114) 23 111) 24 110) 25 103) 26 32) 27 59) 28 32) 29 99) 30 111) 31 109) 32 101) 33 115) 34 32) 35 56) 36 48) 37 32) 38 45) 39 32) 40 114) 41 117) 42 115) 43 116) 44 32) 45 42) 46 32) 47 53) 48 32) 49 59))), (q429, .inl (wdC w 0, 96, .inl (upd (upd (upd (upd (upd (upd (upd (upd (upd (upd (upd (upd (upd (upd (upd (upd (upd (upd (upd (upd (upd (upd (upd (upd (upd (upd (upd (upd (upd (upd (upd (upd (upd (upd (upd (upd (upd (upd (upd (upd (upd (upd (upd (upd (upd (upd (upd (upd (upd (upd (upd (upd (upd (upd (upd (upd (upd (upd (upd (upd (upd (upd (upd (upd (upd (upd (upd (upd (upd (upd (upd (upd (upd (upd (upd (upd (upd (upd (upd (upd (upd (upd (upd (fun _ => 0) 0 116) 1 97) 2 108) 3 108) 4 32) 5 32) 6 32) 7 32) 8 98) 9 101) 10 97) 11 114) 12 115) 13 32) 14 32) 15 32) 16 99) 17 111) 18 109) 19 101) 20 115) 21 32) 22 32) 23 32) 24 104) 25 101) 26 105) 27 103) 28 104) 29 116) 30 32) 31 32) 32 115) 33 116) 34 114) 35 111) 36 110) 37 103) 38 32) 39 32) 40 114) 41 117) 42 115) 43 116) 44 32) 45 32) 46 32) 47 32) 48 114) 49 117) 50 110) 51 103) 52 32) 53 32) 54 32) 55 32) 56 115) 57 97) 58 118) 59 101) 60 100) 61 32) 62 32) 63 32) 64 109) 65 111) 66 114) 67 101) 68 32) 69 32) 70 32) 71 32) 72 111) 73 114) 74 32) 75 32) 76 32) 77 32) 78 32) 79 32) 80 97) 81 110) 82 100)))]) : lc_W w (rm_c 10 25 2358) Af jX7_init Z 25 2358 874 [some (vr (some a)), none] [vi 32, vi 74, vr (some q429), vr (some q429), vr (some a)] 15 1782 [(a, .inr (6, [.int 0, .ref q7, .ref q15, .ref q23, .ref q31, .ref q39, .int 0, .int 0, .ref q48, .int 0, .ref q57, .ref q65, .int 0, .int 0, .int 0, .ref q73, .ref q80, .ref q87, .ref q110, .ref q119, .ref q127, .int 0, .int 0, .int 0, .int 0, .null, .null, .int 0, .int 0, .int 0, .null, .null, .null, .null, .null, .null, .int 0, .int 0, .int 0, .null, .null, .null])), (q7, .inl (wdC w 0, 8, .inl (fun _ => 0))), (q15, .inl (wdC w 0, 8, .inl (fun _ => 0))), (q23, .inl (wdC w 0, 16, .inl (fun _ => 0))), (q31, .inl (wdC w 0, 8, .inl (fun _ => 0))), (q39, .inl (wdC w 0, 8, .inl (fun _ => 0))), (q48, .inl (wdC w 0, 160, .inl (fun _ => 0))), (q57, .inl (wdC w 0, 1200, .inl (fun _ => 0))), (q65, .inl (wdC w 0, 24, .inl (fun _ => 0))), (q73, .inl (wdC w 0, 32, .inl (fun _ => 0))), (q80, .inl (wdC w 0, 4, .inl (fun _ => 0))), (q87, .inl (wdC w 0, 4, .inl (upd (upd (upd (upd (fun _ => 0) 0 (-1)) 1 (-1)) 2 (-1)) 3 (-1)))), (q110, .inl (wdC w 0, 4, .inl (fun _ => 0))), (q119, .inl (wdC w 0, 160, .inl (fun _ => 0))), (q127, .inl (wdC w 0, 50, .inl (upd (upd (upd (upd (upd (upd (upd (upd (upd (upd (upd (upd (upd (upd (upd (upd (upd (upd (upd (upd (upd (upd (upd (upd (upd (upd (upd (upd (upd (upd (upd (upd (upd (upd (upd (upd (upd (upd (upd (upd (upd (upd (upd (upd (upd (upd (upd (upd (upd (upd (fun _ => 0) 0 116) 1 97) 2 108) 3 108) 4 32) 5 104) 6 101) 7 105) 8 103) 9 104) 10 116) 11 32) 12 59) 13 32) 14 98) 15 101) 16 97) 17 114) 18 115) 19 32) 20 115) 21 116) 22 114) 23 111) 24 110) 25 103) 26 32) 27 59) 28 32) 29 99) 30 111) 31 109) 32 101) 33 115) 34 32) 35 56) 36 48) 37 32) 38 45) 39 32) 40 114) 41 117) 42 115) 43 116) 44 32) 45 42) 46 32) 47 53) 48 32) 49 59))), (q429, .inl (wdC w 0, 96, .inl (upd (upd (upd (upd (upd (upd (upd (upd (upd (upd (upd (upd (upd (upd (upd (upd (upd (upd (upd (upd (upd (upd (upd (upd (upd (upd (upd (upd (upd (upd (upd (upd (upd (upd (upd (upd (upd (upd (upd (upd (upd (upd (upd (upd (upd (upd (upd (upd (upd (upd (upd (upd (upd (upd (upd (upd (upd (upd (upd (upd (upd (upd (upd (upd (upd (upd (upd (upd (upd (upd (upd (upd (upd (upd (fun _ => 0) 0 116) 1 97) 2 108) 3 108) 4 32) 5 32) 6 32) 7 32) 8 98) 9 101) 10 97) 11 114) 12 115) 13 32) 14 32) 15 32) 16 99) 17 111) 18 109) 19 101) 20 115) 21 32) 22 32) 23 32) 24 104) 25 101) 26 105) 27 103) 28 104) 29 116) 30 32) 31 32) 32 115) 33 116) 34 114) 35 111) 36 110) 37 103) 38 32) 39 32) 40 114) 41 117) 42 115) 43 116) 44 32) 45 32) 46 32) 47 32) 48 114) 49 117) 50 110) 51 103) 52 32) 53 32) 54 32) 55 32) 56 115) 57 97) 58 118) 59 101) 60 100) 61 32) 62 32) 63 32) 64 109) 65 111) 66 114) 67 101) 68 32) 69 32) 70 32) 71 32) 72 111) 73 114)))] := by
  refine lc_iast (q0 := 15) (k := 74) (v := 32) a_X7_init_874 rfl (Nat.le_of_ble_eq_true rfl) (by decide) rfl ?_
  refine lc_dup a_X7_init_875 ?_
  refine lc_ic a_X7_init_876 ?_
  refine lc_ic a_X7_init_878 ?_
  refine lc_iast (q0 := 15) (k := 75) (v := 32) a_X7_init_880 rfl (Nat.le_of_ble_eq_true rfl) (by decide) rfl ?_
  refine lc_dup a_X7_init_881 ?_
  refine lc_ic a_X7_init_882 ?_
  refine lc_ic a_X7_init_884 ?_
  refine lc_iast (q0 := 15) (k := 76) (v := 32) a_X7_init_886 rfl (Nat.le_of_ble_eq_true rfl) (by decide) rfl ?_
  refine lc_dup a_X7_init_887 ?_
  refine lc_ic a_X7_init_888 ?_
  refine lc_ic a_X7_init_890 ?_
  refine lc_iast (q0 := 15) (k := 77) (v := 32) a_X7_init_892 rfl (Nat.le_of_ble_eq_true rfl) (by decide) rfl ?_
  refine lc_dup a_X7_init_893 ?_
  refine lc_ic a_X7_init_894 ?_
  refine lc_ic a_X7_init_896 ?_
  refine lc_iast (q0 := 15) (k := 78) (v := 32) a_X7_init_898 rfl (Nat.le_of_ble_eq_true rfl) (by decide) rfl ?_
  refine lc_dup a_X7_init_899 ?_
  refine lc_ic a_X7_init_900 ?_
  refine lc_ic a_X7_init_902 ?_
  refine lc_iast (q0 := 15) (k := 79) (v := 32) a_X7_init_904 rfl (Nat.le_of_ble_eq_true rfl) (by decide) rfl ?_
  refine lc_dup a_X7_init_905 ?_
  refine lc_ic a_X7_init_906 ?_
  refine lc_ic a_X7_init_908 ?_
  refine lc_iast (q0 := 15) (k := 80) (v := 97) a_X7_init_910 rfl (Nat.le_of_ble_eq_true rfl) (by decide) rfl ?_
  refine lc_dup a_X7_init_911 ?_
  refine lc_ic a_X7_init_912 ?_
  refine lc_ic a_X7_init_914 ?_
  refine lc_iast (q0 := 15) (k := 81) (v := 110) a_X7_init_916 rfl (Nat.le_of_ble_eq_true rfl) (by decide) rfl ?_
  refine lc_dup a_X7_init_917 ?_
  refine lc_ic a_X7_init_918 ?_
  refine lc_ic a_X7_init_920 ?_
  refine lc_iast (q0 := 15) (k := 82) (v := 100) a_X7_init_922 rfl (Nat.le_of_ble_eq_true rfl) (by decide) rfl ?_
  refine lc_dup a_X7_init_923 ?_
  refine lc_ic a_X7_init_924 ?_
  refine lc_ic a_X7_init_926 ?_
  exact nx
theorem lp_X7_i18 {w : Wd} {Af : Nat → Prop} {Z : Array Value → State → Outcome → State → Prop} {a q7 q15 q23 q31 q39 q48 q57 q65 q73 q80 q87 q110 q119 q127 q429 : Nat} (nx : lc_W w (rm_c 10 25 2358) Af jX7_init Z 25 2358 982 [some (vr (some a)), none] [vi 32, vi 92, vr (some q429), vr (some q429), vr (some a)] 15 1782 [(a, .inr (6, [.int 0, .ref q7, .ref q15, .ref q23, .ref q31, .ref q39, .int 0, .int 0, .ref q48, .int 0, .ref q57, .ref q65, .int 0, .int 0, .int 0, .ref q73, .ref q80, .ref q87, .ref q110, .ref q119, .ref q127, .int 0, .int 0, .int 0, .int 0, .null, .null, .int 0, .int 0, .int 0, .null, .null, .null, .null, .null, .null, .int 0, .int 0, .int 0, .null, .null, .null])), (q7, .inl (wdC w 0, 8, .inl (fun _ => 0))), (q15, .inl (wdC w 0, 8, .inl (fun _ => 0))), (q23, .inl (wdC w 0, 16, .inl (fun _ => 0))), (q31, .inl (wdC w 0, 8, .inl (fun _ => 0))), (q39, .inl (wdC w 0, 8, .inl (fun _ => 0))), (q48, .inl (wdC w 0, 160, .inl (fun _ => 0))), (q57, .inl (wdC w 0, 1200, .inl (fun _ => 0))), (q65, .inl (wdC w 0, 24, .inl (fun _ => 0))), (q73, .inl (wdC w 0, 32, .inl (fun _ => 0))), (q80, .inl (wdC w 0, 4, .inl (fun _ => 0))), (q87, .inl (wdC w 0, 4, .inl (upd (upd (upd (upd (fun _ => 0) 0 (-1)) 1 (-1)) 2 (-1)) 3 (-1)))), (q110, .inl (wdC w 0, 4, .inl (fun _ => 0))), (q119, .inl (wdC w 0, 160, .inl (fun _ => 0))), (q127, .inl (wdC w 0, 50, .inl (upd (upd (upd (upd (upd (upd (upd (upd (upd (upd (upd (upd (upd (upd (upd (upd (upd (upd (upd (upd (upd (upd (upd (upd (upd (upd (upd (upd (upd (upd (upd (upd (upd (upd (upd (upd (upd (upd (upd (upd (upd (upd (upd (upd (upd (upd (upd (upd (upd (upd (fun _ => 0) 0 116) 1 97) 2 108) 3 108) 4 32) 5 104) 6 101) 7 105) 8 103) 9 104) 10 116) 11 32) 12 59) 13 32) 14 98) 15 101) 16 97) 17 114) 18 115) 19 32) 20 115) 21 116) 22 114) 23 111) 24 110) 25 103) 26 32) 27 59) 28 32) 29 99) 30 111) 31 109) 32 101) 33 115) 34 32) 35 56) 36 48) 37 32) 38 45) 39 32) 40 114) 41 117) 42 115) 43 116) 44 32) 45 42) 46 32) 47 53) 48 32) 49 59))), (q429, .inl (wdC w 0, 96, .inl (upd (upd (upd (upd (upd (upd (upd (upd (upd (upd (upd (upd (upd (upd (upd (upd (upd (upd (upd (upd (upd (upd (upd (upd (upd (upd (upd (upd (upd (upd (upd (upd (upd (upd (upd (upd (upd (upd (upd (upd (upd (upd (upd (upd (upd (upd (upd (upd (upd (upd (upd (upd (upd (upd (upd (upd (upd (upd (upd (upd (upd (upd (upd (upd (upd (upd (upd (upd (upd (upd (upd (upd (upd (upd (upd (upd (upd (upd (upd (upd (upd (upd (upd (upd (upd (upd (upd (upd (upd (upd (upd (upd (fun _ => 0) 0 116) 1 97) 2 108) 3 108) 4 32) 5 32) 6 32) 7 32) 8 98) 9 101) 10 97) 11 114) 12 115) 13 32) 14 32) 15 32) 16 99) 17 111) 18 109) 19 101) 20 115) 21 32) 22 32) 23 32) 24 104) 25 101) 26 105) 27 103) 28 104) 29 116) 30 32) 31 32) 32 115) 33 116) 34 114) 35 111) 36 110) 37 103) 38 32) 39 32) 40 114) 41 117) 42 115) 43 116) 44 32) 45 32) 46 32) 47 32) 48 114) 49 117) 50 110) 51 103) 52 32) 53 32) 54 32) 55 32) 56 115) 57 97) 58 118) 59 101) 60 100) 61 32) 62 32) 63 32) 64 109) 65 111) 66 114) 67 101) 68 32) 69 32) 70 32) 71 32) 72 111) 73 114) 74 32) 75 32) 76 32) 77 32) 78 32) 79 32) 80 97) 81 110) 82 100) 83 32) 84 32) 85 32) 86 32) 87 32) 88 110) 89 111) 90 116) 91 32)))]) : lc_W w (rm_c 10 25 2358) Af jX7_init Z 25 2358 928 [some (vr (some a)), none] [vi 32, vi 83, vr (some q429), vr (some q429), vr (some a)] 15 1782 [(a, .inr (6, [.int 0, .ref q7, .ref q15, .ref q23, .ref q31, .ref q39, .int 0, .int 0, .ref q48, .int 0, .ref q57, .ref q65, .int 0, .int 0, .int 0, .ref q73, .ref q80, .ref q87, .ref q110, .ref q119, .ref q127, .int 0, .int 0, .int 0, .int 0, .null, .null, .int 0, .int 0, .int 0, .null, .null, .null, .null, .null, .null, .int 0, .int 0, .int 0, .null, .null, .null])), (q7, .inl (wdC w 0, 8, .inl (fun _ => 0))), (q15, .inl (wdC w 0, 8, .inl (fun _ => 0))), (q23, .inl (wdC w 0, 16, .inl (fun _ => 0))), (q31, .inl (wdC w 0, 8, .inl (fun _ => 0))), (q39, .inl (wdC w 0, 8, .inl (fun _ => 0))), (q48, .inl (wdC w 0, 160, .inl (fun _ => 0))), (q57, .inl (wdC w 0, 1200, .inl (fun _ => 0))), (q65, .inl (wdC w 0, 24, .inl (fun _ => 0))), (q73, .inl (wdC w 0, 32, .inl (fun _ => 0))), (q80, .inl (wdC w 0, 4, .inl (fun _ => 0))), (q87, .inl (wdC w 0, 4, .inl (upd (upd (upd (upd (fun _ => 0) 0 (-1)) 1 (-1)) 2 (-1)) 3 (-1)))), (q110, .inl (wdC w 0, 4, .inl (fun _ => 0))), (q119, .inl (wdC w 0, 160, .inl (fun _ => 0))), (q127, .inl (wdC w 0, 50, .inl (upd (upd (upd (upd (upd (upd (upd (upd (upd (upd (upd (upd (upd (upd (upd (upd (upd (upd (upd (upd (upd (upd (upd (upd (upd (upd (upd (upd (upd (upd (upd (upd (upd (upd (upd (upd (upd (upd (upd (upd (upd (upd (upd (upd (upd (upd (upd (upd (upd (upd (fun _ => 0) 0 116) 1 97) 2 108) 3 108) 4 32) 5 104) 6 101) 7 105) 8 103) 9 104) 10 116) 11 32) 12 59) 13 32) 14 98) 15 101) 16 97) 17 114) 18 115) 19 32) 20 115) 21 116) 22 114) 23 111) 24 110) 25 103) 26 32) 27 59) 28 32) 29 99) 30 111) 31 109) 32 101) 33 115) 34 32) 35 56) 36 48) 37 32) 38 45) 39 32) 40 114) 41 117) 42 115) 43 116) 44 32) 45 42) 46 32) 47 53) 48 32) 49 59))), (q429, .inl (wdC w 0, 96, .inl (upd (upd (upd (upd (upd (upd (upd (upd (upd (upd (upd (upd (upd (upd (upd (upd (upd (upd (upd (upd (upd (upd (upd (upd (upd (upd (upd (upd (upd (upd (upd (upd (upd (upd (upd (upd (upd (upd (upd (upd (upd (upd (upd (upd (upd (upd (upd (upd (upd (upd (upd (upd (upd (upd (upd (upd (upd (upd (upd (upd (upd (upd (upd (upd (upd (upd (upd (upd (upd (upd (upd (upd (upd (upd (upd (upd (upd (upd (upd (upd (upd (upd (upd (fun _ => 0) 0 116) 1 97) 2 108) 3 108) 4 32) 5 32) 6 32) 7 32) 8 98) 9 101) 10 97) 11 114) 12 115) 13 32) 14 32) 15 32) 16 99) 17 111) 18 109) 19 101) 20 115) 21 32) 22 32) 23 32) 24 104) 25 101) 26 105) 27 103) 28 104) 29 116) 30 32) 31 32) 32 115) 33 116) 34 114) 35 111) 36 110) 37 103) 38 32) 39 32) 40 114) 41 117) 42 115) 43 116) 44 32) 45 32) 46 32) 47 32) 48 114) 49 117) 50 110) 51 103) 52 32) 53 32) 54 32) 55 32) 56 115) 57 97) 58 118) 59 101) 60 100) 61 32) 62 32) 63 32) 64 109) 65 111) 66 114) 67 101) 68 32) 69 32) 70 32) 71 32) 72 111) 73 114) 74 32) 75 32) 76 32) 77 32) 78 32) 79 32) 80 97) 81 110) 82 100)))] := by
  refine lc_iast (q0 := 15) (k := 83) (v := 32) a_X7_init_928 rfl (Nat.le_of_ble_eq_true rfl) (by decide) rfl ?_
  refine lc_dup a_X7_init_929 ?_
  refine lc_ic a_X7_init_930 ?_
  refine lc_ic a_X7_init_932 ?_
  refine lc_iast (q0 := 15) (k := 84) (v := 32) a_X7_init_934 rfl (Nat.le_of_ble_eq_true rfl) (by decide) rfl ?_
  refine lc_dup a_X7_init_935 ?_
  refine lc_ic a_X7_init_936 ?_
  refine lc_ic a_X7_init_938 ?_
  refine lc_iast (q0 := 15) (k := 85) (v := 32) a_X7_init_940 rfl (Nat.le_of_ble_eq_true rfl) (by decide) rfl ?_
  refine lc_dup a_X7_init_941 ?_
  refine lc_ic a_X7_init_942 ?_
  refine lc_ic a_X7_init_944 ?_
  refine lc_iast (q0 := 15) (k := 86) (v := 32) a_X7_init_946 rfl (Nat.le_of_ble_eq_true rfl) (by decide) rfl ?_
  refine lc_dup a_X7_init_947 ?_
  refine lc_ic a_X7_init_948 ?_
  refine lc_ic a_X7_init_950 ?_
  refine lc_iast (q0 := 15) (k := 87) (v := 32) a_X7_init_952 rfl (Nat.le_of_ble_eq_true rfl) (by decide) rfl ?_
  refine lc_dup a_X7_init_953 ?_
  refine lc_ic a_X7_init_954 ?_
  refine lc_ic a_X7_init_956 ?_
  refine lc_iast (q0 := 15) (k := 88) (v := 110) a_X7_init_958 rfl (Nat.le_of_ble_eq_true rfl) (by decide) rfl ?_
  refine lc_dup a_X7_init_959 ?_
  refine lc_ic a_X7_init_960 ?_
  refine lc_ic a_X7_init_962 ?_
  refine lc_iast (q0 := 15) (k := 89) (v := 111) a_X7_init_964 rfl (Nat.le_of_ble_eq_true rfl) (by decide) rfl ?_
  refine lc_dup a_X7_init_965 ?_
  refine lc_ic a_X7_init_966 ?_
  refine lc_ic a_X7_init_968 ?_
  refine lc_iast (q0 := 15) (k := 90) (v := 116) a_X7_init_970 rfl (Nat.le_of_ble_eq_true rfl) (by decide) rfl ?_
  refine lc_dup a_X7_init_971 ?_
  refine lc_ic a_X7_init_972 ?_
  refine lc_ic a_X7_init_974 ?_
  refine lc_iast (q0 := 15) (k := 91) (v := 32) a_X7_init_976 rfl (Nat.le_of_ble_eq_true rfl) (by decide) rfl ?_
  refine lc_dup a_X7_init_977 ?_
  refine lc_ic a_X7_init_978 ?_
  refine lc_ic a_X7_init_980 ?_
  exact nx
theorem lp_X7_i19 {w : Wd} {Af : Nat → Prop} {Z : Array Value → State → Outcome → State → Prop} {a q7 q15 q23 q31 q39 q48 q57 q65 q73 q80 q87 q110 q119 q127 q429 : Nat} (nx : ∀ q1008 q1017 q1025 q1033 q1041, lc_W w (rm_c 10 25 2358) Af jX7_init Z 25 2358 1049 [some (vr (some a)), none] [vi 8, vr (some a)] 20 2316 [(a, .inr (6, [.int 0, .ref q7, .ref q15, .ref q23, .ref q31, .ref q39, .int 0, .int 0, .ref q48, .int 0, .ref q57, .ref q65, .int 0, .int 0, .int 0, .ref q73, .ref q80, .ref q87, .ref q110, .ref q119, .ref q127, .int 0, .int 0, .int 0, .int 0, .ref q429, .ref q1008, .int 0, .int 0, .int 0, .ref q1017, .ref q1025, .ref q1033, .ref q1041, .null, .null, .int 0, .int 0, .int 0, .null, .null, .null])), (q7, .inl (wdC w 0, 8, .inl (fun _ => 0))), (q15, .inl (wdC w 0, 8, .inl (fun _ => 0))), (q23, .inl (wdC w 0, 16, .inl (fun _ => 0))), (q31, .inl (wdC w 0, 8, .inl (fun _ => 0))), (q39, .inl (wdC w 0, 8, .inl (fun _ => 0))), (q48, .inl (wdC w 0, 160, .inl (fun _ => 0))), (q57, .inl (wdC w 0, 1200, .inl (fun _ => 0))), (q65, .inl (wdC w 0, 24, .inl (fun _ => 0))), (q73, .inl (wdC w 0, 32, .inl (fun _ => 0))), (q80, .inl (wdC w 0, 4, .inl (fun _ => 0))), (q87, .inl (wdC w 0, 4, .inl (upd (upd (upd (upd (fun _ => 0) 0 (-1)) 1 (-1)) 2 (-1)) 3 (-1)))), (q110, .inl (wdC w 0, 4, .inl (fun _ => 0))), (q119, .inl (wdC w 0, 160, .inl (fun _ => 0))), (q127, .inl (wdC w 0, 50, .inl (upd (upd (upd (upd (upd (upd (upd (upd (upd (upd (upd (upd (upd (upd (upd (upd (upd (upd (upd (upd (upd (upd (upd (upd (upd (upd (upd (upd (upd (upd (upd (upd (upd (upd (upd (upd (upd (upd (upd (upd (upd (upd (upd (upd (upd (upd (upd (upd (upd (upd (fun _ => 0) 0 116) 1 97) 2 108) 3 108) 4 32) 5 104) 6 101) 7 105) 8 103) 9 104) 10 116) 11 32) 12 59) 13 32) 14 98) 15 101) 16 97) 17 114) 18 115) 19 32) 20 115) 21 116) 22 114) 23 111) 24 110) 25 103) 26 32) 27 59) 28 32) 29 99) 30 111) 31 109) 32 101) 33 115) 34 32) 35 56) 36 48) 37 32) 38 45) 39 32) 40 114) 41 117) 42 115) 43 116) 44 32) 45 42) 46 32) 47 53) 48 32) 49 59))), (q429, .inl (wdC w 0, 96, .inl (upd (upd (upd (upd (upd (upd (upd (upd (upd (upd (upd (upd (upd (upd (upd (upd (upd (upd (upd (upd (upd (upd (upd (upd (upd (upd (upd (upd (upd (upd (upd (upd (upd (upd (upd (upd (upd (upd (upd (upd (upd (upd (upd (upd (upd (upd (upd (upd (upd (upd (upd (upd (upd (upd (upd (upd (upd (upd (upd (upd (upd (upd (upd (upd (upd (upd (upd (upd (upd (upd (upd (upd (upd (upd (upd (upd (upd (upd (upd (upd (upd (upd (upd (upd (upd (upd (upd (upd (upd (upd (upd (upd (upd (upd (upd (upd (fun _ => 0) 0 116) 1 97) 2 108) 3 108) 4 32) 5 32) 6 32) 7 32) 8 98) 9 101) 10 97) 11 114) 12 115) 13 32) 14 32) 15 32) 16 99) 17 111) 18 109) 19 101) 20 115) 21 32) 22 32) 23 32) 24 104) 25 101) 26 105) 27 103) 28 104) 29 116) 30 32) 31 32) 32 115) 33 116) 34 114) 35 111) 36 110) 37 103) 38 32) 39 32) 40 114) 41 117) 42 115) 43 116) 44 32) 45 32) 46 32) 47 32) 48 114) 49 117) 50 110) 51 103) 52 32) 53 32) 54 32) 55 32) 56 115) 57 97) 58 118) 59 101) 60 100) 61 32) 62 32) 63 32) 64 109) 65 111) 66 114) 67 101) 68 32) 69 32) 70 32) 71 32) 72 111) 73 114) 74 32) 75 32) 76 32) 77 32) 78 32) 79 32) 80 97) 81 110) 82 100) 83 32) 84 32) 85 32) 86 32) 87 32) 88 110) 89 111) 90 116) 91 32) 92 32) 93 32) 94 32) 95 32))), (q1008, .inl (wdC w 0, 200, .inl (fun _ => 0))), (q1017, .inl (wdC w 0, 200, .inl (fun _ => 0))), (q1025, .inl (wdC w 0, 6, .inl (fun _ => 0))), (q1033, .inl (wdC w 0, 64, .inl (fun _ => 0))), (q1041, .inl (wdC w 0, 64, .inl (fun _ => 0)))]) : lc_W w (rm_c 10 25 2358) Af jX7_init Z 25 2358 982 [some (vr (some a)), none] [vi 32, vi 92, vr (some q429), vr (some q429), vr (some a)] 15 1782 [(a, .inr (6, [.int 0, .ref q7, .ref q15, .ref q23, .ref q31, .ref q39, .int 0, .int 0, .ref q48, .int 0, .ref q57, .ref q65, .int 0, .int 0, .int 0, .ref q73, .ref q80, .ref q87, .ref q110, .ref q119, .ref q127, .int 0, .int 0, .int 0, .int 0, .null, .null, .int 0, .int 0, .int 0, .null, .null, .null, .null, .null, .null, .int 0, .int 0, .int 0, .null, .null, .null])), (q7, .inl (wdC w 0, 8, .inl (fun _ => 0))), (q15, .inl (wdC w 0, 8, .inl (fun _ => 0))), (q23, .inl (wdC w 0, 16, .inl (fun _ => 0))), (q31, .inl (wdC w 0, 8, .inl (fun _ => 0))), (q39, .inl (wdC w 0, 8, .inl (fun _ => 0))), (q48, .inl (wdC w 0, 160, .inl (fun _ => 0))), (q57, .inl (wdC w 0, 1200, .inl (fun _ => 0))), (q65, .inl (wdC w 0, 24, .inl (fun _ => 0))), (q73, .inl (wdC w 0, 32, .inl (fun _ => 0))), (q80, .inl (wdC w 0, 4, .inl (fun _ => 0))), (q87, .inl (wdC w 0, 4, .inl (upd (upd (upd (upd (fun _ => 0) 0 (-1)) 1 (-1)) 2 (-1)) 3 (-1)))), (q110, .inl (wdC w 0, 4, .inl (fun _ => 0))), (q119, .inl (wdC w 0, 160, .inl (fun _ => 0))), (q127, .inl (wdC w 0, 50, .inl (upd (upd (upd (upd (upd (upd (upd (upd (upd (upd (upd (upd (upd (upd (upd (upd (upd (upd (upd (upd (upd (upd (upd (upd (upd (upd (upd (upd (upd (upd (upd (upd (upd (upd (upd (upd (upd (upd (upd (upd (upd (upd (upd (upd (upd (upd (upd (upd (upd (upd (fun _ => 0) 0 116) 1 97) 2 108) 3 108) 4 32) 5 104) 6 101) 7 105) 8 103) 9 104) 10 116) 11 32) 12 59) 13 32) 14 98) 15 101) 16 97) 17 114) 18 115) 19 32) 20 115) 21 116) 22 114) 23 111) 24 110) 25 103) 26 32) 27 59) 28 32) 29 99) 30 111) 31 109) 32 101) 33 115) 34 32) 35 56) 36 48) 37 32) 38 45) 39 32) 40 114) 41 117) 42 115) 43 116) 44 32) 45 42) 46 32) 47 53) 48 32) 49 59))), (q429, .inl (wdC w 0, 96, .inl (upd (upd (upd (upd (upd (upd (upd (upd (upd (upd (upd (upd (upd (upd (upd (upd (upd (upd (upd (upd (upd (upd (upd (upd (upd (upd (upd (upd (upd (upd (upd (upd (upd (upd (upd (upd (upd (upd (upd (upd (upd (upd (upd (upd (upd (upd (upd (upd (upd (upd (upd (upd (upd (upd (upd (upd (upd (upd (upd (upd (upd (upd (upd (upd (upd (upd (upd (upd (upd (upd (upd (upd (upd (upd (upd (upd (upd (upd (upd (upd (upd (upd (upd (upd (upd (upd (upd (upd (upd (upd (upd (upd (fun _ => 0) 0 116) 1 97) 2 108) 3 108) 4 32) 5 32) 6 32) 7 32) 8 98) 9 101) 10 97) 11 114) 12 115) 13 32) 14 32) 15 32) 16 99) 17 111) 18 109) 19 101) 20 115) 21 32) 22 32) 23 32) 24 104) 25 101) 26 105) 27 103) 28 104) 29 116) 30 32) 31 32) 32 115) 33 116) 34 114) 35 111) 36 110) 37 103) 38 32) 39 32) 40 114) 41 117) 42 115) 43 116) 44 32) 45 32) 46 32) 47 32) 48 114) 49 117) 50 110) 51 103) 52 32) 53 32) 54 32) 55 32) 56 115) 57 97) 58 118) 59 101) 60 100) 61 32) 62 32) 63 32) 64 109) 65 111) 66 114) 67 101) 68 32) 69 32) 70 32) 71 32) 72 111) 73 114) 74 32) 75 32) 76 32) 77 32) 78 32) 79 32) 80 97) 81 110) 82 100) 83 32) 84 32) 85 32) 86 32) 87 32) 88 110) 89 111) 90 116) 91 32)))] := by
  refine lc_iast (q0 := 15) (k := 92) (v := 32) a_X7_init_982 rfl (Nat.le_of_ble_eq_true rfl) (by decide) rfl ?_
  refine lc_dup a_X7_init_983 ?_
  refine lc_ic a_X7_init_984 ?_
  refine lc_ic a_X7_init_986 ?_
  refine lc_iast (q0 := 15) (k := 93) (v := 32) a_X7_init_988 rfl (Nat.le_of_ble_eq_true rfl) (by decide) rfl ?_
  refine lc_dup a_X7_init_989 ?_
  refine lc_ic a_X7_init_990 ?_
  refine lc_ic a_X7_init_992 ?_
  refine lc_iast (q0 := 15) (k := 94) (v := 32) a_X7_init_994 rfl (Nat.le_of_ble_eq_true rfl) (by decide) rfl ?_
  refine lc_dup a_X7_init_995 ?_
  refine lc_ic a_X7_init_996 ?_
  refine lc_ic a_X7_init_998 ?_
  refine lc_iast (q0 := 15) (k := 95) (v := 32) a_X7_init_1000 rfl (Nat.le_of_ble_eq_true rfl) (by decide) rfl ?_
  refine lc_putF (q0 := 0) (ci := 6) (k := 25) (ty := (.array .int)) a_X7_init_1001 rfl rfl rfl (by decide) (Nat.le_of_ble_eq_true rfl) rfl (by decide +kernel) rfl (aw_in (by decide +kernel) rfl) rfl rfl rfl ?_
  refine lc_ald a_X7_init_1004 rfl ?_
  refine lc_ic a_X7_init_1005 ?_
  refine lc_newa (N := 200) a_X7_init_1008 (aw_in (by decide +kernel) rfl) (by decide) (by decide) (by decide) (fun q1008 => ?_)
  refine lc_putF (q0 := 0) (ci := 6) (k := 26) (ty := (.array .int)) a_X7_init_1010 rfl rfl rfl (by decide) (Nat.le_of_ble_eq_true rfl) rfl (by decide +kernel) rfl (aw_in (by decide +kernel) rfl) rfl rfl rfl ?_
  refine lc_ald a_X7_init_1013 rfl ?_
  refine lc_ic a_X7_init_1014 ?_
  refine lc_newa (N := 200) a_X7_init_1017 (aw_in (by decide +kernel) rfl) (by decide) (by decide) (by decide) (fun q1017 => ?_)
  refine lc_putF (q0 := 0) (ci := 6) (k := 30) (ty := (.array .int)) a_X7_init_1019 rfl rfl rfl (by decide) (Nat.le_of_ble_eq_true rfl) rfl (by decide +kernel) rfl (aw_in (by decide +kernel) rfl) rfl rfl rfl ?_
  refine lc_ald a_X7_init_1022 rfl ?_
  refine lc_ic a_X7_init_1023 ?_
  refine lc_newa (N := 6) a_X7_init_1025 (aw_in (by decide +kernel) rfl) (by decide) (by decide) (by decide) (fun q1025 => ?_)
  refine lc_putF (q0 := 0) (ci := 6) (k := 31) (ty := (.array .int)) a_X7_init_1027 rfl rfl rfl (by decide) (Nat.le_of_ble_eq_true rfl) rfl (by decide +kernel) rfl (aw_in (by decide +kernel) rfl) rfl rfl rfl ?_
  refine lc_ald a_X7_init_1030 rfl ?_
  refine lc_ic a_X7_init_1031 ?_
  refine lc_newa (N := 64) a_X7_init_1033 (aw_in (by decide +kernel) rfl) (by decide) (by decide) (by decide) (fun q1033 => ?_)
  refine lc_putF (q0 := 0) (ci := 6) (k := 32) (ty := (.array .int)) a_X7_init_1035 rfl rfl rfl (by decide) (Nat.le_of_ble_eq_true rfl) rfl (by decide +kernel) rfl (aw_in (by decide +kernel) rfl) rfl rfl rfl ?_
  refine lc_ald a_X7_init_1038 rfl ?_
  refine lc_ic a_X7_init_1039 ?_
  refine lc_newa (N := 64) a_X7_init_1041 (aw_in (by decide +kernel) rfl) (by decide) (by decide) (by decide) (fun q1041 => ?_)
  refine lc_putF (q0 := 0) (ci := 6) (k := 33) (ty := (.array .int)) a_X7_init_1043 rfl rfl rfl (by decide) (Nat.le_of_ble_eq_true rfl) rfl (by decide +kernel) rfl (aw_in (by decide +kernel) rfl) rfl rfl rfl ?_
  refine lc_ald a_X7_init_1046 rfl ?_
  refine lc_ic a_X7_init_1047 ?_
  exact nx q1008 q1017 q1025 q1033 q1041
theorem lp_X7_i20 {w : Wd} {Af : Nat → Prop} {Z : Array Value → State → Outcome → State → Prop} {a q7 q15 q23 q31 q39 q48 q57 q65 q73 q80 q87 q110 q119 q127 q429 q1008 q1017 q1025 q1033 q1041 : Nat} (nx : ∀ q1049 q1057 q1065 q1073 q1081, lc_W w (rm_c 10 25 2358) Af jX7_init Z 25 2358 1086 [some (vr (some a)), none] [] 25 2358 [(a, .inr (6, [.int 0, .ref q7, .ref q15, .ref q23, .ref q31, .ref q39, .int 0, .int 0, .ref q48, .int 0, .ref q57, .ref q65, .int 0, .int 0, .int 0, .ref q73, .ref q80, .ref q87, .ref q110, .ref q119, .ref q127, .int 0, .int 0, .int 0, .int 0, .ref q429, .ref q1008, .int 0, .int 0, .int 0, .ref q1017, .ref q1025, .ref q1033, .ref q1041, .ref q1049, .ref q1057, .int 0, .int 0, .int 0, .ref q1065, .ref q1073, .ref q1081])), (q7, .inl (wdC w 0, 8, .inl (fun _ => 0))), (q15, .inl (wdC w 0, 8, .inl (fun _ => 0))), (q23, .inl (wdC w 0, 16, .inl (fun _ => 0))), (q31, .inl (wdC w 0, 8, .inl (fun _ => 0))), (q39, .inl (wdC w 0, 8, .inl (fun _ => 0))), (q48, .inl (wdC w 0, 160, .inl (fun _ => 0))), (q57, .inl (wdC w 0, 1200, .inl (fun _ => 0))), (q65, .inl (wdC w 0, 24, .inl (fun _ => 0))), (q73, .inl (wdC w 0, 32, .inl (fun _ => 0))), (q80, .inl (wdC w 0, 4, .inl (fun _ => 0))), (q87, .inl (wdC w 0, 4, .inl (upd (upd (upd (upd (fun _ => 0) 0 (-1)) 1 (-1)) 2 (-1)) 3 (-1)))), (q110, .inl (wdC w 0, 4, .inl (fun _ => 0))), (q119, .inl (wdC w 0, 160, .inl (fun _ => 0))), (q127, .inl (wdC w 0, 50, .inl (upd (upd (upd (upd (upd (upd (upd (upd (upd (upd (upd (upd (upd (upd (upd (upd (upd (upd (upd (upd (upd (upd (upd (upd (upd (upd (upd (upd (upd (upd (upd (upd (upd (upd (upd (upd (upd (upd (upd (upd (upd (upd (upd (upd (upd (upd (upd (upd (upd (upd (fun _ => 0) 0 116) 1 97) 2 108) 3 108) 4 32) 5 104) 6 101) 7 105) 8 103) 9 104) 10 116) 11 32) 12 59) 13 32) 14 98) 15 101) 16 97) 17 114) 18 115) 19 32) 20 115) 21 116) 22 114) 23 111) 24 110) 25 103) 26 32) 27 59) 28 32) 29 99) 30 111) 31 109) 32 101) 33 115) 34 32) 35 56) 36 48) 37 32) 38 45) 39 32) 40 114) 41 117) 42 115) 43 116) 44 32) 45 42) 46 32) 47 53) 48 32) 49 59))), (q429, .inl (wdC w 0, 96, .inl (upd (upd (upd (upd (upd (upd (upd (upd (upd (upd (upd (upd (upd (upd (upd (upd (upd (upd (upd (upd (upd (upd (upd (upd (upd (upd (upd (upd (upd (upd (upd (upd (upd (upd (upd (upd (upd (upd (upd (upd (upd (upd (upd (upd (upd (upd (upd (upd (upd (upd (upd (upd (upd (upd (upd (upd (upd (upd (upd (upd (upd (upd (upd (upd (upd (upd (upd (upd (upd (upd (upd (upd (upd (upd (upd (upd (upd (upd (upd (upd (upd (upd (upd (upd (upd (upd (upd (upd (upd (upd (upd (upd (upd (upd (upd (upd (fun _ => 0) 0 116) 1 97) 2 108) 3 108) 4 32) 5 32) 6 32) 7 32) 8 98) 9 101) 10 97) 11 114) 12 115) 13 32) 14 32) 15 32) 16 99) 17 111) 18 109) 19 101) 20 115) 21 32) 22 32) 23 32) 24 104) 25 101) 26 105) 27 103) 28 104) 29 116) 30 32) 31 32) 32 115) 33 116) 34 114) 35 111) 36 110) 37 103) 38 32) 39 32) 40 114) 41 117) 42 115) 43 116) 44 32) 45 32) 46 32) 47 32) 48 114) 49 117) 50 110) 51 103) 52 32) 53 32) 54 32) 55 32) 56 115) 57 97) 58 118) 59 101) 60 100) 61 32) 62 32) 63 32) 64 109) 65 111) 66 114) 67 101) 68 32) 69 32) 70 32) 71 32) 72 111) 73 114) 74 32) 75 32) 76 32) 77 32) 78 32) 79 32) 80 97) 81 110) 82 100) 83 32) 84 32) 85 32) 86 32) 87 32) 88 110) 89 111) 90 116) 91 32) 92 32) 93 32) 94 32) 95 32))), (q1008, .inl (wdC w 0, 200, .inl (fun _ => 0))), (q1017, .inl (wdC w 0, 200, .inl (fun _ => 0))), (q1025, .inl (wdC w 0, 6, .inl (fun _ => 0))), (q1033, .inl (wdC w 0, 64, .inl (fun _ => 0))), (q1041, .inl (wdC w 0, 64, .inl (fun _ => 0))), (q1049, .inl (wdC w 0, 8, .inl (fun _ => 0))), (q1057, .inl (wdC w 0, 8, .inl (fun _ => 0))), (q1065, .inl (wdC w 0, 9, .inl (fun _ => 0))), (q1073, .inl (wdC w 0, 9, .inl (fun _ => 0))), (q1081, .inl (wdC w 0, 8, .inl (fun _ => 0)))]) : lc_W w (rm_c 10 25 2358) Af jX7_init Z 25 2358 1049 [some (vr (some a)), none] [vi 8, vr (some a)] 20 2316 [(a, .inr (6, [.int 0, .ref q7, .ref q15, .ref q23, .ref q31, .ref q39, .int 0, .int 0, .ref q48, .int 0, .ref q57, .ref q65, .int 0, .int 0, .int 0, .ref q73, .ref q80, .ref q87, .ref q110, .ref q119, .ref q127, .int 0, .int 0, .int 0, .int 0, .ref q429, .ref q1008, .int 0, .int 0, .int 0, .ref q1017, .ref q1025, .ref q1033, .ref q1041, .null, .null, .int 0, .int 0, .int 0, .null, .null, .null])), (q7, .inl (wdC w 0, 8, .inl (fun _ => 0))), (q15, .inl (wdC w 0, 8, .inl (fun _ => 0))), (q23, .inl (wdC w 0, 16, .inl (fun _ => 0))), (q31, .inl (wdC w 0, 8, .inl (fun _ => 0))), (q39, .inl (wdC w 0, 8, .inl (fun _ => 0))), (q48, .inl (wdC w 0, 160, .inl (fun _ => 0))), (q57, .inl (wdC w 0, 1200, .inl (fun _ => 0))), (q65, .inl (wdC w 0, 24, .inl (fun _ => 0))), (q73, .inl (wdC w 0, 32, .inl (fun _ => 0))), (q80, .inl (wdC w 0, 4, .inl (fun _ => 0))), (q87, .inl (wdC w 0, 4, .inl (upd (upd (upd (upd (fun _ => 0) 0 (-1)) 1 (-1)) 2 (-1)) 3 (-1)))), (q110, .inl (wdC w 0, 4, .inl (fun _ => 0))), (q119, .inl (wdC w 0, 160, .inl (fun _ => 0))), (q127, .inl (wdC w 0, 50, .inl (upd (upd (upd (upd (upd (upd (upd (upd (upd (upd (upd (upd (upd (upd (upd (upd (upd (upd (upd (upd (upd (upd (upd (upd (upd (upd (upd (upd (upd (upd (upd (upd (upd (upd (upd (upd (upd (upd (upd (upd (upd (upd (upd (upd (upd (upd (upd (upd (upd (upd (fun _ => 0) 0 116) 1 97) 2 108) 3 108) 4 32) 5 104) 6 101) 7 105) 8 103) 9 104) 10 116) 11 32) 12 59) 13 32) 14 98) 15 101) 16 97) 17 114) 18 115) 19 32) 20 115) 21 116) 22 114) 23 111) 24 110) 25 103) 26 32) 27 59) 28 32) 29 99) 30 111) 31 109) 32 101) 33 115) 34 32) 35 56) 36 48) 37 32) 38 45) 39 32) 40 114) 41 117) 42 115) 43 116) 44 32) 45 42) 46 32) 47 53) 48 32) 49 59))), (q429, .inl (wdC w 0, 96, .inl (upd (upd (upd (upd (upd (upd (upd (upd (upd (upd (upd (upd (upd (upd (upd (upd (upd (upd (upd (upd (upd (upd (upd (upd (upd (upd (upd (upd (upd (upd (upd (upd (upd (upd (upd (upd (upd (upd (upd (upd (upd (upd (upd (upd (upd (upd (upd (upd (upd (upd (upd (upd (upd (upd (upd (upd (upd (upd (upd (upd (upd (upd (upd (upd (upd (upd (upd (upd (upd (upd (upd (upd (upd (upd (upd (upd (upd (upd (upd (upd (upd (upd (upd (upd (upd (upd (upd (upd (upd (upd (upd (upd (upd (upd (upd (upd (fun _ => 0) 0 116) 1 97) 2 108) 3 108) 4 32) 5 32) 6 32) 7 32) 8 98) 9 101) 10 97) 11 114) 12 115) 13 32) 14 32) 15 32) 16 99) 17 111) 18 109) 19 101) 20 115) 21 32) 22 32) 23 32) 24 104) 25 101) 26 105) 27 103) 28 104) 29 116) 30 32) 31 32) 32 115) 33 116) 34 114) 35 111) 36 110) 37 103) 38 32) 39 32) 40 114) 41 117) 42 115) 43 116) 44 32) 45 32) 46 32) 47 32) 48 114) 49 117) 50 110) 51 103) 52 32) 53 32) 54 32) 55 32) 56 115) 57 97) 58 118) 59 101) 60 100) 61 32) 62 32) 63 32) 64 109) 65 111) 66 114) 67 101) 68 32) 69 32) 70 32) 71 32) 72 111) 73 114) 74 32) 75 32) 76 32) 77 32) 78 32) 79 32) 80 97) 81 110) 82 100) 83 32) 84 32) 85 32) 86 32) 87 32) 88 110) 89 111) 90 116) 91 32) 92 32) 93 32) 94 32) 95 32))), (q1008, .inl (wdC w 0, 200, .inl (fun _ => 0))), (q1017, .inl (wdC w 0, 200, .inl (fun _ => 0))), (q1025, .inl (wdC w 0, 6, .inl (fun _ => 0))), (q1033, .inl (wdC w 0, 64, .inl (fun _ => 0))), (q1041, .inl (wdC w 0, 64, .inl (fun _ => 0)))] := by
  refine lc_newa (N := 8) a_X7_init_1049 (aw_in (by decide +kernel) rfl) (by decide) (by decide) (by decide) (fun q1049 => ?_)
  refine lc_putF (q0 := 0) (ci := 6) (k := 34) (ty := (.array .int)) a_X7_init_1051 rfl rfl rfl (by decide) (Nat.le_of_ble_eq_true rfl) rfl (by decide +kernel) rfl (aw_in (by decide +kernel) rfl) rfl rfl rfl ?_
  refine lc_ald a_X7_init_1054 rfl ?_
  refine lc_ic a_X7_init_1055 ?_
  refine lc_newa (N := 8) a_X7_init_1057 (aw_in (by decide +kernel) rfl) (by decide) (by decide) (by decide) (fun q1057 => ?_)
  refine lc_putF (q0 := 0) (ci := 6) (k := 35) (ty := (.array .int)) a_X7_init_1059 rfl rfl rfl (by decide) (Nat.le_of_ble_eq_true rfl) rfl (by decide +kernel) rfl (aw_in (by decide +kernel) rfl) rfl rfl rfl ?_
  refine lc_ald a_X7_init_1062 rfl ?_
  refine lc_ic a_X7_init_1063 ?_
  refine lc_newa (N := 9) a_X7_init_1065 (aw_in (by decide +kernel) rfl) (by decide) (by decide) (by decide) (fun q1065 => ?_)
  refine lc_putF (q0 := 0) (ci := 6) (k := 39) (ty := (.array .int)) a_X7_init_1067 rfl rfl rfl (by decide) (Nat.le_of_ble_eq_true rfl) rfl (by decide +kernel) rfl (aw_in (by decide +kernel) rfl) rfl rfl rfl ?_
  refine lc_ald a_X7_init_1070 rfl ?_
  refine lc_ic a_X7_init_1071 ?_
  refine lc_newa (N := 9) a_X7_init_1073 (aw_in (by decide +kernel) rfl) (by decide) (by decide) (by decide) (fun q1073 => ?_)
  refine lc_putF (q0 := 0) (ci := 6) (k := 40) (ty := (.array .int)) a_X7_init_1075 rfl rfl rfl (by decide) (Nat.le_of_ble_eq_true rfl) rfl (by decide +kernel) rfl (aw_in (by decide +kernel) rfl) rfl rfl rfl ?_
  refine lc_ald a_X7_init_1078 rfl ?_
  refine lc_ic a_X7_init_1079 ?_
  refine lc_newa (N := 8) a_X7_init_1081 (aw_in (by decide +kernel) rfl) (by decide) (by decide) (by decide) (fun q1081 => ?_)
  refine lc_putF (q0 := 0) (ci := 6) (k := 41) (ty := (.array .int)) a_X7_init_1083 rfl rfl rfl (by decide) (Nat.le_of_ble_eq_true rfl) rfl (by decide +kernel) rfl (aw_in (by decide +kernel) rfl) rfl rfl rfl ?_
  exact nx q1049 q1057 q1065 q1073 q1081

