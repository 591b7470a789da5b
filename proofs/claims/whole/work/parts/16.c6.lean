/-! the JDK's String: length, charAt over the constants -/
section RD
variable {T : Tb} {S : Nat → Bool} {w : Wd} {d : Nat} {j : MI} {pc n : Nat} {ls : List (Option AV)} {st : List AV} {M : Mem} {Q : RP}
theorem ri_cVpk {idx d' t i nx : Nat} {j' : MI} {as rest : List AV} {E : Int32} (hd : lr_F j pc (.invokevirtual idx) 3 nx) (hM : lr_MV j' as.length) (hl : lr_ML j.1.cls idx j'.1) (hr : lr_Rc T j'.1.cls t i) (hdd : d' + 1 ≤ d) (hok : lr_Ok T S w d' j' (vo t i :: as) M (qI E M)) (hrs : (rest.map lr_c2).sum ≤ 8) (hst : st = as.reverse ++ vo t i :: rest) (k : lr_W T S w d j nx ls (vi E :: rest) M Q) : lr_W T S w d j pc ls st M Q :=
  ri_cVpi hd hM hl hr hdd hok hrs hst (fun _ e => by rw [e]; exact k)
theorem ri_cSpk {idx d' nx : Nat} {j' : MI} {as rest : List AV} {E : Int32} (hd : lr_F j pc (.invokestatic idx) 3 nx) (hM : lr_MS j' as.length) (hl : lr_ML j.1.cls idx j'.1) (hdd : d' + 1 ≤ d) (hok : lr_Ok T S w d' j' as M (qI E M)) (hrs : (rest.map lr_c2).sum ≤ 8) (hst : st = as.reverse ++ rest) (k : lr_W T S w d j nx ls (vi E :: rest) M Q) : lr_W T S w d j pc ls st M Q :=
  ri_cSpi hd hM hl hdd hok hrs hst (fun _ e => by rw [e]; exact k)
end RD
theorem fs_J0_38 : Cond.fieldLink RJ0 38 "java/lang/String" "COMPACT_STRINGS" "Z" ∈ AW := aw_in (List.mem_of_getElem? (i := 282) (by decide +kernel)) (by decide +kernel)
theorem fs_J0_1053 : Cond.fieldLink RJ0 1053 "jdk/internal/util/Preconditions" "SIOOBE_FORMATTER" "Ljava/util/function/BiFunction;" ∈ AW := aw_in (List.mem_of_getElem? (i := 298) (by decide +kernel)) (by decide +kernel)
theorem ok_J0_coder {T : Tb} {S : Nat → Bool} {w : Wd} {d : Nat} {M : Mem} {k : Nat} (hk : k < lr_nstr) : lr_Ok T S w d jJ0_coder_7d493 [vo 99 k] M (qI 0 M) := by
  refine lr_ok (ls := [some (vo 99 k)]) (by decide +kernel) rfl ?_
  refine ri_compact a_J0_coder_7d493_0 fs_J0_38 ?_
  refine ri_if_eq a_J0_coder_7d493_3 (fun q => absurd q (by decide)) (fun _ => ?_)
  refine ri_ald a_J0_coder_7d493_6 rfl ?_
  refine ri_strC a_J0_coder_7d493_7 fs_J0_15 hk ?_
  refine ri_goto a_J0_coder_7d493_10 ?_
  refine ri_ireturn a_J0_coder_7d493_14 rfl (by decide) ?_
  exact rI rfl rfl
theorem ok_J0_isLatin1 {T : Tb} {S : Nat → Bool} {w : Wd} {d : Nat} {M : Mem} {k : Nat} (hk : k < lr_nstr) : lr_Ok T S w d jJ0_isLatin1_aae02 [vo 99 k] M (qI 1 M) := by
  refine lr_ok (ls := [some (vo 99 k)]) (by decide +kernel) rfl ?_
  refine ri_compact a_J0_isLatin1_aae02_0 fs_J0_38 ?_
  refine ri_if_eq a_J0_isLatin1_aae02_3 (fun q => absurd q (by decide)) (fun _ => ?_)
  refine ri_ald a_J0_isLatin1_aae02_6 rfl ?_
  refine ri_strC a_J0_isLatin1_aae02_7 fs_J0_15 hk ?_
  refine ri_if_ne a_J0_isLatin1_aae02_10 (fun q => absurd q (by decide)) (fun _ => ?_)
  refine ri_ic a_J0_isLatin1_aae02_13 ?_
  refine ri_goto a_J0_isLatin1_aae02_14 ?_
  refine ri_ireturn a_J0_isLatin1_aae02_18 rfl (by decide) ?_
  exact rI rfl rfl
theorem ok_J0_length {T : Tb} {S : Nat → Bool} {w : Wd} {d : Nat} (hd : 1 ≤ d) {M : Mem} {k : Nat} (hk : k < lr_nstr) : lr_Ok T S w d jJ0_length_8abf5 [vo 99 k] M (qI (nI (lr_slen.getD k 0)) M) := by
  refine lr_ok (ls := [some (vo 99 k)]) (by decide +kernel) rfl ?_
  refine ri_ald a_J0_length_8abf5_0 rfl ?_
  refine ri_strV a_J0_length_8abf5_1 fs_J0_9 hk ?_
  refine ri_strL a_J0_length_8abf5_4 hk ?_
  refine ri_ald a_J0_length_8abf5_5 rfl ?_
  refine ri_cVpk (as := []) (rest := [vi (nI (lr_slen.getD k 0))]) (d' := d - 1) a_J0_length_8abf5_6 mv_J0_coder_7d493 ml_J0_335 (Or.inr ⟨rfl, hk, rfl⟩) (by omega) (ok_J0_coder hk) (Nat.le_of_ble_eq_true rfl) rfl ?_
  refine ri_ishr a_J0_length_8abf5_9 ?_
  refine ri_ireturn a_J0_length_8abf5_10 rfl rfl ?_
  exact rI (by rw [show (0 : Int32) &&& 31 = 0 by decide]; simp) rfl
theorem ok_J3_checkIndex {T : Tb} {S : Nat → Bool} {w : Wd} {d : Nat} {M : Mem} {i n : Int32} {o : Option Nat} (h0 : ¬ i < 0) (h1 : i < n) : lr_Ok T S w d jJ3_checkIndex_8e157 [vi i, vi n, vr o] M (qI i M) := by
  refine lr_ok (ls := [some (vi i), some (vi n), some (vr o)]) (by decide +kernel) rfl ?_
  refine ri_ild a_J3_checkIndex_8e157_0 rfl ?_
  refine ri_if_lt a_J3_checkIndex_8e157_1 (fun zc1 => ?_) (fun zc1 => ?_)
  · exact absurd zc1 h0
  · refine ri_ild a_J3_checkIndex_8e157_4 rfl ?_
    refine ri_ild a_J3_checkIndex_8e157_5 rfl ?_
    refine ri_icmp_lt a_J3_checkIndex_8e157_6 (fun zc2 => ?_) (fun zc2 => ?_)
    · refine ri_ild a_J3_checkIndex_8e157_16 rfl ?_
      refine ri_ireturn a_J3_checkIndex_8e157_17 rfl rfl ?_
      exact rI rfl rfl
    · exact absurd h1 zc2
theorem ok_J0_checkIndex {T : Tb} {S : Nat → Bool} {w : Wd} {d : Nat} (hd : 1 ≤ d) {M : Mem} {i n : Int32} (h0 : ¬ i < 0) (h1 : i < n) : lr_Ok T S w d jJ0_checkIndex_df160 [vi i, vi n] M (qN M) := by
  refine lr_ok (ls := [some (vi i), some (vi n)]) (by decide +kernel) rfl ?_
  refine ri_ild a_J0_checkIndex_df160_0 rfl ?_
  refine ri_ild a_J0_checkIndex_df160_1 rfl ?_
  refine ri_sioobe a_J0_checkIndex_df160_2 fs_J0_1053 (fun zo1 => ?_)
  refine ri_cSpi (as := [vi i, vi n, vr zo1]) (rest := []) (d' := d - 1) a_J0_checkIndex_df160_5 ms_J3_checkIndex_8e157 ml_J0_1059 (by omega) (ok_J3_checkIndex h0 h1) (Nat.le_of_ble_eq_true rfl) rfl (fun zy2 ezy2 => ?_)
  refine ri_pop a_J0_checkIndex_df160_8 (fun _ h => by cases h) ?_
  refine ri_return a_J0_checkIndex_df160_9 rfl ?_
  exact rN
theorem sbyt_ok : ∀ k, k < lr_nstr → ∀ q, q < lr_slen.getD k 0 → (((lr_sbyt.getD k []).getD q 0 &&& 255).toUInt32 % 65536).toInt32 = (lr_sbyt.getD k []).getD q 0 ∧ narrow .char (.int ((((lr_sbyt.getD k []).getD q 0 &&& 255).toUInt32 % 65536).toInt32)) = .int ((((lr_sbyt.getD k []).getD q 0 &&& 255).toUInt32 % 65536).toInt32) := by decide +kernel
theorem ok_J1_charAt {T : Tb} {S : Nat → Bool} {w : Wd} {d : Nat} (hd : 2 ≤ d) {M : Mem} {k q : Nat} (hk : k < lr_nstr) (hq : q < lr_slen.getD k 0) (hL : lr_slen.getD k 0 < 2 ^ 31) : lr_Ok T S w d jJ1_charAt_3b067 [vo 98 k, vi (nI q)] M (qI ((((lr_sbyt.getD k []).getD q 0 &&& 255).toUInt32 % 65536).toInt32) M) := by
  refine lr_ok (ls := [some (vo 98 k), some (vi (nI q))]) (by decide +kernel) rfl ?_
  have h0 : ¬ nI q < 0 := nI_pos (by omega)
  have h1 : nI q < nI (lr_slen.getD k 0) := (nI_ltI (by omega) hL).mpr hq
  have hc := nI_clamp (n := q) (by omega)
  have hnar : narrow .char (.int (((((lr_sbyt.getD k []).getD (nI q).toNatClampNeg 0) &&& 255).toUInt32 % 65536).toInt32)) = .int (((((lr_sbyt.getD k []).getD (nI q).toNatClampNeg 0) &&& 255).toUInt32 % 65536).toInt32) := by rw [hc]; exact (sbyt_ok k hk q hq).2
  refine ri_ild a_J1_charAt_3b067_0 rfl ?_
  refine ri_ald a_J1_charAt_3b067_1 rfl ?_
  refine ri_strL a_J1_charAt_3b067_2 hk ?_
  refine ri_cSpv (as := [vi (nI q), vi (nI (lr_slen.getD k 0))]) (rest := []) (d' := d - 1) a_J1_charAt_3b067_3 ms_J0_checkIndex_df160 ml_J1_9 (by omega) (ok_J0_checkIndex (by omega) h0 h1) (Nat.le_of_ble_eq_true rfl) rfl ?_
  refine ri_ald a_J1_charAt_3b067_6 rfl ?_
  refine ri_ild a_J1_charAt_3b067_7 rfl ?_
  refine ri_strB a_J1_charAt_3b067_8 hk (vp_in_nI hq hL) ?_
  refine ri_ic a_J1_charAt_3b067_9 ?_
  refine ri_iand a_J1_charAt_3b067_12 ?_
  refine ri_i2c a_J1_charAt_3b067_13 ?_
  refine ri_ireturn a_J1_charAt_3b067_14 rfl hnar ?_
  exact rI (by rw [hc]) rfl
theorem ok_J0_charAt {T : Tb} {S : Nat → Bool} {w : Wd} {d : Nat} (hd : 3 ≤ d) {M : Mem} {k q : Nat} (hk : k < lr_nstr) (hq : q < lr_slen.getD k 0) (hL : lr_slen.getD k 0 < 2 ^ 31) : lr_Ok T S w d jJ0_charAt_5068e [vo 99 k, vi (nI q)] M (qI ((lr_sbyt.getD k []).getD q 0) M) := by
  refine lr_ok (ls := [some (vo 99 k), some (vi (nI q))]) (by decide +kernel) rfl ?_
  refine ri_ald a_J0_charAt_5068e_0 rfl ?_
  refine ri_cVpk (as := []) (rest := []) (d' := d - 1) a_J0_charAt_5068e_1 mv_J0_isLatin1_aae02 ml_J0_492 (Or.inr ⟨rfl, hk, rfl⟩) (by omega) (ok_J0_isLatin1 hk) (Nat.le_of_ble_eq_true rfl) rfl ?_
  refine ri_if_eq a_J0_charAt_5068e_4 (fun q => absurd q (by decide)) (fun _ => ?_)
  refine ri_ald a_J0_charAt_5068e_7 rfl ?_
  refine ri_strV a_J0_charAt_5068e_8 fs_J0_9 hk ?_
  refine ri_ild a_J0_charAt_5068e_11 rfl ?_
  refine ri_cSpi (as := [vo 98 k, vi (nI q)]) (rest := []) (d' := d - 1) a_J0_charAt_5068e_12 ms_J1_charAt_3b067 ml_J0_495 (by omega) (ok_J1_charAt (by omega) hk hq hL) (Nat.le_of_ble_eq_true rfl) rfl (fun zy1 ezy1 => ?_)
  refine ri_ireturn a_J0_charAt_5068e_15 rfl (by rw [ezy1]; exact (sbyt_ok k hk q hq).2) ?_
  exact rI (by rw [ezy1]; exact (sbyt_ok k hk q hq).1) rfl
theorem slen_lt : ∀ k, k < lr_nstr → lr_slen.getD k 0 < 2 ^ 31 := by decide +kernel

