/-! reference: kinds, film, lots -/
theorem up_upr {M : Mem} {t i k : Nat} {g : Nat → Int32} {x : Int32} : up (upr M t i g) t i k x = upr M t i (fun j => if j = k then x else g j) := by
  funext t' i' k'
  rw [up_apply, upr_apply, upr_apply]
  by_cases h : t' = t ∧ i' = i
  · rw [if_pos h, if_pos h]
    by_cases e : k' = k
    · rw [if_pos ⟨h.1, h.2, e⟩, if_pos e]
    · rw [if_neg (fun z => e z.2.2), if_neg e]
  · rw [if_neg h, if_neg h, if_neg (fun z => h ⟨z.1, z.2.1⟩)]
theorem upr_self {M : Mem} {t i : Nat} {g : Nat → Int32} (h : ∀ k, g k = M t i k) : upr M t i g = M := by
  funext t' i' k'
  rw [upr_apply]
  split
  · rename_i e; rw [e.1, e.2, h]
  · rfl
theorem upr_ext {M : Mem} {t i : Nat} {g g' : Nat → Int32} (h : ∀ k, g k = g' k) : upr M t i g = upr M t i g' := by
  rw [show g = g' from funext h]
def kmM (N : Mem) (p : Nat) (a b : Int32) : Mem := up (up N 1 0 p a) 2 0 p b
theorem kmM_up {N : Mem} {p : Nat} {a b a' b' : Int32} : up (up (kmM N p a b) 1 0 p a') 2 0 p b' = kmM N p a' b' := by
  funext t i q
  unfold kmM
  simp only [up_apply]
  split <;> (try rfl)
  split <;> rfl
theorem kmM_self {N : Mem} {p : Nat} : kmM N p (N 1 0 p) (N 2 0 p) = N := by
  unfold kmM
  rw [up_self]
  exact up_self
theorem kmM_kd {N : Mem} {p : Nat} {a : Int32} : vwM (kmM N p a (N 2 0 p)) = kdV (vwM N) p a := by
  unfold vwM kdV
  refine Prod.ext ?_ (Prod.ext ?_ rfl)
  · funext i
    show kmM N p a (N 2 0 p) 1 0 i = if i = p then a else N 1 0 i
    unfold kmM
    rw [up_apply, if_neg (by omega), up_apply]
    by_cases e : i = p
    · rw [if_pos ⟨rfl, rfl, e⟩, if_pos e]
    · rw [if_neg (fun z => e z.2.2), if_neg e]
  · funext i
    show kmM N p a (N 2 0 p) 2 0 i = N 2 0 i
    unfold kmM
    rw [up_apply]
    by_cases e : i = p
    · rw [if_pos ⟨rfl, rfl, e⟩, e]
    · rw [if_neg (fun z => e z.2.2), up_apply, if_neg (by omega)]
theorem kmM_mo {N : Mem} {p : Nat} {b : Int32} : vwM (kmM N p (N 1 0 p) b) = moV (vwM N) p b := by
  unfold vwM moV
  refine Prod.ext ?_ (Prod.ext ?_ rfl)
  · funext i
    show kmM N p (N 1 0 p) b 1 0 i = N 1 0 i
    unfold kmM
    rw [up_apply, if_neg (by omega), up_apply]
    by_cases e : i = p
    · rw [if_pos ⟨rfl, rfl, e⟩, e]
    · rw [if_neg (fun z => e z.2.2)]
  · funext i
    show kmM N p (N 1 0 p) b 2 0 i = if i = p then b else N 2 0 i
    unfold kmM
    rw [up_apply]
    by_cases e : i = p
    · rw [if_pos ⟨rfl, rfl, e⟩, if_pos e]
    · rw [if_neg (fun z => e z.2.2), if_neg e, up_apply, if_neg (by omega)]
theorem lq_kinds_kd {w : Wd} {d : Nat} (hd : 5 ≤ d) {N : Mem} {q m k n : Nat} {L : List (List Op)} {O : Nat → Nat} (hL : lawN N L) (hq : q < 4) (hm : N 12 0 q = nI m) (hmk : m ≤ k) (hO : orN N O k n) (hn8 : n ≤ 8) {p : Nat} (hp : p < 8) : ∀ r v acc y N1, 6 = v + r → (∃ a b, N1 = kmM N p a b) → lr_W tM sM w d jX7_kinds 60 [some (vo 0 0), some (vi (nI q)), some (vi (nI p)), some (vi 0), some (vi y), some (vi (N 1 0 p)), some (vi (N 2 0 p)), some (vi acc), some (vi (nI v))] [] N1 (qX fun r' N' => N' = N ∧ r' = bitA (fun v => foF L (kdV (vwM N) p (nI v)) O (shN N q) m 0 0 = -1) r v acc) := by
  intro r
  have ip : vp_in (nI p) 8 := vp_in_nI hp (by decide)
  have cp : (nI p).toNatClampNeg = p := nI_clamp (by omega)
  induction r with
  | zero =>
    intro v acc y N1 hv hN1
    have : v = 6 := by omega
    subst this
    have hb : up (up N1 1 0 p (N 1 0 p)) 2 0 p (N 2 0 p) = N := by
      obtain ⟨a, b, rfl⟩ := hN1
      rw [kmM_up]
      exact kmM_self
    refine ri_ild a_X7_kinds_60 rfl ?_
    refine ri_ild a_X7_kinds_62 rfl ?_
    refine ri_if_ne a_X7_kinds_63 (fun q => absurd q (by decide)) (fun _ => ?_)
    refine ri_ic a_X7_kinds_66 ?_
    refine ri_goto a_X7_kinds_68 ?_
    refine ri_icmp_ge a_X7_kinds_73 (fun zc11 => ?_) (fun zc11 => ?_)
    · refine ri_ald a_X7_kinds_139 rfl ?_
      refine ri_getR (t' := 1) (i' := 0) a_X7_kinds_140 fl_X7_7 kM_0_1 rfl iM_0 (Or.inr ⟨rfl, rfl, rfl⟩) ?_
      refine ri_ild a_X7_kinds_143 rfl ?_
      refine ri_ild a_X7_kinds_144 rfl ?_
      refine ri_iastore a_X7_kinds_146 lM_1 rfl iM_1 ip (fun zM12 ezM12 => ?_)
      refine ri_ald a_X7_kinds_147 rfl ?_
      refine ri_getR (t' := 2) (i' := 0) a_X7_kinds_148 fl_X7_13 kM_0_2 rfl iM_0 (Or.inr ⟨rfl, rfl, rfl⟩) ?_
      refine ri_ild a_X7_kinds_151 rfl ?_
      refine ri_ild a_X7_kinds_152 rfl ?_
      refine ri_iastore a_X7_kinds_154 lM_2 rfl iM_2 ip (fun zM13 ezM13 => ?_)
      refine ri_ild a_X7_kinds_155 rfl ?_
      refine ri_ireturn a_X7_kinds_157 rfl rfl ?_
      exact rX ⟨by rw [ezM13, ezM12, cp]; exact hb, rfl⟩
    · exact absurd (by decide) zc11
  | succ r ih =>
    intro v acc y N1 hv hN1
    rw [bitA]
    have eM : up (up N1 1 0 p (nI v)) 2 0 p (N 2 0 p) = kmM N p (nI v) (N 2 0 p) := by
      obtain ⟨a, b, rfl⟩ := hN1
      exact kmM_up
    have hun : lr_Ok tM sM w (d - 1) jX7_unlike [vo 0 0, vi (nI q)] (kmM N p (nI v) (N 2 0 p)) (qI (foF L (kdV (vwM N) p (nI v)) O (shN N q) m 0 0) (kmM N p (nI v) (N 2 0 p))) := by
      have := ok_X7_unlike (w := w) (d := d - 1) (N := kmM N p (nI v) (N 2 0 p)) (L := L) (O := O) (n := n) (by omega) ?_ hq hm hmk hO hn8
      · rw [kmM_kd] at this
        exact this
      · obtain ⟨t, a, b, c⟩ := hL
        exact ⟨t, a, b, txN_eq rfl rfl c⟩
    refine ri_ild a_X7_kinds_60 rfl ?_
    refine ri_ild a_X7_kinds_62 rfl ?_
    refine ri_if_ne a_X7_kinds_63 (fun q => absurd q (by decide)) (fun _ => ?_)
    refine ri_ic a_X7_kinds_66 ?_
    refine ri_goto a_X7_kinds_68 ?_
    refine ri_icmp_ge a_X7_kinds_73 (fun zc11 => ?_) (fun zc11 => ?_)
    · exact absurd zc11 (nI_ge (b := 6) (by omega) (by decide))
    · refine ri_ald a_X7_kinds_76 rfl ?_
      refine ri_getR (t' := 1) (i' := 0) a_X7_kinds_77 fl_X7_7 kM_0_1 rfl iM_0 (Or.inr ⟨rfl, rfl, rfl⟩) ?_
      refine ri_ild a_X7_kinds_80 rfl ?_
      refine ri_ild a_X7_kinds_81 rfl ?_
      refine ri_if_ne a_X7_kinds_82 (fun q => absurd q (by decide)) (fun _ => ?_)
      refine ri_ild a_X7_kinds_85 rfl ?_
      refine ri_goto a_X7_kinds_87 ?_
      refine ri_iastore a_X7_kinds_92 lM_1 rfl iM_1 ip (fun zM12 ezM12 => ?_)
      refine ri_ald a_X7_kinds_93 rfl ?_
      refine ri_getR (t' := 2) (i' := 0) a_X7_kinds_94 fl_X7_13 kM_0_2 rfl iM_0 (Or.inr ⟨rfl, rfl, rfl⟩) ?_
      refine ri_ild a_X7_kinds_97 rfl ?_
      refine ri_ild a_X7_kinds_98 rfl ?_
      refine ri_ic a_X7_kinds_99 ?_
      refine ri_icmp_ne a_X7_kinds_100 (fun _ => ?_) (fun q => absurd q (by decide))
      refine ri_ild a_X7_kinds_108 rfl ?_
      refine ri_iastore a_X7_kinds_110 lM_2 rfl iM_2 ip (fun zM13 ezM13 => ?_)
      rw [cp] at ezM12 ezM13
      rw [ezM12, eM] at ezM13
      subst ezM13
      generalize hN2 : kmM N p (nI v) (N 2 0 p) = N2 at hun ⊢
      generalize hgv : foF L (kdV (vwM N) p (nI v)) O (shN N q) m 0 0 = gv at hun
      refine ri_ild a_X7_kinds_111 rfl ?_
      refine ri_ald a_X7_kinds_113 rfl ?_
      refine ri_ild a_X7_kinds_114 rfl ?_
      refine ri_cVpi (as := [vi (nI q)]) (rest := [vi acc]) (d' := d - 1) a_X7_kinds_115 mv_X7_unlike ml_X7_255 (rcM_0 iM_0) (by omega) (hun) (Nat.le_of_ble_eq_true rfl) rfl (fun zy21 ezy21 => ?_)
      refine ri_ic a_X7_kinds_118 ?_
      refine ri_icmp_ne a_X7_kinds_119 (fun zc22 => ?_) (fun zc22 => ?_)
      · refine ri_ic a_X7_kinds_129 ?_
        refine ri_ior a_X7_kinds_130 ?_
        refine ri_ist (f := fun zx23 => [some (vo 0 0), some (vi (nI q)), some (vi (nI p)), some (vi 0), some (vi y), some (vi (N 1 0 p)), some (vi (N 2 0 p)), some (vi zx23), some (vi (nI v))]) a_X7_kinds_131 (fun _ => rfl) (fun zx23 ezx23 => ?_)
        refine ri_iinc (c0 := 1) (f := fun zx24 => [some (vo 0 0), some (vi (nI q)), some (vi (nI p)), some (vi 0), some (vi y), some (vi (N 1 0 p)), some (vi (N 2 0 p)), some (vi zx23), some (vi zx24)]) a_X7_kinds_133 rfl (by decide) (fun _ => rfl) (fun zx24 ezx24 => ?_)
        refine ri_goto a_X7_kinds_136 ?_
        have hg : ¬ gv = -1 := fun z => zc22 (ezy21.trans z)
        rw [ezx23, ezx24, nI_1, Int32.or_zero]
        refine lr_Wimp (ih (v + 1) acc y N2 (by omega) ⟨_, _, hN2.symm⟩) ?_
        rintro r' M' ⟨z, h1, h2, h3⟩
        exact ⟨z, h1, h2, by rw [if_neg hg]; exact h3⟩
      · refine ri_ic a_X7_kinds_122 ?_
        refine ri_ild a_X7_kinds_123 rfl ?_
        refine ri_ishl a_X7_kinds_125 ?_
        refine ri_goto a_X7_kinds_126 ?_
        refine ri_ior a_X7_kinds_130 ?_
        refine ri_ist (f := fun zx25 => [some (vo 0 0), some (vi (nI q)), some (vi (nI p)), some (vi 0), some (vi y), some (vi (N 1 0 p)), some (vi (N 2 0 p)), some (vi zx25), some (vi (nI v))]) a_X7_kinds_131 (fun _ => rfl) (fun zx25 ezx25 => ?_)
        refine ri_iinc (c0 := 1) (f := fun zx26 => [some (vo 0 0), some (vi (nI q)), some (vi (nI p)), some (vi 0), some (vi y), some (vi (N 1 0 p)), some (vi (N 2 0 p)), some (vi zx25), some (vi zx26)]) a_X7_kinds_133 rfl (by decide) (fun _ => rfl) (fun zx26 ezx26 => ?_)
        refine ri_goto a_X7_kinds_136 ?_
        have hg : gv = -1 := ezy21.symm.trans zc22
        rw [ezx25, ezx26, nI_1]
        refine lr_Wimp (ih (v + 1) _ y N2 (by omega) ⟨_, _, hN2.symm⟩) ?_
        rintro r' M' ⟨z, h1, h2, h3⟩
        exact ⟨z, h1, h2, by rw [if_pos hg]; exact h3⟩
theorem lq_kinds_mo {w : Wd} {d : Nat} (hd : 5 ≤ d) {N : Mem} {q m k n : Nat} {L : List (List Op)} {O : Nat → Nat} (hL : lawN N L) (hq : q < 4) (hm : N 12 0 q = nI m) (hmk : m ≤ k) (hO : orN N O k n) (hn8 : n ≤ 8) {p : Nat} (hp : p < 8) : ∀ r v acc y N1, 10 = v + r → (∃ a b, N1 = kmM N p a b) → lr_W tM sM w d jX7_kinds 60 [some (vo 0 0), some (vi (nI q)), some (vi (nI p)), some (vi 1), some (vi y), some (vi (N 1 0 p)), some (vi (N 2 0 p)), some (vi acc), some (vi (nI v))] [] N1 (qX fun r' N' => N' = N ∧ r' = bitA (fun v => foF L (moV (vwM N) p (nI v)) O (shN N q) m 0 0 = -1) r v acc) := by
  intro r
  have ip : vp_in (nI p) 8 := vp_in_nI hp (by decide)
  have cp : (nI p).toNatClampNeg = p := nI_clamp (by omega)
  induction r with
  | zero =>
    intro v acc y N1 hv hN1
    have : v = 10 := by omega
    subst this
    have hb : up (up N1 1 0 p (N 1 0 p)) 2 0 p (N 2 0 p) = N := by
      obtain ⟨a, b, rfl⟩ := hN1
      rw [kmM_up]
      exact kmM_self
    refine ri_ild a_X7_kinds_60 rfl ?_
    refine ri_ild a_X7_kinds_62 rfl ?_
    refine ri_if_ne a_X7_kinds_63 (fun _ => ?_) (fun q => absurd q (by decide))
    refine ri_ic a_X7_kinds_71 ?_
    refine ri_icmp_ge a_X7_kinds_73 (fun zc11 => ?_) (fun zc11 => ?_)
    · refine ri_ald a_X7_kinds_139 rfl ?_
      refine ri_getR (t' := 1) (i' := 0) a_X7_kinds_140 fl_X7_7 kM_0_1 rfl iM_0 (Or.inr ⟨rfl, rfl, rfl⟩) ?_
      refine ri_ild a_X7_kinds_143 rfl ?_
      refine ri_ild a_X7_kinds_144 rfl ?_
      refine ri_iastore a_X7_kinds_146 lM_1 rfl iM_1 ip (fun zM12 ezM12 => ?_)
      refine ri_ald a_X7_kinds_147 rfl ?_
      refine ri_getR (t' := 2) (i' := 0) a_X7_kinds_148 fl_X7_13 kM_0_2 rfl iM_0 (Or.inr ⟨rfl, rfl, rfl⟩) ?_
      refine ri_ild a_X7_kinds_151 rfl ?_
      refine ri_ild a_X7_kinds_152 rfl ?_
      refine ri_iastore a_X7_kinds_154 lM_2 rfl iM_2 ip (fun zM13 ezM13 => ?_)
      refine ri_ild a_X7_kinds_155 rfl ?_
      refine ri_ireturn a_X7_kinds_157 rfl rfl ?_
      exact rX ⟨by rw [ezM13, ezM12, cp]; exact hb, rfl⟩
    · exact absurd (by decide) zc11
  | succ r ih =>
    intro v acc y N1 hv hN1
    rw [bitA]
    have eM : up (up N1 1 0 p (N 1 0 p)) 2 0 p (nI v) = kmM N p (N 1 0 p) (nI v) := by
      obtain ⟨a, b, rfl⟩ := hN1
      exact kmM_up
    have hun : lr_Ok tM sM w (d - 1) jX7_unlike [vo 0 0, vi (nI q)] (kmM N p (N 1 0 p) (nI v)) (qI (foF L (moV (vwM N) p (nI v)) O (shN N q) m 0 0) (kmM N p (N 1 0 p) (nI v))) := by
      have := ok_X7_unlike (w := w) (d := d - 1) (N := kmM N p (N 1 0 p) (nI v)) (L := L) (O := O) (n := n) (by omega) ?_ hq hm hmk hO hn8
      · rw [kmM_mo] at this
        exact this
      · obtain ⟨t, a, b, c⟩ := hL
        exact ⟨t, a, b, txN_eq rfl rfl c⟩
    refine ri_ild a_X7_kinds_60 rfl ?_
    refine ri_ild a_X7_kinds_62 rfl ?_
    refine ri_if_ne a_X7_kinds_63 (fun _ => ?_) (fun q => absurd q (by decide))
    refine ri_ic a_X7_kinds_71 ?_
    refine ri_icmp_ge a_X7_kinds_73 (fun zc11 => ?_) (fun zc11 => ?_)
    · exact absurd zc11 (nI_ge (b := 10) (by omega) (by decide))
    · refine ri_ald a_X7_kinds_76 rfl ?_
      refine ri_getR (t' := 1) (i' := 0) a_X7_kinds_77 fl_X7_7 kM_0_1 rfl iM_0 (Or.inr ⟨rfl, rfl, rfl⟩) ?_
      refine ri_ild a_X7_kinds_80 rfl ?_
      refine ri_ild a_X7_kinds_81 rfl ?_
      refine ri_if_ne a_X7_kinds_82 (fun _ => ?_) (fun q => absurd q (by decide))
      refine ri_ild a_X7_kinds_90 rfl ?_
      refine ri_iastore a_X7_kinds_92 lM_1 rfl iM_1 ip (fun zM12 ezM12 => ?_)
      refine ri_ald a_X7_kinds_93 rfl ?_
      refine ri_getR (t' := 2) (i' := 0) a_X7_kinds_94 fl_X7_13 kM_0_2 rfl iM_0 (Or.inr ⟨rfl, rfl, rfl⟩) ?_
      refine ri_ild a_X7_kinds_97 rfl ?_
      refine ri_ild a_X7_kinds_98 rfl ?_
      refine ri_ic a_X7_kinds_99 ?_
      refine ri_icmp_ne a_X7_kinds_100 (fun q => absurd q (by decide)) (fun _ => ?_)
      refine ri_ild a_X7_kinds_103 rfl ?_
      refine ri_goto a_X7_kinds_105 ?_
      refine ri_iastore a_X7_kinds_110 lM_2 rfl iM_2 ip (fun zM13 ezM13 => ?_)
      rw [cp] at ezM12 ezM13
      rw [ezM12, eM] at ezM13
      subst ezM13
      generalize hN2 : kmM N p (N 1 0 p) (nI v) = N2 at hun ⊢
      generalize hgv : foF L (moV (vwM N) p (nI v)) O (shN N q) m 0 0 = gv at hun
      refine ri_ild a_X7_kinds_111 rfl ?_
      refine ri_ald a_X7_kinds_113 rfl ?_
      refine ri_ild a_X7_kinds_114 rfl ?_
      refine ri_cVpi (as := [vi (nI q)]) (rest := [vi acc]) (d' := d - 1) a_X7_kinds_115 mv_X7_unlike ml_X7_255 (rcM_0 iM_0) (by omega) (hun) (Nat.le_of_ble_eq_true rfl) rfl (fun zy21 ezy21 => ?_)
      refine ri_ic a_X7_kinds_118 ?_
      refine ri_icmp_ne a_X7_kinds_119 (fun zc22 => ?_) (fun zc22 => ?_)
      · refine ri_ic a_X7_kinds_129 ?_
        refine ri_ior a_X7_kinds_130 ?_
        refine ri_ist (f := fun zx23 => [some (vo 0 0), some (vi (nI q)), some (vi (nI p)), some (vi 1), some (vi y), some (vi (N 1 0 p)), some (vi (N 2 0 p)), some (vi zx23), some (vi (nI v))]) a_X7_kinds_131 (fun _ => rfl) (fun zx23 ezx23 => ?_)
        refine ri_iinc (c0 := 1) (f := fun zx24 => [some (vo 0 0), some (vi (nI q)), some (vi (nI p)), some (vi 1), some (vi y), some (vi (N 1 0 p)), some (vi (N 2 0 p)), some (vi zx23), some (vi zx24)]) a_X7_kinds_133 rfl (by decide) (fun _ => rfl) (fun zx24 ezx24 => ?_)
        refine ri_goto a_X7_kinds_136 ?_
        have hg : ¬ gv = -1 := fun z => zc22 (ezy21.trans z)
        rw [ezx23, ezx24, nI_1, Int32.or_zero]
        refine lr_Wimp (ih (v + 1) acc y N2 (by omega) ⟨_, _, hN2.symm⟩) ?_
        rintro r' M' ⟨z, h1, h2, h3⟩
        exact ⟨z, h1, h2, by rw [if_neg hg]; exact h3⟩
      · refine ri_ic a_X7_kinds_122 ?_
        refine ri_ild a_X7_kinds_123 rfl ?_
        refine ri_ishl a_X7_kinds_125 ?_
        refine ri_goto a_X7_kinds_126 ?_
        refine ri_ior a_X7_kinds_130 ?_
        refine ri_ist (f := fun zx25 => [some (vo 0 0), some (vi (nI q)), some (vi (nI p)), some (vi 1), some (vi y), some (vi (N 1 0 p)), some (vi (N 2 0 p)), some (vi zx25), some (vi (nI v))]) a_X7_kinds_131 (fun _ => rfl) (fun zx25 ezx25 => ?_)
        refine ri_iinc (c0 := 1) (f := fun zx26 => [some (vo 0 0), some (vi (nI q)), some (vi (nI p)), some (vi 1), some (vi y), some (vi (N 1 0 p)), some (vi (N 2 0 p)), some (vi zx25), some (vi zx26)]) a_X7_kinds_133 rfl (by decide) (fun _ => rfl) (fun zx26 ezx26 => ?_)
        refine ri_goto a_X7_kinds_136 ?_
        have hg : gv = -1 := ezy21.symm.trans zc22
        rw [ezx25, ezx26, nI_1]
        refine lr_Wimp (ih (v + 1) _ y N2 (by omega) ⟨_, _, hN2.symm⟩) ?_
        rintro r' M' ⟨z, h1, h2, h3⟩
        exact ⟨z, h1, h2, by rw [if_pos hg]; exact h3⟩
theorem ok_X7_kinds {w : Wd} {d : Nat} (hd : 5 ≤ d) {N : Mem} {q m k n : Nat} {L : List (List Op)} {O : Nat → Nat} (hL : lawN N L) (hq : q < 4) (hm : N 12 0 q = nI m) (hm40 : m ≤ 40) (hn : N 0 0 0 = nI n) (hO : orN N O k n) (hn8 : n ≤ 8) (p x : Int32) : lr_Ok tM sM w d jX7_kinds [vo 0 0, vi (nI q), vi p, vi x] N (qX fun r N' => N' = N ∧ r = if N 11 0 q = -1 then -11 else if N 12 0 q ≤ N 0 0 6 then (if 0 ≤ p ∧ p < nI n then (if 0 ≤ x ∧ x ≤ 1 then (if x = 0 then bitA (fun v => foF L (kdV (vwM N) p.toNatClampNeg (nI v)) O (shN N q) m 0 0 = -1) 6 0 0 else bitA (fun v => foF L (moV (vwM N) p.toNatClampNeg (nI v)) O (shN N q) m 0 0 = -1) 10 0 0) else -7) else -5) else -2) := by
  refine lr_ok (by decide +kernel) rfl ?_
  refine ri_ald a_X7_kinds_0 rfl ?_
  refine ri_ild a_X7_kinds_1 rfl ?_
  refine ri_cVpi (as := [vi (nI q)]) (rest := []) (d' := d - 1) a_X7_kinds_2 mv_X7_sheetWrong ml_X7_252 (rcM_0 iM_0) (by omega) (ok_X7_sheetWrong (by omega) hq) (Nat.le_of_ble_eq_true rfl) rfl (fun zy1 ezy1 => ?_)
  refine ri_istk (ls' := [some (vo 0 0), some (vi (nI q)), some (vi p), some (vi x), some (vi zy1), none, none, none, none]) a_X7_kinds_5 rfl ?_
  refine ri_ild a_X7_kinds_7 rfl ?_
  refine ri_if_eq a_X7_kinds_9 (fun zc2 => ?_) (fun zc2 => ?_)
  · refine ri_ald a_X7_kinds_15 rfl ?_
    refine ri_ild a_X7_kinds_16 rfl ?_
    refine ri_cVpb (as := [vi p]) (rest := []) (d' := d - 1) a_X7_kinds_17 mv_X7_isOne ml_X7_182 (rcM_0 iM_0) (by omega) (ok_X7_isOne (by omega) hn hn8 p) (Nat.le_of_ble_eq_true rfl) rfl (fun zc3 => ?_) (fun zc3 => ?_)
    · refine ri_if_ne a_X7_kinds_20 (fun _ => ?_) (fun q => absurd q (by decide))
      refine ri_ild a_X7_kinds_26 rfl ?_
      refine ri_ic a_X7_kinds_27 ?_
      refine ri_ic a_X7_kinds_28 ?_
      refine ri_cSpb (as := [vi x, vi 0, vi 1]) (rest := []) (d' := d - 1) a_X7_kinds_29 ms_X7_in ml_X7_96 (by omega) (ok_X7_in x 0 1) (Nat.le_of_ble_eq_true rfl) rfl (fun zc4 => ?_) (fun zc4 => ?_)
      · refine ri_if_ne a_X7_kinds_32 (fun _ => ?_) (fun q => absurd q (by decide))
        have h := nr0 (ezy1.symm.trans zc2)
        obtain ⟨p', rfl, hp⟩ := inP zc3 rfl hn8
        obtain ⟨y', hy', rfl⟩ := nI_of2 (n := 1) (M := 1) (by decide) (Int32.not_lt.mpr zc4.1) zc4.2
        have hyy : y' = 0 ∨ y' = 1 := by omega
        refine ri_ald a_X7_kinds_38 rfl ?_
        refine ri_getR (t' := 1) (i' := 0) a_X7_kinds_39 fl_X7_7 kM_0_1 rfl iM_0 (Or.inr ⟨rfl, rfl, rfl⟩) ?_
        refine ri_ild a_X7_kinds_42 rfl ?_
        refine ri_iaload a_X7_kinds_43 lM_1 rfl iM_1 (vp_in_nI (by omega) (by decide)) ?_
        refine ri_ist (f := fun zx11 => [some (vo 0 0), some (vi (nI q)), some (vi (nI p')), some (vi (nI y')), some (vi zy1), some (vi zx11), none, none, none]) a_X7_kinds_44 (fun _ => rfl) (fun zx11 ezx11 => ?_)
        refine ri_ald a_X7_kinds_46 rfl ?_
        refine ri_getR (t' := 2) (i' := 0) a_X7_kinds_47 fl_X7_13 kM_0_2 rfl iM_0 (Or.inr ⟨rfl, rfl, rfl⟩) ?_
        refine ri_ild a_X7_kinds_50 rfl ?_
        refine ri_iaload a_X7_kinds_51 lM_2 rfl iM_2 (vp_in_nI (by omega) (by decide)) ?_
        refine ri_ist (f := fun zx12 => [some (vo 0 0), some (vi (nI q)), some (vi (nI p')), some (vi (nI y')), some (vi zy1), some (vi zx11), some (vi zx12), none, none]) a_X7_kinds_52 (fun _ => rfl) (fun zx12 ezx12 => ?_)
        refine ri_ic a_X7_kinds_54 ?_
        refine ri_istk (ls' := [some (vo 0 0), some (vi (nI q)), some (vi (nI p')), some (vi (nI y')), some (vi zy1), some (vi zx11), some (vi zx12), some (vi 0), none]) a_X7_kinds_55 rfl ?_
        refine ri_ic a_X7_kinds_57 ?_
        refine ri_istk (ls' := [some (vo 0 0), some (vi (nI q)), some (vi (nI p')), some (vi (nI y')), some (vi zy1), some (vi zx11), some (vi zx12), some (vi 0), some (vi 0)]) a_X7_kinds_58 rfl ?_
        rw [nI_clamp (by omega)] at ezx11 ezx12
        subst ezx11 ezx12
        rcases hyy with rfl | rfl
        · refine lr_Wimp (lq_kinds_kd hd hL hq hm (mk_le hm hm40 hO h.2) hO hn8 (p := p') (by omega) 6 0 0 zy1 N rfl ⟨_, _, kmM_self.symm⟩) ?_
          rintro r' M' ⟨z, h1, h2, h3⟩
          exact ⟨z, h1, h2, by rw [if_neg h.1, if_pos h.2, if_pos zc3, if_pos zc4, if_pos (by decide), nI_clamp (by omega)]; exact h3⟩
        · refine lr_Wimp (lq_kinds_mo hd hL hq hm (mk_le hm hm40 hO h.2) hO hn8 (p := p') (by omega) 10 0 0 zy1 N rfl ⟨_, _, kmM_self.symm⟩) ?_
          rintro r' M' ⟨z, h1, h2, h3⟩
          exact ⟨z, h1, h2, by rw [if_neg h.1, if_pos h.2, if_pos zc3, if_pos zc4, if_neg (by decide), nI_clamp (by omega)]; exact h3⟩
      · refine ri_if_ne a_X7_kinds_32 (fun q => absurd q (by decide)) (fun _ => ?_)
        refine ri_ic a_X7_kinds_35 ?_
        refine ri_ireturn a_X7_kinds_37 rfl rfl ?_
        have h := nr0 (ezy1.symm.trans zc2)
        exact rX ⟨rfl, by rw [if_neg h.1, if_pos h.2, if_pos zc3, if_neg zc4]⟩
    · refine ri_if_ne a_X7_kinds_20 (fun q => absurd q (by decide)) (fun _ => ?_)
      refine ri_ic a_X7_kinds_23 ?_
      refine ri_ireturn a_X7_kinds_25 rfl rfl ?_
      have h := nr0 (ezy1.symm.trans zc2)
      exact rX ⟨rfl, by rw [if_neg h.1, if_pos h.2, if_neg zc3]⟩
  · refine ri_ild a_X7_kinds_12 rfl ?_
    refine ri_ireturn a_X7_kinds_14 rfl rfl ?_
    rw [ezy1] at zc2 ⊢
    exact rX ⟨rfl, nr1 zc2⟩
theorem no_X7_kinds {w : Wd} {d : Nat} (hd : 5 ≤ d) {N : Mem} {s : Int32} (hs : ¬ (0 ≤ s ∧ s ≤ 3)) (p x : Int32) : lr_Ok tM sM w d jX7_kinds [vo 0 0, vi s, vi p, vi x] N (qI (-2) N) := by
  refine lr_ok (by decide +kernel) rfl ?_
  refine ri_ald a_X7_kinds_0 rfl ?_
  refine ri_ild a_X7_kinds_1 rfl ?_
  refine ri_cVpi (as := [vi s]) (rest := []) (d' := d - 1) a_X7_kinds_2 mv_X7_sheetWrong ml_X7_252 (rcM_0 iM_0) (by omega) (no_X7_sheetWrong (by omega) hs) (Nat.le_of_ble_eq_true rfl) rfl (fun zy1 ezy1 => ?_)
  refine ri_istk (ls' := [some (vo 0 0), some (vi s), some (vi p), some (vi x), some (vi zy1), none, none, none, none]) a_X7_kinds_5 rfl ?_
  refine ri_ild a_X7_kinds_7 rfl ?_
  refine ri_if_eq a_X7_kinds_9 (fun zc2 => ?_) (fun zc2 => ?_)
  · exact absurd zc2 (by rw [ezy1]; decide)
  · refine ri_ild a_X7_kinds_12 rfl ?_
    refine ri_ireturn a_X7_kinds_14 rfl rfl ?_
    exact rI ezy1 rfl

