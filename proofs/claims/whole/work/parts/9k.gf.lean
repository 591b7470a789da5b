/-! what a memory's world offers to a walk beside it -/
theorem lr_D_self {T : Tb} {w : Wd} {M : Mem} {B : Nat → Prop} (h : va_D B (lr_cells T w M)) : va_D (lr_R T w) (lr_cells T w M) := by
  refine ⟨h.1, fun k q hk => ?_⟩
  have hm := List.mem_of_getElem? hk
  obtain ⟨x, hx, rfl⟩ := List.mem_map.mp hm
  exact ⟨x, hx, rfl⟩
theorem lr_R_in {T : Tb} {w : Wd} {M : Mem} {B : Nat → Prop} (h : va_D B (lr_cells T w M)) : ∀ q, lr_R T w q → B q := by
  rintro q ⟨x, hx, rfl⟩
  obtain ⟨k, hk⟩ := List.getElem?_of_mem (List.mem_map_of_mem (f := fun q : Nat × Nat => (wdA w q.1 q.2, lr_cell w (M q.1 q.2) q.2 (lr_sh T q.1))) hx)
  exact h.2 k _ hk
section LKG
variable {w : Wd} {Af : Nat → Prop} {T : Tb} {S : Nat → Bool} {A' : Nat → Nat → Nat} {M : Mem}
theorem lk_gf {t i ci k : Nat} {fk : FK} {v : Value} (hk : lr_fk T t ci k = some fk) (hS : S t = false) (hi : i < lr_cnt T t) (hv : v = lr_fv (wa w A') (M t i) i k fk) : ∀ H, lr_P T S (wa w A') M H → ∃ (ws : va_W) (q0 : Nat) (fs : List Value), va_P (wdG w) vwCl ws H ∧ ws[q0]? = some (A' t i, .inr (ci, fs)) ∧ fs[k]? = some v := by
  intro H hP
  obtain ⟨M0, hM, hP, hD⟩ := hP
  obtain ⟨q0, hq0, he⟩ := lr_pos (wa w A') M0 hi
  unfold lr_fk at hk
  cases hsh : lr_sh T t with
  | inl z => rw [hsh] at hk; cases hk
  | inr z =>
    cases z with
    | inl z => rw [hsh] at hk; cases hk
    | inr z =>
      rw [hsh] at hk he
      dsimp only at hk
      split at hk
      · rename_i e1
        subst e1
        refine ⟨_, q0, z.2.mapIdx (fun jj q => lr_fv (wa w A') (M0 t i) i jj q), hP, he, ?_⟩
        rw [List.getElem?_mapIdx, hk, hv, ← hM t hS]
        rfl
      · cases hk
theorem lk_ga {t i len t' c0 : Nat} (hsh : lr_rl T t = some (len, t', c0)) (hi : i < lr_cnt T t) (x : Nat) : ∀ H, lr_P T S (wa w A') M H → ∃ (ws : va_W) (q0 : Nat) (f : Nat → Option Nat), va_P (wdG w) vwCl ws H ∧ ws[q0]? = some (A' t i, .inl (wdC w c0, len, .inr (.inr (.inr (.inr f))))) ∧ f x = some (A' t' x) := by
  intro H hP
  obtain ⟨M0, hM, hP, hD⟩ := hP
  obtain ⟨q0, hq0, he⟩ := lr_pos (wa w A') M0 hi
  unfold lr_rl at hsh
  cases hs : lr_sh T t with
  | inl z => rw [hs] at hsh; cases hsh
  | inr z =>
    cases z with
    | inr z => rw [hs] at hsh; cases hsh
    | inl z =>
      rw [hs] at hsh he
      cases hsh
      exact ⟨_, q0, fun k => some (A' t' k), hP, he, rfl⟩
theorem lk_gp {t i ci k : Nat} {x : Int32} (hk : lr_fk T t ci k = some (0, 0, 0)) (hS : S t = false) (hi : i < lr_cnt T t) (hsub : ∀ q, lr_R T (wa w A') q → Af q) : ∀ H, lr_P T S (wa w A') M H → ∃ (ws : va_W) (q0 : Nat) (fs : List Value), va_P (wdG w) vwCl ws H ∧ va_D Af ws ∧ ws[q0]? = some (A' t i, .inr (ci, fs)) ∧ k < fs.length ∧ ∀ H1, va_P (wdG w) vwCl (ws.set q0 (A' t i, .inr (ci, fs.set k (.int x)))) H1 → va_D Af (ws.set q0 (A' t i, .inr (ci, fs.set k (.int x)))) → lr_P T S (wa w A') (up M t i k x) H1 := by
  intro H hP
  obtain ⟨M0, hM, hP, hD⟩ := hP
  obtain ⟨q0, hq0, he⟩ := lr_pos (wa w A') M0 hi
  unfold lr_fk at hk
  cases hsh : lr_sh T t with
  | inl z => rw [hsh] at hk; cases hk
  | inr z =>
    cases z with
    | inl z => rw [hsh] at hk; cases hk
    | inr z =>
      rw [hsh] at hk he
      dsimp only at hk
      split at hk
      · rename_i e1
        subst e1
        have hl : k < (z.2.mapIdx (fun jj q => lr_fv (wa w A') (M0 t i) i jj q)).length := by rw [List.length_mapIdx]; exact (List.getElem?_eq_some_iff.mp hk).1
        have hset : (lr_cells T (wa w A') M0).set q0 (A' t i, .inr (z.1, (z.2.mapIdx (fun jj q => lr_fv (wa w A') (M0 t i) i jj q)).set k (.int x))) = lr_cells T (wa w A') (up M0 t i k x) := by
          rw [← lr_cells_set (M1 := up M0 t i k x) hD hq0 (fun t' i' hne => up_of hne), up_at, hsh]
          rw [lr_fs_set (x := x) hk (by show Value.int x = Value.int (upd (M0 t i) k x k); rw [show upd (M0 t i) k x k = x from if_pos rfl])]
          rfl
        refine ⟨_, q0, z.2.mapIdx (fun jj q => lr_fv (wa w A') (M0 t i) i jj q), hP, hD.weaken (fun _ q _ h => hsub q.1 h), he, hl, fun H1 a1 a2 => ?_⟩
        rw [hset] at a1 a2
        exact ⟨up M0 t i k x, up_eq hM hS, a1, lr_D_self a2⟩
      · cases hk
end LKG
/-- what a constructor leaves: a memory's world -/
def lcP (w : Wd) (T : Tb) (S : Nat → Bool) (a : Nat) (good : Mem → Prop) (ws : va_W) : Prop := ∃ (A' : Nat → Nat → Nat) (M0 M : Mem), A' 99 = wdA w 99 ∧ A' 98 = wdA w 98 ∧ A' 0 0 = a ∧ ws = lr_cells T (wa w A') M0 ∧ (∀ t, S t = false → M0 t = M t) ∧ good M
