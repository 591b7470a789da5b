/-! the walk of the law's body -/
theorem W_end {p : Program} {e : Env} {s : State} {m : MethodId} {below : List Frame} {meth : Method} {c : Code} {l : Launch} {b L : Nat} {xs : Nat → Int32} {G : va_G} {cI : Nat → ClassId} {A0 : Nat → Nat → Nat} (C0 : lw_At p s m meth c b L xs) (X : lk_X (p, e, s, m, #[Value.ref b], below, meth, c) (l, G, cI, A0) (fun q => s.heap.size ≤ q) jL) (A1 A2 : Nat → Nat → Nat) (M N : Mem) (i : Nat) : ll_W (p, e, s, m, #[Value.ref b], below, meth, c) (l, G, cI, A0) (lw_Z below #[Value.ref b] s) (ll_I (l, G, cI, A0) A1 A2 M N) 1455 (ll_l b A1 A2 i) [] := by
  refine lk_ic X a_L_1455 ?_
  intro H locs A hI hS hL
  refine va_forget (fun q hq => hS.2.2 q hq) ?_
  refine W.widen (k := 600000) (n := 7302250) (Nat.le_of_ble_eq_true rfl) (Nat.le_of_ble_eq_true rfl) ?_
  exact lw_ret C0.1 C0.2.1 C0.2.2.1 C0.2.2.2.2.2.2.2.2.1 a_L_1456.1
/-- YOUR PART: from the entry, for every script of at most 3584 ints, the law comes to its end with true -/
theorem whole_start {p : Program} {e : Env} {s : State} {m : MethodId} {below : List Frame} {meth : Method} {c : Code} (l : Launch) (hflags : l.flags = flags0) {b L : Nat} {xs : Nat → Int32} (hL : L ≤ 3584) (C0 : lw_At p s m meth c b L xs) : W p l e room_1 s m #[Value.ref b] below meth c s.heap [] 0 0 (lw_Z below #[Value.ref b] s) (entryFrame m ([Value.ref b] : List Value).toArray 4) := by
  obtain ⟨G, cI, A0, hB, hY, hO⟩ := lw_base l C0
  obtain ⟨hx, hb, hr, hml, hown, hts, hX, hbl, hlocks, hgv⟩ := id C0
  have X : lk_X (p, e, s, m, #[Value.ref b], below, meth, c) (l, G, cI, A0) (fun q => s.heap.size ≤ q) jL := ⟨hx, hb, hml, hown, hr, hlocks, hB, hY⟩
  rw [lg_entry_eq]
  exact lw_begin X hO hX hbl hL (W_end C0 X) s.heap [] _ ⟨fun k q h => by simp at h, fun i j p q h => by simp at h, fun k q h => by simp at h⟩ va_S.rf (lr_ent_L (w := (l, G, cI, A0)) (as := [vr (some b)]) (n := 4) rfl)
