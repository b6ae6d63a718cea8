/-! the law's walk from its entry -/
set_option maxHeartbeats 4000000 in
theorem whole_start {p : Program} {e : Env} {s : State} {m : MethodId} {below : List Frame} {meth : Method} {c : Code} (l : Launch) (hflags : l.flags = flags0) {b L : Nat} {xs : Nat → Int32} (hL : L ≤ 2048) (C0 : lw_At p s m meth c b L xs) : W p l e room_1 s m #[Value.ref b] below meth c s.heap [] 0 0 (lw_Z below #[Value.ref b] s) (entryFrame m ([Value.ref b] : List Value).toArray 4) := by
  obtain ⟨Γ, e1, e2, e3, hkb⟩ := zkb_entry l C0
  obtain ⟨hx, hb, hr, hml, hown, hts, hX, hbl, hlocks, hgv⟩ := C0
  subst e1
  refine W.base ?_
  have hd0 := Drawn.sameBut.refl s.drawn lw_cs
  have hl := lv_entry ([.ref b]) (n := 4) (Nat.le_of_ble_eq_true rfl)
  rw [lg_entry_eq]
  have e0 : zv Γ (.ref 1000000) = .ref b := by
    have h := hkb.2.2.2.2.2.2.2.2.2.1
    rw [e3] at h
    exact h
  refine law_all (Γ := Γ) (nm := meth.name) (L := L) (xs := xs) (by rw [e3]) hL p e s m #[Value.ref b] below meth c s.drawn s.heap [] _ ⟨hx, hb, hr, hml, hown, fun w hw => hts w (zG_tbl hw), hlocks, rfl, hkb⟩ hd0 (fun k q h => by simp [zw] at h) va_S.rf (by rw [e2]; rfl) (by decide) ⟨hl.1, hl.2.1, fun i v hi => ?_⟩
  match i, hi with
  | 0, hi =>
    cases hi
    rw [e0]
    first | exact lv_at hl 0 rfl | exact hl.2.2 _ List.mem_cons_self | exact hl.2.2 _ (List.mem_singleton.mpr rfl)
  | 1, hi => cases hi
  | 2, hi => cases hi
  | 3, hi => cases hi
  | n + 4, hi => cases hi
