/-! the law from its beginning -/
set_option maxHeartbeats 4000000 in
theorem law_all {Γ : zCtx} {nm : String} {L : Nat} {xs : Nat → Int32} (hs : (zScr Γ).2 = (L, xs)) (hL : L ≤ 2048) : Z Γ room_1 (mLaw nm) lwP 0 0 0 [some (.ref 1000000), none, none, none] [] [] := by
  refine Z_new (ci := 6) (fs := [.null, .null, .int 0, .null, .null, .null, .null]) d_law_0 rfl ck_sc wcl_law_7 dfl_sc rfl (Nat.le_of_ble_eq_true rfl) (Nat.le_of_ble_eq_true rfl) (by decide) ?_
  refine Z_dup d_law_3 rfl ?_
  refine Z_callI (As := []) (k := 0) d_law_4 lm_law_9 (by decide) (sc_init_ok 0 (k := 0) rfl rfl (by decide)) (Nat.le_of_ble_eq_true rfl) (Nat.le_of_ble_eq_true rfl) (Nat.le_of_ble_eq_true rfl) (Nat.le_of_ble_eq_true rfl) (Nat.le_of_ble_eq_true rfl) (fun M1 v hq hl1 => ?_)
  obtain ⟨rfl, e⟩ := hq
  have e : M1 = memS := e
  subst e
  refine Zn_astore_n [some (.ref 1000000), some (.ref 0), none, none] d_law_7 (Nat.le_of_ble_eq_true rfl) rfl ?_
  refine Z_new (ci := 7) (fs := moI) d_law_8 rfl ck_mo wcl_law_10 dfl_mo rfl (Nat.le_of_ble_eq_true rfl) (Nat.le_of_ble_eq_true rfl) (by rw [memS_len]; decide) ?_
  rw [memS_len]
  refine Z_dup d_law_11 rfl ?_
  refine Z_callI (As := []) (k := 123) d_law_12 lm_law_12 (by decide) (mo_init_ok 0 (k := 123) rfl rfl (by decide)) (Nat.le_of_ble_eq_true rfl) (Nat.le_of_ble_eq_true rfl) (Nat.le_of_ble_eq_true rfl) (Nat.le_of_ble_eq_true rfl) (Nat.le_of_ble_eq_true rfl) (fun M1 v hq hl2 => ?_)
  obtain ⟨rfl, e⟩ := hq
  have e : M1 = memM := e
  subst e
  refine Zn_astore_n [some (.ref 1000000), some (.ref 0), some (.ref 123), none] d_law_15 (Nat.le_of_ble_eq_true rfl) rfl ?_
  refine Zn_iconst (nI 0) d_law_16 (by decide) ?_
  refine Zn_istore_n (lwL 0) d_law_17 (Nat.le_of_ble_eq_true rfl) rfl ?_
  exact law_loop hs hL (L + 5) 0 memM (by omega) (by omega) start_INV rfl
