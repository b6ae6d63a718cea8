set_option maxHeartbeats 4000000 in
theorem ver_init_ok {Γ : zCtx} {M : List zE} (d : Nat) {k : Nat} (hM : M[k]? = some (.inr (5, [.null, .int 0, .null, .null, .null]))) (hL : M.length = k + 1) (h9 : k + 200 < 1000000) : ZM Γ (d + 2) m_ver_init [.ref k] M (fun M1 v => v = none ∧ M1 = M.set k (.inr (5, [.ref (k + 1 + 0), .int 0, .ref (k + 1 + 6), .ref (k + 1 + 7), .ref (k + 1 + 8)])) ++ ([.inr (2, [.int 0, .ref ((k + 1 + 0) + 1 + 0), .ref ((k + 1 + 0) + 1 + 1), .ref ((k + 1 + 0) + 1 + 2), .ref ((k + 1 + 0) + 1 + 3), .ref ((k + 1 + 0) + 1 + 4)])] ++ ([.inl (1, zZero 1 60), .inl (0, zZero 0 60), .inl (2, zZero 2 60), .inl (0, zZero 0 60), .inl (0, zZero 0 60)]) ++ [.inl (0, zZero 0 120), .inl (0, zZero 0 120), .inl (0, zZero 0 120)])) := by
  refine ZM.of mk_ver_init (Nat.le_of_ble_eq_true rfl) ?_
  generalize hQ : (fun (M1 : List zE) (v : Option Value) => v = none ∧ M1 = M.set k (.inr (5, [.ref (k + 1 + 0), .int 0, .ref (k + 1 + 6), .ref (k + 1 + 7), .ref (k + 1 + 8)])) ++ ([.inr (2, [.int 0, .ref ((k + 1 + 0) + 1 + 0), .ref ((k + 1 + 0) + 1 + 1), .ref ((k + 1 + 0) + 1 + 2), .ref ((k + 1 + 0) + 1 + 3), .ref ((k + 1 + 0) + 1 + 4)])] ++ ([.inl (1, zZero 1 60), .inl (0, zZero 0 60), .inl (2, zZero 2 60), .inl (0, zZero 0 60), .inl (0, zZero 0 60)]) ++ [.inl (0, zZero 0 120), .inl (0, zZero 0 120), .inl (0, zZero 0 120)])) = Q
  rw [zi_start hM]
  subst hQ
  refine Z_aload_n d_ver_init_0 rfl ?_
  refine Z_objInit d_ver_init_1 lo_ver_3 wob_i wob_c (by omega) (by decide) (by show 1 ≤ d + 2; omega) (by show 64 ≤ 64 * (d + 2); omega) ?_
  refine Z_aload_n d_ver_init_4 rfl ?_
  refine Zi_new (ci := 2) (fs := [.int 0, .null, .null, .null, .null, .null]) (r := k + 1 + 0) hL (by simp only [List.length_append, List.length_cons, List.length_nil, List.length_replicate] <;> omega) (by omega) d_ver_init_5 rfl ck_pv wcl_ver_9 dfl_pv rfl (Nat.le_of_ble_eq_true rfl) (Nat.le_of_ble_eq_true rfl) ?_
  refine Z_dup d_ver_init_8 rfl ?_
  refine Zi_callI (r := k + 1 + 0) (c := ([.inl (1, zZero 1 60), .inl (0, zZero 0 60), .inl (2, zZero 2 60), .inl (0, zZero 0 60), .inl (0, zZero 0 60)])) (F := [.int 0, .ref ((k + 1 + 0) + 1 + 0), .ref ((k + 1 + 0) + 1 + 1), .ref ((k + 1 + 0) + 1 + 2), .ref ((k + 1 + 0) + 1 + 3), .ref ((k + 1 + 0) + 1 + 4)]) (ci := 2) hL (by simp only [List.length_append, List.length_cons, List.length_nil, List.length_replicate] <;> omega) (by omega) d_ver_init_9 lm_ver_11 (fun h1 h2 => pv_init_ok d h1 h2 (by omega)) (Nat.le_of_ble_eq_true rfl) (by show d + 1 + 1 ≤ d + 2; omega) (by show 64 * (d + 1 + 1) ≤ 64 * (d + 2); omega) (Nat.le_of_ble_eq_true rfl) (Nat.le_of_ble_eq_true rfl) ?_
  refine Zi_putF [.ref (k + 1 + 0), .int 0, .null, .null, .null] rfl hL d_ver_init_12 lf_ver_12 rfl rfl (fun C T N h => by cases h; rfl) (Or.inl ⟨_, rfl⟩) (fun C T N h => by cases h; exact zG_of 184 (by decide +kernel) rfl) (by omega) (Nat.le_of_ble_eq_true rfl) ?_
  refine Z_aload_n d_ver_init_15 rfl ?_
  refine Zn_bipush (nI 120) d_ver_init_16 (by decide) ?_
  refine Zi_newa (t := 0) (N := 120) (r := k + 1 + 6) hL (by simp only [List.length_append, List.length_cons, List.length_nil, List.length_replicate] <;> omega) (by omega) (by decide) d_ver_init_18 war_int (by decide) (by decide) (by decide) (Nat.le_of_ble_eq_true rfl) (Nat.le_of_ble_eq_true rfl) ?_
  refine Zi_putF [.ref (k + 1 + 0), .int 0, .ref (k + 1 + 6), .null, .null] rfl hL d_ver_init_20 lf_ver_18 rfl rfl (fun C T N h => by cases h; rfl) (Or.inr ⟨_, rfl⟩) (fun C T N h => by cases h; exact zG_of 188 (by decide +kernel) rfl) (by omega) (Nat.le_of_ble_eq_true rfl) ?_
  refine Z_aload_n d_ver_init_23 rfl ?_
  refine Zn_bipush (nI 120) d_ver_init_24 (by decide) ?_
  refine Zi_newa (t := 0) (N := 120) (r := k + 1 + 7) hL (by simp only [List.length_append, List.length_cons, List.length_nil, List.length_replicate] <;> omega) (by omega) (by decide) d_ver_init_26 war_int (by decide) (by decide) (by decide) (Nat.le_of_ble_eq_true rfl) (Nat.le_of_ble_eq_true rfl) ?_
  refine Zi_putF [.ref (k + 1 + 0), .int 0, .ref (k + 1 + 6), .ref (k + 1 + 7), .null] rfl hL d_ver_init_28 lf_ver_22 rfl rfl (fun C T N h => by cases h; rfl) (Or.inr ⟨_, rfl⟩) (fun C T N h => by cases h; exact zG_of 190 (by decide +kernel) rfl) (by omega) (Nat.le_of_ble_eq_true rfl) ?_
  refine Z_aload_n d_ver_init_31 rfl ?_
  refine Zn_bipush (nI 120) d_ver_init_32 (by decide) ?_
  refine Zi_newa (t := 0) (N := 120) (r := k + 1 + 8) hL (by simp only [List.length_append, List.length_cons, List.length_nil, List.length_replicate] <;> omega) (by omega) (by decide) d_ver_init_34 war_int (by decide) (by decide) (by decide) (Nat.le_of_ble_eq_true rfl) (Nat.le_of_ble_eq_true rfl) ?_
  refine Zi_putF [.ref (k + 1 + 0), .int 0, .ref (k + 1 + 6), .ref (k + 1 + 7), .ref (k + 1 + 8)] rfl hL d_ver_init_36 lf_ver_25 rfl rfl (fun C T N h => by cases h; rfl) (Or.inr ⟨_, rfl⟩) (fun C T N h => by cases h; exact zG_of 192 (by decide +kernel) rfl) (by omega) (Nat.le_of_ble_eq_true rfl) ?_
  refine Z_vret d_ver_init_39 rfl ?_
  refine ⟨rfl, ?_⟩
  simp only [List.nil_append, List.cons_append, List.append_assoc]
