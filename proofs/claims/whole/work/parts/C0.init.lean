/-! the constructors -/
section ZI
variable {Γ : zCtx} {R : Room} {μ : zMe} {Φ : zPhi} {kc ks pc : Nat} {ls : List (Option Value)} {st : List Value} {M : List zE}
theorem zi_len {M l : List zE} {k r : Nat} {x : zE} (hL : M.length = k + 1) (hr : k + 1 + l.length = r) : (M.set k x ++ l).length = r := by rw [List.length_append, List.length_set, hL, hr]
theorem zi_get {M l : List zE} {k : Nat} {x : zE} (hL : M.length = k + 1) : (M.set k x ++ l)[k]? = some x := by
  rw [List.getElem?_append_left (by rw [List.length_set]; omega), List.getElem?_set_self (by omega)]
theorem zi_set {M l : List zE} {k : Nat} {x y : zE} (hL : M.length = k + 1) : (M.set k x ++ l).set k y = M.set k y ++ l := by
  rw [List.set_append_left _ _ (by rw [List.length_set]; omega), List.set_set]
theorem zi_start {M : List zE} {k : Nat} {x : zE} (hM : M[k]? = some x) : M = M.set k x ++ [] := by
  rw [List.append_nil]
  refine List.ext_getElem? (fun i => ?_)
  by_cases h : i = k
  · subst h
    rw [List.getElem?_set_self (List.getElem?_eq_some_iff.mp hM).1, hM]
  · rw [List.getElem?_set_ne (fun z => h z.symm)]
theorem Zi_newa {k r t N : Nat} {n : Int32} {x : zE} {l : List zE} (hL : M.length = k + 1) (hr : k + 1 + l.length = r) (h9 : r < 1000000) (ht : t < 3) (hd : decode μ.2.2.1 pc = .ok (.newarray (zAt0 t), 2)) (hw : Cond.arrayClass (zTy t) ∈ zG) (hn0 : ¬ n < 0) (hN : n.toNatClampNeg = N) (hb8 : N * 8 ≤ 536870912) (hce : kc + 1 ≤ R.cells) (hsl : ks + N ≤ R.slots)
    (kk : Z Γ R μ Φ (kc + 1) (ks + N) (pc + 2) ls (.ref r :: st) (M.set k x ++ (l ++ [.inl (t, zZero t N)]))) : Z Γ R μ Φ kc ks pc ls (.int n :: st) (M.set k x ++ l) := by
  have e := zi_len (x := x) hL hr
  exact Z_newa ht hd hw hn0 hN hb8 hce hsl (by omega) (by rw [e, List.append_assoc]; exact kk)
theorem Zi_new {k r idx ci N : Nat} {C : String} {T0 : u_T} {fs : List Value} {x : zE} {l : List zE} (hL : M.length = k + 1) (hr : k + 1 + l.length = r) (h9 : r < 1000000) (hd : decode μ.2.2.1 pc = .ok (.new idx, 3)) (hcl : zCl[ci]? = some (C, T0, N)) (hck : zCk ci) (hw : Cond.classLink μ.1 idx C ∈ zG) (hfs : ∀ j, j < N → defaultValue (zTt ci j) = vp_V fs j) (hfv : fs.map (zv Γ) = fs) (hce : kc + 1 ≤ R.cells) (hsl : ks + N ≤ R.slots)
    (kk : Z Γ R μ Φ (kc + 1) (ks + N) (pc + 3) ls (.ref r :: st) (M.set k x ++ (l ++ [.inr (ci, fs)]))) : Z Γ R μ Φ kc ks pc ls st (M.set k x ++ l) := by
  have e := zi_len (x := x) hL hr
  exact Z_new hd hcl hck hw hfs hfv hce hsl (by omega) (by rw [e, List.append_assoc]; exact kk)
theorem Zi_mna {k r idx N K : Nat} {n q : Int32} {x : zE} {l : List zE} (hL : M.length = k + 1) (hr : k + 1 + l.length = r) (h9 : r + 1 + N ≤ 1000000) (hd : decode μ.2.2.1 pc = .ok (.multianewarray idx 2, 4)) (hw : Cond.classLink μ.1 idx "[[I" ∈ zG) (hw2 : Cond.arrayClass .int ∈ zG) (hn0 : ¬ n < 0) (hk0 : ¬ q < 0) (hN : n.toNatClampNeg = N) (hK : q.toNatClampNeg = K) (hN9 : N ≤ 1000) (hK9 : K ≤ 1000) (hce : kc + (1 + N) ≤ R.cells) (hsl : ks + (N + N * K) ≤ R.slots)
    (kk : Z Γ R μ Φ (kc + 1 + N) (ks + N + N * K) (pc + 4) ls (.ref r :: st) (M.set k x ++ (l ++ ([.inl (3, N, .inr (.inr (.inr (.inr (fun i => if i < N then some (r + 1 + i) else none)))))] ++ List.replicate N (.inl (0, K, .inl (fun _ => 0))))))) : Z Γ R μ Φ kc ks pc ls (.int q :: .int n :: st) (M.set k x ++ l) := by
  have e := zi_len (x := x) hL hr
  exact Z_mna hd hw hw2 hn0 hk0 hN hK hN9 hK9 hce hsl (by omega) (by rw [e, List.append_assoc, List.append_assoc]; exact kk)
theorem Zi_putF {idx ci j k r : Nat} {fs : List Value} {l : List zE} (fs' : List Value) (he : fs.set j (.ref r) = fs') (hL : M.length = k + 1) (hd : decode μ.2.2.1 pc = .ok (.putfield idx, 3)) (hf : zFl μ.1 idx ci j) (hfin : zFn ci j = true) (hin : μ.2.1.name = "<init>") (hown0 : ∀ C T N, zCl[ci]? = some (C, T, N) → C = μ.1) (hty : (∃ t, zTt ci j = .object t) ∨ ∃ t, zTt ci j = .array t) (hpl : ∀ C T N, zCl[ci]? = some (C, T, N) → Cond.fieldLink μ.1 idx C (T j).2.1 (T j).2.2.1 ∈ zG) (hr : r < 1000000) (hj : j < fs.length) (kk : Z Γ R μ Φ kc ks (pc + 3) ls st (M.set k (.inr (ci, fs')) ++ l)) : Z Γ R μ Φ kc ks pc ls (.ref r :: .ref k :: st) (M.set k (.inr (ci, fs)) ++ l) :=
  Z_putF hd hf (zi_get hL) hfin hin hown0 hty hpl hr hj (by rw [zi_set hL, he]; exact kk)
theorem zi_get2 {M l : List zE} {k r : Nat} {x y : zE} (hL : M.length = k + 1) (hr : k + 1 + l.length = r) : (M.set k x ++ (l ++ [y]))[r]? = some y := by
  rw [← List.append_assoc, List.getElem?_append_right (by rw [zi_len hL hr]; omega), zi_len hL hr, Nat.sub_self]; rfl
theorem zi_set2 {M l : List zE} {k r : Nat} {x y z : zE} (hL : M.length = k + 1) (hr : k + 1 + l.length = r) : (M.set k x ++ (l ++ [y])).set r z = M.set k x ++ (l ++ [z]) := by
  rw [← List.append_assoc, List.set_append_right _ _ (by rw [zi_len hL hr]; omega), zi_len hL hr, Nat.sub_self, List.set_cons_zero, List.append_assoc]
theorem Zi_callI {μ' : zMe} {d idx k r ci : Nat} {x y : zE} {F : List Value} {l c : List zE} (hL : M.length = k + 1) (hr : k + 1 + l.length = r) (h9 : r < 1000000) (hd : decode μ.2.2.1 pc = .ok (.invokespecial idx, 3)) (hLi : zLi μ.1 idx 0 μ') (hM : (M.set k x ++ (l ++ [y]))[r]? = some y → (M.set k x ++ (l ++ [y])).length = r + 1 → ZM Γ d μ' [.ref r] (M.set k x ++ (l ++ [y])) (fun M1 v => v = none ∧ M1 = (M.set k x ++ (l ++ [y])).set r (.inr (ci, F)) ++ c))
    (hst : (st.map fun v => v.category).sum ≤ 8) (hfr : d + 1 ≤ R.frames) (hlo : 64 * (d + 1) ≤ R.locals) (hce : kc + μ'.2.2.2.2.2.1 ≤ R.cells) (hsl : ks + μ'.2.2.2.2.2.2 ≤ R.slots)
    (kk : Z Γ R μ Φ (kc + μ'.2.2.2.2.2.1) (ks + μ'.2.2.2.2.2.2) (pc + 3) ls st (M.set k x ++ ((l ++ [.inr (ci, F)]) ++ c))) : Z Γ R μ Φ kc ks pc ls (.ref r :: st) (M.set k x ++ (l ++ [y])) := by
  refine Z_callI (As := []) hd hLi (by omega) (hM (zi_get2 hL hr) (by rw [← List.append_assoc, List.length_append, zi_len hL hr]; rfl)) hst hfr hlo hce hsl (fun M1 v hq _ => ?_)
  obtain ⟨rfl, rfl⟩ := hq
  rw [zi_set2 hL hr, List.append_assoc]
  exact kk
end ZI
theorem wai : Cond.arrayClass .int ∈ zG := war_int
theorem dfl_am : ∀ j, j < 7 → defaultValue (zTt 0 j) = vp_V [.int 0, .null, .null, .null, .null, .null, .null] j := fun j hj => match j, hj with
  | 0, _ => rfl
  | 1, _ => rfl
  | 2, _ => rfl
  | 3, _ => rfl
  | 4, _ => rfl
  | 5, _ => rfl
  | 6, _ => rfl
  | n + 7, h => absurd h (by omega)
theorem dfl_inp : ∀ j, j < 3 → defaultValue (zTt 1 j) = vp_V [.null, .int 0, .int 0] j := fun j hj => match j, hj with
  | 0, _ => rfl
  | 1, _ => rfl
  | 2, _ => rfl
  | n + 3, h => absurd h (by omega)
theorem dfl_pv : ∀ j, j < 6 → defaultValue (zTt 2 j) = vp_V [.int 0, .null, .null, .null, .null, .null] j := fun j hj => match j, hj with
  | 0, _ => rfl
  | 1, _ => rfl
  | 2, _ => rfl
  | 3, _ => rfl
  | 4, _ => rfl
  | 5, _ => rfl
  | n + 6, h => absurd h (by omega)
theorem dfl_sh : ∀ j, j < 4 → defaultValue (zTt 3 j) = vp_V [.null, .null, .null, .null] j := fun j hj => match j, hj with
  | 0, _ => rfl
  | 1, _ => rfl
  | 2, _ => rfl
  | 3, _ => rfl
  | n + 4, h => absurd h (by omega)
theorem dfl_sta : ∀ j, j < 4 → defaultValue (zTt 4 j) = vp_V [.null, .null, .null, .null] j := fun j hj => match j, hj with
  | 0, _ => rfl
  | 1, _ => rfl
  | 2, _ => rfl
  | 3, _ => rfl
  | n + 4, h => absurd h (by omega)
theorem dfl_ver : ∀ j, j < 5 → defaultValue (zTt 5 j) = vp_V [.null, .int 0, .null, .null, .null] j := fun j hj => match j, hj with
  | 0, _ => rfl
  | 1, _ => rfl
  | 2, _ => rfl
  | 3, _ => rfl
  | 4, _ => rfl
  | n + 5, h => absurd h (by omega)
theorem dfl_sc : ∀ j, j < 7 → defaultValue (zTt 6 j) = vp_V [.null, .null, .int 0, .null, .null, .null, .null] j := fun j hj => match j, hj with
  | 0, _ => rfl
  | 1, _ => rfl
  | 2, _ => rfl
  | 3, _ => rfl
  | 4, _ => rfl
  | 5, _ => rfl
  | 6, _ => rfl
  | n + 7, h => absurd h (by omega)
set_option maxHeartbeats 4000000 in
theorem pv_init_ok {Γ : zCtx} {M : List zE} (d : Nat) {k : Nat} (hM : M[k]? = some (.inr (2, [.int 0, .null, .null, .null, .null, .null]))) (hL : M.length = k + 1) (h9 : k + 50 < 1000000) : ZM Γ (d + 1) m_pv_init [.ref k] M (fun M1 v => v = none ∧ M1 = M.set k (.inr (2, [.int 0, .ref (k + 1 + 0), .ref (k + 1 + 1), .ref (k + 1 + 2), .ref (k + 1 + 3), .ref (k + 1 + 4)])) ++ ([.inl (1, zZero 1 60), .inl (0, zZero 0 60), .inl (2, zZero 2 60), .inl (0, zZero 0 60), .inl (0, zZero 0 60)])) := by
  refine ZM.of mk_pv_init (Nat.le_of_ble_eq_true rfl) ?_
  generalize hQ : (fun (M1 : List zE) (v : Option Value) => v = none ∧ M1 = M.set k (.inr (2, [.int 0, .ref (k + 1 + 0), .ref (k + 1 + 1), .ref (k + 1 + 2), .ref (k + 1 + 3), .ref (k + 1 + 4)])) ++ ([.inl (1, zZero 1 60), .inl (0, zZero 0 60), .inl (2, zZero 2 60), .inl (0, zZero 0 60), .inl (0, zZero 0 60)])) = Q
  rw [zi_start hM]
  subst hQ
  refine Z_aload_n d_pv_init_0 rfl ?_
  refine Z_objInit d_pv_init_1 lo_pv_3 wob_i wob_c (by omega) (by decide) (by show 1 ≤ d + 1; omega) (by show 64 ≤ 64 * (d + 1); omega) ?_
  refine Z_aload_n d_pv_init_4 rfl ?_
  refine Zn_bipush (nI 60) d_pv_init_5 (by decide) ?_
  refine Zi_newa (t := 1) (N := 60) (r := k + 1 + 0) hL (by rfl) (by omega) (by decide) d_pv_init_7 war_long (by decide) (by decide) (by decide) (Nat.le_of_ble_eq_true rfl) (Nat.le_of_ble_eq_true rfl) ?_
  refine Zi_putF [.int 0, .ref (k + 1 + 0), .null, .null, .null, .null] rfl hL d_pv_init_9 lf_pv_9 rfl rfl (fun C T N h => by cases h; rfl) (Or.inr ⟨_, rfl⟩) (fun C T N h => by cases h; exact zG_of 42 (by decide +kernel) rfl) (by omega) (Nat.le_of_ble_eq_true rfl) ?_
  refine Z_aload_n d_pv_init_12 rfl ?_
  refine Zn_bipush (nI 60) d_pv_init_13 (by decide) ?_
  refine Zi_newa (t := 0) (N := 60) (r := k + 1 + 1) hL (by rfl) (by omega) (by decide) d_pv_init_15 war_int (by decide) (by decide) (by decide) (Nat.le_of_ble_eq_true rfl) (Nat.le_of_ble_eq_true rfl) ?_
  refine Zi_putF [.int 0, .ref (k + 1 + 0), .ref (k + 1 + 1), .null, .null, .null] rfl hL d_pv_init_17 lf_pv_15 rfl rfl (fun C T N h => by cases h; rfl) (Or.inr ⟨_, rfl⟩) (fun C T N h => by cases h; exact zG_of 45 (by decide +kernel) rfl) (by omega) (Nat.le_of_ble_eq_true rfl) ?_
  refine Z_aload_n d_pv_init_20 rfl ?_
  refine Zn_bipush (nI 60) d_pv_init_21 (by decide) ?_
  refine Zi_newa (t := 2) (N := 60) (r := k + 1 + 2) hL (by rfl) (by omega) (by decide) d_pv_init_23 war_boolean (by decide) (by decide) (by decide) (Nat.le_of_ble_eq_true rfl) (Nat.le_of_ble_eq_true rfl) ?_
  refine Zi_putF [.int 0, .ref (k + 1 + 0), .ref (k + 1 + 1), .ref (k + 1 + 2), .null, .null] rfl hL d_pv_init_25 lf_pv_19 rfl rfl (fun C T N h => by cases h; rfl) (Or.inr ⟨_, rfl⟩) (fun C T N h => by cases h; exact zG_of 48 (by decide +kernel) rfl) (by omega) (Nat.le_of_ble_eq_true rfl) ?_
  refine Z_aload_n d_pv_init_28 rfl ?_
  refine Zn_bipush (nI 60) d_pv_init_29 (by decide) ?_
  refine Zi_newa (t := 0) (N := 60) (r := k + 1 + 3) hL (by rfl) (by omega) (by decide) d_pv_init_31 war_int (by decide) (by decide) (by decide) (Nat.le_of_ble_eq_true rfl) (Nat.le_of_ble_eq_true rfl) ?_
  refine Zi_putF [.int 0, .ref (k + 1 + 0), .ref (k + 1 + 1), .ref (k + 1 + 2), .ref (k + 1 + 3), .null] rfl hL d_pv_init_33 lf_pv_23 rfl rfl (fun C T N h => by cases h; rfl) (Or.inr ⟨_, rfl⟩) (fun C T N h => by cases h; exact zG_of 51 (by decide +kernel) rfl) (by omega) (Nat.le_of_ble_eq_true rfl) ?_
  refine Z_aload_n d_pv_init_36 rfl ?_
  refine Zn_bipush (nI 60) d_pv_init_37 (by decide) ?_
  refine Zi_newa (t := 0) (N := 60) (r := k + 1 + 4) hL (by rfl) (by omega) (by decide) d_pv_init_39 war_int (by decide) (by decide) (by decide) (Nat.le_of_ble_eq_true rfl) (Nat.le_of_ble_eq_true rfl) ?_
  refine Zi_putF [.int 0, .ref (k + 1 + 0), .ref (k + 1 + 1), .ref (k + 1 + 2), .ref (k + 1 + 3), .ref (k + 1 + 4)] rfl hL d_pv_init_41 lf_pv_26 rfl rfl (fun C T N h => by cases h; rfl) (Or.inr ⟨_, rfl⟩) (fun C T N h => by cases h; exact zG_of 53 (by decide +kernel) rfl) (by omega) (Nat.le_of_ble_eq_true rfl) ?_
  refine Z_vret d_pv_init_44 rfl ?_
  exact ⟨rfl, rfl⟩
set_option maxHeartbeats 4000000 in
theorem am_init_ok {Γ : zCtx} {M : List zE} (d : Nat) {k : Nat} (hM : M[k]? = some (.inr (0, [.int 0, .null, .null, .null, .null, .null, .null]))) (hL : M.length = k + 1) (h9 : k + 50 < 1000000) : ZM Γ (d + 1) m_am_init [.ref k] M (fun M1 v => v = none ∧ M1 = M.set k (.inr (0, [.int 0, .ref (k + 1 + 0), .ref (k + 1 + 1), .ref (k + 1 + 2), .ref (k + 1 + 3), .ref (k + 1 + 4), .ref (k + 1 + 5)])) ++ ([.inl (0, zZero 0 8), .inl (0, zZero 0 8), .inl (0, zZero 0 120), .inl (1, zZero 1 120), .inl (1, zZero 1 120), .inl (0, zZero 0 120)])) := by
  refine ZM.of mk_am_init (Nat.le_of_ble_eq_true rfl) ?_
  generalize hQ : (fun (M1 : List zE) (v : Option Value) => v = none ∧ M1 = M.set k (.inr (0, [.int 0, .ref (k + 1 + 0), .ref (k + 1 + 1), .ref (k + 1 + 2), .ref (k + 1 + 3), .ref (k + 1 + 4), .ref (k + 1 + 5)])) ++ ([.inl (0, zZero 0 8), .inl (0, zZero 0 8), .inl (0, zZero 0 120), .inl (1, zZero 1 120), .inl (1, zZero 1 120), .inl (0, zZero 0 120)])) = Q
  rw [zi_start hM]
  subst hQ
  refine Z_aload_n d_am_init_0 rfl ?_
  refine Z_objInit d_am_init_1 lo_am_3 wob_i wob_c (by omega) (by decide) (by show 1 ≤ d + 1; omega) (by show 64 ≤ 64 * (d + 1); omega) ?_
  refine Z_aload_n d_am_init_4 rfl ?_
  refine Zn_bipush (nI 8) d_am_init_5 (by decide) ?_
  refine Zi_newa (t := 0) (N := 8) (r := k + 1 + 0) hL (by rfl) (by omega) (by decide) d_am_init_7 war_int (by decide) (by decide) (by decide) (Nat.le_of_ble_eq_true rfl) (Nat.le_of_ble_eq_true rfl) ?_
  refine Zi_putF [.int 0, .ref (k + 1 + 0), .null, .null, .null, .null, .null] rfl hL d_am_init_9 lf_am_9 rfl rfl (fun C T N h => by cases h; rfl) (Or.inr ⟨_, rfl⟩) (fun C T N h => by cases h; exact zG_of 81 (by decide +kernel) rfl) (by omega) (Nat.le_of_ble_eq_true rfl) ?_
  refine Z_aload_n d_am_init_12 rfl ?_
  refine Zn_bipush (nI 8) d_am_init_13 (by decide) ?_
  refine Zi_newa (t := 0) (N := 8) (r := k + 1 + 1) hL (by rfl) (by omega) (by decide) d_am_init_15 war_int (by decide) (by decide) (by decide) (Nat.le_of_ble_eq_true rfl) (Nat.le_of_ble_eq_true rfl) ?_
  refine Zi_putF [.int 0, .ref (k + 1 + 0), .ref (k + 1 + 1), .null, .null, .null, .null] rfl hL d_am_init_17 lf_am_15 rfl rfl (fun C T N h => by cases h; rfl) (Or.inr ⟨_, rfl⟩) (fun C T N h => by cases h; exact zG_of 84 (by decide +kernel) rfl) (by omega) (Nat.le_of_ble_eq_true rfl) ?_
  refine Z_aload_n d_am_init_20 rfl ?_
  refine Zn_bipush (nI 120) d_am_init_21 (by decide) ?_
  refine Zi_newa (t := 0) (N := 120) (r := k + 1 + 2) hL (by rfl) (by omega) (by decide) d_am_init_23 war_int (by decide) (by decide) (by decide) (Nat.le_of_ble_eq_true rfl) (Nat.le_of_ble_eq_true rfl) ?_
  refine Zi_putF [.int 0, .ref (k + 1 + 0), .ref (k + 1 + 1), .ref (k + 1 + 2), .null, .null, .null] rfl hL d_am_init_25 lf_am_18 rfl rfl (fun C T N h => by cases h; rfl) (Or.inr ⟨_, rfl⟩) (fun C T N h => by cases h; exact zG_of 87 (by decide +kernel) rfl) (by omega) (Nat.le_of_ble_eq_true rfl) ?_
  refine Z_aload_n d_am_init_28 rfl ?_
  refine Zn_bipush (nI 120) d_am_init_29 (by decide) ?_
  refine Zi_newa (t := 1) (N := 120) (r := k + 1 + 3) hL (by rfl) (by omega) (by decide) d_am_init_31 war_long (by decide) (by decide) (by decide) (Nat.le_of_ble_eq_true rfl) (Nat.le_of_ble_eq_true rfl) ?_
  refine Zi_putF [.int 0, .ref (k + 1 + 0), .ref (k + 1 + 1), .ref (k + 1 + 2), .ref (k + 1 + 3), .null, .null] rfl hL d_am_init_33 lf_am_21 rfl rfl (fun C T N h => by cases h; rfl) (Or.inr ⟨_, rfl⟩) (fun C T N h => by cases h; exact zG_of 90 (by decide +kernel) rfl) (by omega) (Nat.le_of_ble_eq_true rfl) ?_
  refine Z_aload_n d_am_init_36 rfl ?_
  refine Zn_bipush (nI 120) d_am_init_37 (by decide) ?_
  refine Zi_newa (t := 1) (N := 120) (r := k + 1 + 4) hL (by rfl) (by omega) (by decide) d_am_init_39 war_long (by decide) (by decide) (by decide) (Nat.le_of_ble_eq_true rfl) (Nat.le_of_ble_eq_true rfl) ?_
  refine Zi_putF [.int 0, .ref (k + 1 + 0), .ref (k + 1 + 1), .ref (k + 1 + 2), .ref (k + 1 + 3), .ref (k + 1 + 4), .null] rfl hL d_am_init_41 lf_am_25 rfl rfl (fun C T N h => by cases h; rfl) (Or.inr ⟨_, rfl⟩) (fun C T N h => by cases h; exact zG_of 93 (by decide +kernel) rfl) (by omega) (Nat.le_of_ble_eq_true rfl) ?_
  refine Z_aload_n d_am_init_44 rfl ?_
  refine Zn_bipush (nI 120) d_am_init_45 (by decide) ?_
  refine Zi_newa (t := 0) (N := 120) (r := k + 1 + 5) hL (by rfl) (by omega) (by decide) d_am_init_47 war_int (by decide) (by decide) (by decide) (Nat.le_of_ble_eq_true rfl) (Nat.le_of_ble_eq_true rfl) ?_
  refine Zi_putF [.int 0, .ref (k + 1 + 0), .ref (k + 1 + 1), .ref (k + 1 + 2), .ref (k + 1 + 3), .ref (k + 1 + 4), .ref (k + 1 + 5)] rfl hL d_am_init_49 lf_am_28 rfl rfl (fun C T N h => by cases h; rfl) (Or.inr ⟨_, rfl⟩) (fun C T N h => by cases h; exact zG_of 96 (by decide +kernel) rfl) (by omega) (Nat.le_of_ble_eq_true rfl) ?_
  refine Z_vret d_am_init_52 rfl ?_
  exact ⟨rfl, rfl⟩
set_option maxHeartbeats 4000000 in
theorem inp_init_ok {Γ : zCtx} {M : List zE} (d : Nat) {k : Nat} (hM : M[k]? = some (.inr (1, [.null, .int 0, .int 0]))) (hL : M.length = k + 1) (h9 : k + 50 < 1000000) : ZM Γ (d + 1) m_inp_init [.ref k] M (fun M1 v => v = none ∧ M1 = M.set k (.inr (1, [.ref (k + 1 + 0), .int 0, .int 0])) ++ ([.inl (0, zZero 0 120)])) := by
  refine ZM.of mk_inp_init (Nat.le_of_ble_eq_true rfl) ?_
  generalize hQ : (fun (M1 : List zE) (v : Option Value) => v = none ∧ M1 = M.set k (.inr (1, [.ref (k + 1 + 0), .int 0, .int 0])) ++ ([.inl (0, zZero 0 120)])) = Q
  rw [zi_start hM]
  subst hQ
  refine Z_aload_n d_inp_init_0 rfl ?_
  refine Z_objInit d_inp_init_1 lo_inp_3 wob_i wob_c (by omega) (by decide) (by show 1 ≤ d + 1; omega) (by show 64 ≤ 64 * (d + 1); omega) ?_
  refine Z_aload_n d_inp_init_4 rfl ?_
  refine Zn_bipush (nI 120) d_inp_init_5 (by decide) ?_
  refine Zi_newa (t := 0) (N := 120) (r := k + 1 + 0) hL (by rfl) (by omega) (by decide) d_inp_init_7 war_int (by decide) (by decide) (by decide) (Nat.le_of_ble_eq_true rfl) (Nat.le_of_ble_eq_true rfl) ?_
  refine Zi_putF [.ref (k + 1 + 0), .int 0, .int 0] rfl hL d_inp_init_9 lf_inp_9 rfl rfl (fun C T N h => by cases h; rfl) (Or.inr ⟨_, rfl⟩) (fun C T N h => by cases h; exact zG_of 139 (by decide +kernel) rfl) (by omega) (Nat.le_of_ble_eq_true rfl) ?_
  refine Z_vret d_inp_init_12 rfl ?_
  exact ⟨rfl, rfl⟩
set_option maxHeartbeats 4000000 in
theorem sh_init_ok {Γ : zCtx} {M : List zE} (d : Nat) {k : Nat} (hM : M[k]? = some (.inr (3, [.null, .null, .null, .null]))) (hL : M.length = k + 1) (h9 : k + 50 < 1000000) : ZM Γ (d + 1) m_sh_init [.ref k] M (fun M1 v => v = none ∧ M1 = M.set k (.inr (3, [.ref (k + 1 + 0), .ref (k + 1 + 1), .ref (k + 1 + 2), .ref (k + 1 + 3)])) ++ ([.inl (2, zZero 2 3), .inl (0, zZero 0 3), .inl (0, zZero 0 3)] ++ ([.inl (3, 3, .inr (.inr (.inr (.inr (fun i => if i < 3 then some (k + 1 + 3 + 1 + i) else none)))))] ++ List.replicate 3 (.inl (0, 10, .inl (fun _ => 0)))))) := by
  refine ZM.of mk_sh_init (Nat.le_of_ble_eq_true rfl) ?_
  generalize hQ : (fun (M1 : List zE) (v : Option Value) => v = none ∧ M1 = M.set k (.inr (3, [.ref (k + 1 + 0), .ref (k + 1 + 1), .ref (k + 1 + 2), .ref (k + 1 + 3)])) ++ ([.inl (2, zZero 2 3), .inl (0, zZero 0 3), .inl (0, zZero 0 3)] ++ ([.inl (3, 3, .inr (.inr (.inr (.inr (fun i => if i < 3 then some (k + 1 + 3 + 1 + i) else none)))))] ++ List.replicate 3 (.inl (0, 10, .inl (fun _ => 0)))))) = Q
  rw [zi_start hM]
  subst hQ
  refine Z_aload_n d_sh_init_0 rfl ?_
  refine Z_objInit d_sh_init_1 lo_sh_3 wob_i wob_c (by omega) (by decide) (by show 1 ≤ d + 1; omega) (by show 64 ≤ 64 * (d + 1); omega) ?_
  refine Z_aload_n d_sh_init_4 rfl ?_
  refine Zn_iconst (nI 3) d_sh_init_5 (by decide) ?_
  refine Zi_newa (t := 2) (N := 3) (r := k + 1 + 0) hL (by rfl) (by omega) (by decide) d_sh_init_6 war_boolean (by decide) (by decide) (by decide) (Nat.le_of_ble_eq_true rfl) (Nat.le_of_ble_eq_true rfl) ?_
  refine Zi_putF [.ref (k + 1 + 0), .null, .null, .null] rfl hL d_sh_init_8 lf_sh_9 rfl rfl (fun C T N h => by cases h; rfl) (Or.inr ⟨_, rfl⟩) (fun C T N h => by cases h; exact zG_of 159 (by decide +kernel) rfl) (by omega) (Nat.le_of_ble_eq_true rfl) ?_
  refine Z_aload_n d_sh_init_11 rfl ?_
  refine Zn_iconst (nI 3) d_sh_init_12 (by decide) ?_
  refine Zi_newa (t := 0) (N := 3) (r := k + 1 + 1) hL (by rfl) (by omega) (by decide) d_sh_init_13 war_int (by decide) (by decide) (by decide) (Nat.le_of_ble_eq_true rfl) (Nat.le_of_ble_eq_true rfl) ?_
  refine Zi_putF [.ref (k + 1 + 0), .ref (k + 1 + 1), .null, .null] rfl hL d_sh_init_15 lf_sh_15 rfl rfl (fun C T N h => by cases h; rfl) (Or.inr ⟨_, rfl⟩) (fun C T N h => by cases h; exact zG_of 161 (by decide +kernel) rfl) (by omega) (Nat.le_of_ble_eq_true rfl) ?_
  refine Z_aload_n d_sh_init_18 rfl ?_
  refine Zn_iconst (nI 3) d_sh_init_19 (by decide) ?_
  refine Zi_newa (t := 0) (N := 3) (r := k + 1 + 2) hL (by rfl) (by omega) (by decide) d_sh_init_20 war_int (by decide) (by decide) (by decide) (Nat.le_of_ble_eq_true rfl) (Nat.le_of_ble_eq_true rfl) ?_
  refine Zi_putF [.ref (k + 1 + 0), .ref (k + 1 + 1), .ref (k + 1 + 2), .null] rfl hL d_sh_init_22 lf_sh_19 rfl rfl (fun C T N h => by cases h; rfl) (Or.inr ⟨_, rfl⟩) (fun C T N h => by cases h; exact zG_of 163 (by decide +kernel) rfl) (by omega) (Nat.le_of_ble_eq_true rfl) ?_
  refine Z_aload_n d_sh_init_25 rfl ?_
  refine Zn_iconst (nI 3) d_sh_init_26 (by decide) ?_
  refine Zn_bipush (nI 10) d_sh_init_27 (by decide) ?_
  refine Zi_mna (N := 3) (K := 10) (r := k + 1 + 3) hL (by rfl) (by omega) d_sh_init_29 wcl_sh_22 wai (by decide) (by decide) (by decide) (by decide) (by decide) (by decide) (Nat.le_of_ble_eq_true rfl) (Nat.le_of_ble_eq_true rfl) ?_
  refine Zi_putF [.ref (k + 1 + 0), .ref (k + 1 + 1), .ref (k + 1 + 2), .ref (k + 1 + 3)] rfl hL d_sh_init_33 lf_sh_24 rfl rfl (fun C T N h => by cases h; rfl) (Or.inr ⟨_, rfl⟩) (fun C T N h => by cases h; exact zG_of 165 (by decide +kernel) rfl) (by omega) (Nat.le_of_ble_eq_true rfl) ?_
  refine Z_vret d_sh_init_36 rfl ?_
  exact ⟨rfl, rfl⟩
