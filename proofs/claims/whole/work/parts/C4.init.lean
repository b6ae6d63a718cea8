def emF (i : Nat) : Nat → Int32 := fun j => if j < i then -1 else 0
theorem emF_0 : (fun _ => 0 : Nat → Int32) = emF 0 := by funext j; unfold emF; rw [if_neg (by omega)]
theorem emF_s {i : Nat} : upd (emF i) i (-1) = emF (i + 1) := by
  funext j
  unfold upd emF
  by_cases h : j = i
  · rw [if_pos h, if_pos (by omega)]
  · rw [if_neg h]
    by_cases h2 : j < i
    · rw [if_pos h2, if_pos (by omega)]
    · rw [if_neg h2, if_neg (by omega)]
theorem er_get {M : List zE} {L : Nat} {x : zE} (hL : M.length = L) : (M ++ [x])[L]? = some x := by
  rw [List.getElem?_append_right (by omega), hL, Nat.sub_self]; rfl
theorem er_set {M : List zE} {L n i : Nat} (hL : M.length = L) : (M ++ [(.inl (0, n, .inl (emF i)) : zE)]).set L (.inl (0, n, .inl (upd (emF i) i (-1)))) = M ++ [.inl (0, n, .inl (emF (i + 1)))] := by
  rw [List.set_append_right _ _ (by omega), hL, Nat.sub_self, List.set_cons_zero, emF_s]
theorem Zi_emr {Γ : zCtx} {R : Room} {μ : zMe} {Φ : zPhi} {kc ks pc : Nat} {ls : List (Option Value)} {st : List Value} {M : List zE} {μ' : zMe} {d idx k r n : Nat} {x : zE} {l : List zE} (hL : M.length = k + 1) (hr : k + 1 + l.length = r) (h9 : r < 1000000) (hd : decode μ.2.2.1 pc = .ok (.invokestatic idx, 3)) (hLt : zLt μ.1 idx 1 μ') (hM : (M.set k x ++ l).length = r → ZM Γ d μ' [.int (nI n)] (M.set k x ++ l) (fun M1 v => v = some (.ref r) ∧ M1 = (M.set k x ++ l) ++ [.inl (0, n, .inl (emF n))]))
    (hst : (st.map fun v => v.category).sum ≤ 8) (hfr : d + 1 ≤ R.frames) (hlo : 64 * (d + 1) ≤ R.locals) (hce : kc + μ'.2.2.2.2.2.1 ≤ R.cells) (hsl : ks + μ'.2.2.2.2.2.2 ≤ R.slots)
    (kk : Z Γ R μ Φ (kc + μ'.2.2.2.2.2.1) (ks + μ'.2.2.2.2.2.2) (pc + 3) ls (.ref r :: st) (M.set k x ++ (l ++ [.inl (0, n, .inl (emF n))]))) : Z Γ R μ Φ kc ks pc ls (.int (nI n) :: st) (M.set k x ++ l) := by
  refine Z_callT (As := [.int (nI n)]) hd hLt (hM (zi_len hL hr)) hst hfr hlo hce hsl (fun M1 v hq _ => ?_)
  obtain ⟨rfl, rfl⟩ := hq
  rw [List.append_assoc]
  exact kk
theorem mo_emr3_loop {Γ : zCtx} {M : List zE} (d : Nat) {L : Nat} (hL : M.length = L) (h9 : L < 1000000) : ∀ (f i : Nat), i ≤ 3 → 3 < i + f → Z Γ (zRm (d + 1) m_mo_emptyRow3) m_mo_emptyRow3 (zPh Γ m_mo_emptyRow3 (fun M1 v => v = some (.ref L) ∧ M1 = M ++ [.inl (0, 3, .inl (emF 3))])) 1 3 6 [some (.int (nI 3)), some (.ref L), some (.int (nI i))] [] (M ++ [.inl (0, 3, .inl (emF i))]) := by
  intro f
  induction f with
  | zero => intro i h1 h2; exact absurd h2 (by omega)
  | succ f ih =>
    intro i hi hf
    refine Z_iload_n d_mo_emptyRow_6 rfl ?_
    refine Z_iload_n d_mo_emptyRow_7 rfl ?_
    refine Zn_icmp_ge (tgt := 21) d_mo_emptyRow_8 (by decide) (by omega) (by omega) (fun h8 => ?_) (fun h8 => ?_)
    · have e : i = 3 := by omega
      subst e
      refine Z_aload_n d_mo_emptyRow_21 rfl ?_
      exact Z_aret (μ := m_mo_emptyRow3) d_mo_emptyRow_22 rfl (Or.inr ⟨_, rfl⟩) ⟨rfl, rfl⟩
    · refine Z_aload_n d_mo_emptyRow_11 rfl ?_
      refine Z_iload_n d_mo_emptyRow_12 rfl ?_
      refine Zn_iconst (-1) d_mo_emptyRow_13 (by decide) ?_
      refine Zn_iast d_mo_emptyRow_14 (er_get hL) (by omega) (by omega) ?_
      rw [er_set hL]
      refine Zn_iinc [some (.int (nI 3)), some (.ref L), some (.int (nI (i + 1)))] (nI (i + 1)) d_mo_emptyRow_15 rfl (by decide) (nI_add i 1) rfl ?_
      refine Z_goto (tgt := 6) d_mo_emptyRow_18 (by decide) ?_
      exact ih (i + 1) (by omega) (by omega)
theorem mo_emptyRow3_ok {Γ : zCtx} {M : List zE} (d : Nat) {L : Nat} (hL : M.length = L) (h9 : L < 1000000) : ZM Γ (d + 1) m_mo_emptyRow3 [.int (nI 3)] M (fun M1 v => v = some (.ref L) ∧ M1 = M ++ [.inl (0, 3, .inl (emF 3))]) := by
  refine ZM.of mk_mo_emptyRow3 (Nat.le_of_ble_eq_true rfl) ?_
  rw [show zEn [.int (nI 3)] = [some (.int (nI 3))] from rfl]
  refine zPad 2 ?_
  show Z _ _ _ _ _ _ _ [some (.int (nI 3)), none, none] _ _
  refine Z_iload_n d_mo_emptyRow_0 rfl ?_
  refine Z_newa (t := 0) (N := 3) (by decide) d_mo_emptyRow_1 war_int (by decide) (by decide) (by decide) (Nat.le_of_ble_eq_true rfl) (Nat.le_of_ble_eq_true rfl) (by omega) ?_
  rw [hL]
  refine Zn_astore_n [some (.int (nI 3)), some (.ref L), none] d_mo_emptyRow_3 (by decide) rfl ?_
  refine Zn_iconst (nI 0) d_mo_emptyRow_4 (by decide) ?_
  refine Zn_istore_n [some (.int (nI 3)), some (.ref L), some (.int (nI 0))] d_mo_emptyRow_5 (by decide) rfl ?_
  have h := mo_emr3_loop (Γ := Γ) d hL h9 (3 + 1) 0 (by omega) (by omega)
  rw [← emF_0] at h
  exact h
theorem mo_emr30_loop {Γ : zCtx} {M : List zE} (d : Nat) {L : Nat} (hL : M.length = L) (h9 : L < 1000000) : ∀ (f i : Nat), i ≤ 30 → 30 < i + f → Z Γ (zRm (d + 1) m_mo_emptyRow30) m_mo_emptyRow30 (zPh Γ m_mo_emptyRow30 (fun M1 v => v = some (.ref L) ∧ M1 = M ++ [.inl (0, 30, .inl (emF 30))])) 1 30 6 [some (.int (nI 30)), some (.ref L), some (.int (nI i))] [] (M ++ [.inl (0, 30, .inl (emF i))]) := by
  intro f
  induction f with
  | zero => intro i h1 h2; exact absurd h2 (by omega)
  | succ f ih =>
    intro i hi hf
    refine Z_iload_n d_mo_emptyRow_6 rfl ?_
    refine Z_iload_n d_mo_emptyRow_7 rfl ?_
    refine Zn_icmp_ge (tgt := 21) d_mo_emptyRow_8 (by decide) (by omega) (by omega) (fun h8 => ?_) (fun h8 => ?_)
    · have e : i = 30 := by omega
      subst e
      refine Z_aload_n d_mo_emptyRow_21 rfl ?_
      exact Z_aret (μ := m_mo_emptyRow30) d_mo_emptyRow_22 rfl (Or.inr ⟨_, rfl⟩) ⟨rfl, rfl⟩
    · refine Z_aload_n d_mo_emptyRow_11 rfl ?_
      refine Z_iload_n d_mo_emptyRow_12 rfl ?_
      refine Zn_iconst (-1) d_mo_emptyRow_13 (by decide) ?_
      refine Zn_iast d_mo_emptyRow_14 (er_get hL) (by omega) (by omega) ?_
      rw [er_set hL]
      refine Zn_iinc [some (.int (nI 30)), some (.ref L), some (.int (nI (i + 1)))] (nI (i + 1)) d_mo_emptyRow_15 rfl (by decide) (nI_add i 1) rfl ?_
      refine Z_goto (tgt := 6) d_mo_emptyRow_18 (by decide) ?_
      exact ih (i + 1) (by omega) (by omega)
theorem mo_emptyRow30_ok {Γ : zCtx} {M : List zE} (d : Nat) {L : Nat} (hL : M.length = L) (h9 : L < 1000000) : ZM Γ (d + 1) m_mo_emptyRow30 [.int (nI 30)] M (fun M1 v => v = some (.ref L) ∧ M1 = M ++ [.inl (0, 30, .inl (emF 30))]) := by
  refine ZM.of mk_mo_emptyRow30 (Nat.le_of_ble_eq_true rfl) ?_
  rw [show zEn [.int (nI 30)] = [some (.int (nI 30))] from rfl]
  refine zPad 2 ?_
  show Z _ _ _ _ _ _ _ [some (.int (nI 30)), none, none] _ _
  refine Z_iload_n d_mo_emptyRow_0 rfl ?_
  refine Z_newa (t := 0) (N := 30) (by decide) d_mo_emptyRow_1 war_int (by decide) (by decide) (by decide) (Nat.le_of_ble_eq_true rfl) (Nat.le_of_ble_eq_true rfl) (by omega) ?_
  rw [hL]
  refine Zn_astore_n [some (.int (nI 30)), some (.ref L), none] d_mo_emptyRow_3 (by decide) rfl ?_
  refine Zn_iconst (nI 0) d_mo_emptyRow_4 (by decide) ?_
  refine Zn_istore_n [some (.int (nI 30)), some (.ref L), some (.int (nI 0))] d_mo_emptyRow_5 (by decide) rfl ?_
  have h := mo_emr30_loop (Γ := Γ) d hL h9 (30 + 1) 0 (by omega) (by omega)
  rw [← emF_0] at h
  exact h
theorem dfl_mo : ∀ j, j < 57 → defaultValue (zTt 7 j) = vp_V [.null, .null, .null, .null, .null, .int 0, .null, .null, .null, .null, .null, .int 0, .null, .null, .null, .null, .null, .null, .null, .null, .int 0, .int 0, .null, .null, .null, .null, .int 0, .null, .int 0, .int 0, .int 0, .int 0, .null, .null, .int 0, .null, .null, .null, .null, .null, .int 0, .null, .null, .null, .null, .null, .null, .null, .null, .null, .null, .null, .null, .null, .int 0, .int 0, .int 0] j := fun j hj => match j, hj with
  | 0, _ => rfl
  | 1, _ => rfl
  | 2, _ => rfl
  | 3, _ => rfl
  | 4, _ => rfl
  | 5, _ => rfl
  | 6, _ => rfl
  | 7, _ => rfl
  | 8, _ => rfl
  | 9, _ => rfl
  | 10, _ => rfl
  | 11, _ => rfl
  | 12, _ => rfl
  | 13, _ => rfl
  | 14, _ => rfl
  | 15, _ => rfl
  | 16, _ => rfl
  | 17, _ => rfl
  | 18, _ => rfl
  | 19, _ => rfl
  | 20, _ => rfl
  | 21, _ => rfl
  | 22, _ => rfl
  | 23, _ => rfl
  | 24, _ => rfl
  | 25, _ => rfl
  | 26, _ => rfl
  | 27, _ => rfl
  | 28, _ => rfl
  | 29, _ => rfl
  | 30, _ => rfl
  | 31, _ => rfl
  | 32, _ => rfl
  | 33, _ => rfl
  | 34, _ => rfl
  | 35, _ => rfl
  | 36, _ => rfl
  | 37, _ => rfl
  | 38, _ => rfl
  | 39, _ => rfl
  | 40, _ => rfl
  | 41, _ => rfl
  | 42, _ => rfl
  | 43, _ => rfl
  | 44, _ => rfl
  | 45, _ => rfl
  | 46, _ => rfl
  | 47, _ => rfl
  | 48, _ => rfl
  | 49, _ => rfl
  | 50, _ => rfl
  | 51, _ => rfl
  | 52, _ => rfl
  | 53, _ => rfl
  | 54, _ => rfl
  | 55, _ => rfl
  | 56, _ => rfl
  | n + 57, h => absurd h (by omega)
