/-! questions about a version -/
set_option maxHeartbeats 4000000 in
theorem mo_reach_ok {Γ : zCtx} {M : List zE} (d : Nat) {M0 : List zE} {s : Nat → Nat} {G : Nat → Nat → Nat} (hF : FW M0 M s G) {m : Nat} {dy sz kd pt gl : Nat → Nat} {tx : Nat → Int32} {n : Nat} {e : Nat → zEnt} {K : Nat → Nat} {y : Nat} {S1 : vSt} (hV : vHy m dy sz kd pt gl tx s G n e K y S1) (z : Int32)  : ZM Γ (d + 8) m_mo_reach [.ref 123, .int (mI y), .int z] M (fun M1 v => v = some (.int (if hasP S1.1 z = true then nI 0 else -2)) ∧ ∃ s' G', FW M0 M1 s' G' ∧ RO S1 n s' G' ∧ cF s s' G G') := by
  refine ZM.of mk_mo_reach (Nat.le_of_ble_eq_true rfl) ?_
  refine Z_aload_n d_mo_reach_0 rfl ?_
  refine Z_iload_n d_mo_reach_1 rfl ?_
  refine zV (As := [.int (mI y)]) (by omega) d_mo_reach_2 lm_mo_313 hF.1 rfl rfl (Nat.le_of_ble_eq_true rfl) (mo_compute_v d hF hV) (fun M1 v hq hlen => ?_)
  obtain ⟨rfl, s1, G1, hF, hRO, hc⟩ := hq
  have hnn := hRO.nn
  have h120 := hV.2.2.2.2.2.1
  refine Zn_if_ne (a := 1) (tgt := 13) d_mo_reach_5 (by decide) (by decide) (fun _ => ?_) (fun h => absurd h (by decide))
  refine Z_iload_n d_mo_reach_13 rfl ?_
  refine Zn_iconst (nI 0) d_mo_reach_14 (by decide) ?_
  refine Z_aload_n d_mo_reach_15 rfl ?_
  refine Z_get (v := .int (nI (s1 3))) d_mo_reach_16 lf_mo_148 hF.1 rfl ?_
  refine Zn_iconst (nI 1) d_mo_reach_19 (by decide) ?_
  refine Z_isub d_mo_reach_20 ?_
  rw [hnn.2.1]
  refine zTe (As := [.int z, .int (nI 0), .int (nI S1.1 - nI 1)]) (by omega) d_mo_reach_21 lm_mo_189 rfl (Nat.le_of_ble_eq_true rfl) (mo_in_ok (d + 5) _ _ _) ?_
  rw [inI_has (by omega)]
  rcases hz : hasP S1.1 z with _ | _
  · skip
    refine Zn_if_eq (a := 0) (tgt := 31) d_mo_reach_24 (by decide) (by decide) (fun _ => ?_) (fun h => absurd h (by decide))
    refine Zn_bipush (-2) d_mo_reach_31 (by decide) ?_
    refine Z_iret d_mo_reach_33 rfl ?_
    exact ⟨rfl, s1, G1, hF, hRO, hc⟩
  · skip
    refine Zn_if_eq (a := 1) (tgt := 31) d_mo_reach_24 (by decide) (by decide) (fun h => absurd h (by decide)) (fun _ => ?_)
    refine Zn_iconst (nI 0) d_mo_reach_27 (by decide) ?_
    refine Z_goto (tgt := 33) d_mo_reach_28 (by decide) ?_
    refine Z_iret d_mo_reach_33 rfl ?_
    exact ⟨rfl, s1, G1, hF, hRO, hc⟩
set_option maxHeartbeats 4000000 in
theorem mo_reach_no {Γ : zCtx} {M : List zE} (d : Nat) {M0 : List zE} {s : Nat → Nat} {G : Nat → Nat → Nat} (hF : FW M0 M s G) {x : Int32} (hno : dOk x = false) (z : Int32)  : ZM Γ (d + 8) m_mo_reach [.ref 123, .int x, .int z] M (zEq M (some (.int (-4)))) := by
  refine ZM.of mk_mo_reach (Nat.le_of_ble_eq_true rfl) ?_
  refine Z_aload_n d_mo_reach_0 rfl ?_
  refine Z_iload_n d_mo_reach_1 rfl ?_
  refine zVe (As := [.int x]) (by omega) d_mo_reach_2 lm_mo_313 hF.1 rfl rfl (Nat.le_of_ble_eq_true rfl) (mo_compute_no d hF hno) ?_
  refine Zn_if_ne (a := 0) (tgt := 13) d_mo_reach_5 (by decide) (by decide) (fun h => absurd h (by decide)) (fun _ => ?_)
  refine Zn_bipush (-4) d_mo_reach_8 (by decide) ?_
  refine Z_goto (tgt := 33) d_mo_reach_10 (by decide) ?_
  refine Z_iret d_mo_reach_33 rfl ?_
  exact ⟨rfl, rfl⟩
set_option maxHeartbeats 4000000 in
theorem mo_reachC_ok {Γ : zCtx} {M : List zE} (d : Nat) {M0 : List zE} {s : Nat → Nat} {G : Nat → Nat → Nat} (hF : FW M0 M s G) {m : Nat} {dy sz kd pt gl : Nat → Nat} {tx : Nat → Int32} {n : Nat} {e : Nat → zEnt} {K : Nat → Nat} {y : Nat} {S1 : vSt} (hV : vHy m dy sz kd pt gl tx s G n e K y S1) (z : Int32)  : ZM Γ (d + 8) m_mo_reachConflict [.ref 123, .int (mI y), .int z] M (fun M1 v => v = some (.int (if hasP S1.2.2.1 z = true then nI 0 else -9)) ∧ ∃ s' G', FW M0 M1 s' G' ∧ RO S1 n s' G' ∧ cF s s' G G') := by
  refine ZM.of mk_mo_reachConflict (Nat.le_of_ble_eq_true rfl) ?_
  refine Z_aload_n d_mo_reachConflict_0 rfl ?_
  refine Z_iload_n d_mo_reachConflict_1 rfl ?_
  refine zV (As := [.int (mI y)]) (by omega) d_mo_reachConflict_2 lm_mo_313 hF.1 rfl rfl (Nat.le_of_ble_eq_true rfl) (mo_compute_v d hF hV) (fun M1 v hq hlen => ?_)
  obtain ⟨rfl, s1, G1, hF, hRO, hc⟩ := hq
  have hnn := hRO.nn
  have h120 := hV.2.2.2.2.2.1
  refine Zn_if_ne (a := 1) (tgt := 13) d_mo_reachConflict_5 (by decide) (by decide) (fun _ => ?_) (fun h => absurd h (by decide))
  refine Z_iload_n d_mo_reachConflict_13 rfl ?_
  refine Zn_iconst (nI 0) d_mo_reachConflict_14 (by decide) ?_
  refine Z_aload_n d_mo_reachConflict_15 rfl ?_
  refine Z_get (v := .int (nI (s1 4))) d_mo_reachConflict_16 lf_mo_151 hF.1 rfl ?_
  refine Zn_iconst (nI 1) d_mo_reachConflict_19 (by decide) ?_
  refine Z_isub d_mo_reachConflict_20 ?_
  rw [hnn.2.2.1]
  refine zTe (As := [.int z, .int (nI 0), .int (nI S1.2.2.1 - nI 1)]) (by omega) d_mo_reachConflict_21 lm_mo_189 rfl (Nat.le_of_ble_eq_true rfl) (mo_in_ok (d + 5) _ _ _) ?_
  rw [inI_has (by omega)]
  rcases hz : hasP S1.2.2.1 z with _ | _
  · skip
    refine Zn_if_eq (a := 0) (tgt := 31) d_mo_reachConflict_24 (by decide) (by decide) (fun _ => ?_) (fun h => absurd h (by decide))
    refine Zn_bipush (-9) d_mo_reachConflict_31 (by decide) ?_
    refine Z_iret d_mo_reachConflict_33 rfl ?_
    exact ⟨rfl, s1, G1, hF, hRO, hc⟩
  · skip
    refine Zn_if_eq (a := 1) (tgt := 31) d_mo_reachConflict_24 (by decide) (by decide) (fun h => absurd h (by decide)) (fun _ => ?_)
    refine Zn_iconst (nI 0) d_mo_reachConflict_27 (by decide) ?_
    refine Z_goto (tgt := 33) d_mo_reachConflict_28 (by decide) ?_
    refine Z_iret d_mo_reachConflict_33 rfl ?_
    exact ⟨rfl, s1, G1, hF, hRO, hc⟩
set_option maxHeartbeats 4000000 in
theorem mo_reachC_no {Γ : zCtx} {M : List zE} (d : Nat) {M0 : List zE} {s : Nat → Nat} {G : Nat → Nat → Nat} (hF : FW M0 M s G) {x : Int32} (hno : dOk x = false) (z : Int32)  : ZM Γ (d + 8) m_mo_reachConflict [.ref 123, .int x, .int z] M (zEq M (some (.int (-4)))) := by
  refine ZM.of mk_mo_reachConflict (Nat.le_of_ble_eq_true rfl) ?_
  refine Z_aload_n d_mo_reachConflict_0 rfl ?_
  refine Z_iload_n d_mo_reachConflict_1 rfl ?_
  refine zVe (As := [.int x]) (by omega) d_mo_reachConflict_2 lm_mo_313 hF.1 rfl rfl (Nat.le_of_ble_eq_true rfl) (mo_compute_no d hF hno) ?_
  refine Zn_if_ne (a := 0) (tgt := 13) d_mo_reachConflict_5 (by decide) (by decide) (fun h => absurd h (by decide)) (fun _ => ?_)
  refine Zn_bipush (-4) d_mo_reachConflict_8 (by decide) ?_
  refine Z_goto (tgt := 33) d_mo_reachConflict_10 (by decide) ?_
  refine Z_iret d_mo_reachConflict_33 rfl ?_
  exact ⟨rfl, rfl⟩
set_option maxHeartbeats 4000000 in
theorem mo_provisionCount_ok {Γ : zCtx} {M : List zE} (d : Nat) {M0 : List zE} {s : Nat → Nat} {G : Nat → Nat → Nat} (hF : FW M0 M s G) {m : Nat} {dy sz kd pt gl : Nat → Nat} {tx : Nat → Int32} {n : Nat} {e : Nat → zEnt} {K : Nat → Nat} {y : Nat} {S1 : vSt} (hV : vHy m dy sz kd pt gl tx s G n e K y S1)  : ZM Γ (d + 8) m_mo_provisionCount [.ref 123, .int (mI y)] M (fun M1 v => v = some (.int (nI S1.1)) ∧ ∃ s' G', FW M0 M1 s' G' ∧ pF s s' G G') := by
  refine ZM.of mk_mo_provisionCount (Nat.le_of_ble_eq_true rfl) ?_
  refine Z_aload_n d_mo_provisionCount_0 rfl ?_
  refine Z_iload_n d_mo_provisionCount_1 rfl ?_
  refine zV (As := [.int (mI y)]) (by omega) d_mo_provisionCount_2 lm_mo_313 hF.1 rfl rfl (Nat.le_of_ble_eq_true rfl) (mo_compute_v d hF hV) (fun M1 v hq hlen => ?_)
  obtain ⟨rfl, s1, G1, hF, hRO, hc⟩ := hq
  have hnn := hRO.nn
  have h120 := hV.2.2.2.2.2.1
  refine Zn_if_eq (a := 1) (tgt := 15) d_mo_provisionCount_5 (by decide) (by decide) (fun h => absurd h (by decide)) (fun _ => ?_)
  refine Z_aload_n d_mo_provisionCount_8 rfl ?_
  refine Z_get (v := .int (nI (s1 3))) d_mo_provisionCount_9 lf_mo_148 hF.1 rfl ?_
  refine Z_goto (tgt := 17) d_mo_provisionCount_12 (by decide) ?_
  refine Z_iret d_mo_provisionCount_17 rfl ?_
  refine ⟨?_, s1, G1, hF, hc.p⟩
  rw [hnn.2.1]
set_option maxHeartbeats 4000000 in
theorem mo_provisionCount_no {Γ : zCtx} {M : List zE} (d : Nat) {M0 : List zE} {s : Nat → Nat} {G : Nat → Nat → Nat} (hF : FW M0 M s G) {x : Int32} (hno : dOk x = false)  : ZM Γ (d + 8) m_mo_provisionCount [.ref 123, .int x] M (zEq M (some (.int (-4)))) := by
  refine ZM.of mk_mo_provisionCount (Nat.le_of_ble_eq_true rfl) ?_
  refine Z_aload_n d_mo_provisionCount_0 rfl ?_
  refine Z_iload_n d_mo_provisionCount_1 rfl ?_
  refine zVe (As := [.int x]) (by omega) d_mo_provisionCount_2 lm_mo_313 hF.1 rfl rfl (Nat.le_of_ble_eq_true rfl) (mo_compute_no d hF hno) ?_
  refine Zn_if_eq (a := 0) (tgt := 15) d_mo_provisionCount_5 (by decide) (by decide) (fun _ => ?_) (fun h => absurd h (by decide))
  refine Zn_bipush (-4) d_mo_provisionCount_15 (by decide) ?_
  refine Z_iret d_mo_provisionCount_17 rfl ?_
  exact ⟨rfl, rfl⟩
set_option maxHeartbeats 4000000 in
theorem mo_conflictCount_ok {Γ : zCtx} {M : List zE} (d : Nat) {M0 : List zE} {s : Nat → Nat} {G : Nat → Nat → Nat} (hF : FW M0 M s G) {m : Nat} {dy sz kd pt gl : Nat → Nat} {tx : Nat → Int32} {n : Nat} {e : Nat → zEnt} {K : Nat → Nat} {y : Nat} {S1 : vSt} (hV : vHy m dy sz kd pt gl tx s G n e K y S1)  : ZM Γ (d + 8) m_mo_conflictCount [.ref 123, .int (mI y)] M (fun M1 v => v = some (.int (nI S1.2.2.1)) ∧ ∃ s' G', FW M0 M1 s' G' ∧ pF s s' G G') := by
  refine ZM.of mk_mo_conflictCount (Nat.le_of_ble_eq_true rfl) ?_
  refine Z_aload_n d_mo_conflictCount_0 rfl ?_
  refine Z_iload_n d_mo_conflictCount_1 rfl ?_
  refine zV (As := [.int (mI y)]) (by omega) d_mo_conflictCount_2 lm_mo_313 hF.1 rfl rfl (Nat.le_of_ble_eq_true rfl) (mo_compute_v d hF hV) (fun M1 v hq hlen => ?_)
  obtain ⟨rfl, s1, G1, hF, hRO, hc⟩ := hq
  have hnn := hRO.nn
  have h120 := hV.2.2.2.2.2.1
  refine Zn_if_eq (a := 1) (tgt := 15) d_mo_conflictCount_5 (by decide) (by decide) (fun h => absurd h (by decide)) (fun _ => ?_)
  refine Z_aload_n d_mo_conflictCount_8 rfl ?_
  refine Z_get (v := .int (nI (s1 4))) d_mo_conflictCount_9 lf_mo_151 hF.1 rfl ?_
  refine Z_goto (tgt := 17) d_mo_conflictCount_12 (by decide) ?_
  refine Z_iret d_mo_conflictCount_17 rfl ?_
  refine ⟨?_, s1, G1, hF, hc.p⟩
  rw [hnn.2.2.1]
set_option maxHeartbeats 4000000 in
theorem mo_conflictCount_no {Γ : zCtx} {M : List zE} (d : Nat) {M0 : List zE} {s : Nat → Nat} {G : Nat → Nat → Nat} (hF : FW M0 M s G) {x : Int32} (hno : dOk x = false)  : ZM Γ (d + 8) m_mo_conflictCount [.ref 123, .int x] M (zEq M (some (.int (-4)))) := by
  refine ZM.of mk_mo_conflictCount (Nat.le_of_ble_eq_true rfl) ?_
  refine Z_aload_n d_mo_conflictCount_0 rfl ?_
  refine Z_iload_n d_mo_conflictCount_1 rfl ?_
  refine zVe (As := [.int x]) (by omega) d_mo_conflictCount_2 lm_mo_313 hF.1 rfl rfl (Nat.le_of_ble_eq_true rfl) (mo_compute_no d hF hno) ?_
  refine Zn_if_eq (a := 0) (tgt := 15) d_mo_conflictCount_5 (by decide) (by decide) (fun _ => ?_) (fun h => absurd h (by decide))
  refine Zn_bipush (-4) d_mo_conflictCount_15 (by decide) ?_
  refine Z_iret d_mo_conflictCount_17 rfl ?_
  exact ⟨rfl, rfl⟩
set_option maxHeartbeats 4000000 in
theorem mo_levelAt_ok {Γ : zCtx} {M : List zE} (d : Nat) {M0 : List zE} {s : Nat → Nat} {G : Nat → Nat → Nat} (hF : FW M0 M s G) {m : Nat} {dy sz kd pt gl : Nat → Nat} {tx : Nat → Int32} {n : Nat} {e : Nat → zEnt} {K : Nat → Nat} {y : Nat} {S1 : vSt} (hV : vHy m dy sz kd pt gl tx s G n e K y S1) (z : Int32)  : ZM Γ (d + 9) m_mo_levelAt [.ref 123, .int (mI y), .int z] M (fun M1 v => v = some (.int (if hasP S1.1 z = true then nI (lev (ek (S1.2.1 z.toNatClampNeg))) else -2)) ∧ ∃ s' G', FW M0 M1 s' G' ∧ pF s s' G G') := by
  refine ZM.of mk_mo_levelAt (Nat.le_of_ble_eq_true rfl) ?_
  rw [show zEn [.ref 123, .int (mI y), .int z] = [some (.ref 123), some (.int (mI y)), some (.int z)] from rfl]
  refine zPad 1 ?_
  show Z _ _ _ _ _ _ _ [some (.ref 123), some (.int (mI y)), some (.int z), none] _ _
  refine Z_aload_n d_mo_levelAt_0 rfl ?_
  refine Z_iload_n d_mo_levelAt_1 rfl ?_
  refine Z_iload_n d_mo_levelAt_2 rfl ?_
  refine zV (As := [.int (mI y), .int z]) (by omega) d_mo_levelAt_3 lm_mo_316 hF.1 rfl rfl (Nat.le_of_ble_eq_true rfl) (mo_reach_ok d hF hV z) (fun M1 v hq hlen => ?_)
  obtain ⟨rfl, s1, G1, hF, hRO, hc⟩ := hq
  have hnn := hRO.nn
  rcases hz : hasP S1.1 z with _ | _
  · skip
    refine Zn_istore_n [some (.ref 123), some (.int (mI y)), some (.int z), some (.int (-2))] d_mo_levelAt_6 (by decide) rfl ?_
    refine Z_iload_n d_mo_levelAt_7 rfl ?_
    refine Z_if_ge (tgt := 15) d_mo_levelAt_8 (by decide) (fun h8 => ?_) (fun h8 => ?_)
    · skip
      exact absurd h8 (by decide) -- end
    · skip
      skip
      refine Z_iload_n d_mo_levelAt_11 rfl ?_
      refine Z_goto (tgt := 26) d_mo_levelAt_12 (by decide) ?_
      refine Z_iret d_mo_levelAt_26 rfl ?_
      exact ⟨rfl, s1, G1, hF, hc.p⟩
  · skip
    obtain ⟨j, hj1, hj2, rfl⟩ := hasP_t hz
    have hat := hRO.at hj1
    refine Zn_istore_n [some (.ref 123), some (.int (mI y)), some (.int (nI j)), some (.int (nI 0))] d_mo_levelAt_6 (by decide) rfl ?_
    refine Z_iload_n d_mo_levelAt_7 rfl ?_
    refine Z_if_ge (tgt := 15) d_mo_levelAt_8 (by decide) (fun h8 => ?_) (fun h8 => ?_)
    · skip
      skip
      refine Z_aload_n d_mo_levelAt_15 rfl ?_
      refine Z_get (v := .ref 135) d_mo_levelAt_16 lf_mo_43 hF.1 rfl ?_
      refine Z_aload_n d_mo_levelAt_19 rfl ?_
      refine Z_get (v := .ref 142) d_mo_levelAt_20 lf_mo_65 hF.1 rfl ?_
      refine Z_iload_n d_mo_levelAt_23 rfl ?_
      refine Zn_iald d_mo_levelAt_24 hF.a18 (by omega) (by omega) ?_
      refine Zn_iald d_mo_levelAt_25 hF.a11 (by omega) (by omega) ?_
      refine Z_iret d_mo_levelAt_26 rfl ?_
      refine ⟨?_, s1, G1, hF, hc.p⟩
      rw [if_pos rfl, zn_cl hj2, hat.2.2.1]
    · skip
      exact absurd (by decide) h8 -- end
set_option maxHeartbeats 4000000 in
theorem mo_levelAt_no {Γ : zCtx} {M : List zE} (d : Nat) {M0 : List zE} {s : Nat → Nat} {G : Nat → Nat → Nat} (hF : FW M0 M s G) {x : Int32} (hno : dOk x = false) (z : Int32)  : ZM Γ (d + 9) m_mo_levelAt [.ref 123, .int x, .int z] M (zEq M (some (.int (-4)))) := by
  refine ZM.of mk_mo_levelAt (Nat.le_of_ble_eq_true rfl) ?_
  rw [show zEn [.ref 123, .int x, .int z] = [some (.ref 123), some (.int x), some (.int z)] from rfl]
  refine zPad 1 ?_
  show Z _ _ _ _ _ _ _ [some (.ref 123), some (.int x), some (.int z), none] _ _
  refine Z_aload_n d_mo_levelAt_0 rfl ?_
  refine Z_iload_n d_mo_levelAt_1 rfl ?_
  refine Z_iload_n d_mo_levelAt_2 rfl ?_
  refine zVe (As := [.int x, .int z]) (by omega) d_mo_levelAt_3 lm_mo_316 hF.1 rfl rfl (Nat.le_of_ble_eq_true rfl) (mo_reach_no d hF hno z) ?_
  refine Zn_istore_n [some (.ref 123), some (.int x), some (.int z), some (.int (-4))] d_mo_levelAt_6 (by decide) rfl ?_
  refine Z_iload_n d_mo_levelAt_7 rfl ?_
  refine Z_if_ge (tgt := 15) d_mo_levelAt_8 (by decide) (fun h8 => ?_) (fun h8 => ?_)
  · skip
    exact absurd h8 (by decide) -- end
  · skip
    skip
    refine Z_iload_n d_mo_levelAt_11 rfl ?_
    refine Z_goto (tgt := 26) d_mo_levelAt_12 (by decide) ?_
    refine Z_iret d_mo_levelAt_26 rfl ?_
    exact ⟨rfl, rfl⟩
set_option maxHeartbeats 4000000 in
theorem mo_textAt_ok {Γ : zCtx} {M : List zE} (d : Nat) {M0 : List zE} {s : Nat → Nat} {G : Nat → Nat → Nat} (hF : FW M0 M s G) {m : Nat} {dy sz kd pt gl : Nat → Nat} {tx : Nat → Int32} {n : Nat} {e : Nat → zEnt} {K : Nat → Nat} {y : Nat} {S1 : vSt} (hV : vHy m dy sz kd pt gl tx s G n e K y S1) (z : Int32)  : ZM Γ (d + 9) m_mo_textAt [.ref 123, .int (mI y), .int z] M (fun M1 v => v = some (.int (if hasP S1.1 z = true then et (S1.2.1 z.toNatClampNeg) else -2)) ∧ ∃ s' G', FW M0 M1 s' G' ∧ pF s s' G G') := by
  refine ZM.of mk_mo_textAt (Nat.le_of_ble_eq_true rfl) ?_
  rw [show zEn [.ref 123, .int (mI y), .int z] = [some (.ref 123), some (.int (mI y)), some (.int z)] from rfl]
  refine zPad 1 ?_
  show Z _ _ _ _ _ _ _ [some (.ref 123), some (.int (mI y)), some (.int z), none] _ _
  refine Z_aload_n d_mo_textAt_0 rfl ?_
  refine Z_iload_n d_mo_textAt_1 rfl ?_
  refine Z_iload_n d_mo_textAt_2 rfl ?_
  refine zV (As := [.int (mI y), .int z]) (by omega) d_mo_textAt_3 lm_mo_316 hF.1 rfl rfl (Nat.le_of_ble_eq_true rfl) (mo_reach_ok d hF hV z) (fun M1 v hq hlen => ?_)
  obtain ⟨rfl, s1, G1, hF, hRO, hc⟩ := hq
  have hnn := hRO.nn
  rcases hz : hasP S1.1 z with _ | _
  · skip
    refine Zn_istore_n [some (.ref 123), some (.int (mI y)), some (.int z), some (.int (-2))] d_mo_textAt_6 (by decide) rfl ?_
    refine Z_iload_n d_mo_textAt_7 rfl ?_
    refine Z_if_ge (tgt := 15) d_mo_textAt_8 (by decide) (fun h8 => ?_) (fun h8 => ?_)
    · skip
      exact absurd h8 (by decide) -- end
    · skip
      skip
      refine Z_iload_n d_mo_textAt_11 rfl ?_
      refine Z_goto (tgt := 26) d_mo_textAt_12 (by decide) ?_
      refine Z_iret d_mo_textAt_26 rfl ?_
      exact ⟨rfl, s1, G1, hF, hc.p⟩
  · skip
    obtain ⟨j, hj1, hj2, rfl⟩ := hasP_t hz
    have hat := hRO.at hj1
    refine Zn_istore_n [some (.ref 123), some (.int (mI y)), some (.int (nI j)), some (.int (nI 0))] d_mo_textAt_6 (by decide) rfl ?_
    refine Z_iload_n d_mo_textAt_7 rfl ?_
    refine Z_if_ge (tgt := 15) d_mo_textAt_8 (by decide) (fun h8 => ?_) (fun h8 => ?_)
    · skip
      skip
      refine Z_aload_n d_mo_textAt_15 rfl ?_
      refine Z_get (v := .ref 137) d_mo_textAt_16 lf_mo_49 hF.1 rfl ?_
      refine Z_aload_n d_mo_textAt_19 rfl ?_
      refine Z_get (v := .ref 142) d_mo_textAt_20 lf_mo_65 hF.1 rfl ?_
      refine Z_iload_n d_mo_textAt_23 rfl ?_
      refine Zn_iald d_mo_textAt_24 hF.a18 (by omega) (by omega) ?_
      refine Zn_iald d_mo_textAt_25 hF.a13 (by omega) (by omega) ?_
      refine Z_iret d_mo_textAt_26 rfl ?_
      refine ⟨?_, s1, G1, hF, hc.p⟩
      rw [if_pos rfl, zn_cl hj2, hat.2.2.2.1]
    · skip
      exact absurd (by decide) h8 -- end
set_option maxHeartbeats 4000000 in
theorem mo_textAt_no {Γ : zCtx} {M : List zE} (d : Nat) {M0 : List zE} {s : Nat → Nat} {G : Nat → Nat → Nat} (hF : FW M0 M s G) {x : Int32} (hno : dOk x = false) (z : Int32)  : ZM Γ (d + 9) m_mo_textAt [.ref 123, .int x, .int z] M (zEq M (some (.int (-4)))) := by
  refine ZM.of mk_mo_textAt (Nat.le_of_ble_eq_true rfl) ?_
  rw [show zEn [.ref 123, .int x, .int z] = [some (.ref 123), some (.int x), some (.int z)] from rfl]
  refine zPad 1 ?_
  show Z _ _ _ _ _ _ _ [some (.ref 123), some (.int x), some (.int z), none] _ _
  refine Z_aload_n d_mo_textAt_0 rfl ?_
  refine Z_iload_n d_mo_textAt_1 rfl ?_
  refine Z_iload_n d_mo_textAt_2 rfl ?_
  refine zVe (As := [.int x, .int z]) (by omega) d_mo_textAt_3 lm_mo_316 hF.1 rfl rfl (Nat.le_of_ble_eq_true rfl) (mo_reach_no d hF hno z) ?_
  refine Zn_istore_n [some (.ref 123), some (.int x), some (.int z), some (.int (-4))] d_mo_textAt_6 (by decide) rfl ?_
  refine Z_iload_n d_mo_textAt_7 rfl ?_
  refine Z_if_ge (tgt := 15) d_mo_textAt_8 (by decide) (fun h8 => ?_) (fun h8 => ?_)
  · skip
    exact absurd h8 (by decide) -- end
  · skip
    skip
    refine Z_iload_n d_mo_textAt_11 rfl ?_
    refine Z_goto (tgt := 26) d_mo_textAt_12 (by decide) ?_
    refine Z_iret d_mo_textAt_26 rfl ?_
    exact ⟨rfl, rfl⟩
set_option maxHeartbeats 4000000 in
theorem mo_originAt_ok {Γ : zCtx} {M : List zE} (d : Nat) {M0 : List zE} {s : Nat → Nat} {G : Nat → Nat → Nat} (hF : FW M0 M s G) {m : Nat} {dy sz kd pt gl : Nat → Nat} {tx : Nat → Int32} {n : Nat} {e : Nat → zEnt} {K : Nat → Nat} {y : Nat} {S1 : vSt} (hV : vHy m dy sz kd pt gl tx s G n e K y S1) (z : Int32)  : ZM Γ (d + 9) m_mo_originAt [.ref 123, .int (mI y), .int z] M (fun M1 v => v = some (.int (if hasP S1.1 z = true then eo (S1.2.1 z.toNatClampNeg) else -2)) ∧ ∃ s' G', FW M0 M1 s' G' ∧ pF s s' G G') := by
  refine ZM.of mk_mo_originAt (Nat.le_of_ble_eq_true rfl) ?_
  rw [show zEn [.ref 123, .int (mI y), .int z] = [some (.ref 123), some (.int (mI y)), some (.int z)] from rfl]
  refine zPad 1 ?_
  show Z _ _ _ _ _ _ _ [some (.ref 123), some (.int (mI y)), some (.int z), none] _ _
  refine Z_aload_n d_mo_originAt_0 rfl ?_
  refine Z_iload_n d_mo_originAt_1 rfl ?_
  refine Z_iload_n d_mo_originAt_2 rfl ?_
  refine zV (As := [.int (mI y), .int z]) (by omega) d_mo_originAt_3 lm_mo_316 hF.1 rfl rfl (Nat.le_of_ble_eq_true rfl) (mo_reach_ok d hF hV z) (fun M1 v hq hlen => ?_)
  obtain ⟨rfl, s1, G1, hF, hRO, hc⟩ := hq
  have hnn := hRO.nn
  rcases hz : hasP S1.1 z with _ | _
  · skip
    refine Zn_istore_n [some (.ref 123), some (.int (mI y)), some (.int z), some (.int (-2))] d_mo_originAt_6 (by decide) rfl ?_
    refine Z_iload_n d_mo_originAt_7 rfl ?_
    refine Z_if_ge (tgt := 15) d_mo_originAt_8 (by decide) (fun h8 => ?_) (fun h8 => ?_)
    · skip
      exact absurd h8 (by decide) -- end
    · skip
      skip
      refine Z_iload_n d_mo_originAt_11 rfl ?_
      refine Z_goto (tgt := 26) d_mo_originAt_12 (by decide) ?_
      refine Z_iret d_mo_originAt_26 rfl ?_
      exact ⟨rfl, s1, G1, hF, hc.p⟩
  · skip
    obtain ⟨j, hj1, hj2, rfl⟩ := hasP_t hz
    have hat := hRO.at hj1
    refine Zn_istore_n [some (.ref 123), some (.int (mI y)), some (.int (nI j)), some (.int (nI 0))] d_mo_originAt_6 (by decide) rfl ?_
    refine Z_iload_n d_mo_originAt_7 rfl ?_
    refine Z_if_ge (tgt := 15) d_mo_originAt_8 (by decide) (fun h8 => ?_) (fun h8 => ?_)
    · skip
      skip
      refine Z_aload_n d_mo_originAt_15 rfl ?_
      refine Z_get (v := .ref 138) d_mo_originAt_16 lf_mo_52 hF.1 rfl ?_
      refine Z_aload_n d_mo_originAt_19 rfl ?_
      refine Z_get (v := .ref 142) d_mo_originAt_20 lf_mo_65 hF.1 rfl ?_
      refine Z_iload_n d_mo_originAt_23 rfl ?_
      refine Zn_iald d_mo_originAt_24 hF.a18 (by omega) (by omega) ?_
      refine Zn_iald d_mo_originAt_25 hF.a14 (by omega) (by omega) ?_
      refine Z_iret d_mo_originAt_26 rfl ?_
      refine ⟨?_, s1, G1, hF, hc.p⟩
      rw [if_pos rfl, zn_cl hj2, hat.2.2.2.2.2.1]
    · skip
      exact absurd (by decide) h8 -- end
set_option maxHeartbeats 4000000 in
theorem mo_originAt_no {Γ : zCtx} {M : List zE} (d : Nat) {M0 : List zE} {s : Nat → Nat} {G : Nat → Nat → Nat} (hF : FW M0 M s G) {x : Int32} (hno : dOk x = false) (z : Int32)  : ZM Γ (d + 9) m_mo_originAt [.ref 123, .int x, .int z] M (zEq M (some (.int (-4)))) := by
  refine ZM.of mk_mo_originAt (Nat.le_of_ble_eq_true rfl) ?_
  rw [show zEn [.ref 123, .int x, .int z] = [some (.ref 123), some (.int x), some (.int z)] from rfl]
  refine zPad 1 ?_
  show Z _ _ _ _ _ _ _ [some (.ref 123), some (.int x), some (.int z), none] _ _
  refine Z_aload_n d_mo_originAt_0 rfl ?_
  refine Z_iload_n d_mo_originAt_1 rfl ?_
  refine Z_iload_n d_mo_originAt_2 rfl ?_
  refine zVe (As := [.int x, .int z]) (by omega) d_mo_originAt_3 lm_mo_316 hF.1 rfl rfl (Nat.le_of_ble_eq_true rfl) (mo_reach_no d hF hno z) ?_
  refine Zn_istore_n [some (.ref 123), some (.int x), some (.int z), some (.int (-4))] d_mo_originAt_6 (by decide) rfl ?_
  refine Z_iload_n d_mo_originAt_7 rfl ?_
  refine Z_if_ge (tgt := 15) d_mo_originAt_8 (by decide) (fun h8 => ?_) (fun h8 => ?_)
  · skip
    exact absurd h8 (by decide) -- end
  · skip
    skip
    refine Z_iload_n d_mo_originAt_11 rfl ?_
    refine Z_goto (tgt := 26) d_mo_originAt_12 (by decide) ?_
    refine Z_iret d_mo_originAt_26 rfl ?_
    exact ⟨rfl, rfl⟩
set_option maxHeartbeats 4000000 in
theorem mo_creatorAt_ok {Γ : zCtx} {M : List zE} (d : Nat) {M0 : List zE} {s : Nat → Nat} {G : Nat → Nat → Nat} (hF : FW M0 M s G) {m : Nat} {dy sz kd pt gl : Nat → Nat} {tx : Nat → Int32} {n : Nat} {e : Nat → zEnt} {K : Nat → Nat} {y : Nat} {S1 : vSt} (hV : vHy m dy sz kd pt gl tx s G n e K y S1) (z : Int32)  : ZM Γ (d + 9) m_mo_creatorAt [.ref 123, .int (mI y), .int z] M (fun M1 v => v = some (.int (if hasP S1.1 z = true then ec (S1.2.1 z.toNatClampNeg) else -2)) ∧ ∃ s' G', FW M0 M1 s' G' ∧ pF s s' G G') := by
  refine ZM.of mk_mo_creatorAt (Nat.le_of_ble_eq_true rfl) ?_
  rw [show zEn [.ref 123, .int (mI y), .int z] = [some (.ref 123), some (.int (mI y)), some (.int z)] from rfl]
  refine zPad 1 ?_
  show Z _ _ _ _ _ _ _ [some (.ref 123), some (.int (mI y)), some (.int z), none] _ _
  refine Z_aload_n d_mo_creatorAt_0 rfl ?_
  refine Z_iload_n d_mo_creatorAt_1 rfl ?_
  refine Z_iload_n d_mo_creatorAt_2 rfl ?_
  refine zV (As := [.int (mI y), .int z]) (by omega) d_mo_creatorAt_3 lm_mo_316 hF.1 rfl rfl (Nat.le_of_ble_eq_true rfl) (mo_reach_ok d hF hV z) (fun M1 v hq hlen => ?_)
  obtain ⟨rfl, s1, G1, hF, hRO, hc⟩ := hq
  have hnn := hRO.nn
  rcases hz : hasP S1.1 z with _ | _
  · skip
    refine Zn_istore_n [some (.ref 123), some (.int (mI y)), some (.int z), some (.int (-2))] d_mo_creatorAt_6 (by decide) rfl ?_
    refine Z_iload_n d_mo_creatorAt_7 rfl ?_
    refine Z_if_ge (tgt := 15) d_mo_creatorAt_8 (by decide) (fun h8 => ?_) (fun h8 => ?_)
    · skip
      exact absurd h8 (by decide) -- end
    · skip
      skip
      refine Z_iload_n d_mo_creatorAt_11 rfl ?_
      refine Z_goto (tgt := 26) d_mo_creatorAt_12 (by decide) ?_
      refine Z_iret d_mo_creatorAt_26 rfl ?_
      exact ⟨rfl, s1, G1, hF, hc.p⟩
  · skip
    obtain ⟨j, hj1, hj2, rfl⟩ := hasP_t hz
    have hat := hRO.at hj1
    refine Zn_istore_n [some (.ref 123), some (.int (mI y)), some (.int (nI j)), some (.int (nI 0))] d_mo_creatorAt_6 (by decide) rfl ?_
    refine Z_iload_n d_mo_creatorAt_7 rfl ?_
    refine Z_if_ge (tgt := 15) d_mo_creatorAt_8 (by decide) (fun h8 => ?_) (fun h8 => ?_)
    · skip
      skip
      refine Z_aload_n d_mo_creatorAt_15 rfl ?_
      refine Z_get (v := .ref 139) d_mo_creatorAt_16 lf_mo_55 hF.1 rfl ?_
      refine Z_aload_n d_mo_creatorAt_19 rfl ?_
      refine Z_get (v := .ref 142) d_mo_creatorAt_20 lf_mo_65 hF.1 rfl ?_
      refine Z_iload_n d_mo_creatorAt_23 rfl ?_
      refine Zn_iald d_mo_creatorAt_24 hF.a18 (by omega) (by omega) ?_
      refine Zn_iald d_mo_creatorAt_25 hF.a15 (by omega) (by omega) ?_
      refine Z_iret d_mo_creatorAt_26 rfl ?_
      refine ⟨?_, s1, G1, hF, hc.p⟩
      rw [if_pos rfl, zn_cl hj2, hat.2.2.2.2.2.2.1]
    · skip
      exact absurd (by decide) h8 -- end
set_option maxHeartbeats 4000000 in
theorem mo_creatorAt_no {Γ : zCtx} {M : List zE} (d : Nat) {M0 : List zE} {s : Nat → Nat} {G : Nat → Nat → Nat} (hF : FW M0 M s G) {x : Int32} (hno : dOk x = false) (z : Int32)  : ZM Γ (d + 9) m_mo_creatorAt [.ref 123, .int x, .int z] M (zEq M (some (.int (-4)))) := by
  refine ZM.of mk_mo_creatorAt (Nat.le_of_ble_eq_true rfl) ?_
  rw [show zEn [.ref 123, .int x, .int z] = [some (.ref 123), some (.int x), some (.int z)] from rfl]
  refine zPad 1 ?_
  show Z _ _ _ _ _ _ _ [some (.ref 123), some (.int x), some (.int z), none] _ _
  refine Z_aload_n d_mo_creatorAt_0 rfl ?_
  refine Z_iload_n d_mo_creatorAt_1 rfl ?_
  refine Z_iload_n d_mo_creatorAt_2 rfl ?_
  refine zVe (As := [.int x, .int z]) (by omega) d_mo_creatorAt_3 lm_mo_316 hF.1 rfl rfl (Nat.le_of_ble_eq_true rfl) (mo_reach_no d hF hno z) ?_
  refine Zn_istore_n [some (.ref 123), some (.int x), some (.int z), some (.int (-4))] d_mo_creatorAt_6 (by decide) rfl ?_
  refine Z_iload_n d_mo_creatorAt_7 rfl ?_
  refine Z_if_ge (tgt := 15) d_mo_creatorAt_8 (by decide) (fun h8 => ?_) (fun h8 => ?_)
  · skip
    exact absurd h8 (by decide) -- end
  · skip
    skip
    refine Z_iload_n d_mo_creatorAt_11 rfl ?_
    refine Z_goto (tgt := 26) d_mo_creatorAt_12 (by decide) ?_
    refine Z_iret d_mo_creatorAt_26 rfl ?_
    exact ⟨rfl, rfl⟩
set_option maxHeartbeats 4000000 in
theorem mo_isRepealedAt_ok {Γ : zCtx} {M : List zE} (d : Nat) {M0 : List zE} {s : Nat → Nat} {G : Nat → Nat → Nat} (hF : FW M0 M s G) {m : Nat} {dy sz kd pt gl : Nat → Nat} {tx : Nat → Int32} {n : Nat} {e : Nat → zEnt} {K : Nat → Nat} {y : Nat} {S1 : vSt} (hV : vHy m dy sz kd pt gl tx s G n e K y S1) (z : Int32)  : ZM Γ (d + 9) m_mo_isRepealedAt [.ref 123, .int (mI y), .int z] M (fun M1 v => v = some (.int (if hasP S1.1 z = true then nI (if er (S1.2.1 z.toNatClampNeg) = true then 1 else 0) else -2)) ∧ ∃ s' G', FW M0 M1 s' G' ∧ pF s s' G G') := by
  refine ZM.of mk_mo_isRepealedAt (Nat.le_of_ble_eq_true rfl) ?_
  rw [show zEn [.ref 123, .int (mI y), .int z] = [some (.ref 123), some (.int (mI y)), some (.int z)] from rfl]
  refine zPad 1 ?_
  show Z _ _ _ _ _ _ _ [some (.ref 123), some (.int (mI y)), some (.int z), none] _ _
  refine Z_aload_n d_mo_isRepealedAt_0 rfl ?_
  refine Z_iload_n d_mo_isRepealedAt_1 rfl ?_
  refine Z_iload_n d_mo_isRepealedAt_2 rfl ?_
  refine zV (As := [.int (mI y), .int z]) (by omega) d_mo_isRepealedAt_3 lm_mo_316 hF.1 rfl rfl (Nat.le_of_ble_eq_true rfl) (mo_reach_ok d hF hV z) (fun M1 v hq hlen => ?_)
  obtain ⟨rfl, s1, G1, hF, hRO, hc⟩ := hq
  have hnn := hRO.nn
  rcases hz : hasP S1.1 z with _ | _
  · skip
    refine Zn_istore_n [some (.ref 123), some (.int (mI y)), some (.int z), some (.int (-2))] d_mo_isRepealedAt_6 (by decide) rfl ?_
    refine Z_iload_n d_mo_isRepealedAt_7 rfl ?_
    refine Z_if_ge (tgt := 15) d_mo_isRepealedAt_8 (by decide) (fun h8 => ?_) (fun h8 => ?_)
    · skip
      exact absurd h8 (by decide) -- end
    · skip
      skip
      refine Z_iload_n d_mo_isRepealedAt_11 rfl ?_
      refine Z_goto (tgt := 34) d_mo_isRepealedAt_12 (by decide) ?_
      refine Z_iret d_mo_isRepealedAt_34 rfl ?_
      exact ⟨rfl, s1, G1, hF, hc.p⟩
  · skip
    obtain ⟨j, hj1, hj2, rfl⟩ := hasP_t hz
    have hat := hRO.at hj1
    refine Zn_istore_n [some (.ref 123), some (.int (mI y)), some (.int (nI j)), some (.int (nI 0))] d_mo_isRepealedAt_6 (by decide) rfl ?_
    refine Z_iload_n d_mo_isRepealedAt_7 rfl ?_
    refine Z_if_ge (tgt := 15) d_mo_isRepealedAt_8 (by decide) (fun h8 => ?_) (fun h8 => ?_)
    · skip
      skip
      refine Z_aload_n d_mo_isRepealedAt_15 rfl ?_
      refine Z_get (v := .ref 140) d_mo_isRepealedAt_16 lf_mo_58 hF.1 rfl ?_
      refine Z_aload_n d_mo_isRepealedAt_19 rfl ?_
      refine Z_get (v := .ref 142) d_mo_isRepealedAt_20 lf_mo_65 hF.1 rfl ?_
      refine Z_iload_n d_mo_isRepealedAt_23 rfl ?_
      refine Zn_iald d_mo_isRepealedAt_24 hF.a18 (by omega) (by omega) ?_
      refine Zn_zald d_mo_isRepealedAt_25 hF.a16 (by omega) (by omega) ?_
      refine Zn_if_eq (tgt := 33) d_mo_isRepealedAt_26 (by decide) (by omega) (fun h26 => ?_) (fun h26 => ?_)
      · skip
        have e16 : decide (G1 16 (G1 18 j) ≠ 0) = false := decide_eq_false (fun z => z h26)
        refine Zn_iconst (nI 0) d_mo_isRepealedAt_33 (by decide) ?_
        refine Z_iret d_mo_isRepealedAt_34 rfl ?_
        refine ⟨?_, s1, G1, hF, hc.p⟩
        rw [if_pos rfl, zn_cl hj2, hat.2.2.2.2.1, e16]
        rfl
      · skip
        have e16 : decide (G1 16 (G1 18 j) ≠ 0) = true := decide_eq_true h26
        refine Zn_iconst (nI 1) d_mo_isRepealedAt_29 (by decide) ?_
        refine Z_goto (tgt := 34) d_mo_isRepealedAt_30 (by decide) ?_
        refine Z_iret d_mo_isRepealedAt_34 rfl ?_
        refine ⟨?_, s1, G1, hF, hc.p⟩
        rw [if_pos rfl, zn_cl hj2, hat.2.2.2.2.1, e16]
        rfl
    · skip
      exact absurd (by decide) h8 -- end
set_option maxHeartbeats 4000000 in
theorem mo_isRepealedAt_no {Γ : zCtx} {M : List zE} (d : Nat) {M0 : List zE} {s : Nat → Nat} {G : Nat → Nat → Nat} (hF : FW M0 M s G) {x : Int32} (hno : dOk x = false) (z : Int32)  : ZM Γ (d + 9) m_mo_isRepealedAt [.ref 123, .int x, .int z] M (zEq M (some (.int (-4)))) := by
  refine ZM.of mk_mo_isRepealedAt (Nat.le_of_ble_eq_true rfl) ?_
  rw [show zEn [.ref 123, .int x, .int z] = [some (.ref 123), some (.int x), some (.int z)] from rfl]
  refine zPad 1 ?_
  show Z _ _ _ _ _ _ _ [some (.ref 123), some (.int x), some (.int z), none] _ _
  refine Z_aload_n d_mo_isRepealedAt_0 rfl ?_
  refine Z_iload_n d_mo_isRepealedAt_1 rfl ?_
  refine Z_iload_n d_mo_isRepealedAt_2 rfl ?_
  refine zVe (As := [.int x, .int z]) (by omega) d_mo_isRepealedAt_3 lm_mo_316 hF.1 rfl rfl (Nat.le_of_ble_eq_true rfl) (mo_reach_no d hF hno z) ?_
  refine Zn_istore_n [some (.ref 123), some (.int x), some (.int z), some (.int (-4))] d_mo_isRepealedAt_6 (by decide) rfl ?_
  refine Z_iload_n d_mo_isRepealedAt_7 rfl ?_
  refine Z_if_ge (tgt := 15) d_mo_isRepealedAt_8 (by decide) (fun h8 => ?_) (fun h8 => ?_)
  · skip
    exact absurd h8 (by decide) -- end
  · skip
    skip
    refine Z_iload_n d_mo_isRepealedAt_11 rfl ?_
    refine Z_goto (tgt := 34) d_mo_isRepealedAt_12 (by decide) ?_
    refine Z_iret d_mo_isRepealedAt_34 rfl ?_
    exact ⟨rfl, rfl⟩
set_option maxHeartbeats 4000000 in
theorem mo_conflictAmendment_ok {Γ : zCtx} {M : List zE} (d : Nat) {M0 : List zE} {s : Nat → Nat} {G : Nat → Nat → Nat} (hF : FW M0 M s G) {m : Nat} {dy sz kd pt gl : Nat → Nat} {tx : Nat → Int32} {n : Nat} {e : Nat → zEnt} {K : Nat → Nat} {y : Nat} {S1 : vSt} (hV : vHy m dy sz kd pt gl tx s G n e K y S1) (z : Int32)  : ZM Γ (d + 9) m_mo_conflictAmendment [.ref 123, .int (mI y), .int z] M (fun M1 v => v = some (.int (if hasP S1.2.2.1 z = true then nI (S1.2.2.2.1 z.toNatClampNeg) else -9)) ∧ ∃ s' G', FW M0 M1 s' G' ∧ pF s s' G G') := by
  refine ZM.of mk_mo_conflictAmendment (Nat.le_of_ble_eq_true rfl) ?_
  rw [show zEn [.ref 123, .int (mI y), .int z] = [some (.ref 123), some (.int (mI y)), some (.int z)] from rfl]
  refine zPad 1 ?_
  show Z _ _ _ _ _ _ _ [some (.ref 123), some (.int (mI y)), some (.int z), none] _ _
  refine Z_aload_n d_mo_conflictAmendment_0 rfl ?_
  refine Z_iload_n d_mo_conflictAmendment_1 rfl ?_
  refine Z_iload_n d_mo_conflictAmendment_2 rfl ?_
  refine zV (As := [.int (mI y), .int z]) (by omega) d_mo_conflictAmendment_3 lm_mo_357 hF.1 rfl rfl (Nat.le_of_ble_eq_true rfl) (mo_reachC_ok d hF hV z) (fun M1 v hq hlen => ?_)
  obtain ⟨rfl, s1, G1, hF, hRO, hc⟩ := hq
  have h120 := hV.2.2.2.2.2.1
  rcases hz : hasP S1.2.2.1 z with _ | _
  · skip
    refine Zn_istore_n [some (.ref 123), some (.int (mI y)), some (.int z), some (.int (-9))] d_mo_conflictAmendment_6 (by decide) rfl ?_
    refine Z_iload_n d_mo_conflictAmendment_7 rfl ?_
    refine Z_if_ge (tgt := 15) d_mo_conflictAmendment_8 (by decide) (fun h8 => ?_) (fun h8 => ?_)
    · skip
      exact absurd h8 (by decide) -- end
    · skip
      skip
      refine Z_iload_n d_mo_conflictAmendment_11 rfl ?_
      refine Z_goto (tgt := 21) d_mo_conflictAmendment_12 (by decide) ?_
      refine Z_iret d_mo_conflictAmendment_21 rfl ?_
      exact ⟨rfl, s1, G1, hF, hc.p⟩
  · skip
    obtain ⟨j, hj1, hj2, rfl⟩ := hasP_t hz
    have hcf := hRO.cf hj1
    refine Zn_istore_n [some (.ref 123), some (.int (mI y)), some (.int (nI j)), some (.int (nI 0))] d_mo_conflictAmendment_6 (by decide) rfl ?_
    refine Z_iload_n d_mo_conflictAmendment_7 rfl ?_
    refine Z_if_ge (tgt := 15) d_mo_conflictAmendment_8 (by decide) (fun h8 => ?_) (fun h8 => ?_)
    · skip
      skip
      refine Z_aload_n d_mo_conflictAmendment_15 rfl ?_
      refine Z_get (v := .ref 143) d_mo_conflictAmendment_16 lf_mo_68 hF.1 rfl ?_
      refine Z_iload_n d_mo_conflictAmendment_19 rfl ?_
      refine Zn_iald d_mo_conflictAmendment_20 hF.a19 (by omega) (by omega) ?_
      refine Z_iret d_mo_conflictAmendment_21 rfl ?_
      refine ⟨?_, s1, G1, hF, hc.p⟩
      rw [if_pos rfl, zn_cl hj2, hcf.1]
    · skip
      exact absurd (by decide) h8 -- end
set_option maxHeartbeats 4000000 in
theorem mo_conflictAmendment_no {Γ : zCtx} {M : List zE} (d : Nat) {M0 : List zE} {s : Nat → Nat} {G : Nat → Nat → Nat} (hF : FW M0 M s G) {x : Int32} (hno : dOk x = false) (z : Int32)  : ZM Γ (d + 9) m_mo_conflictAmendment [.ref 123, .int x, .int z] M (zEq M (some (.int (-4)))) := by
  refine ZM.of mk_mo_conflictAmendment (Nat.le_of_ble_eq_true rfl) ?_
  rw [show zEn [.ref 123, .int x, .int z] = [some (.ref 123), some (.int x), some (.int z)] from rfl]
  refine zPad 1 ?_
  show Z _ _ _ _ _ _ _ [some (.ref 123), some (.int x), some (.int z), none] _ _
  refine Z_aload_n d_mo_conflictAmendment_0 rfl ?_
  refine Z_iload_n d_mo_conflictAmendment_1 rfl ?_
  refine Z_iload_n d_mo_conflictAmendment_2 rfl ?_
  refine zVe (As := [.int x, .int z]) (by omega) d_mo_conflictAmendment_3 lm_mo_357 hF.1 rfl rfl (Nat.le_of_ble_eq_true rfl) (mo_reachC_no d hF hno z) ?_
  refine Zn_istore_n [some (.ref 123), some (.int x), some (.int z), some (.int (-4))] d_mo_conflictAmendment_6 (by decide) rfl ?_
  refine Z_iload_n d_mo_conflictAmendment_7 rfl ?_
  refine Z_if_ge (tgt := 15) d_mo_conflictAmendment_8 (by decide) (fun h8 => ?_) (fun h8 => ?_)
  · skip
    exact absurd h8 (by decide) -- end
  · skip
    skip
    refine Z_iload_n d_mo_conflictAmendment_11 rfl ?_
    refine Z_goto (tgt := 21) d_mo_conflictAmendment_12 (by decide) ?_
    refine Z_iret d_mo_conflictAmendment_21 rfl ?_
    exact ⟨rfl, rfl⟩
set_option maxHeartbeats 4000000 in
theorem mo_conflictInstruction_ok {Γ : zCtx} {M : List zE} (d : Nat) {M0 : List zE} {s : Nat → Nat} {G : Nat → Nat → Nat} (hF : FW M0 M s G) {m : Nat} {dy sz kd pt gl : Nat → Nat} {tx : Nat → Int32} {n : Nat} {e : Nat → zEnt} {K : Nat → Nat} {y : Nat} {S1 : vSt} (hV : vHy m dy sz kd pt gl tx s G n e K y S1) (z : Int32)  : ZM Γ (d + 9) m_mo_conflictInstruction [.ref 123, .int (mI y), .int z] M (fun M1 v => v = some (.int (if hasP S1.2.2.1 z = true then nI (S1.2.2.2.2.1 z.toNatClampNeg) else -9)) ∧ ∃ s' G', FW M0 M1 s' G' ∧ pF s s' G G') := by
  refine ZM.of mk_mo_conflictInstruction (Nat.le_of_ble_eq_true rfl) ?_
  rw [show zEn [.ref 123, .int (mI y), .int z] = [some (.ref 123), some (.int (mI y)), some (.int z)] from rfl]
  refine zPad 1 ?_
  show Z _ _ _ _ _ _ _ [some (.ref 123), some (.int (mI y)), some (.int z), none] _ _
  refine Z_aload_n d_mo_conflictInstruction_0 rfl ?_
  refine Z_iload_n d_mo_conflictInstruction_1 rfl ?_
  refine Z_iload_n d_mo_conflictInstruction_2 rfl ?_
  refine zV (As := [.int (mI y), .int z]) (by omega) d_mo_conflictInstruction_3 lm_mo_357 hF.1 rfl rfl (Nat.le_of_ble_eq_true rfl) (mo_reachC_ok d hF hV z) (fun M1 v hq hlen => ?_)
  obtain ⟨rfl, s1, G1, hF, hRO, hc⟩ := hq
  have h120 := hV.2.2.2.2.2.1
  rcases hz : hasP S1.2.2.1 z with _ | _
  · skip
    refine Zn_istore_n [some (.ref 123), some (.int (mI y)), some (.int z), some (.int (-9))] d_mo_conflictInstruction_6 (by decide) rfl ?_
    refine Z_iload_n d_mo_conflictInstruction_7 rfl ?_
    refine Z_if_ge (tgt := 15) d_mo_conflictInstruction_8 (by decide) (fun h8 => ?_) (fun h8 => ?_)
    · skip
      exact absurd h8 (by decide) -- end
    · skip
      skip
      refine Z_iload_n d_mo_conflictInstruction_11 rfl ?_
      refine Z_goto (tgt := 21) d_mo_conflictInstruction_12 (by decide) ?_
      refine Z_iret d_mo_conflictInstruction_21 rfl ?_
      exact ⟨rfl, s1, G1, hF, hc.p⟩
  · skip
    obtain ⟨j, hj1, hj2, rfl⟩ := hasP_t hz
    have hcf := hRO.cf hj1
    refine Zn_istore_n [some (.ref 123), some (.int (mI y)), some (.int (nI j)), some (.int (nI 0))] d_mo_conflictInstruction_6 (by decide) rfl ?_
    refine Z_iload_n d_mo_conflictInstruction_7 rfl ?_
    refine Z_if_ge (tgt := 15) d_mo_conflictInstruction_8 (by decide) (fun h8 => ?_) (fun h8 => ?_)
    · skip
      skip
      refine Z_aload_n d_mo_conflictInstruction_15 rfl ?_
      refine Z_get (v := .ref 144) d_mo_conflictInstruction_16 lf_mo_71 hF.1 rfl ?_
      refine Z_iload_n d_mo_conflictInstruction_19 rfl ?_
      refine Zn_iald d_mo_conflictInstruction_20 hF.a20 (by omega) (by omega) ?_
      refine Z_iret d_mo_conflictInstruction_21 rfl ?_
      refine ⟨?_, s1, G1, hF, hc.p⟩
      rw [if_pos rfl, zn_cl hj2, hcf.2.1]
    · skip
      exact absurd (by decide) h8 -- end
set_option maxHeartbeats 4000000 in
theorem mo_conflictInstruction_no {Γ : zCtx} {M : List zE} (d : Nat) {M0 : List zE} {s : Nat → Nat} {G : Nat → Nat → Nat} (hF : FW M0 M s G) {x : Int32} (hno : dOk x = false) (z : Int32)  : ZM Γ (d + 9) m_mo_conflictInstruction [.ref 123, .int x, .int z] M (zEq M (some (.int (-4)))) := by
  refine ZM.of mk_mo_conflictInstruction (Nat.le_of_ble_eq_true rfl) ?_
  rw [show zEn [.ref 123, .int x, .int z] = [some (.ref 123), some (.int x), some (.int z)] from rfl]
  refine zPad 1 ?_
  show Z _ _ _ _ _ _ _ [some (.ref 123), some (.int x), some (.int z), none] _ _
  refine Z_aload_n d_mo_conflictInstruction_0 rfl ?_
  refine Z_iload_n d_mo_conflictInstruction_1 rfl ?_
  refine Z_iload_n d_mo_conflictInstruction_2 rfl ?_
  refine zVe (As := [.int x, .int z]) (by omega) d_mo_conflictInstruction_3 lm_mo_357 hF.1 rfl rfl (Nat.le_of_ble_eq_true rfl) (mo_reachC_no d hF hno z) ?_
  refine Zn_istore_n [some (.ref 123), some (.int x), some (.int z), some (.int (-4))] d_mo_conflictInstruction_6 (by decide) rfl ?_
  refine Z_iload_n d_mo_conflictInstruction_7 rfl ?_
  refine Z_if_ge (tgt := 15) d_mo_conflictInstruction_8 (by decide) (fun h8 => ?_) (fun h8 => ?_)
  · skip
    exact absurd h8 (by decide) -- end
  · skip
    skip
    refine Z_iload_n d_mo_conflictInstruction_11 rfl ?_
    refine Z_goto (tgt := 21) d_mo_conflictInstruction_12 (by decide) ?_
    refine Z_iret d_mo_conflictInstruction_21 rfl ?_
    exact ⟨rfl, rfl⟩
set_option maxHeartbeats 4000000 in
theorem mo_conflictReason_ok {Γ : zCtx} {M : List zE} (d : Nat) {M0 : List zE} {s : Nat → Nat} {G : Nat → Nat → Nat} (hF : FW M0 M s G) {m : Nat} {dy sz kd pt gl : Nat → Nat} {tx : Nat → Int32} {n : Nat} {e : Nat → zEnt} {K : Nat → Nat} {y : Nat} {S1 : vSt} (hV : vHy m dy sz kd pt gl tx s G n e K y S1) (z : Int32)  : ZM Γ (d + 9) m_mo_conflictReason [.ref 123, .int (mI y), .int z] M (fun M1 v => v = some (.int (if hasP S1.2.2.1 z = true then nI (S1.2.2.2.2.2 z.toNatClampNeg) else -9)) ∧ ∃ s' G', FW M0 M1 s' G' ∧ pF s s' G G') := by
  refine ZM.of mk_mo_conflictReason (Nat.le_of_ble_eq_true rfl) ?_
  rw [show zEn [.ref 123, .int (mI y), .int z] = [some (.ref 123), some (.int (mI y)), some (.int z)] from rfl]
  refine zPad 1 ?_
  show Z _ _ _ _ _ _ _ [some (.ref 123), some (.int (mI y)), some (.int z), none] _ _
  refine Z_aload_n d_mo_conflictReason_0 rfl ?_
  refine Z_iload_n d_mo_conflictReason_1 rfl ?_
  refine Z_iload_n d_mo_conflictReason_2 rfl ?_
  refine zV (As := [.int (mI y), .int z]) (by omega) d_mo_conflictReason_3 lm_mo_357 hF.1 rfl rfl (Nat.le_of_ble_eq_true rfl) (mo_reachC_ok d hF hV z) (fun M1 v hq hlen => ?_)
  obtain ⟨rfl, s1, G1, hF, hRO, hc⟩ := hq
  have h120 := hV.2.2.2.2.2.1
  rcases hz : hasP S1.2.2.1 z with _ | _
  · skip
    refine Zn_istore_n [some (.ref 123), some (.int (mI y)), some (.int z), some (.int (-9))] d_mo_conflictReason_6 (by decide) rfl ?_
    refine Z_iload_n d_mo_conflictReason_7 rfl ?_
    refine Z_if_ge (tgt := 15) d_mo_conflictReason_8 (by decide) (fun h8 => ?_) (fun h8 => ?_)
    · skip
      exact absurd h8 (by decide) -- end
    · skip
      skip
      refine Z_iload_n d_mo_conflictReason_11 rfl ?_
      refine Z_goto (tgt := 21) d_mo_conflictReason_12 (by decide) ?_
      refine Z_iret d_mo_conflictReason_21 rfl ?_
      exact ⟨rfl, s1, G1, hF, hc.p⟩
  · skip
    obtain ⟨j, hj1, hj2, rfl⟩ := hasP_t hz
    have hcf := hRO.cf hj1
    refine Zn_istore_n [some (.ref 123), some (.int (mI y)), some (.int (nI j)), some (.int (nI 0))] d_mo_conflictReason_6 (by decide) rfl ?_
    refine Z_iload_n d_mo_conflictReason_7 rfl ?_
    refine Z_if_ge (tgt := 15) d_mo_conflictReason_8 (by decide) (fun h8 => ?_) (fun h8 => ?_)
    · skip
      skip
      refine Z_aload_n d_mo_conflictReason_15 rfl ?_
      refine Z_get (v := .ref 145) d_mo_conflictReason_16 lf_mo_74 hF.1 rfl ?_
      refine Z_iload_n d_mo_conflictReason_19 rfl ?_
      refine Zn_iald d_mo_conflictReason_20 hF.a21 (by omega) (by omega) ?_
      refine Z_iret d_mo_conflictReason_21 rfl ?_
      refine ⟨?_, s1, G1, hF, hc.p⟩
      rw [if_pos rfl, zn_cl hj2, hcf.2.2]
    · skip
      exact absurd (by decide) h8 -- end
set_option maxHeartbeats 4000000 in
theorem mo_conflictReason_no {Γ : zCtx} {M : List zE} (d : Nat) {M0 : List zE} {s : Nat → Nat} {G : Nat → Nat → Nat} (hF : FW M0 M s G) {x : Int32} (hno : dOk x = false) (z : Int32)  : ZM Γ (d + 9) m_mo_conflictReason [.ref 123, .int x, .int z] M (zEq M (some (.int (-4)))) := by
  refine ZM.of mk_mo_conflictReason (Nat.le_of_ble_eq_true rfl) ?_
  rw [show zEn [.ref 123, .int x, .int z] = [some (.ref 123), some (.int x), some (.int z)] from rfl]
  refine zPad 1 ?_
  show Z _ _ _ _ _ _ _ [some (.ref 123), some (.int x), some (.int z), none] _ _
  refine Z_aload_n d_mo_conflictReason_0 rfl ?_
  refine Z_iload_n d_mo_conflictReason_1 rfl ?_
  refine Z_iload_n d_mo_conflictReason_2 rfl ?_
  refine zVe (As := [.int x, .int z]) (by omega) d_mo_conflictReason_3 lm_mo_357 hF.1 rfl rfl (Nat.le_of_ble_eq_true rfl) (mo_reachC_no d hF hno z) ?_
  refine Zn_istore_n [some (.ref 123), some (.int x), some (.int z), some (.int (-4))] d_mo_conflictReason_6 (by decide) rfl ?_
  refine Z_iload_n d_mo_conflictReason_7 rfl ?_
  refine Z_if_ge (tgt := 15) d_mo_conflictReason_8 (by decide) (fun h8 => ?_) (fun h8 => ?_)
  · skip
    exact absurd h8 (by decide) -- end
  · skip
    skip
    refine Z_iload_n d_mo_conflictReason_11 rfl ?_
    refine Z_goto (tgt := 21) d_mo_conflictReason_12 (by decide) ?_
    refine Z_iret d_mo_conflictReason_21 rfl ?_
    exact ⟨rfl, rfl⟩
