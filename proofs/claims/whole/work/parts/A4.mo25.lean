/-! small calls of the reference -/
set_option maxHeartbeats 4000000 in
theorem mo_originalCount_ok {Γ : zCtx} {M : List zE} (d : Nat) {M0 : List zE} {s : Nat → Nat} {G : Nat → Nat → Nat} (hF : FW M0 M s G)  : ZM Γ (d + 1) m_mo_originalCount [.ref 123] M (zEq M (some (.int (nI (s 0))))) := by
  refine ZM.of mk_mo_originalCount (Nat.le_of_ble_eq_true rfl) ?_
  refine Z_aload_n d_mo_originalCount_0 rfl ?_
  refine Z_get (v := .int (nI (s 0))) d_mo_originalCount_1 lf_mo_154 hF.1 rfl ?_
  refine Z_iret d_mo_originalCount_4 rfl ?_
  exact ⟨rfl, rfl⟩
set_option maxHeartbeats 4000000 in
theorem mo_amendmentCount_ok {Γ : zCtx} {M : List zE} (d : Nat) {M0 : List zE} {s : Nat → Nat} {G : Nat → Nat → Nat} (hF : FW M0 M s G)  : ZM Γ (d + 1) m_mo_amendmentCount [.ref 123] M (zEq M (some (.int (nI (s 1))))) := by
  refine ZM.of mk_mo_amendmentCount (Nat.le_of_ble_eq_true rfl) ?_
  refine Z_aload_n d_mo_amendmentCount_0 rfl ?_
  refine Z_get (v := .int (nI (s 1))) d_mo_amendmentCount_1 lf_mo_209 hF.1 rfl ?_
  refine Z_iret d_mo_amendmentCount_4 rfl ?_
  exact ⟨rfl, rfl⟩
set_option maxHeartbeats 4000000 in
theorem mo_clearInput_ok {Γ : zCtx} {M : List zE} (d : Nat) {M0 : List zE} {s : Nat → Nat} {G : Nat → Nat → Nat} (hF : FW M0 M s G)  : ZM Γ (d + 1) m_mo_clearInput [.ref 123] M (fun M1 v => v = some (.int (nI (s 5))) ∧ FW M0 M1 (nup s 5 0) G) := by
  refine ZM.of mk_mo_clearInput (Nat.le_of_ble_eq_true rfl) ?_
  rw [show zEn [.ref 123] = [some (.ref 123)] from rfl]
  refine zPad 1 ?_
  show Z _ _ _ _ _ _ _ [some (.ref 123), none] _ _
  refine Z_aload_n d_mo_clearInput_0 rfl ?_
  refine Z_get (v := .int (nI (s 5))) d_mo_clearInput_1 lf_mo_215 hF.1 rfl ?_
  refine Zn_istore_n [some (.ref 123), some (.int (nI (s 5)))] d_mo_clearInput_4 (by decide) rfl ?_
  refine Z_aload_n d_mo_clearInput_5 rfl ?_
  refine Zn_iconst (nI 0) d_mo_clearInput_6 (by decide) ?_
  refine Z_puti d_mo_clearInput_7 lf_mo_215 hF.1 rfl rfl (Nat.le_of_ble_eq_true rfl) ?_
  replace hF := hF.u5 0
  refine Z_iload_n d_mo_clearInput_10 rfl ?_
  refine Z_iret d_mo_clearInput_11 rfl ?_
  exact ⟨rfl, hF⟩
set_option maxHeartbeats 4000000 in
theorem mo_removeLastAmendment_ok {Γ : zCtx} {M : List zE} (d : Nat) {M0 : List zE} {s : Nat → Nat} {G : Nat → Nat → Nat} (hF : FW M0 M s G) (h8 : s 1 ≤ 8)  : ZM Γ (d + 1) m_mo_removeLastAmendment [.ref 123] M (fun M1 v => v = some (.int (if s 1 = 0 then -9 else nI (s 1 - 1))) ∧ if s 1 = 0 then M1 = M else FW M0 M1 (nup s 1 (s 1 - 1)) G) := by
  refine ZM.of mk_mo_removeLastAmendment (Nat.le_of_ble_eq_true rfl) ?_
  refine Z_aload_n d_mo_removeLastAmendment_0 rfl ?_
  refine Z_get (v := .int (nI (s 1))) d_mo_removeLastAmendment_1 lf_mo_209 hF.1 rfl ?_
  refine Zn_if_ne (tgt := 10) d_mo_removeLastAmendment_4 (by decide) (by omega) (fun h4 => ?_) (fun h4 => ?_)
  · skip
    refine Z_aload_n d_mo_removeLastAmendment_10 rfl ?_
    refine Z_dup d_mo_removeLastAmendment_11 rfl ?_
    refine Z_get (v := .int (nI (s 1))) d_mo_removeLastAmendment_12 lf_mo_209 hF.1 rfl ?_
    refine Zn_iconst (nI 1) d_mo_removeLastAmendment_15 (by decide) ?_
    refine Zn_isub d_mo_removeLastAmendment_16 (by omega) ?_
    refine Z_puti d_mo_removeLastAmendment_17 lf_mo_209 hF.1 rfl rfl (Nat.le_of_ble_eq_true rfl) ?_
    replace hF := hF.u1 ((s 1) - 1)
    refine Z_aload_n d_mo_removeLastAmendment_20 rfl ?_
    refine Z_get (v := .int (nI ((s 1) - 1))) d_mo_removeLastAmendment_21 lf_mo_209 hF.1 rfl ?_
    refine Z_iret d_mo_removeLastAmendment_24 rfl ?_
    rw [if_neg h4, if_neg h4]
    exact ⟨rfl, hF⟩
  · skip
    refine Zn_bipush (-9) d_mo_removeLastAmendment_7 (by decide) ?_
    refine Z_iret d_mo_removeLastAmendment_9 rfl ?_
    rw [if_pos h4, if_pos h4]
    exact ⟨rfl, rfl⟩
set_option maxHeartbeats 4000000 in
theorem mo_appendCharacter_ok {Γ : zCtx} {M : List zE} (d : Nat) {M0 : List zE} {s : Nat → Nat} {G : Nat → Nat → Nat} (hF : FW M0 M s G) (h120 : s 5 ≤ 120) (x : Int32)  : ZM Γ (d + 2) m_mo_appendCharacter [.ref 123, .int x] M (fun M1 v => v = some (.int (apC (s 5) x).1) ∧ match (apC (s 5) x).2 with | none => M1 = M | some c => FW M0 M1 (nup s 5 (s 5 + 1)) (gup G 22 (s 5) c)) := by
  refine ZM.of mk_mo_appendCharacter (Nat.le_of_ble_eq_true rfl) ?_
  refine Z_iload_n d_mo_appendCharacter_0 rfl ?_
  refine Zn_bipush (nI 32) d_mo_appendCharacter_1 (by decide) ?_
  refine Zn_bipush (nI 126) d_mo_appendCharacter_3 (by decide) ?_
  refine zTe (As := [.int x, .int (nI 32), .int (nI 126)]) (by omega) d_mo_appendCharacter_5 lm_mo_189 rfl (Nat.le_of_ble_eq_true rfl) (mo_in_ok d _ _ _) ?_
  rw [inI_c]
  rcases hx : chO x with _ | _
  · skip
    refine Zn_if_ne (a := 0) (tgt := 14) d_mo_appendCharacter_8 (by decide) (by decide) (fun h => absurd h (by decide)) (fun _ => ?_)
    refine Zn_bipush (-5) d_mo_appendCharacter_11 (by decide) ?_
    refine Z_iret d_mo_appendCharacter_13 rfl ?_
    have e : apC (s 5) x = (-5, none) := by unfold apC; rw [if_neg (by rw [hx]; decide)]
    rw [e]
    exact ⟨rfl, rfl⟩
  · skip
    obtain ⟨c, hc1, hc2, rfl⟩ := chO_t hx
    refine Zn_if_ne (a := 1) (tgt := 14) d_mo_appendCharacter_8 (by decide) (by decide) (fun _ => ?_) (fun h => absurd h (by decide))
    refine Z_aload_n d_mo_appendCharacter_14 rfl ?_
    refine Z_get (v := .int (nI (s 5))) d_mo_appendCharacter_15 lf_mo_215 hF.1 rfl ?_
    refine Zn_bipush (nI 120) d_mo_appendCharacter_18 (by decide) ?_
    refine Zn_icmp_ne (tgt := 26) d_mo_appendCharacter_20 (by decide) (by omega) (by omega) (fun h20 => ?_) (fun h20 => ?_)
    · skip
      refine Z_aload_n d_mo_appendCharacter_26 rfl ?_
      refine Z_get (v := .ref 146) d_mo_appendCharacter_27 lf_mo_77 hF.1 rfl ?_
      refine Z_aload_n d_mo_appendCharacter_30 rfl ?_
      refine Z_get (v := .int (nI (s 5))) d_mo_appendCharacter_31 lf_mo_215 hF.1 rfl ?_
      refine Z_iload_n d_mo_appendCharacter_34 rfl ?_
      refine Zn_iast d_mo_appendCharacter_35 hF.a22 (by omega) (by omega) ?_
      replace hF := hF.p22 (s 5) c
      refine Z_aload_n d_mo_appendCharacter_36 rfl ?_
      refine Z_dup d_mo_appendCharacter_37 rfl ?_
      refine Z_get (v := .int (nI (s 5))) d_mo_appendCharacter_38 lf_mo_215 hF.1 rfl ?_
      refine Zn_iconst (nI 1) d_mo_appendCharacter_41 (by decide) ?_
      refine Zn_iadd d_mo_appendCharacter_42 ?_
      refine Z_puti d_mo_appendCharacter_43 lf_mo_215 hF.1 rfl rfl (Nat.le_of_ble_eq_true rfl) ?_
      replace hF := hF.u5 ((s 5) + 1)
      refine Z_aload_n d_mo_appendCharacter_46 rfl ?_
      refine Z_get (v := .int (nI ((s 5) + 1))) d_mo_appendCharacter_47 lf_mo_215 hF.1 rfl ?_
      refine Z_iret d_mo_appendCharacter_50 rfl ?_
      have e : apC (s 5) (nI c) = (nI (s 5 + 1), some c) := by unfold apC; rw [if_pos hx, if_pos (by omega), zn_cl (by omega)]
      rw [e]
      exact ⟨rfl, hF⟩
    · skip
      refine Zn_bipush (-6) d_mo_appendCharacter_23 (by decide) ?_
      refine Z_iret d_mo_appendCharacter_25 rfl ?_
      have e : apC (s 5) (nI c) = (-6, none) := by unfold apC; rw [if_pos hx, if_neg (by omega)]
      rw [e]
      exact ⟨rfl, rfl⟩
set_option maxHeartbeats 4000000 in
theorem mo_instructionCount_ok {Γ : zCtx} {M : List zE} (d : Nat) {M0 : List zE} {s : Nat → Nat} {G : Nat → Nat → Nat} (hF : FW M0 M s G) (h8 : s 1 ≤ 8) (x : Int32)  : ZM Γ (d + 3) m_mo_instructionCount [.ref 123, .int x] M (zEq M (some (.int (if hasP (s 1) x = true then nI (G 6 x.toNatClampNeg) else -3)))) := by
  refine ZM.of mk_mo_instructionCount (Nat.le_of_ble_eq_true rfl) ?_
  refine Z_aload_n d_mo_instructionCount_0 rfl ?_
  refine Z_iload_n d_mo_instructionCount_1 rfl ?_
  refine zVe (As := [.int x]) (by omega) d_mo_instructionCount_2 lm_mo_279 hF.1 rfl rfl (Nat.le_of_ble_eq_true rfl) (mo_isAmendment_ok d hF rfl (by omega) x) ?_
  rcases hx : hasP (s 1) x with _ | _
  · skip
    refine Zn_if_eq (a := 0) (tgt := 17) d_mo_instructionCount_5 (by decide) (by decide) (fun _ => ?_) (fun h => absurd h (by decide))
    refine Zn_bipush (-3) d_mo_instructionCount_17 (by decide) ?_
    refine Z_iret d_mo_instructionCount_19 rfl ?_
    exact ⟨rfl, rfl⟩
  · skip
    obtain ⟨j, hj1, hj2, rfl⟩ := hasP_t hx
    refine Zn_if_eq (a := 1) (tgt := 17) d_mo_instructionCount_5 (by decide) (by decide) (fun h => absurd h (by decide)) (fun _ => ?_)
    refine Z_aload_n d_mo_instructionCount_8 rfl ?_
    refine Z_get (v := .ref 130) d_mo_instructionCount_9 lf_mo_28 hF.1 rfl ?_
    refine Z_iload_n d_mo_instructionCount_12 rfl ?_
    refine Zn_iald d_mo_instructionCount_13 hF.a6 (by omega) (by omega) ?_
    refine Z_goto (tgt := 19) d_mo_instructionCount_14 (by decide) ?_
    refine Z_iret d_mo_instructionCount_19 rfl ?_
    exact ⟨rfl, by rw [if_pos rfl, zn_cl hj2]⟩
set_option maxHeartbeats 4000000 in
theorem mo_setCommencement_ok {Γ : zCtx} {M : List zE} (d : Nat) {M0 : List zE} {s : Nat → Nat} {G : Nat → Nat → Nat} (hF : FW M0 M s G) (h8 : s 1 ≤ 8) (x y : Int32)  : ZM Γ (d + 3) m_mo_setCommencement [.ref 123, .int x, .int y] M (fun M1 v => v = some (.int (setC (s 1) (G 5) x y).1) ∧ match (setC (s 1) (G 5) x y).2 with | none => M1 = M | some q => FW M0 M1 s (gup G 5 q.1 q.2)) := by
  refine ZM.of mk_mo_setCommencement (Nat.le_of_ble_eq_true rfl) ?_
  rw [show zEn [.ref 123, .int x, .int y] = [some (.ref 123), some (.int x), some (.int y)] from rfl]
  refine zPad 1 ?_
  show Z _ _ _ _ _ _ _ [some (.ref 123), some (.int x), some (.int y), none] _ _
  refine Z_aload_n d_mo_setCommencement_0 rfl ?_
  refine Z_iload_n d_mo_setCommencement_1 rfl ?_
  refine zVe (As := [.int x]) (by omega) d_mo_setCommencement_2 lm_mo_279 hF.1 rfl rfl (Nat.le_of_ble_eq_true rfl) (mo_isAmendment_ok d hF rfl (by omega) x) ?_
  rcases hx : hasP (s 1) x with _ | _
  · skip
    refine Zn_if_ne (a := 0) (tgt := 11) d_mo_setCommencement_5 (by decide) (by decide) (fun h => absurd h (by decide)) (fun _ => ?_)
    refine Zn_bipush (-3) d_mo_setCommencement_8 (by decide) ?_
    refine Z_iret d_mo_setCommencement_10 rfl ?_
    have e : setC (s 1) (G 5) x y = (-3, none) := by unfold setC; rw [if_neg (by rw [hx]; decide)]
    rw [e]
    exact ⟨rfl, rfl⟩
  · skip
    obtain ⟨j, hj1, hj2, rfl⟩ := hasP_t hx
    refine Zn_if_ne (a := 1) (tgt := 11) d_mo_setCommencement_5 (by decide) (by decide) (fun _ => ?_) (fun h => absurd h (by decide))
    refine Z_iload_n d_mo_setCommencement_11 rfl ?_
    refine Zn_iconst (nI 0) d_mo_setCommencement_12 (by decide) ?_
    refine Zn_sipush (nI 9999) d_mo_setCommencement_13 (by decide) ?_
    refine zTe (As := [.int y, .int (nI 0), .int (nI 9999)]) (by omega) d_mo_setCommencement_16 lm_mo_189 rfl (Nat.le_of_ble_eq_true rfl) (mo_in_ok d _ _ _) ?_
    rw [inI_t]
    rcases hy : tOk y with _ | _
    · skip
      refine Zn_if_ne (a := 0) (tgt := 25) d_mo_setCommencement_19 (by decide) (by decide) (fun h => absurd h (by decide)) (fun _ => ?_)
      refine Zn_bipush (-4) d_mo_setCommencement_22 (by decide) ?_
      refine Z_iret d_mo_setCommencement_24 rfl ?_
      have e : setC (s 1) (G 5) (nI j) y = (-4, none) := by unfold setC; rw [if_pos hx, if_neg (by rw [hy]; decide)]
      rw [e]
      exact ⟨rfl, rfl⟩
    · skip
      obtain ⟨t, ht1, rfl⟩ := tOk_t hy
      refine Zn_if_ne (a := 1) (tgt := 25) d_mo_setCommencement_19 (by decide) (by decide) (fun _ => ?_) (fun h => absurd h (by decide))
      refine Z_aload_n d_mo_setCommencement_25 rfl ?_
      refine Z_get (v := .ref 129) d_mo_setCommencement_26 lf_mo_25 hF.1 rfl ?_
      refine Z_iload_n d_mo_setCommencement_29 rfl ?_
      refine Zn_iald d_mo_setCommencement_30 hF.a5 (by omega) (by omega) ?_
      refine Zn_istore_n [some (.ref 123), some (.int (nI j)), some (.int (nI t)), some (.int (nI (G 5 j)))] d_mo_setCommencement_31 (by decide) rfl ?_
      refine Z_aload_n d_mo_setCommencement_32 rfl ?_
      refine Z_get (v := .ref 129) d_mo_setCommencement_33 lf_mo_25 hF.1 rfl ?_
      refine Z_iload_n d_mo_setCommencement_36 rfl ?_
      refine Z_iload_n d_mo_setCommencement_37 rfl ?_
      refine Zn_iast d_mo_setCommencement_38 hF.a5 (by omega) (by omega) ?_
      replace hF := hF.p5 j t
      refine Z_iload_n d_mo_setCommencement_39 rfl ?_
      refine Z_iret d_mo_setCommencement_40 rfl ?_
      have e : setC (s 1) (G 5) (nI j) (nI t) = (nI (G 5 j), some (j, t)) := by unfold setC; rw [if_pos hx, if_pos hy, zn_cl hj2, zn_cl (by omega)]
      rw [e]
      exact ⟨rfl, hF⟩
def rST (n : Nat) (tx : Nat → Nat) (x y : Int32) : Int32 × Option (Nat × Nat) := if hasP n x = true then (if tOk y = true then (nI (tx x.toNatClampNeg), some (x.toNatClampNeg, y.toNatClampNeg)) else (-5, none)) else (-1, none)
set_option maxHeartbeats 4000000 in
theorem mo_setText_ok {Γ : zCtx} {M : List zE} (d : Nat) {M0 : List zE} {s : Nat → Nat} {G : Nat → Nat → Nat} (hF : FW M0 M s G) (h30 : s 0 ≤ 30) (x y : Int32)  : ZM Γ (d + 3) m_mo_setText [.ref 123, .int x, .int y] M (fun M1 v => v = some (.int (rST (s 0) (G 2) x y).1) ∧ match (rST (s 0) (G 2) x y).2 with | none => M1 = M | some q => FW M0 M1 s (gup G 2 q.1 q.2)) := by
  refine ZM.of mk_mo_setText (Nat.le_of_ble_eq_true rfl) ?_
  rw [show zEn [.ref 123, .int x, .int y] = [some (.ref 123), some (.int x), some (.int y)] from rfl]
  refine zPad 1 ?_
  show Z _ _ _ _ _ _ _ [some (.ref 123), some (.int x), some (.int y), none] _ _
  refine Z_aload_n d_mo_setText_0 rfl ?_
  refine Z_iload_n d_mo_setText_1 rfl ?_
  refine zVe (As := [.int x]) (by omega) d_mo_setText_2 lm_mo_193 hF.1 rfl rfl (Nat.le_of_ble_eq_true rfl) (mo_isOriginal_ok d hF rfl (by omega) x) ?_
  rcases hx : hasP (s 0) x with _ | _
  · skip
    refine Zn_if_ne (a := 0) (tgt := 10) d_mo_setText_5 (by decide) (by decide) (fun h => absurd h (by decide)) (fun _ => ?_)
    refine Zn_iconst (-1) d_mo_setText_8 (by decide) ?_
    refine Z_iret d_mo_setText_9 rfl ?_
    have e : rST (s 0) (G 2) x y = (-1, none) := by unfold rST; rw [if_neg (by rw [hx]; decide)]
    rw [e]
    exact ⟨rfl, rfl⟩
  · skip
    obtain ⟨j, hj1, hj2, rfl⟩ := hasP_t hx
    refine Zn_if_ne (a := 1) (tgt := 10) d_mo_setText_5 (by decide) (by decide) (fun _ => ?_) (fun h => absurd h (by decide))
    refine Z_iload_n d_mo_setText_10 rfl ?_
    refine Zn_iconst (nI 0) d_mo_setText_11 (by decide) ?_
    refine Zn_sipush (nI 9999) d_mo_setText_12 (by decide) ?_
    refine zTe (As := [.int y, .int (nI 0), .int (nI 9999)]) (by omega) d_mo_setText_15 lm_mo_189 rfl (Nat.le_of_ble_eq_true rfl) (mo_in_ok d _ _ _) ?_
    rw [inI_t]
    rcases hy : tOk y with _ | _
    · skip
      refine Zn_if_ne (a := 0) (tgt := 24) d_mo_setText_18 (by decide) (by decide) (fun h => absurd h (by decide)) (fun _ => ?_)
      refine Zn_bipush (-5) d_mo_setText_21 (by decide) ?_
      refine Z_iret d_mo_setText_23 rfl ?_
      have e : rST (s 0) (G 2) (nI j) y = (-5, none) := by unfold rST; rw [if_pos hx, if_neg (by rw [hy]; decide)]
      rw [e]
      exact ⟨rfl, rfl⟩
    · skip
      obtain ⟨t, ht1, rfl⟩ := tOk_t hy
      refine Zn_if_ne (a := 1) (tgt := 24) d_mo_setText_18 (by decide) (by decide) (fun _ => ?_) (fun h => absurd h (by decide))
      refine Z_aload_n d_mo_setText_24 rfl ?_
      refine Z_get (v := .ref 126) d_mo_setText_25 lf_mo_16 hF.1 rfl ?_
      refine Z_iload_n d_mo_setText_28 rfl ?_
      refine Zn_iald d_mo_setText_29 hF.a2 (by omega) (by omega) ?_
      refine Zn_istore_n [some (.ref 123), some (.int (nI j)), some (.int (nI t)), some (.int (nI (G 2 j)))] d_mo_setText_30 (by decide) rfl ?_
      refine Z_aload_n d_mo_setText_31 rfl ?_
      refine Z_get (v := .ref 126) d_mo_setText_32 lf_mo_16 hF.1 rfl ?_
      refine Z_iload_n d_mo_setText_35 rfl ?_
      refine Z_iload_n d_mo_setText_36 rfl ?_
      refine Zn_iast d_mo_setText_37 hF.a2 (by omega) (by omega) ?_
      replace hF := hF.p2 j t
      refine Z_iload_n d_mo_setText_38 rfl ?_
      refine Z_iret d_mo_setText_39 rfl ?_
      have e : rST (s 0) (G 2) (nI j) (nI t) = (nI (G 2 j), some (j, t)) := by unfold rST; rw [if_pos hx, if_pos hy, zn_cl hj2, zn_cl (by omega)]
      rw [e]
      exact ⟨rfl, hF⟩
set_option maxHeartbeats 4000000 in
theorem mo_addReference_ok {Γ : zCtx} {M : List zE} (d : Nat) {M0 : List zE} {s : Nat → Nat} {G : Nat → Nat → Nat} (hF : FW M0 M s G) (h30 : s 0 ≤ 30) (hrc : ∀ i, i < s 0 → G 3 i ≤ 4) (x y : Int32)  : ZM Γ (d + 3) m_mo_addReference [.ref 123, .int x, .int y] M (fun M1 v => v = some (.int (adR (s 0) (G 3) x y).1) ∧ match (adR (s 0) (G 3) x y).2 with | none => M1 = M | some q => FW M0 M1 s (gup (gup G 4 (4 * q.1 + G 3 q.1) q.2) 3 q.1 (G 3 q.1 + 1))) := by
  refine ZM.of mk_mo_addReference (Nat.le_of_ble_eq_true rfl) ?_
  refine Z_aload_n d_mo_addReference_0 rfl ?_
  refine Z_iload_n d_mo_addReference_1 rfl ?_
  refine zVe (As := [.int x]) (by omega) d_mo_addReference_2 lm_mo_193 hF.1 rfl rfl (Nat.le_of_ble_eq_true rfl) (mo_isOriginal_ok d hF rfl (by omega) x) ?_
  rcases hx : hasP (s 0) x with _ | _
  · skip
    refine Zn_if_eq (a := 0) (tgt := 16) d_mo_addReference_5 (by decide) (by decide) (fun _ => ?_) (fun h => absurd h (by decide))
    refine Zn_iconst (-1) d_mo_addReference_16 (by decide) ?_
    refine Z_iret d_mo_addReference_17 rfl ?_
    have e : adR (s 0) (G 3) x y = (-1, none) := by unfold adR; rw [if_neg (by rw [hx]; decide)]
    rw [e]
    exact ⟨rfl, rfl⟩
  · skip
    obtain ⟨j, hj1, hj2, rfl⟩ := hasP_t hx
    have hr4 := hrc j hj1
    refine Zn_if_eq (a := 1) (tgt := 16) d_mo_addReference_5 (by decide) (by decide) (fun h => absurd h (by decide)) (fun _ => ?_)
    refine Z_aload_n d_mo_addReference_8 rfl ?_
    refine Z_iload_n d_mo_addReference_9 rfl ?_
    refine zVe (As := [.int y]) (by omega) d_mo_addReference_10 lm_mo_193 hF.1 rfl rfl (Nat.le_of_ble_eq_true rfl) (mo_isOriginal_ok d hF rfl (by omega) y) ?_
    rcases hy : hasP (s 0) y with _ | _
    · skip
      refine Zn_if_ne (a := 0) (tgt := 18) d_mo_addReference_13 (by decide) (by decide) (fun h => absurd h (by decide)) (fun _ => ?_)
      refine Zn_iconst (-1) d_mo_addReference_16 (by decide) ?_
      refine Z_iret d_mo_addReference_17 rfl ?_
      have e : adR (s 0) (G 3) (nI j) y = (-1, none) := by unfold adR; rw [if_pos hx, if_neg (by rw [hy]; decide)]
      rw [e]
      exact ⟨rfl, rfl⟩
    · skip
      obtain ⟨k, hk1, hk2, rfl⟩ := hasP_t hy
      refine Zn_if_ne (a := 1) (tgt := 18) d_mo_addReference_13 (by decide) (by decide) (fun _ => ?_) (fun h => absurd h (by decide))
      refine Z_aload_n d_mo_addReference_18 rfl ?_
      refine Z_get (v := .ref 127) d_mo_addReference_19 lf_mo_19 hF.1 rfl ?_
      refine Z_iload_n d_mo_addReference_22 rfl ?_
      refine Zn_iald d_mo_addReference_23 hF.a3 (by omega) (by omega) ?_
      refine Zn_iconst (nI 4) d_mo_addReference_24 (by decide) ?_
      refine Zn_icmp_ne (tgt := 31) d_mo_addReference_25 (by decide) (by omega) (by omega) (fun h25 => ?_) (fun h25 => ?_)
      · skip
        refine Z_aload_n d_mo_addReference_31 rfl ?_
        refine Z_get (v := .ref 128) d_mo_addReference_32 lf_mo_22 hF.1 rfl ?_
        refine Zn_iconst (nI 4) d_mo_addReference_35 (by decide) ?_
        refine Z_iload_n d_mo_addReference_36 rfl ?_
        refine Zn_imul d_mo_addReference_37 ?_
        refine Z_aload_n d_mo_addReference_38 rfl ?_
        refine Z_get (v := .ref 127) d_mo_addReference_39 lf_mo_19 hF.1 rfl ?_
        refine Z_iload_n d_mo_addReference_42 rfl ?_
        refine Zn_iald d_mo_addReference_43 hF.a3 (by omega) (by omega) ?_
        refine Zn_iadd d_mo_addReference_44 ?_
        refine Z_iload_n d_mo_addReference_45 rfl ?_
        refine Zn_iast d_mo_addReference_46 hF.a4 (by omega) (by omega) ?_
        replace hF := hF.p4 ((4 * j) + (G 3 j)) k
        refine Z_aload_n d_mo_addReference_47 rfl ?_
        refine Z_get (v := .ref 127) d_mo_addReference_48 lf_mo_19 hF.1 rfl ?_
        refine Z_iload_n d_mo_addReference_51 rfl ?_
        refine Z_dup2 d_mo_addReference_52 rfl rfl ?_
        refine Zn_iald d_mo_addReference_53 hF.a3 (by omega) (by omega) ?_
        rw [gup_n (by decide)]
        refine Zn_iconst (nI 1) d_mo_addReference_54 (by decide) ?_
        refine Zn_iadd d_mo_addReference_55 ?_
        refine Zn_iast d_mo_addReference_56 hF.a3 (by omega) (by omega) ?_
        replace hF := hF.p3 j ((G 3 j) + 1)
        refine Z_aload_n d_mo_addReference_57 rfl ?_
        refine Z_get (v := .ref 127) d_mo_addReference_58 lf_mo_19 hF.1 rfl ?_
        refine Z_iload_n d_mo_addReference_61 rfl ?_
        refine Zn_iald d_mo_addReference_62 hF.a3 (by omega) (by omega) ?_
        rw [gup_s, nup_s]
        refine Z_iret d_mo_addReference_63 rfl ?_
        have e : adR (s 0) (G 3) (nI j) (nI k) = (nI (G 3 j + 1), some (j, k)) := by unfold adR; rw [if_pos hx, if_pos hy, zn_cl hj2, zn_cl hk2, if_pos (by omega)]
        rw [e]
        exact ⟨rfl, hF⟩
      · skip
        refine Zn_bipush (-6) d_mo_addReference_28 (by decide) ?_
        refine Z_iret d_mo_addReference_30 rfl ?_
        have e : adR (s 0) (G 3) (nI j) (nI k) = (-6, none) := by unfold adR; rw [if_pos hx, if_pos hy, zn_cl hj2, if_neg (by omega)]
        rw [e]
        exact ⟨rfl, rfl⟩
set_option maxHeartbeats 4000000 in
theorem mo_emptyShelves_ok {Γ : zCtx} {M : List zE} (d : Nat) {M0 : List zE} {s : Nat → Nat} {G : Nat → Nat → Nat} (hF : FW M0 M s G)  : ZM Γ (d + 1) m_mo_emptyShelves [.ref 123] M (fun M1 v => v = none ∧ FW M0 M1 s (gup (gup (gup G 30 0 0) 30 1 0) 30 2 0)) := by
  refine ZM.of mk_mo_emptyShelves (Nat.le_of_ble_eq_true rfl) ?_
  rw [show zEn [.ref 123] = [some (.ref 123)] from rfl]
  refine zPad 1 ?_
  show Z _ _ _ _ _ _ _ [some (.ref 123), none] _ _
  refine Zn_iconst (nI 0) d_mo_emptyShelves_0 (by decide) ?_
  refine Zn_istore_n [some (.ref 123), some (.int (nI 0))] d_mo_emptyShelves_1 (by decide) rfl ?_
  refine Z_iload_n d_mo_emptyShelves_2 rfl ?_
  refine Zn_iconst (nI 3) d_mo_emptyShelves_3 (by decide) ?_
  refine Zn_icmp_ge (a := 0) (b := 3) (tgt := 20) d_mo_emptyShelves_4 (by decide) (by decide) (by decide) (fun h => absurd h (by decide)) (fun _ => ?_)
  refine Z_aload_n d_mo_emptyShelves_7 rfl ?_
  refine Z_get (v := .ref 154) d_mo_emptyShelves_8 lf_mo_105 hF.1 rfl ?_
  refine Z_iload_n d_mo_emptyShelves_11 rfl ?_
  refine Zn_iconst (-1) d_mo_emptyShelves_12 (by decide) ?_
  refine Zn_iast d_mo_emptyShelves_13 hF.a30 (by omega) (by omega) ?_
  replace hF := hF.p30 0 0
  refine Zn_iinc [some (.ref 123), some (.int (nI 1))] (nI 1) d_mo_emptyShelves_14 rfl (by decide) (nI_add 0 1) rfl ?_
  refine Z_goto (tgt := 2) d_mo_emptyShelves_17 (by decide) ?_
  refine Z_iload_n d_mo_emptyShelves_2 rfl ?_
  refine Zn_iconst (nI 3) d_mo_emptyShelves_3 (by decide) ?_
  refine Zn_icmp_ge (a := 1) (b := 3) (tgt := 20) d_mo_emptyShelves_4 (by decide) (by decide) (by decide) (fun h => absurd h (by decide)) (fun _ => ?_)
  refine Z_aload_n d_mo_emptyShelves_7 rfl ?_
  refine Z_get (v := .ref 154) d_mo_emptyShelves_8 lf_mo_105 hF.1 rfl ?_
  refine Z_iload_n d_mo_emptyShelves_11 rfl ?_
  refine Zn_iconst (-1) d_mo_emptyShelves_12 (by decide) ?_
  refine Zn_iast d_mo_emptyShelves_13 hF.a30 (by omega) (by omega) ?_
  replace hF := hF.p30 1 0
  refine Zn_iinc [some (.ref 123), some (.int (nI 2))] (nI 2) d_mo_emptyShelves_14 rfl (by decide) (nI_add 1 1) rfl ?_
  refine Z_goto (tgt := 2) d_mo_emptyShelves_17 (by decide) ?_
  refine Z_iload_n d_mo_emptyShelves_2 rfl ?_
  refine Zn_iconst (nI 3) d_mo_emptyShelves_3 (by decide) ?_
  refine Zn_icmp_ge (a := 2) (b := 3) (tgt := 20) d_mo_emptyShelves_4 (by decide) (by decide) (by decide) (fun h => absurd h (by decide)) (fun _ => ?_)
  refine Z_aload_n d_mo_emptyShelves_7 rfl ?_
  refine Z_get (v := .ref 154) d_mo_emptyShelves_8 lf_mo_105 hF.1 rfl ?_
  refine Z_iload_n d_mo_emptyShelves_11 rfl ?_
  refine Zn_iconst (-1) d_mo_emptyShelves_12 (by decide) ?_
  refine Zn_iast d_mo_emptyShelves_13 hF.a30 (by omega) (by omega) ?_
  replace hF := hF.p30 2 0
  refine Zn_iinc [some (.ref 123), some (.int (nI 3))] (nI 3) d_mo_emptyShelves_14 rfl (by decide) (nI_add 2 1) rfl ?_
  refine Z_goto (tgt := 2) d_mo_emptyShelves_17 (by decide) ?_
  refine Z_iload_n d_mo_emptyShelves_2 rfl ?_
  refine Zn_iconst (nI 3) d_mo_emptyShelves_3 (by decide) ?_
  refine Zn_icmp_ge (a := 3) (b := 3) (tgt := 20) d_mo_emptyShelves_4 (by decide) (by decide) (by decide) (fun _ => ?_) (fun h => absurd h (by decide))
  refine Z_vret d_mo_emptyShelves_20 rfl ?_
  exact ⟨rfl, hF⟩
set_option maxHeartbeats 4000000 in
theorem mo_clear_ok {Γ : zCtx} {M : List zE} (d : Nat) {M0 : List zE} {s : Nat → Nat} {G : Nat → Nat → Nat} (hF : FW M0 M s G)  : ZM Γ (d + 2) m_mo_clear [.ref 123] M (fun M1 v => v = some (.int (nI (s 0))) ∧ FW M0 M1 (nup (nup s 0 0) 1 0) (gup (gup (gup G 30 0 0) 30 1 0) 30 2 0)) := by
  refine ZM.of mk_mo_clear (Nat.le_of_ble_eq_true rfl) ?_
  rw [show zEn [.ref 123] = [some (.ref 123)] from rfl]
  refine zPad 1 ?_
  show Z _ _ _ _ _ _ _ [some (.ref 123), none] _ _
  refine Z_aload_n d_mo_clear_0 rfl ?_
  refine Z_get (v := .int (nI (s 0))) d_mo_clear_1 lf_mo_154 hF.1 rfl ?_
  refine Zn_istore_n [some (.ref 123), some (.int (nI (s 0)))] d_mo_clear_4 (by decide) rfl ?_
  refine Z_aload_n d_mo_clear_5 rfl ?_
  refine Zn_iconst (nI 0) d_mo_clear_6 (by decide) ?_
  refine Z_puti d_mo_clear_7 lf_mo_154 hF.1 rfl rfl (Nat.le_of_ble_eq_true rfl) ?_
  replace hF := hF.u0 0
  refine Z_aload_n d_mo_clear_10 rfl ?_
  refine Zn_iconst (nI 0) d_mo_clear_11 (by decide) ?_
  refine Z_puti d_mo_clear_12 lf_mo_209 hF.1 rfl rfl (Nat.le_of_ble_eq_true rfl) ?_
  replace hF := hF.u1 0
  refine Z_aload_n d_mo_clear_15 rfl ?_
  refine zV (As := []) (by omega) d_mo_clear_16 lm_mo_212 hF.1 rfl rfl (Nat.le_of_ble_eq_true rfl) (mo_emptyShelves_ok d hF) (fun M1 v hq hlen => ?_)
  obtain ⟨rfl, hF⟩ := hq
  refine Z_iload_n d_mo_clear_19 rfl ?_
  refine Z_iret d_mo_clear_20 rfl ?_
  exact ⟨rfl, hF⟩
