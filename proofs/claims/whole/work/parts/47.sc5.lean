/-! snapshots, versions -/
def dOk (x : Int32) : Bool := decide (¬ x < -1 ∧ x ≤ 9999)
/-- the version of a day -/
def vOf (n : Nat) (e : Nat → zEnt) (m : Nat) (dy sz kd pt gl : Nat → Nat) (tx : Nat → Int32) (x : Int32) (S1 : vSt) : Prop := vInv S1.1 S1.2.1 ∧ S1.2.2.1 ≤ 120 ∧ ∃ S0, vLs sz kd pt gl tx (aplL dy m x 8 (nxA dy none m)) (vBeg S0 n e) S1
/-- what the reading of a version leaves -/
def vQ (b : Nat) (M : List zE) (n : Nat) (e : Nat → zEnt) (m : Nat) (dy sz kd pt gl : Nat → Nat) (tx : Nat → Int32) (x : Int32) (err : Value) (ans : vSt → Value) : List zE → Option Value → Prop := fun M1 v => (dOk x = false ∧ M1 = M ∧ v = some err) ∨ (dOk x = true ∧ ∃ S1, VeS M1 b S1 ∧ zFr M M1 b 10 ∧ vOf n e m dy sz kd pt gl tx x S1 ∧ v = some (ans S1))
def cOk (n : Nat) (e : Nat → zEnt) (m : Nat) (dy sz kd pt gl : Nat → Nat) : Prop := m ≤ 8 ∧ (∀ i, i < m → dy i ≤ 9999) ∧ (∀ i, i < m → sz i ≤ 15) ∧ (∀ a, a < m → ∀ i, i < sz a → insOk kd pt gl (a * 15 + i)) ∧ vInv n e
theorem ver_cmp {Γ : zCtx} {M : List zE} (d : Nat) {b n m : Nat} {S : vSt} {e : Nat → zEnt} {rc : Nat → Nat} {tg : Nat → Nat → Nat} {dy sz kd pt gl : Nat → Nat} {tx : Nat → Int32} (hV : VeS M b S) (hS : StAt M 1 n e rc tg m dy sz kd pt gl tx) (hn : n ≤ 30) (hb : b = 103 ∨ b = 113) (hc : cOk n e m dy sz kd pt gl) (x : Int32) : ZM Γ (d + 6) m_ver_compute [.ref b, .ref 1, .int x] M (vQ b M n e m dy sz kd pt gl tx x (.int (nI 0)) (fun _ => .int (nI 1))) := by
  obtain ⟨c1, c2, c3, c4, c5⟩ := hc
  by_cases h : ¬ x < -1 ∧ x ≤ 9999
  · exact (ver_compute_ok d hV (by omega) hS hn (by omega) (by omega) c1 c2 c3 c4 vPres_all c5 h.1 h.2).weaken (fun M1 v ⟨h1, S1, g1, g2, g3, g4, g5⟩ => Or.inr ⟨decide_eq_true h, S1, g1, g2, ⟨g3, g4, S, g5⟩, h1⟩)
  · exact (ver_compute_no d (fun z1 z2 => h ⟨z1, z2⟩)).weaken (fun M1 v ⟨h1, h2⟩ => Or.inl ⟨decide_eq_false h, h1, h2⟩)
set_option maxHeartbeats 4000000 in
theorem sc_provisionCount_ok {Γ : zCtx} {M : List zE} (d : Nat) {sv : Bool} (h0 : ScO M sv) {n m : Nat} {e : Nat → zEnt} {rc : Nat → Nat} {tg : Nat → Nat → Nat} {dy sz kd pt gl : Nat → Nat} {tx : Nat → Int32} (hS : StAt M 1 n e rc tg m dy sz kd pt gl tx) (hn : n ≤ 30) (hc : cOk n e m dy sz kd pt gl) {S0 : vSt} (hV : VeS M 103 S0) (x : Int32) : ZM Γ (d + 7) m_sc_provisionCount [.ref 0, .int x] M (vQ 103 M n e m dy sz kd pt gl tx x (.int (-4)) (fun S => .int (nI S.1))) := by
  refine ZM.of mk_sc_provisionCount (Nat.le_of_ble_eq_true rfl) ?_
  refine Z_aload_n d_sc_provisionCount_0 rfl ?_
  refine Z_get d_sc_provisionCount_1 lf_sc_40 h0 rfl ?_
  refine Z_aload_n d_sc_provisionCount_4 rfl ?_
  refine Z_get d_sc_provisionCount_5 lf_sc_12 h0 rfl ?_
  refine Z_iload_n d_sc_provisionCount_8 rfl ?_
  refine zV (As := [.ref 1, .int x]) (by omega) d_sc_provisionCount_9 lm_sc_138 hV.1 rfl rfl (Nat.le_of_ble_eq_true rfl) (ver_cmp (d + 0) hV hS hn (by omega) hc x) (fun M1 v hq hlen => ?_)
  rcases hq with ⟨hdf, hM, rfl⟩ | ⟨hdt, S, hV1, hF, hvo, rfl⟩
  · skip
    subst hM
    refine Zn_if_ne (a := 0) (tgt := 18) d_sc_provisionCount_12 (by decide) (by decide) (fun h => absurd h (by decide)) (fun _ => ?_)
    refine Zn_bipush (-4) d_sc_provisionCount_15 (by decide) ?_
    refine Z_iret d_sc_provisionCount_17 rfl ?_
    exact Or.inl ⟨hdf, rfl, rfl⟩
  · skip
    have h0 := h0.fr hF (by omega)
    have hS := hS.fr hF (by omega)
    have hV := hV1
    have hn6 := hvo.1.1
    refine Zn_if_ne (a := 1) (tgt := 18) d_sc_provisionCount_12 (by decide) (by decide) (fun _ => ?_) (fun h => absurd h (by decide))
    refine Z_aload_n d_sc_provisionCount_18 rfl ?_
    refine Z_get d_sc_provisionCount_19 lf_sc_40 h0 rfl ?_
    refine Z_get d_sc_provisionCount_22 lf_sc_142 hV.1 rfl ?_
    refine Z_get d_sc_provisionCount_25 lf_sc_68 hV.2.1.1 rfl ?_
    refine Z_iret d_sc_provisionCount_28 rfl ?_
    exact Or.inr ⟨hdt, S, hV1, hF, hvo, rfl⟩
set_option maxHeartbeats 4000000 in
theorem sc_conflictCount_ok {Γ : zCtx} {M : List zE} (d : Nat) {sv : Bool} (h0 : ScO M sv) {n m : Nat} {e : Nat → zEnt} {rc : Nat → Nat} {tg : Nat → Nat → Nat} {dy sz kd pt gl : Nat → Nat} {tx : Nat → Int32} (hS : StAt M 1 n e rc tg m dy sz kd pt gl tx) (hn : n ≤ 30) (hc : cOk n e m dy sz kd pt gl) {S0 : vSt} (hV : VeS M 103 S0) (x : Int32) : ZM Γ (d + 7) m_sc_conflictCount [.ref 0, .int x] M (vQ 103 M n e m dy sz kd pt gl tx x (.int (-4)) (fun S => .int (nI S.2.2.1))) := by
  refine ZM.of mk_sc_conflictCount (Nat.le_of_ble_eq_true rfl) ?_
  refine Z_aload_n d_sc_conflictCount_0 rfl ?_
  refine Z_get d_sc_conflictCount_1 lf_sc_40 h0 rfl ?_
  refine Z_aload_n d_sc_conflictCount_4 rfl ?_
  refine Z_get d_sc_conflictCount_5 lf_sc_12 h0 rfl ?_
  refine Z_iload_n d_sc_conflictCount_8 rfl ?_
  refine zV (As := [.ref 1, .int x]) (by omega) d_sc_conflictCount_9 lm_sc_138 hV.1 rfl rfl (Nat.le_of_ble_eq_true rfl) (ver_cmp (d + 0) hV hS hn (by omega) hc x) (fun M1 v hq hlen => ?_)
  rcases hq with ⟨hdf, hM, rfl⟩ | ⟨hdt, S, hV1, hF, hvo, rfl⟩
  · skip
    subst hM
    refine Zn_if_ne (a := 0) (tgt := 18) d_sc_conflictCount_12 (by decide) (by decide) (fun h => absurd h (by decide)) (fun _ => ?_)
    refine Zn_bipush (-4) d_sc_conflictCount_15 (by decide) ?_
    refine Z_iret d_sc_conflictCount_17 rfl ?_
    exact Or.inl ⟨hdf, rfl, rfl⟩
  · skip
    have h0 := h0.fr hF (by omega)
    have hS := hS.fr hF (by omega)
    have hV := hV1
    have hn6 := hvo.1.1
    refine Zn_if_ne (a := 1) (tgt := 18) d_sc_conflictCount_12 (by decide) (by decide) (fun _ => ?_) (fun h => absurd h (by decide))
    refine Z_aload_n d_sc_conflictCount_18 rfl ?_
    refine Z_get d_sc_conflictCount_19 lf_sc_40 h0 rfl ?_
    refine Z_get d_sc_conflictCount_22 lf_sc_192 hV.1 rfl ?_
    refine Z_iret d_sc_conflictCount_25 rfl ?_
    exact Or.inr ⟨hdt, S, hV1, hF, hvo, rfl⟩
set_option maxHeartbeats 4000000 in
theorem ver_hasConfX {Γ : zCtx} {M : List zE} (d : Nat) {b : Nat} {S : vSt} (hV : VeS M b S) (hq : S.2.2.1 ≤ 120) (x : Int32) : ZM Γ (d + 1) m_ver_hasConflict [.ref b, .int x] M (zEq M (some (.int (nI (if hasP S.2.2.1 x = true then 1 else 0))))) := by
  refine ZM.of mk_ver_hasConflict (Nat.le_of_ble_eq_true rfl) ?_
  refine Z_iload_n d_ver_hasConflict_0 rfl ?_
  refine Z_if_lt (tgt := 16) d_ver_hasConflict_1 (by decide) (fun h1 => ?_) (fun h1 => ?_)
  · skip
    refine Zn_iconst (nI 0) d_ver_hasConflict_16 (by decide) ?_
    refine Z_zret d_ver_hasConflict_17 rfl rfl ?_
    refine ⟨rfl, ?_⟩
    unfold hasP
    first | (rw [if_pos (decide_eq_true ⟨h1, (lt_nI h1 (by omega)).mp (Int32.not_le.mp h9)⟩)]; done) | (rw [if_neg (fun z => (of_decide_eq_true z).1 h1)]; done) | (rw [if_neg (fun z => absurd ((lt_nI h1 (by omega)).mpr (of_decide_eq_true z).2) (Int32.not_lt.mpr h9))]; done)
  · skip
    refine Z_iload_n d_ver_hasConflict_4 rfl ?_
    refine Z_aload_n d_ver_hasConflict_5 rfl ?_
    refine Z_get d_ver_hasConflict_6 lf_ver_58 hV.1 rfl ?_
    refine Z_icmp_ge (tgt := 16) d_ver_hasConflict_9 (by decide) (fun h9 => ?_) (fun h9 => ?_)
    · skip
      refine Zn_iconst (nI 0) d_ver_hasConflict_16 (by decide) ?_
      refine Z_zret d_ver_hasConflict_17 rfl rfl ?_
      refine ⟨rfl, ?_⟩
      unfold hasP
      first | (rw [if_pos (decide_eq_true ⟨h1, (lt_nI h1 (by omega)).mp (Int32.not_le.mp h9)⟩)]; done) | (rw [if_neg (fun z => (of_decide_eq_true z).1 h1)]; done) | (rw [if_neg (fun z => absurd ((lt_nI h1 (by omega)).mpr (of_decide_eq_true z).2) (Int32.not_lt.mpr h9))]; done)
    · skip
      refine Zn_iconst (nI 1) d_ver_hasConflict_12 (by decide) ?_
      refine Z_goto (tgt := 17) d_ver_hasConflict_13 (by decide) ?_
      refine Z_zret d_ver_hasConflict_17 rfl rfl ?_
      refine ⟨rfl, ?_⟩
      unfold hasP
      first | (rw [if_pos (decide_eq_true ⟨h1, (lt_nI h1 (by omega)).mp (Int32.not_le.mp h9)⟩)]; done) | (rw [if_neg (fun z => (of_decide_eq_true z).1 h1)]; done) | (rw [if_neg (fun z => absurd ((lt_nI h1 (by omega)).mpr (of_decide_eq_true z).2) (Int32.not_lt.mpr h9))]; done)
set_option maxHeartbeats 4000000 in
theorem sc_conflictAmendment_ok {Γ : zCtx} {M : List zE} (d : Nat) {sv : Bool} (h0 : ScO M sv) {n m : Nat} {e : Nat → zEnt} {rc : Nat → Nat} {tg : Nat → Nat → Nat} {dy sz kd pt gl : Nat → Nat} {tx : Nat → Int32} (hS : StAt M 1 n e rc tg m dy sz kd pt gl tx) (hn : n ≤ 30) (hc : cOk n e m dy sz kd pt gl) {S0 : vSt} (hV : VeS M 103 S0) (x y : Int32) : ZM Γ (d + 7) m_sc_conflictAmendment [.ref 0, .int x, .int y] M (vQ 103 M n e m dy sz kd pt gl tx x (.int (-4)) (fun S => .int (if hasP S.2.2.1 y = true then nI (S.2.2.2.1 y.toNatClampNeg) else -9))) := by
  refine ZM.of mk_sc_conflictAmendment (Nat.le_of_ble_eq_true rfl) ?_
  refine Z_aload_n d_sc_conflictAmendment_0 rfl ?_
  refine Z_get d_sc_conflictAmendment_1 lf_sc_40 h0 rfl ?_
  refine Z_aload_n d_sc_conflictAmendment_4 rfl ?_
  refine Z_get d_sc_conflictAmendment_5 lf_sc_12 h0 rfl ?_
  refine Z_iload_n d_sc_conflictAmendment_8 rfl ?_
  refine zV (As := [.ref 1, .int x]) (by omega) d_sc_conflictAmendment_9 lm_sc_138 hV.1 rfl rfl (Nat.le_of_ble_eq_true rfl) (ver_cmp (d + 0) hV hS hn (by omega) hc x) (fun M1 v hq hlen => ?_)
  rcases hq with ⟨hdf, hM, rfl⟩ | ⟨hdt, S, hV1, hF, hvo, rfl⟩
  · skip
    subst hM
    refine Zn_if_ne (a := 0) (tgt := 18) d_sc_conflictAmendment_12 (by decide) (by decide) (fun h => absurd h (by decide)) (fun _ => ?_)
    refine Zn_bipush (-4) d_sc_conflictAmendment_15 (by decide) ?_
    refine Z_iret d_sc_conflictAmendment_17 rfl ?_
    exact Or.inl ⟨hdf, rfl, rfl⟩
  · skip
    have h0 := h0.fr hF (by omega)
    have hS := hS.fr hF (by omega)
    have hV := hV1
    have hn6 := hvo.1.1
    refine Zn_if_ne (a := 1) (tgt := 18) d_sc_conflictAmendment_12 (by decide) (by decide) (fun _ => ?_) (fun h => absurd h (by decide))
    refine Z_aload_n d_sc_conflictAmendment_18 rfl ?_
    refine Z_get d_sc_conflictAmendment_19 lf_sc_40 h0 rfl ?_
    refine Z_iload_n d_sc_conflictAmendment_22 rfl ?_
    refine zVe (As := [.int y]) (by omega) d_sc_conflictAmendment_23 lm_sc_195 hV.1 rfl rfl (Nat.le_of_ble_eq_true rfl) (ver_hasConfX (d + 5) hV hvo.2.1 y) ?_
    have hle23 := b10_lt (x := hasP S.2.2.1 y)
    refine Zn_if_eq (tgt := 41) d_sc_conflictAmendment_26 (by decide) (by omega) (fun h26 => ?_) (fun h26 => ?_)
    · skip
      have t26 : hasP S.2.2.1 y = false := b10_f h26
      refine Zn_bipush (-9) d_sc_conflictAmendment_41 (by decide) ?_
      refine Z_iret d_sc_conflictAmendment_43 rfl ?_
      refine Or.inr ⟨hdt, S, hV1, hF, hvo, ?_⟩
      dsimp only
      rw [if_neg (fun z => absurd (t26.symm.trans z) (by decide))]
    · skip
      have t26 : hasP S.2.2.1 y = true := b10_t h26
      obtain ⟨k, hk, hk9, rfl⟩ := hasP_t t26
      refine Z_aload_n d_sc_conflictAmendment_29 rfl ?_
      refine Z_get d_sc_conflictAmendment_30 lf_sc_40 h0 rfl ?_
      refine Z_get d_sc_conflictAmendment_33 lf_sc_198 hV.1 rfl ?_
      refine Z_iload_n d_sc_conflictAmendment_36 rfl ?_
      have hq9 := hvo.2.1
      refine Zn_iald d_sc_conflictAmendment_37 hV.2.2.1 (by omega) (by omega) ?_
      refine Z_goto (tgt := 43) d_sc_conflictAmendment_38 (by decide) ?_
      refine Z_iret d_sc_conflictAmendment_43 rfl ?_
      refine Or.inr ⟨hdt, S, hV1, hF, hvo, ?_⟩
      dsimp only
      rw [zn_cl hk9, if_pos t26]
set_option maxHeartbeats 4000000 in
theorem sc_conflictInstruction_ok {Γ : zCtx} {M : List zE} (d : Nat) {sv : Bool} (h0 : ScO M sv) {n m : Nat} {e : Nat → zEnt} {rc : Nat → Nat} {tg : Nat → Nat → Nat} {dy sz kd pt gl : Nat → Nat} {tx : Nat → Int32} (hS : StAt M 1 n e rc tg m dy sz kd pt gl tx) (hn : n ≤ 30) (hc : cOk n e m dy sz kd pt gl) {S0 : vSt} (hV : VeS M 103 S0) (x y : Int32) : ZM Γ (d + 7) m_sc_conflictInstruction [.ref 0, .int x, .int y] M (vQ 103 M n e m dy sz kd pt gl tx x (.int (-4)) (fun S => .int (if hasP S.2.2.1 y = true then nI (S.2.2.2.2.1 y.toNatClampNeg) else -9))) := by
  refine ZM.of mk_sc_conflictInstruction (Nat.le_of_ble_eq_true rfl) ?_
  refine Z_aload_n d_sc_conflictInstruction_0 rfl ?_
  refine Z_get d_sc_conflictInstruction_1 lf_sc_40 h0 rfl ?_
  refine Z_aload_n d_sc_conflictInstruction_4 rfl ?_
  refine Z_get d_sc_conflictInstruction_5 lf_sc_12 h0 rfl ?_
  refine Z_iload_n d_sc_conflictInstruction_8 rfl ?_
  refine zV (As := [.ref 1, .int x]) (by omega) d_sc_conflictInstruction_9 lm_sc_138 hV.1 rfl rfl (Nat.le_of_ble_eq_true rfl) (ver_cmp (d + 0) hV hS hn (by omega) hc x) (fun M1 v hq hlen => ?_)
  rcases hq with ⟨hdf, hM, rfl⟩ | ⟨hdt, S, hV1, hF, hvo, rfl⟩
  · skip
    subst hM
    refine Zn_if_ne (a := 0) (tgt := 18) d_sc_conflictInstruction_12 (by decide) (by decide) (fun h => absurd h (by decide)) (fun _ => ?_)
    refine Zn_bipush (-4) d_sc_conflictInstruction_15 (by decide) ?_
    refine Z_iret d_sc_conflictInstruction_17 rfl ?_
    exact Or.inl ⟨hdf, rfl, rfl⟩
  · skip
    have h0 := h0.fr hF (by omega)
    have hS := hS.fr hF (by omega)
    have hV := hV1
    have hn6 := hvo.1.1
    refine Zn_if_ne (a := 1) (tgt := 18) d_sc_conflictInstruction_12 (by decide) (by decide) (fun _ => ?_) (fun h => absurd h (by decide))
    refine Z_aload_n d_sc_conflictInstruction_18 rfl ?_
    refine Z_get d_sc_conflictInstruction_19 lf_sc_40 h0 rfl ?_
    refine Z_iload_n d_sc_conflictInstruction_22 rfl ?_
    refine zVe (As := [.int y]) (by omega) d_sc_conflictInstruction_23 lm_sc_195 hV.1 rfl rfl (Nat.le_of_ble_eq_true rfl) (ver_hasConfX (d + 5) hV hvo.2.1 y) ?_
    have hle23 := b10_lt (x := hasP S.2.2.1 y)
    refine Zn_if_eq (tgt := 41) d_sc_conflictInstruction_26 (by decide) (by omega) (fun h26 => ?_) (fun h26 => ?_)
    · skip
      have t26 : hasP S.2.2.1 y = false := b10_f h26
      refine Zn_bipush (-9) d_sc_conflictInstruction_41 (by decide) ?_
      refine Z_iret d_sc_conflictInstruction_43 rfl ?_
      refine Or.inr ⟨hdt, S, hV1, hF, hvo, ?_⟩
      dsimp only
      rw [if_neg (fun z => absurd (t26.symm.trans z) (by decide))]
    · skip
      have t26 : hasP S.2.2.1 y = true := b10_t h26
      obtain ⟨k, hk, hk9, rfl⟩ := hasP_t t26
      refine Z_aload_n d_sc_conflictInstruction_29 rfl ?_
      refine Z_get d_sc_conflictInstruction_30 lf_sc_40 h0 rfl ?_
      refine Z_get d_sc_conflictInstruction_33 lf_sc_201 hV.1 rfl ?_
      refine Z_iload_n d_sc_conflictInstruction_36 rfl ?_
      have hq9 := hvo.2.1
      refine Zn_iald d_sc_conflictInstruction_37 hV.2.2.2.1 (by omega) (by omega) ?_
      refine Z_goto (tgt := 43) d_sc_conflictInstruction_38 (by decide) ?_
      refine Z_iret d_sc_conflictInstruction_43 rfl ?_
      refine Or.inr ⟨hdt, S, hV1, hF, hvo, ?_⟩
      dsimp only
      rw [zn_cl hk9, if_pos t26]
set_option maxHeartbeats 4000000 in
theorem sc_conflictReason_ok {Γ : zCtx} {M : List zE} (d : Nat) {sv : Bool} (h0 : ScO M sv) {n m : Nat} {e : Nat → zEnt} {rc : Nat → Nat} {tg : Nat → Nat → Nat} {dy sz kd pt gl : Nat → Nat} {tx : Nat → Int32} (hS : StAt M 1 n e rc tg m dy sz kd pt gl tx) (hn : n ≤ 30) (hc : cOk n e m dy sz kd pt gl) {S0 : vSt} (hV : VeS M 103 S0) (x y : Int32) : ZM Γ (d + 7) m_sc_conflictReason [.ref 0, .int x, .int y] M (vQ 103 M n e m dy sz kd pt gl tx x (.int (-4)) (fun S => .int (if hasP S.2.2.1 y = true then nI (S.2.2.2.2.2 y.toNatClampNeg) else -9))) := by
  refine ZM.of mk_sc_conflictReason (Nat.le_of_ble_eq_true rfl) ?_
  refine Z_aload_n d_sc_conflictReason_0 rfl ?_
  refine Z_get d_sc_conflictReason_1 lf_sc_40 h0 rfl ?_
  refine Z_aload_n d_sc_conflictReason_4 rfl ?_
  refine Z_get d_sc_conflictReason_5 lf_sc_12 h0 rfl ?_
  refine Z_iload_n d_sc_conflictReason_8 rfl ?_
  refine zV (As := [.ref 1, .int x]) (by omega) d_sc_conflictReason_9 lm_sc_138 hV.1 rfl rfl (Nat.le_of_ble_eq_true rfl) (ver_cmp (d + 0) hV hS hn (by omega) hc x) (fun M1 v hq hlen => ?_)
  rcases hq with ⟨hdf, hM, rfl⟩ | ⟨hdt, S, hV1, hF, hvo, rfl⟩
  · skip
    subst hM
    refine Zn_if_ne (a := 0) (tgt := 18) d_sc_conflictReason_12 (by decide) (by decide) (fun h => absurd h (by decide)) (fun _ => ?_)
    refine Zn_bipush (-4) d_sc_conflictReason_15 (by decide) ?_
    refine Z_iret d_sc_conflictReason_17 rfl ?_
    exact Or.inl ⟨hdf, rfl, rfl⟩
  · skip
    have h0 := h0.fr hF (by omega)
    have hS := hS.fr hF (by omega)
    have hV := hV1
    have hn6 := hvo.1.1
    refine Zn_if_ne (a := 1) (tgt := 18) d_sc_conflictReason_12 (by decide) (by decide) (fun _ => ?_) (fun h => absurd h (by decide))
    refine Z_aload_n d_sc_conflictReason_18 rfl ?_
    refine Z_get d_sc_conflictReason_19 lf_sc_40 h0 rfl ?_
    refine Z_iload_n d_sc_conflictReason_22 rfl ?_
    refine zVe (As := [.int y]) (by omega) d_sc_conflictReason_23 lm_sc_195 hV.1 rfl rfl (Nat.le_of_ble_eq_true rfl) (ver_hasConfX (d + 5) hV hvo.2.1 y) ?_
    have hle23 := b10_lt (x := hasP S.2.2.1 y)
    refine Zn_if_eq (tgt := 41) d_sc_conflictReason_26 (by decide) (by omega) (fun h26 => ?_) (fun h26 => ?_)
    · skip
      have t26 : hasP S.2.2.1 y = false := b10_f h26
      refine Zn_bipush (-9) d_sc_conflictReason_41 (by decide) ?_
      refine Z_iret d_sc_conflictReason_43 rfl ?_
      refine Or.inr ⟨hdt, S, hV1, hF, hvo, ?_⟩
      dsimp only
      rw [if_neg (fun z => absurd (t26.symm.trans z) (by decide))]
    · skip
      have t26 : hasP S.2.2.1 y = true := b10_t h26
      obtain ⟨k, hk, hk9, rfl⟩ := hasP_t t26
      refine Z_aload_n d_sc_conflictReason_29 rfl ?_
      refine Z_get d_sc_conflictReason_30 lf_sc_40 h0 rfl ?_
      refine Z_get d_sc_conflictReason_33 lf_sc_204 hV.1 rfl ?_
      refine Z_iload_n d_sc_conflictReason_36 rfl ?_
      have hq9 := hvo.2.1
      refine Zn_iald d_sc_conflictReason_37 hV.2.2.2.2 (by omega) (by omega) ?_
      refine Z_goto (tgt := 43) d_sc_conflictReason_38 (by decide) ?_
      refine Z_iret d_sc_conflictReason_43 rfl ?_
      refine Or.inr ⟨hdt, S, hV1, hF, hvo, ?_⟩
      dsimp only
      rw [zn_cl hk9, if_pos t26]
set_option maxHeartbeats 4000000 in
theorem sc_refusalAt_ok {Γ : zCtx} {M : List zE} (d : Nat) {sv : Bool} (h0 : ScO M sv) {n m : Nat} {e : Nat → zEnt} {rc : Nat → Nat} {tg : Nat → Nat → Nat} {dy sz kd pt gl : Nat → Nat} {tx : Nat → Int32} (hS : StAt M 1 n e rc tg m dy sz kd pt gl tx) (hn : n ≤ 30) (hc : cOk n e m dy sz kd pt gl) {S0 : vSt} (hV : VeS M 103 S0) (x y : Int32) : ZM Γ (d + 7) m_sc_refusalAt [.ref 0, .int x, .int y] M (vQ 103 M n e m dy sz kd pt gl tx x (.int (-4)) (fun S => .int (if hasP S.1 y = true then nI 0 else -2))) := by
  refine ZM.of mk_sc_refusalAt (Nat.le_of_ble_eq_true rfl) ?_
  refine Z_aload_n d_sc_refusalAt_0 rfl ?_
  refine Z_get d_sc_refusalAt_1 lf_sc_40 h0 rfl ?_
  refine Z_aload_n d_sc_refusalAt_4 rfl ?_
  refine Z_get d_sc_refusalAt_5 lf_sc_12 h0 rfl ?_
  refine Z_iload_n d_sc_refusalAt_8 rfl ?_
  refine zV (As := [.ref 1, .int x]) (by omega) d_sc_refusalAt_9 lm_sc_138 hV.1 rfl rfl (Nat.le_of_ble_eq_true rfl) (ver_cmp (d + 0) hV hS hn (by omega) hc x) (fun M1 v hq hlen => ?_)
  rcases hq with ⟨hdf, hM, rfl⟩ | ⟨hdt, S, hV1, hF, hvo, rfl⟩
  · skip
    subst hM
    refine Zn_if_ne (a := 0) (tgt := 18) d_sc_refusalAt_12 (by decide) (by decide) (fun h => absurd h (by decide)) (fun _ => ?_)
    refine Zn_bipush (-4) d_sc_refusalAt_15 (by decide) ?_
    refine Z_iret d_sc_refusalAt_17 rfl ?_
    exact Or.inl ⟨hdf, rfl, rfl⟩
  · skip
    have h0 := h0.fr hF (by omega)
    have hS := hS.fr hF (by omega)
    have hV := hV1
    have hn6 := hvo.1.1
    refine Zn_if_ne (a := 1) (tgt := 18) d_sc_refusalAt_12 (by decide) (by decide) (fun _ => ?_) (fun h => absurd h (by decide))
    refine Z_aload_n d_sc_refusalAt_18 rfl ?_
    refine Z_get d_sc_refusalAt_19 lf_sc_40 h0 rfl ?_
    refine Z_get d_sc_refusalAt_22 lf_sc_142 hV.1 rfl ?_
    refine Z_iload_n d_sc_refusalAt_25 rfl ?_
    refine zVe (As := [.int y]) (by omega) d_sc_refusalAt_26 lm_sc_258 hV.2.1.1 rfl rfl (Nat.le_of_ble_eq_true rfl) (pv_hasX (d + 5) hV.2.1 hn6 y) ?_
    have hle26 := b10_lt (x := hasP S.1 y)
    refine Zn_if_eq (tgt := 36) d_sc_refusalAt_29 (by decide) (by omega) (fun h29 => ?_) (fun h29 => ?_)
    · skip
      have t29 : hasP S.1 y = false := b10_f h29
      refine Zn_bipush (-2) d_sc_refusalAt_36 (by decide) ?_
      refine Z_iret d_sc_refusalAt_38 rfl ?_
      refine Or.inr ⟨hdt, S, hV1, hF, hvo, ?_⟩
      dsimp only
      rw [if_neg (fun z => absurd (t29.symm.trans z) (by decide))]
    · skip
      have t29 : hasP S.1 y = true := b10_t h29
      refine Zn_iconst (nI 0) d_sc_refusalAt_32 (by decide) ?_
      refine Z_goto (tgt := 38) d_sc_refusalAt_33 (by decide) ?_
      refine Z_iret d_sc_refusalAt_38 rfl ?_
      refine Or.inr ⟨hdt, S, hV1, hF, hvo, ?_⟩
      dsimp only
      rw [if_pos t29]
set_option maxHeartbeats 4000000 in
theorem sc_levelAt_ok {Γ : zCtx} {M : List zE} (d : Nat) {sv : Bool} (h0 : ScO M sv) {n m : Nat} {e : Nat → zEnt} {rc : Nat → Nat} {tg : Nat → Nat → Nat} {dy sz kd pt gl : Nat → Nat} {tx : Nat → Int32} (hS : StAt M 1 n e rc tg m dy sz kd pt gl tx) (hn : n ≤ 30) (hc : cOk n e m dy sz kd pt gl) {S0 : vSt} (hV : VeS M 103 S0) (x y : Int32) : ZM Γ (d + 8) m_sc_levelAt [.ref 0, .int x, .int y] M (vQ 103 M n e m dy sz kd pt gl tx x (.int (-4)) (fun S => .int (if hasP S.1 y = true then nI (lev (ek (S.2.1 y.toNatClampNeg))) else -2))) := by
  refine ZM.of mk_sc_levelAt (Nat.le_of_ble_eq_true rfl) ?_
  rw [show zEn [.ref 0, .int x, .int y] = [some (.ref 0), some (.int x), some (.int y)] from rfl]
  refine zPad 1 ?_
  show Z _ _ _ _ _ _ _ [some (.ref 0), some (.int x), some (.int y), none] _ _
  refine Z_aload_n d_sc_levelAt_0 rfl ?_
  refine Z_iload_n d_sc_levelAt_1 rfl ?_
  refine Z_iload_n d_sc_levelAt_2 rfl ?_
  refine zV (As := [.int x, .int y]) (by omega) d_sc_levelAt_3 lm_sc_145 h0 rfl rfl (Nat.le_of_ble_eq_true rfl) (sc_refusalAt_ok (d + 0) h0 hS hn hc hV x y) (fun M1 v hq hlen => ?_)
  rcases hq with ⟨hdf, hM, rfl⟩ | ⟨hdt, S, hV1, hF, hvo, hv⟩
  · skip
    subst hM
    refine Zn_istore_n [some (.ref 0), some (.int x), some (.int y), some (.int (-4))] d_sc_levelAt_6 (by decide) rfl ?_
    refine Z_iload_n d_sc_levelAt_7 rfl ?_
    refine Z_if_eq (tgt := 15) d_sc_levelAt_8 (by decide) (fun h8 => ?_) (fun h8 => ?_)
    · skip
      exact absurd h8 (by decide) -- end
    · skip
      skip
      refine Z_iload_n d_sc_levelAt_11 rfl ?_
      refine Z_goto (tgt := 30) d_sc_levelAt_12 (by decide) ?_
      refine Z_iret d_sc_levelAt_30 rfl ?_
      exact Or.inl ⟨hdf, rfl, rfl⟩
  · skip
    have h0 := h0.fr hF (by omega)
    have hS := hS.fr hF (by omega)
    have hV := hV1
    have hn6 := hvo.1.1
    dsimp only at hv
    rcases hp : hasP S.1 y with _ | _
    · skip
      rw [if_neg (by rw [hp]; decide)] at hv
      subst hv
      refine Zn_istore_n [some (.ref 0), some (.int x), some (.int y), some (.int (-2))] d_sc_levelAt_6 (by decide) rfl ?_
      refine Z_iload_n d_sc_levelAt_7 rfl ?_
      refine Z_if_eq (tgt := 15) d_sc_levelAt_8 (by decide) (fun h8 => ?_) (fun h8 => ?_)
      · skip
        exact absurd h8 (by decide) -- end
      · skip
        skip
        refine Z_iload_n d_sc_levelAt_11 rfl ?_
        refine Z_goto (tgt := 30) d_sc_levelAt_12 (by decide) ?_
        refine Z_iret d_sc_levelAt_30 rfl ?_
        refine Or.inr ⟨hdt, S, hV1, hF, hvo, ?_⟩
        dsimp only
        rw [if_neg (by rw [hp]; decide)]
    · skip
      rw [if_pos hp] at hv
      subst hv
      obtain ⟨k, hk, hk9, rfl⟩ := hasP_t hp
      refine Zn_istore_n [some (.ref 0), some (.int x), some (.int (nI k)), some (.int (nI 0))] d_sc_levelAt_6 (by decide) rfl ?_
      refine Z_iload_n d_sc_levelAt_7 rfl ?_
      refine Zn_if_eq (a := 0) (tgt := 15) d_sc_levelAt_8 (by decide) (by decide) (fun _ => ?_) (fun h => absurd h (by decide))
      refine Z_aload_n d_sc_levelAt_15 rfl ?_
      refine Z_get d_sc_levelAt_16 lf_sc_40 h0 rfl ?_
      refine Z_get d_sc_levelAt_19 lf_sc_142 hV.1 rfl ?_
      refine Z_get d_sc_levelAt_22 lf_sc_149 hV.2.1.1 rfl ?_
      refine Z_iload_n d_sc_levelAt_25 rfl ?_
      refine Zn_lald d_sc_levelAt_26 hV.2.1.2.1 (by omega) (by omega) ?_
      have hkv := hvo.1.2 k hk
      refine zTe (As := [.long (lN (ek (S.2.1 k)))]) (by omega) d_sc_levelAt_27 lm_sc_60 rfl (Nat.le_of_ble_eq_true rfl) (pa_levelOf_ok (d + 6) hkv.1) ?_
      refine Z_iret d_sc_levelAt_30 rfl ?_
      refine Or.inr ⟨hdt, S, hV1, hF, hvo, ?_⟩
      dsimp only
      rw [if_pos hp, zn_cl hk9]
set_option maxHeartbeats 4000000 in
theorem sc_textAt_ok {Γ : zCtx} {M : List zE} (d : Nat) {sv : Bool} (h0 : ScO M sv) {n m : Nat} {e : Nat → zEnt} {rc : Nat → Nat} {tg : Nat → Nat → Nat} {dy sz kd pt gl : Nat → Nat} {tx : Nat → Int32} (hS : StAt M 1 n e rc tg m dy sz kd pt gl tx) (hn : n ≤ 30) (hc : cOk n e m dy sz kd pt gl) {S0 : vSt} (hV : VeS M 103 S0) (x y : Int32) : ZM Γ (d + 8) m_sc_textAt [.ref 0, .int x, .int y] M (vQ 103 M n e m dy sz kd pt gl tx x (.int (-4)) (fun S => .int (if hasP S.1 y = true then et (S.2.1 y.toNatClampNeg) else -2))) := by
  refine ZM.of mk_sc_textAt (Nat.le_of_ble_eq_true rfl) ?_
  rw [show zEn [.ref 0, .int x, .int y] = [some (.ref 0), some (.int x), some (.int y)] from rfl]
  refine zPad 1 ?_
  show Z _ _ _ _ _ _ _ [some (.ref 0), some (.int x), some (.int y), none] _ _
  refine Z_aload_n d_sc_textAt_0 rfl ?_
  refine Z_iload_n d_sc_textAt_1 rfl ?_
  refine Z_iload_n d_sc_textAt_2 rfl ?_
  refine zV (As := [.int x, .int y]) (by omega) d_sc_textAt_3 lm_sc_145 h0 rfl rfl (Nat.le_of_ble_eq_true rfl) (sc_refusalAt_ok (d + 0) h0 hS hn hc hV x y) (fun M1 v hq hlen => ?_)
  rcases hq with ⟨hdf, hM, rfl⟩ | ⟨hdt, S, hV1, hF, hvo, hv⟩
  · skip
    subst hM
    refine Zn_istore_n [some (.ref 0), some (.int x), some (.int y), some (.int (-4))] d_sc_textAt_6 (by decide) rfl ?_
    refine Z_iload_n d_sc_textAt_7 rfl ?_
    refine Z_if_eq (tgt := 15) d_sc_textAt_8 (by decide) (fun h8 => ?_) (fun h8 => ?_)
    · skip
      exact absurd h8 (by decide) -- end
    · skip
      skip
      refine Z_iload_n d_sc_textAt_11 rfl ?_
      refine Z_goto (tgt := 27) d_sc_textAt_12 (by decide) ?_
      refine Z_iret d_sc_textAt_27 rfl ?_
      exact Or.inl ⟨hdf, rfl, rfl⟩
  · skip
    have h0 := h0.fr hF (by omega)
    have hS := hS.fr hF (by omega)
    have hV := hV1
    have hn6 := hvo.1.1
    dsimp only at hv
    rcases hp : hasP S.1 y with _ | _
    · skip
      rw [if_neg (by rw [hp]; decide)] at hv
      subst hv
      refine Zn_istore_n [some (.ref 0), some (.int x), some (.int y), some (.int (-2))] d_sc_textAt_6 (by decide) rfl ?_
      refine Z_iload_n d_sc_textAt_7 rfl ?_
      refine Z_if_eq (tgt := 15) d_sc_textAt_8 (by decide) (fun h8 => ?_) (fun h8 => ?_)
      · skip
        exact absurd h8 (by decide) -- end
      · skip
        skip
        refine Z_iload_n d_sc_textAt_11 rfl ?_
        refine Z_goto (tgt := 27) d_sc_textAt_12 (by decide) ?_
        refine Z_iret d_sc_textAt_27 rfl ?_
        refine Or.inr ⟨hdt, S, hV1, hF, hvo, ?_⟩
        dsimp only
        rw [if_neg (by rw [hp]; decide)]
    · skip
      rw [if_pos hp] at hv
      subst hv
      obtain ⟨k, hk, hk9, rfl⟩ := hasP_t hp
      refine Zn_istore_n [some (.ref 0), some (.int x), some (.int (nI k)), some (.int (nI 0))] d_sc_textAt_6 (by decide) rfl ?_
      refine Z_iload_n d_sc_textAt_7 rfl ?_
      refine Zn_if_eq (a := 0) (tgt := 15) d_sc_textAt_8 (by decide) (by decide) (fun _ => ?_) (fun h => absurd h (by decide))
      refine Z_aload_n d_sc_textAt_15 rfl ?_
      refine Z_get d_sc_textAt_16 lf_sc_40 h0 rfl ?_
      refine Z_get d_sc_textAt_19 lf_sc_142 hV.1 rfl ?_
      refine Z_get d_sc_textAt_22 lf_sc_96 hV.2.1.1 rfl ?_
      refine Z_iload_n d_sc_textAt_25 rfl ?_
      refine Zn_iald d_sc_textAt_26 hV.2.1.2.2.1 (by omega) (by omega) ?_
      refine Z_iret d_sc_textAt_27 rfl ?_
      refine Or.inr ⟨hdt, S, hV1, hF, hvo, ?_⟩
      dsimp only
      rw [if_pos hp, zn_cl hk9]
set_option maxHeartbeats 4000000 in
theorem sc_originAt_ok {Γ : zCtx} {M : List zE} (d : Nat) {sv : Bool} (h0 : ScO M sv) {n m : Nat} {e : Nat → zEnt} {rc : Nat → Nat} {tg : Nat → Nat → Nat} {dy sz kd pt gl : Nat → Nat} {tx : Nat → Int32} (hS : StAt M 1 n e rc tg m dy sz kd pt gl tx) (hn : n ≤ 30) (hc : cOk n e m dy sz kd pt gl) {S0 : vSt} (hV : VeS M 103 S0) (x y : Int32) : ZM Γ (d + 8) m_sc_originAt [.ref 0, .int x, .int y] M (vQ 103 M n e m dy sz kd pt gl tx x (.int (-4)) (fun S => .int (if hasP S.1 y = true then eo (S.2.1 y.toNatClampNeg) else -2))) := by
  refine ZM.of mk_sc_originAt (Nat.le_of_ble_eq_true rfl) ?_
  rw [show zEn [.ref 0, .int x, .int y] = [some (.ref 0), some (.int x), some (.int y)] from rfl]
  refine zPad 1 ?_
  show Z _ _ _ _ _ _ _ [some (.ref 0), some (.int x), some (.int y), none] _ _
  refine Z_aload_n d_sc_originAt_0 rfl ?_
  refine Z_iload_n d_sc_originAt_1 rfl ?_
  refine Z_iload_n d_sc_originAt_2 rfl ?_
  refine zV (As := [.int x, .int y]) (by omega) d_sc_originAt_3 lm_sc_145 h0 rfl rfl (Nat.le_of_ble_eq_true rfl) (sc_refusalAt_ok (d + 0) h0 hS hn hc hV x y) (fun M1 v hq hlen => ?_)
  rcases hq with ⟨hdf, hM, rfl⟩ | ⟨hdt, S, hV1, hF, hvo, hv⟩
  · skip
    subst hM
    refine Zn_istore_n [some (.ref 0), some (.int x), some (.int y), some (.int (-4))] d_sc_originAt_6 (by decide) rfl ?_
    refine Z_iload_n d_sc_originAt_7 rfl ?_
    refine Z_if_eq (tgt := 15) d_sc_originAt_8 (by decide) (fun h8 => ?_) (fun h8 => ?_)
    · skip
      exact absurd h8 (by decide) -- end
    · skip
      skip
      refine Z_iload_n d_sc_originAt_11 rfl ?_
      refine Z_goto (tgt := 27) d_sc_originAt_12 (by decide) ?_
      refine Z_iret d_sc_originAt_27 rfl ?_
      exact Or.inl ⟨hdf, rfl, rfl⟩
  · skip
    have h0 := h0.fr hF (by omega)
    have hS := hS.fr hF (by omega)
    have hV := hV1
    have hn6 := hvo.1.1
    dsimp only at hv
    rcases hp : hasP S.1 y with _ | _
    · skip
      rw [if_neg (by rw [hp]; decide)] at hv
      subst hv
      refine Zn_istore_n [some (.ref 0), some (.int x), some (.int y), some (.int (-2))] d_sc_originAt_6 (by decide) rfl ?_
      refine Z_iload_n d_sc_originAt_7 rfl ?_
      refine Z_if_eq (tgt := 15) d_sc_originAt_8 (by decide) (fun h8 => ?_) (fun h8 => ?_)
      · skip
        exact absurd h8 (by decide) -- end
      · skip
        skip
        refine Z_iload_n d_sc_originAt_11 rfl ?_
        refine Z_goto (tgt := 27) d_sc_originAt_12 (by decide) ?_
        refine Z_iret d_sc_originAt_27 rfl ?_
        refine Or.inr ⟨hdt, S, hV1, hF, hvo, ?_⟩
        dsimp only
        rw [if_neg (by rw [hp]; decide)]
    · skip
      rw [if_pos hp] at hv
      subst hv
      obtain ⟨k, hk, hk9, rfl⟩ := hasP_t hp
      refine Zn_istore_n [some (.ref 0), some (.int x), some (.int (nI k)), some (.int (nI 0))] d_sc_originAt_6 (by decide) rfl ?_
      refine Z_iload_n d_sc_originAt_7 rfl ?_
      refine Zn_if_eq (a := 0) (tgt := 15) d_sc_originAt_8 (by decide) (by decide) (fun _ => ?_) (fun h => absurd h (by decide))
      refine Z_aload_n d_sc_originAt_15 rfl ?_
      refine Z_get d_sc_originAt_16 lf_sc_40 h0 rfl ?_
      refine Z_get d_sc_originAt_19 lf_sc_142 hV.1 rfl ?_
      refine Z_get d_sc_originAt_22 lf_sc_163 hV.2.1.1 rfl ?_
      refine Z_iload_n d_sc_originAt_25 rfl ?_
      refine Zn_iald d_sc_originAt_26 hV.2.1.2.2.2.2.1 (by omega) (by omega) ?_
      refine Z_iret d_sc_originAt_27 rfl ?_
      refine Or.inr ⟨hdt, S, hV1, hF, hvo, ?_⟩
      dsimp only
      rw [if_pos hp, zn_cl hk9]
set_option maxHeartbeats 4000000 in
theorem sc_creatorAt_ok {Γ : zCtx} {M : List zE} (d : Nat) {sv : Bool} (h0 : ScO M sv) {n m : Nat} {e : Nat → zEnt} {rc : Nat → Nat} {tg : Nat → Nat → Nat} {dy sz kd pt gl : Nat → Nat} {tx : Nat → Int32} (hS : StAt M 1 n e rc tg m dy sz kd pt gl tx) (hn : n ≤ 30) (hc : cOk n e m dy sz kd pt gl) {S0 : vSt} (hV : VeS M 103 S0) (x y : Int32) : ZM Γ (d + 8) m_sc_creatorAt [.ref 0, .int x, .int y] M (vQ 103 M n e m dy sz kd pt gl tx x (.int (-4)) (fun S => .int (if hasP S.1 y = true then ec (S.2.1 y.toNatClampNeg) else -2))) := by
  refine ZM.of mk_sc_creatorAt (Nat.le_of_ble_eq_true rfl) ?_
  rw [show zEn [.ref 0, .int x, .int y] = [some (.ref 0), some (.int x), some (.int y)] from rfl]
  refine zPad 1 ?_
  show Z _ _ _ _ _ _ _ [some (.ref 0), some (.int x), some (.int y), none] _ _
  refine Z_aload_n d_sc_creatorAt_0 rfl ?_
  refine Z_iload_n d_sc_creatorAt_1 rfl ?_
  refine Z_iload_n d_sc_creatorAt_2 rfl ?_
  refine zV (As := [.int x, .int y]) (by omega) d_sc_creatorAt_3 lm_sc_145 h0 rfl rfl (Nat.le_of_ble_eq_true rfl) (sc_refusalAt_ok (d + 0) h0 hS hn hc hV x y) (fun M1 v hq hlen => ?_)
  rcases hq with ⟨hdf, hM, rfl⟩ | ⟨hdt, S, hV1, hF, hvo, hv⟩
  · skip
    subst hM
    refine Zn_istore_n [some (.ref 0), some (.int x), some (.int y), some (.int (-4))] d_sc_creatorAt_6 (by decide) rfl ?_
    refine Z_iload_n d_sc_creatorAt_7 rfl ?_
    refine Z_if_eq (tgt := 15) d_sc_creatorAt_8 (by decide) (fun h8 => ?_) (fun h8 => ?_)
    · skip
      exact absurd h8 (by decide) -- end
    · skip
      skip
      refine Z_iload_n d_sc_creatorAt_11 rfl ?_
      refine Z_goto (tgt := 27) d_sc_creatorAt_12 (by decide) ?_
      refine Z_iret d_sc_creatorAt_27 rfl ?_
      exact Or.inl ⟨hdf, rfl, rfl⟩
  · skip
    have h0 := h0.fr hF (by omega)
    have hS := hS.fr hF (by omega)
    have hV := hV1
    have hn6 := hvo.1.1
    dsimp only at hv
    rcases hp : hasP S.1 y with _ | _
    · skip
      rw [if_neg (by rw [hp]; decide)] at hv
      subst hv
      refine Zn_istore_n [some (.ref 0), some (.int x), some (.int y), some (.int (-2))] d_sc_creatorAt_6 (by decide) rfl ?_
      refine Z_iload_n d_sc_creatorAt_7 rfl ?_
      refine Z_if_eq (tgt := 15) d_sc_creatorAt_8 (by decide) (fun h8 => ?_) (fun h8 => ?_)
      · skip
        exact absurd h8 (by decide) -- end
      · skip
        skip
        refine Z_iload_n d_sc_creatorAt_11 rfl ?_
        refine Z_goto (tgt := 27) d_sc_creatorAt_12 (by decide) ?_
        refine Z_iret d_sc_creatorAt_27 rfl ?_
        refine Or.inr ⟨hdt, S, hV1, hF, hvo, ?_⟩
        dsimp only
        rw [if_neg (by rw [hp]; decide)]
    · skip
      rw [if_pos hp] at hv
      subst hv
      obtain ⟨k, hk, hk9, rfl⟩ := hasP_t hp
      refine Zn_istore_n [some (.ref 0), some (.int x), some (.int (nI k)), some (.int (nI 0))] d_sc_creatorAt_6 (by decide) rfl ?_
      refine Z_iload_n d_sc_creatorAt_7 rfl ?_
      refine Zn_if_eq (a := 0) (tgt := 15) d_sc_creatorAt_8 (by decide) (by decide) (fun _ => ?_) (fun h => absurd h (by decide))
      refine Z_aload_n d_sc_creatorAt_15 rfl ?_
      refine Z_get d_sc_creatorAt_16 lf_sc_40 h0 rfl ?_
      refine Z_get d_sc_creatorAt_19 lf_sc_142 hV.1 rfl ?_
      refine Z_get d_sc_creatorAt_22 lf_sc_166 hV.2.1.1 rfl ?_
      refine Z_iload_n d_sc_creatorAt_25 rfl ?_
      refine Zn_iald d_sc_creatorAt_26 hV.2.1.2.2.2.2.2 (by omega) (by omega) ?_
      refine Z_iret d_sc_creatorAt_27 rfl ?_
      refine Or.inr ⟨hdt, S, hV1, hF, hvo, ?_⟩
      dsimp only
      rw [if_pos hp, zn_cl hk9]
set_option maxHeartbeats 4000000 in
theorem sc_isRepealedAt_ok {Γ : zCtx} {M : List zE} (d : Nat) {sv : Bool} (h0 : ScO M sv) {n m : Nat} {e : Nat → zEnt} {rc : Nat → Nat} {tg : Nat → Nat → Nat} {dy sz kd pt gl : Nat → Nat} {tx : Nat → Int32} (hS : StAt M 1 n e rc tg m dy sz kd pt gl tx) (hn : n ≤ 30) (hc : cOk n e m dy sz kd pt gl) {S0 : vSt} (hV : VeS M 103 S0) (x y : Int32) : ZM Γ (d + 8) m_sc_isRepealedAt [.ref 0, .int x, .int y] M (vQ 103 M n e m dy sz kd pt gl tx x (.int (-4)) (fun S => .int (if hasP S.1 y = true then nI (if er (S.2.1 y.toNatClampNeg) = true then 1 else 0) else -2))) := by
  refine ZM.of mk_sc_isRepealedAt (Nat.le_of_ble_eq_true rfl) ?_
  rw [show zEn [.ref 0, .int x, .int y] = [some (.ref 0), some (.int x), some (.int y)] from rfl]
  refine zPad 1 ?_
  show Z _ _ _ _ _ _ _ [some (.ref 0), some (.int x), some (.int y), none] _ _
  refine Z_aload_n d_sc_isRepealedAt_0 rfl ?_
  refine Z_iload_n d_sc_isRepealedAt_1 rfl ?_
  refine Z_iload_n d_sc_isRepealedAt_2 rfl ?_
  refine zV (As := [.int x, .int y]) (by omega) d_sc_isRepealedAt_3 lm_sc_145 h0 rfl rfl (Nat.le_of_ble_eq_true rfl) (sc_refusalAt_ok (d + 0) h0 hS hn hc hV x y) (fun M1 v hq hlen => ?_)
  rcases hq with ⟨hdf, hM, rfl⟩ | ⟨hdt, S, hV1, hF, hvo, hv⟩
  · skip
    subst hM
    refine Zn_istore_n [some (.ref 0), some (.int x), some (.int y), some (.int (-4))] d_sc_isRepealedAt_6 (by decide) rfl ?_
    refine Z_iload_n d_sc_isRepealedAt_7 rfl ?_
    refine Z_if_eq (tgt := 13) d_sc_isRepealedAt_8 (by decide) (fun h8 => ?_) (fun h8 => ?_)
    · skip
      exact absurd h8 (by decide) -- end
    · skip
      skip
      refine Z_iload_n d_sc_isRepealedAt_11 rfl ?_
      refine Z_iret d_sc_isRepealedAt_12 rfl ?_
      exact Or.inl ⟨hdf, rfl, rfl⟩
  · skip
    have h0 := h0.fr hF (by omega)
    have hS := hS.fr hF (by omega)
    have hV := hV1
    have hn6 := hvo.1.1
    dsimp only at hv
    rcases hp : hasP S.1 y with _ | _
    · skip
      rw [if_neg (by rw [hp]; decide)] at hv
      subst hv
      refine Zn_istore_n [some (.ref 0), some (.int x), some (.int y), some (.int (-2))] d_sc_isRepealedAt_6 (by decide) rfl ?_
      refine Z_iload_n d_sc_isRepealedAt_7 rfl ?_
      refine Z_if_eq (tgt := 13) d_sc_isRepealedAt_8 (by decide) (fun h8 => ?_) (fun h8 => ?_)
      · skip
        exact absurd h8 (by decide) -- end
      · skip
        skip
        refine Z_iload_n d_sc_isRepealedAt_11 rfl ?_
        refine Z_iret d_sc_isRepealedAt_12 rfl ?_
        refine Or.inr ⟨hdt, S, hV1, hF, hvo, ?_⟩
        dsimp only
        rw [if_neg (by rw [hp]; decide)]
    · skip
      rw [if_pos hp] at hv
      subst hv
      obtain ⟨k, hk, hk9, rfl⟩ := hasP_t hp
      refine Zn_istore_n [some (.ref 0), some (.int x), some (.int (nI k)), some (.int (nI 0))] d_sc_isRepealedAt_6 (by decide) rfl ?_
      refine Z_iload_n d_sc_isRepealedAt_7 rfl ?_
      refine Zn_if_eq (a := 0) (tgt := 13) d_sc_isRepealedAt_8 (by decide) (by decide) (fun _ => ?_) (fun h => absurd h (by decide))
      refine Z_aload_n d_sc_isRepealedAt_13 rfl ?_
      refine Z_get d_sc_isRepealedAt_14 lf_sc_40 h0 rfl ?_
      refine Z_get d_sc_isRepealedAt_17 lf_sc_142 hV.1 rfl ?_
      refine Z_get d_sc_isRepealedAt_20 lf_sc_153 hV.2.1.1 rfl ?_
      refine Z_iload_n d_sc_isRepealedAt_23 rfl ?_
      refine Zn_zald d_sc_isRepealedAt_24 hV.2.1.2.2.2.1 (by omega) (by omega) ?_
      refine Z_if_eq (tgt := 32) d_sc_isRepealedAt_25 (by decide) (fun h25 => ?_) (fun h25 => ?_)
      · skip
        refine Zn_iconst (nI 0) d_sc_isRepealedAt_32 (by decide) ?_
        refine Z_iret d_sc_isRepealedAt_33 rfl ?_
        refine Or.inr ⟨hdt, S, hV1, hF, hvo, ?_⟩
        dsimp only
        rw [if_pos hp, zn_cl hk9]
        cases her : er (S.2.1 k) <;> simp_all [bI]
      · skip
        refine Zn_iconst (nI 1) d_sc_isRepealedAt_28 (by decide) ?_
        refine Z_goto (tgt := 33) d_sc_isRepealedAt_29 (by decide) ?_
        refine Z_iret d_sc_isRepealedAt_33 rfl ?_
        refine Or.inr ⟨hdt, S, hV1, hF, hvo, ?_⟩
        dsimp only
        rw [if_pos hp, zn_cl hk9]
        cases her : er (S.2.1 k) <;> simp_all [bI]
set_option maxHeartbeats 4000000 in
theorem sc_pathLengthAt_ok {Γ : zCtx} {M : List zE} (d : Nat) {sv : Bool} (h0 : ScO M sv) {n m : Nat} {e : Nat → zEnt} {rc : Nat → Nat} {tg : Nat → Nat → Nat} {dy sz kd pt gl : Nat → Nat} {tx : Nat → Int32} (hS : StAt M 1 n e rc tg m dy sz kd pt gl tx) (hn : n ≤ 30) (hc : cOk n e m dy sz kd pt gl) {S0 : vSt} (hV : VeS M 103 S0) (x y : Int32) : ZM Γ (d + 8) m_sc_pathLengthAt [.ref 0, .int x, .int y] M (vQ 103 M n e m dy sz kd pt gl tx x (.int (-4)) (fun S => .int (if hasP S.1 y = true then nI (plen (ek (S.2.1 y.toNatClampNeg))) else -2))) := by
  refine ZM.of mk_sc_pathLengthAt (Nat.le_of_ble_eq_true rfl) ?_
  rw [show zEn [.ref 0, .int x, .int y] = [some (.ref 0), some (.int x), some (.int y)] from rfl]
  refine zPad 1 ?_
  show Z _ _ _ _ _ _ _ [some (.ref 0), some (.int x), some (.int y), none] _ _
  refine Z_aload_n d_sc_pathLengthAt_0 rfl ?_
  refine Z_iload_n d_sc_pathLengthAt_1 rfl ?_
  refine Z_iload_n d_sc_pathLengthAt_2 rfl ?_
  refine zV (As := [.int x, .int y]) (by omega) d_sc_pathLengthAt_3 lm_sc_145 h0 rfl rfl (Nat.le_of_ble_eq_true rfl) (sc_refusalAt_ok (d + 0) h0 hS hn hc hV x y) (fun M1 v hq hlen => ?_)
  rcases hq with ⟨hdf, hM, rfl⟩ | ⟨hdt, S, hV1, hF, hvo, hv⟩
  · skip
    subst hM
    refine Zn_istore_n [some (.ref 0), some (.int x), some (.int y), some (.int (-4))] d_sc_pathLengthAt_6 (by decide) rfl ?_
    refine Z_iload_n d_sc_pathLengthAt_7 rfl ?_
    refine Z_if_eq (tgt := 15) d_sc_pathLengthAt_8 (by decide) (fun h8 => ?_) (fun h8 => ?_)
    · skip
      exact absurd h8 (by decide) -- end
    · skip
      skip
      refine Z_iload_n d_sc_pathLengthAt_11 rfl ?_
      refine Z_goto (tgt := 30) d_sc_pathLengthAt_12 (by decide) ?_
      refine Z_iret d_sc_pathLengthAt_30 rfl ?_
      exact Or.inl ⟨hdf, rfl, rfl⟩
  · skip
    have h0 := h0.fr hF (by omega)
    have hS := hS.fr hF (by omega)
    have hV := hV1
    have hn6 := hvo.1.1
    dsimp only at hv
    rcases hp : hasP S.1 y with _ | _
    · skip
      rw [if_neg (by rw [hp]; decide)] at hv
      subst hv
      refine Zn_istore_n [some (.ref 0), some (.int x), some (.int y), some (.int (-2))] d_sc_pathLengthAt_6 (by decide) rfl ?_
      refine Z_iload_n d_sc_pathLengthAt_7 rfl ?_
      refine Z_if_eq (tgt := 15) d_sc_pathLengthAt_8 (by decide) (fun h8 => ?_) (fun h8 => ?_)
      · skip
        exact absurd h8 (by decide) -- end
      · skip
        skip
        refine Z_iload_n d_sc_pathLengthAt_11 rfl ?_
        refine Z_goto (tgt := 30) d_sc_pathLengthAt_12 (by decide) ?_
        refine Z_iret d_sc_pathLengthAt_30 rfl ?_
        refine Or.inr ⟨hdt, S, hV1, hF, hvo, ?_⟩
        dsimp only
        rw [if_neg (by rw [hp]; decide)]
    · skip
      rw [if_pos hp] at hv
      subst hv
      obtain ⟨k, hk, hk9, rfl⟩ := hasP_t hp
      refine Zn_istore_n [some (.ref 0), some (.int x), some (.int (nI k)), some (.int (nI 0))] d_sc_pathLengthAt_6 (by decide) rfl ?_
      refine Z_iload_n d_sc_pathLengthAt_7 rfl ?_
      refine Zn_if_eq (a := 0) (tgt := 15) d_sc_pathLengthAt_8 (by decide) (by decide) (fun _ => ?_) (fun h => absurd h (by decide))
      refine Z_aload_n d_sc_pathLengthAt_15 rfl ?_
      refine Z_get d_sc_pathLengthAt_16 lf_sc_40 h0 rfl ?_
      refine Z_get d_sc_pathLengthAt_19 lf_sc_142 hV.1 rfl ?_
      refine Z_get d_sc_pathLengthAt_22 lf_sc_149 hV.2.1.1 rfl ?_
      refine Z_iload_n d_sc_pathLengthAt_25 rfl ?_
      refine Zn_lald d_sc_pathLengthAt_26 hV.2.1.2.1 (by omega) (by omega) ?_
      have hkv := hvo.1.2 k hk
      refine zTe (As := [.long (lN (ek (S.2.1 k)))]) (by omega) d_sc_pathLengthAt_27 lm_sc_157 rfl (Nat.le_of_ble_eq_true rfl) (pa_lengthOf_ok (d + 4) hkv.1) ?_
      refine Z_iret d_sc_pathLengthAt_30 rfl ?_
      refine Or.inr ⟨hdt, S, hV1, hF, hvo, ?_⟩
      dsimp only
      rw [if_pos hp, zn_cl hk9]
def chX (k : Nat) (z : Int32) : Int32 := if z < 0 then -9 else oI (chGo 0 (labs k) z.toNatClampNeg) (-9)
theorem pa_chX {Γ : zCtx} {M : List zE} (d : Nat) {k : Nat} (hk : k < 2 ^ 63) (z : Int32) : ZM Γ (d + 4) m_pa_characterOf [.long (lN k), .int z] M (zEq M (some (.int (chX k z)))) := by
  unfold chX
  by_cases h : z < 0
  · rw [if_pos h]; exact pa_characterOf_neg d h
  · rw [if_neg h]
    obtain ⟨h1, h2⟩ := i32_nn h
    generalize z.toNatClampNeg = j at h1 h2
    subst h1
    have := pa_characterOf_ok (Γ := Γ) (M := M) d hk h2
    rwa [Option.map_id, id] at this
set_option maxHeartbeats 4000000 in
theorem sc_pathCharacterAt_ok {Γ : zCtx} {M : List zE} (d : Nat) {sv : Bool} (h0 : ScO M sv) {n m : Nat} {e : Nat → zEnt} {rc : Nat → Nat} {tg : Nat → Nat → Nat} {dy sz kd pt gl : Nat → Nat} {tx : Nat → Int32} (hS : StAt M 1 n e rc tg m dy sz kd pt gl tx) (hn : n ≤ 30) (hc : cOk n e m dy sz kd pt gl) {S0 : vSt} (hV : VeS M 103 S0) (x y z : Int32) : ZM Γ (d + 8) m_sc_pathCharacterAt [.ref 0, .int x, .int y, .int z] M (vQ 103 M n e m dy sz kd pt gl tx x (.int (-4)) (fun S => .int (if hasP S.1 y = true then chX (ek (S.2.1 y.toNatClampNeg)) z else -2))) := by
  refine ZM.of mk_sc_pathCharacterAt (Nat.le_of_ble_eq_true rfl) ?_
  rw [show zEn [.ref 0, .int x, .int y, .int z] = [some (.ref 0), some (.int x), some (.int y), some (.int z)] from rfl]
  refine zPad 1 ?_
  show Z _ _ _ _ _ _ _ [some (.ref 0), some (.int x), some (.int y), some (.int z), none] _ _
  refine Z_aload_n d_sc_pathCharacterAt_0 rfl ?_
  refine Z_iload_n d_sc_pathCharacterAt_1 rfl ?_
  refine Z_iload_n d_sc_pathCharacterAt_2 rfl ?_
  refine zV (As := [.int x, .int y]) (by omega) d_sc_pathCharacterAt_3 lm_sc_145 h0 rfl rfl (Nat.le_of_ble_eq_true rfl) (sc_refusalAt_ok (d + 0) h0 hS hn hc hV x y) (fun M1 v hq hlen => ?_)
  rcases hq with ⟨hdf, hM, rfl⟩ | ⟨hdt, S, hV1, hF, hvo, hv⟩
  · skip
    subst hM
    refine Zn_istore [some (.ref 0), some (.int x), some (.int y), some (.int z), some (.int (-4))] d_sc_pathCharacterAt_6 (by decide) rfl ?_
    refine Z_iload d_sc_pathCharacterAt_8 rfl ?_
    refine Z_if_eq (tgt := 18) d_sc_pathCharacterAt_10 (by decide) (fun h10 => ?_) (fun h10 => ?_)
    · skip
      exact absurd h10 (by decide) -- end
    · skip
      skip
      refine Z_iload d_sc_pathCharacterAt_13 rfl ?_
      refine Z_goto (tgt := 34) d_sc_pathCharacterAt_15 (by decide) ?_
      refine Z_iret d_sc_pathCharacterAt_34 rfl ?_
      exact Or.inl ⟨hdf, rfl, rfl⟩
  · skip
    have h0 := h0.fr hF (by omega)
    have hS := hS.fr hF (by omega)
    have hV := hV1
    have hn6 := hvo.1.1
    dsimp only at hv
    rcases hp : hasP S.1 y with _ | _
    · skip
      rw [if_neg (by rw [hp]; decide)] at hv
      subst hv
      refine Zn_istore [some (.ref 0), some (.int x), some (.int y), some (.int z), some (.int (-2))] d_sc_pathCharacterAt_6 (by decide) rfl ?_
      refine Z_iload d_sc_pathCharacterAt_8 rfl ?_
      refine Z_if_eq (tgt := 18) d_sc_pathCharacterAt_10 (by decide) (fun h10 => ?_) (fun h10 => ?_)
      · skip
        exact absurd h10 (by decide) -- end
      · skip
        skip
        refine Z_iload d_sc_pathCharacterAt_13 rfl ?_
        refine Z_goto (tgt := 34) d_sc_pathCharacterAt_15 (by decide) ?_
        refine Z_iret d_sc_pathCharacterAt_34 rfl ?_
        refine Or.inr ⟨hdt, S, hV1, hF, hvo, ?_⟩
        dsimp only
        rw [if_neg (by rw [hp]; decide)]
    · skip
      rw [if_pos hp] at hv
      subst hv
      obtain ⟨k, hk, hk9, rfl⟩ := hasP_t hp
      refine Zn_istore [some (.ref 0), some (.int x), some (.int (nI k)), some (.int z), some (.int (nI 0))] d_sc_pathCharacterAt_6 (by decide) rfl ?_
      refine Z_iload d_sc_pathCharacterAt_8 rfl ?_
      refine Zn_if_eq (a := 0) (tgt := 18) d_sc_pathCharacterAt_10 (by decide) (by decide) (fun _ => ?_) (fun h => absurd h (by decide))
      refine Z_aload_n d_sc_pathCharacterAt_18 rfl ?_
      refine Z_get d_sc_pathCharacterAt_19 lf_sc_40 h0 rfl ?_
      refine Z_get d_sc_pathCharacterAt_22 lf_sc_142 hV.1 rfl ?_
      refine Z_get d_sc_pathCharacterAt_25 lf_sc_149 hV.2.1.1 rfl ?_
      refine Z_iload_n d_sc_pathCharacterAt_28 rfl ?_
      refine Zn_lald d_sc_pathCharacterAt_29 hV.2.1.2.1 (by omega) (by omega) ?_
      refine Z_iload_n d_sc_pathCharacterAt_30 rfl ?_
      have hkv := hvo.1.2 k hk
      refine zTe (As := [.long (lN (ek (S.2.1 k))), .int z]) (by omega) d_sc_pathCharacterAt_31 lm_sc_160 rfl (Nat.le_of_ble_eq_true rfl) (pa_chX (d + 3) hkv.1 z) ?_
      refine Z_iret d_sc_pathCharacterAt_34 rfl ?_
      refine Or.inr ⟨hdt, S, hV1, hF, hvo, ?_⟩
      dsimp only
      rw [if_pos hp, zn_cl hk9]
def rcO (n : Nat) (rc : Nat → Nat) (o : Int32) : Nat := if hasP n o = true then rc o.toNatClampNeg else 0
set_option maxHeartbeats 4000000 in
theorem sc_referenceCountAt_ok {Γ : zCtx} {M : List zE} (d : Nat) {sv : Bool} (h0 : ScO M sv) {n m : Nat} {e : Nat → zEnt} {rc : Nat → Nat} {tg : Nat → Nat → Nat} {dy sz kd pt gl : Nat → Nat} {tx : Nat → Int32} (hS : StAt M 1 n e rc tg m dy sz kd pt gl tx) (hn : n ≤ 30) (hc : cOk n e m dy sz kd pt gl) {S0 : vSt} (hV : VeS M 103 S0) (x y : Int32) : ZM Γ (d + 8) m_sc_referenceCountAt [.ref 0, .int x, .int y] M (vQ 103 M n e m dy sz kd pt gl tx x (.int (-4)) (fun S => .int (if hasP S.1 y = true then nI (rcO n rc (eo (S.2.1 y.toNatClampNeg))) else -2))) := by
  refine ZM.of mk_sc_referenceCountAt (Nat.le_of_ble_eq_true rfl) ?_
  rw [show zEn [.ref 0, .int x, .int y] = [some (.ref 0), some (.int x), some (.int y)] from rfl]
  refine zPad 1 ?_
  show Z _ _ _ _ _ _ _ [some (.ref 0), some (.int x), some (.int y), none] _ _
  refine Z_aload_n d_sc_referenceCountAt_0 rfl ?_
  refine Z_iload_n d_sc_referenceCountAt_1 rfl ?_
  refine Z_iload_n d_sc_referenceCountAt_2 rfl ?_
  refine zV (As := [.int x, .int y]) (by omega) d_sc_referenceCountAt_3 lm_sc_145 h0 rfl rfl (Nat.le_of_ble_eq_true rfl) (sc_refusalAt_ok (d + 0) h0 hS hn hc hV x y) (fun M1 v hq hlen => ?_)
  rcases hq with ⟨hdf, hM, rfl⟩ | ⟨hdt, S, hV1, hF, hvo, hv⟩
  · skip
    subst hM
    refine Zn_istore_n [some (.ref 0), some (.int x), some (.int y), some (.int (-4))] d_sc_referenceCountAt_6 (by decide) rfl ?_
    refine Z_iload_n d_sc_referenceCountAt_7 rfl ?_
    refine Z_if_eq (tgt := 15) d_sc_referenceCountAt_8 (by decide) (fun h8 => ?_) (fun h8 => ?_)
    · skip
      exact absurd h8 (by decide) -- end
    · skip
      skip
      refine Z_iload_n d_sc_referenceCountAt_11 rfl ?_
      refine Z_goto (tgt := 34) d_sc_referenceCountAt_12 (by decide) ?_
      refine Z_iret d_sc_referenceCountAt_34 rfl ?_
      exact Or.inl ⟨hdf, rfl, rfl⟩
  · skip
    have h0 := h0.fr hF (by omega)
    have hS := hS.fr hF (by omega)
    have hV := hV1
    have hn6 := hvo.1.1
    dsimp only at hv
    rcases hp : hasP S.1 y with _ | _
    · skip
      rw [if_neg (by rw [hp]; decide)] at hv
      subst hv
      refine Zn_istore_n [some (.ref 0), some (.int x), some (.int y), some (.int (-2))] d_sc_referenceCountAt_6 (by decide) rfl ?_
      refine Z_iload_n d_sc_referenceCountAt_7 rfl ?_
      refine Z_if_eq (tgt := 15) d_sc_referenceCountAt_8 (by decide) (fun h8 => ?_) (fun h8 => ?_)
      · skip
        exact absurd h8 (by decide) -- end
      · skip
        skip
        refine Z_iload_n d_sc_referenceCountAt_11 rfl ?_
        refine Z_goto (tgt := 34) d_sc_referenceCountAt_12 (by decide) ?_
        refine Z_iret d_sc_referenceCountAt_34 rfl ?_
        refine Or.inr ⟨hdt, S, hV1, hF, hvo, ?_⟩
        dsimp only
        rw [if_neg (by rw [hp]; decide)]
    · skip
      rw [if_pos hp] at hv
      subst hv
      obtain ⟨k, hk, hk9, rfl⟩ := hasP_t hp
      refine Zn_istore_n [some (.ref 0), some (.int x), some (.int (nI k)), some (.int (nI 0))] d_sc_referenceCountAt_6 (by decide) rfl ?_
      refine Z_iload_n d_sc_referenceCountAt_7 rfl ?_
      refine Zn_if_eq (a := 0) (tgt := 15) d_sc_referenceCountAt_8 (by decide) (by decide) (fun _ => ?_) (fun h => absurd h (by decide))
      refine Z_aload_n d_sc_referenceCountAt_15 rfl ?_
      refine Z_get d_sc_referenceCountAt_16 lf_sc_12 h0 rfl ?_
      refine Z_aload_n d_sc_referenceCountAt_19 rfl ?_
      refine Z_get d_sc_referenceCountAt_20 lf_sc_40 h0 rfl ?_
      refine Z_get d_sc_referenceCountAt_23 lf_sc_142 hV.1 rfl ?_
      refine Z_get d_sc_referenceCountAt_26 lf_sc_163 hV.2.1.1 rfl ?_
      refine Z_iload_n d_sc_referenceCountAt_29 rfl ?_
      refine Zn_iald d_sc_referenceCountAt_30 hV.2.1.2.2.2.2.1 (by omega) (by omega) ?_
      refine zVe (As := [.int (eo (S.2.1 k))]) (by omega) d_sc_referenceCountAt_31 lm_sc_183 hS.1 rfl rfl (Nat.le_of_ble_eq_true rfl) (sta_rcX (d + 5) hS (by omega) hn (eo (S.2.1 k))) ?_
      refine Z_iret d_sc_referenceCountAt_34 rfl ?_
      refine Or.inr ⟨hdt, S, hV1, hF, hvo, ?_⟩
      dsimp only
      rw [if_pos hp, zn_cl hk9]
      rfl
