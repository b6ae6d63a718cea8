/-! two contracts of the class, said once more with what the relation needs -/
set_option maxHeartbeats 4000000 in
theorem sc_firstDifference_2 {Γ : zCtx} {M : List zE} (d : Nat) {sv : Bool} (h0 : ScO M sv) {n m : Nat} {e : Nat → zEnt} {rc : Nat → Nat} {tg : Nat → Nat → Nat} {dy sz kd pt gl : Nat → Nat} {tx : Nat → Int32} (hS : StAt M 1 n e rc tg m dy sz kd pt gl tx) (hn : n ≤ 30) (hc : cOk n e m dy sz kd pt gl) {S0 : vSt} (hV : VeS M 103 S0) {U0 : vSt} (hW : VeS M 113 U0) (x y : Int32) : ZM Γ (d + 7) m_sc_firstDifference [.ref 0, .int x, .int y] M (fun M1 v => ∃ S U, VeS M1 103 S ∧ VeS M1 113 U ∧ zFr M M1 103 20 ∧ ((¬ (dOk x = true ∧ dOk y = true) ∧ v = some (.int (-4)) ∧ (dOk x = true → vOf n e m dy sz kd pt gl tx x S)) ∨ (dOk x = true ∧ dOk y = true ∧ vOf n e m dy sz kd pt gl tx x S ∧ vOf n e m dy sz kd pt gl tx y U ∧ v = some (.int (oI (fdif S.1 U.1 S.2.1 U.2.1) (-9)))))) := by
  refine ZM.of mk_sc_firstDifference (Nat.le_of_ble_eq_true rfl) ?_
  refine Z_aload_n d_sc_firstDifference_0 rfl ?_
  refine Z_get d_sc_firstDifference_1 lf_sc_40 h0 rfl ?_
  refine Z_aload_n d_sc_firstDifference_4 rfl ?_
  refine Z_get d_sc_firstDifference_5 lf_sc_12 h0 rfl ?_
  refine Z_iload_n d_sc_firstDifference_8 rfl ?_
  refine zV (As := [.ref 1, .int x]) (by omega) d_sc_firstDifference_9 lm_sc_138 hV.1 rfl rfl (Nat.le_of_ble_eq_true rfl) (ver_cmp (d + 0) hV hS hn (by omega) hc x) (fun M1 v hq hlen => ?_)
  rcases hq with ⟨hdf, hM, rfl⟩ | ⟨hdt, S, hV1, hF, hvo, rfl⟩
  · skip
    subst hM
    refine Zn_if_eq (a := 0) (tgt := 30) d_sc_firstDifference_12 (by decide) (by decide) (fun _ => ?_) (fun h => absurd h (by decide))
    refine Zn_bipush (-4) d_sc_firstDifference_30 (by decide) ?_
    refine Z_iret d_sc_firstDifference_32 rfl ?_
    exact ⟨S0, U0, hV, hW, zFr.rf, Or.inl ⟨fun z => absurd (hdf.symm.trans z.1) (by decide), rfl, fun z => absurd (hdf.symm.trans z) (by decide)⟩⟩
  · skip
    have h0 := h0.fr hF (by omega)
    have hS := hS.fr hF (by omega)
    have hV := hV1
    have hn6 := hvo.1.1
    have hW := VeAt.fr hW hF (by omega)
    refine Zn_if_eq (a := 1) (tgt := 30) d_sc_firstDifference_12 (by decide) (by decide) (fun h => absurd h (by decide)) (fun _ => ?_)
    refine Z_aload_n d_sc_firstDifference_15 rfl ?_
    refine Z_get d_sc_firstDifference_16 lf_sc_44 h0 rfl ?_
    refine Z_aload_n d_sc_firstDifference_19 rfl ?_
    refine Z_get d_sc_firstDifference_20 lf_sc_12 h0 rfl ?_
    refine Z_iload_n d_sc_firstDifference_23 rfl ?_
    refine zV (As := [.ref 1, .int y]) (by omega) d_sc_firstDifference_24 lm_sc_138 hW.1 rfl rfl (Nat.le_of_ble_eq_true rfl) (ver_cmp (d + 0) hW hS hn (by omega) hc y) (fun M1b v hq hlen => ?_)
    rcases hq with ⟨hdfb, hM, rfl⟩ | ⟨hdtb, U, hV1b, hFb, hvob, rfl⟩
    · skip
      subst hM
      refine Zn_if_ne (a := 0) (tgt := 33) d_sc_firstDifference_27 (by decide) (by decide) (fun h => absurd h (by decide)) (fun _ => ?_)
      refine Zn_bipush (-4) d_sc_firstDifference_30 (by decide) ?_
      refine Z_iret d_sc_firstDifference_32 rfl ?_
      exact ⟨S, U0, hV, hW, hF.wide (by omega) (by omega), Or.inl ⟨fun z => absurd (hdfb.symm.trans z.2) (by decide), rfl, fun _ => hvo⟩⟩
    · skip
      have h0 := h0.fr hFb (by omega)
      have hS := hS.fr hFb (by omega)
      have hW := hV1b
      have hn6 := hvob.1.1
      have hV := VeAt.fr hV hFb (by omega)
      refine Zn_if_ne (a := 1) (tgt := 33) d_sc_firstDifference_27 (by decide) (by decide) (fun _ => ?_) (fun h => absurd h (by decide))
      refine Z_aload_n d_sc_firstDifference_33 rfl ?_
      refine Z_get d_sc_firstDifference_34 lf_sc_40 h0 rfl ?_
      refine Z_get d_sc_firstDifference_37 lf_sc_142 hV.1 rfl ?_
      refine Z_aload_n d_sc_firstDifference_40 rfl ?_
      refine Z_get d_sc_firstDifference_41 lf_sc_44 h0 rfl ?_
      refine Z_get d_sc_firstDifference_44 lf_sc_142 hW.1 rfl ?_
      refine zVe (As := [.ref (113 + 1)]) (by omega) d_sc_firstDifference_47 lm_sc_179 hV.2.1.1 rfl rfl (Nat.le_of_ble_eq_true rfl) (pv_firstDifferenceFrom_ok (d + 4) hV.2.1 hW.2.1 hvo.1.1 hvob.1.1 hvo.1.k hvob.1.k) ?_
      refine Z_iret d_sc_firstDifference_50 rfl ?_
      exact ⟨S, U, hV, hW, (hF.wide (by omega) (by omega)).trans (hFb.wide (by omega) (by omega)), Or.inr ⟨hdt, hdtb, hvo, hvob, rfl⟩⟩
set_option maxHeartbeats 4000000 in
theorem sc_storeAmendment_8 {Γ : zCtx} {M : List zE} (d : Nat) {sv : Bool} (h0 : ScO M sv) {n m : Nat} {e : Nat → zEnt} {rc : Nat → Nat} {tg : Nat → Nat → Nat} {dy sz kd pt gl : Nat → Nat} {tx : Nat → Int32} (hS : StAt M 1 n e rc tg m dy sz kd pt gl tx) (hn : n ≤ 30) (hm8 : m = 8) {len p : Nat} {ch : Nat → Nat} (hI : InAt M len p ch) (hl : len ≤ 120) (x : Int32) : ZM Γ (d + 9) m_sc_storeAmendment [.ref 0, .int x] M (zEq M (some (.int (stA m len ch x).1))) := by
  refine ZM.of mk_sc_storeAmendment (Nat.le_of_ble_eq_true rfl) ?_
  rw [show zEn [.ref 0, .int x] = [some (.ref 0), some (.int x)] from rfl]
  refine zPad 3 ?_
  show Z _ _ _ _ _ _ _ [some (.ref 0), some (.int x), none, none, none] _ _
  refine Z_iload_n d_sc_storeAmendment_0 rfl ?_
  refine zTe (As := [.int x]) (by omega) d_sc_storeAmendment_1 lm_sc_132 rfl (Nat.le_of_ble_eq_true rfl) (sc_isCommencementDay_ok (d + 7) x) ?_
  have hle1 := b10_lt (x := tOk x)
  refine Zn_if_ne (tgt := 10) d_sc_storeAmendment_4 (by decide) (by omega) (fun h4 => ?_) (fun h4 => ?_)
  · skip
    have t4 : tOk x = true := b10_t h4
    obtain ⟨v1, hv1, rfl⟩ := tOk_t t4
    refine Z_aload_n d_sc_storeAmendment_10 rfl ?_
    refine Z_get d_sc_storeAmendment_11 lf_sc_12 h0 rfl ?_
    refine Z_get d_sc_storeAmendment_14 lf_sc_107 hS.1 rfl ?_
    refine Zn_astore_n [some (.ref 0), some (.int (nI v1)), some (.ref (1 + 39)), none, none] d_sc_storeAmendment_17 (by decide) rfl ?_
    refine Z_aload_n d_sc_storeAmendment_18 rfl ?_
    refine Z_get d_sc_storeAmendment_19 lf_sc_111 hS.2.2.2.2.2.1 rfl ?_
    refine Zn_istore_n [some (.ref 0), some (.int (nI v1)), some (.ref (1 + 39)), some (.int (nI m)), none] d_sc_storeAmendment_22 (by decide) rfl ?_
    refine Z_iload_n d_sc_storeAmendment_23 rfl ?_
    refine Zn_bipush (nI 8) d_sc_storeAmendment_24 (by decide) ?_
    refine Zn_icmp_lt (tgt := 32) d_sc_storeAmendment_26 (by decide) (by omega) (by omega) (fun h26 => ?_) (fun h26 => ?_)
    · skip
      exact absurd h26 (by omega) -- end
    · skip
      skip
      refine Zn_bipush (-6) d_sc_storeAmendment_29 (by decide) ?_
      refine Z_iret d_sc_storeAmendment_31 rfl ?_
      have hz : stA m len ch (nI v1) = (-6, none) := by
        unfold stA
        rw [if_pos t4, if_neg h26]
      rw [hz]
      exact ⟨rfl, rfl⟩
  · skip
    have t4 : tOk x = false := b10_f h4
    refine Zn_bipush (-4) d_sc_storeAmendment_7 (by decide) ?_
    refine Z_iret d_sc_storeAmendment_9 rfl ?_
    have hz : stA m len ch x = (-4, none) := by
      unfold stA
      rw [if_neg (fun z => absurd (t4.symm.trans z) (by decide))]
    rw [hz]
    exact ⟨rfl, rfl⟩
set_option maxHeartbeats 4000000 in
theorem sc_addAmendment_8 {Γ : zCtx} {M : List zE} (d : Nat) {sv : Bool} (h0 : ScO M sv) {n m : Nat} {e : Nat → zEnt} {rc : Nat → Nat} {tg : Nat → Nat → Nat} {dy sz kd pt gl : Nat → Nat} {tx : Nat → Int32} (hS : StAt M 1 n e rc tg m dy sz kd pt gl tx) (hn : n ≤ 30) (hm8 : m = 8) {len p : Nat} {ch : Nat → Nat} (hI : InAt M len p ch) (hl : len ≤ 120) (x : Int32) : ZM Γ (d + 10) m_sc_addAmendment [.ref 0, .int x] M (fun M1 v => v = some (.int (stA m len ch x).1) ∧ InAt M1 0 p ch ∧ zFr M M1 93 2) := by
  refine ZM.of mk_sc_addAmendment (Nat.le_of_ble_eq_true rfl) ?_
  rw [show zEn [.ref 0, .int x] = [some (.ref 0), some (.int x)] from rfl]
  refine zPad 1 ?_
  show Z _ _ _ _ _ _ _ [some (.ref 0), some (.int x), none] _ _
  refine Z_aload_n d_sc_addAmendment_0 rfl ?_
  refine Z_iload_n d_sc_addAmendment_1 rfl ?_
  refine zVe (As := [.int x]) (by omega) d_sc_addAmendment_2 lm_sc_123 h0 rfl rfl (Nat.le_of_ble_eq_true rfl) (sc_storeAmendment_8 d h0 hS hn hm8 hI hl x) ?_
  refine Zn_istore_n [some (.ref 0), some (.int x), some (.int ((stA m len ch x).1))] d_sc_addAmendment_5 (by decide) rfl ?_
  refine Z_aload_n d_sc_addAmendment_6 rfl ?_
  refine Z_get d_sc_addAmendment_7 lf_sc_26 h0 rfl ?_
  refine Zn_iconst (nI 0) d_sc_addAmendment_10 (by decide) ?_
  refine Z_puti d_sc_addAmendment_11 lf_sc_117 hI.1 rfl rfl (Nat.le_of_ble_eq_true rfl) ?_
  refine Z_iload_n d_sc_addAmendment_14 rfl ?_
  refine Z_iret d_sc_addAmendment_15 rfl ?_
  exact ⟨rfl, hI.len, zFr.rf.set (by omega) (by omega)⟩
