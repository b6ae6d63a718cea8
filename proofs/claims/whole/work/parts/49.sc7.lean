/-! find, differences, figures, snapshots -/
def fnA (len : Nat) (ch : Nat → Nat) (S : vSt) : Int32 := if pOnly len ch = 0 then -1000 - nI (pPth len ch 0).2.2 else oI (posK S.1 S.2.1 (pOnly len ch)) (-9)
theorem pOnly_63 {len : Nat} {ch : Nat → Nat} : pOnly len ch < 2 ^ 63 := by
  unfold pOnly
  split
  · exact k3_lt (Nat.zero_le _)
  · decide
theorem VeS.fr {M M1 : List zE} {b lo w : Nat} {S : vSt} (h : VeS M b S) (hf : zFr M M1 lo w) (hd : b + 10 ≤ lo ∨ lo + w ≤ b) : VeS M1 b S := VeAt.fr h hf hd
set_option maxHeartbeats 4000000 in
theorem sc_find_ok {Γ : zCtx} {M : List zE} (d : Nat) {sv : Bool} (h0 : ScO M sv) {n m : Nat} {e : Nat → zEnt} {rc : Nat → Nat} {tg : Nat → Nat → Nat} {dy sz kd pt gl : Nat → Nat} {tx : Nat → Int32} (hS : StAt M 1 n e rc tg m dy sz kd pt gl tx) (hn : n ≤ 30) (hc : cOk n e m dy sz kd pt gl) {S0 : vSt} (hV : VeS M 103 S0) {len p : Nat} {ch : Nat → Nat} (hI : InAt M len p ch) (hl : len ≤ 120) (hch : ∀ i, ch i ≤ 126) (x : Int32) : ZM Γ (d + 7) m_sc_find [.ref 0, .int x] M (fun M1 v => InAt M1 0 (pPth len ch 0).2.2 ch ∧ ((dOk x = false ∧ v = some (.int (-4)) ∧ zFr M M1 93 2) ∨ (dOk x = true ∧ ∃ S, VeS M1 103 S ∧ zF2 M M1 93 95 103 113 ∧ vOf n e m dy sz kd pt gl tx x S ∧ v = some (.int (fnA len ch S))))) := by
  refine ZM.of mk_sc_find (Nat.le_of_ble_eq_true rfl) ?_
  rw [show zEn [.ref 0, .int x] = [some (.ref 0), some (.int x)] from rfl]
  refine zPad 3 ?_
  show Z _ _ _ _ _ _ _ [some (.ref 0), some (.int x), none, none, none] _ _
  refine Z_aload_n d_sc_find_0 rfl ?_
  refine Z_get d_sc_find_1 lf_sc_26 h0 rfl ?_
  refine zV (As := []) (by omega) d_sc_find_4 lm_sc_169 hI.1 rfl rfl (Nat.le_of_ble_eq_true rfl) (in_readOnlyPath_ok d hI hl hch) (fun M0 v hq hlen => ?_)
  obtain ⟨rfl, hI, hF0⟩ := hq
  have hF0' := hF0
  replace h0 := h0.fr hF0 (by omega)
  replace hS := hS.fr hF0 (by omega)
  replace hV := hV.fr hF0 (by omega)
  refine Zn_lstore_n [some (.ref 0), some (.int x), some (.long (lN (pOnly len ch))), none, none] d_sc_find_7 (by decide) rfl ?_
  refine Z_aload_n d_sc_find_8 rfl ?_
  refine Z_get d_sc_find_9 lf_sc_26 h0 rfl ?_
  refine Zn_iconst (nI 0) d_sc_find_12 (by decide) ?_
  refine Z_puti d_sc_find_13 lf_sc_117 hI.1 rfl rfl (Nat.le_of_ble_eq_true rfl) ?_
  replace hI := hI.len (len' := 0)
  have hF1 : zFr M0 (M0.set 93 (.inr (1, [.ref 94, .int (nI 0), .int (nI (pPth len ch 0).2.2)]))) 93 2 := zFr.rf.set (by omega) (by omega)
  replace h0 := h0.fr hF1 (by omega)
  replace hS := hS.fr hF1 (by omega)
  replace hV := hV.fr hF1 (by omega)
  replace hF0 := hF0.trans hF1
  refine Z_aload_n d_sc_find_16 rfl ?_
  refine Z_get d_sc_find_17 lf_sc_40 h0 rfl ?_
  refine Z_aload_n d_sc_find_20 rfl ?_
  refine Z_get d_sc_find_21 lf_sc_12 h0 rfl ?_
  refine Z_iload_n d_sc_find_24 rfl ?_
  refine zV (As := [.ref 1, .int x]) (by omega) d_sc_find_25 lm_sc_138 hV.1 rfl rfl (Nat.le_of_ble_eq_true rfl) (ver_cmp (d + 0) hV hS hn (by omega) hc x) (fun M1 v hq hlen => ?_)
  rcases hq with ⟨hdf, hM, rfl⟩ | ⟨hdt, S, hV1, hF, hvo, rfl⟩
  · skip
    subst hM
    refine Zn_if_ne (a := 0) (tgt := 34) d_sc_find_28 (by decide) (by decide) (fun h => absurd h (by decide)) (fun _ => ?_)
    refine Zn_bipush (-4) d_sc_find_31 (by decide) ?_
    refine Z_iret d_sc_find_33 rfl ?_
    exact ⟨hI, Or.inl ⟨hdf, rfl, hF0⟩⟩
  · skip
    have h0 := h0.fr hF (by omega)
    have hS := hS.fr hF (by omega)
    have hV := hV1
    have hn6 := hvo.1.1
    refine Zn_if_ne (a := 1) (tgt := 34) d_sc_find_28 (by decide) (by decide) (fun _ => ?_) (fun h => absurd h (by decide))
    refine Z_lload_n d_sc_find_34 rfl ?_
    refine Zn_lconst (0) d_sc_find_35 (by decide) ?_
    refine Z_lcmp d_sc_find_36 ?_
    refine Z_if_ne (tgt := 52) d_sc_find_37 (by decide) (fun h37 => ?_) (fun h37 => ?_)
    · skip
      have hp0 : ¬ pOnly len ch = 0 := fun z => h37 ((zlN (b := 0) pOnly_63 (by decide)).mpr z)
      refine Z_aload_n d_sc_find_52 rfl ?_
      refine Z_get d_sc_find_53 lf_sc_40 h0 rfl ?_
      refine Z_get d_sc_find_56 lf_sc_142 hV.1 rfl ?_
      refine Z_lload_n d_sc_find_59 rfl ?_
      refine zVe (As := [.long (lN (pOnly len ch))]) (by omega) d_sc_find_60 lm_sc_176 hV.2.1.1 rfl rfl (Nat.le_of_ble_eq_true rfl) (pv_posK_ok (d + 5) hV.2.1 hn6 hvo.1.k pOnly_63) ?_
      rcases hr : posK S.1 S.2.1 (pOnly len ch) with _ | i
      · skip
        refine Zn_istore [some (.ref 0), some (.int x), some (.long (lN (pOnly len ch))), none, some (.int (-1))] d_sc_find_63 (by decide) rfl ?_
        refine Z_iload d_sc_find_65 rfl ?_
        refine Z_if_ge (tgt := 75) d_sc_find_67 (by decide) (fun h67 => ?_) (fun h67 => ?_)
        · skip
          exact absurd h67 (by decide) -- end
        · skip
          skip
          refine Zn_bipush (-9) d_sc_find_70 (by decide) ?_
          refine Z_goto (tgt := 77) d_sc_find_72 (by decide) ?_
          refine Z_iret d_sc_find_77 rfl ?_
          refine ⟨hI.fr hF (by omega), Or.inr ⟨hdt, S, hV1, zF2.mk2 hF0 hF, hvo, ?_⟩⟩
          unfold fnA
          rw [if_neg hp0, hr]
          rfl
      · skip
        have hi := (posK_key hr).1
        refine Zn_istore [some (.ref 0), some (.int x), some (.long (lN (pOnly len ch))), none, some (.int (nI i))] d_sc_find_63 (by decide) rfl ?_
        refine Z_iload d_sc_find_65 rfl ?_
        refine Z_if_ge (tgt := 75) d_sc_find_67 (by decide) (fun h67 => ?_) (fun h67 => ?_)
        · skip
          skip
          refine Z_iload d_sc_find_75 rfl ?_
          refine Z_iret d_sc_find_77 rfl ?_
          refine ⟨hI.fr hF (by omega), Or.inr ⟨hdt, S, hV1, zF2.mk2 hF0 hF, hvo, ?_⟩⟩
          unfold fnA
          rw [if_neg hp0, hr]
          rfl
        · skip
          exact absurd (Int32.not_lt.mp (nI_pos (by omega))) h67 -- end
    · skip
      have hp0 : pOnly len ch = 0 := (zlN (b := 0) pOnly_63 (by decide)).mp h37
      replace hI := hI.fr hF (by omega)
      refine Zn_sipush (-1000) d_sc_find_40 (by decide) ?_
      refine Z_aload_n d_sc_find_43 rfl ?_
      refine Z_get d_sc_find_44 lf_sc_26 h0 rfl ?_
      refine Z_get d_sc_find_47 lf_sc_173 hI.1 rfl ?_
      refine Z_isub d_sc_find_50 ?_
      refine Z_iret d_sc_find_51 rfl ?_
      refine ⟨hI, Or.inr ⟨hdt, S, hV1, zF2.mk2 hF0 hF, hvo, ?_⟩⟩
      unfold fnA
      rw [if_pos hp0]
set_option maxHeartbeats 4000000 in
theorem sc_firstDifference_ok {Γ : zCtx} {M : List zE} (d : Nat) {sv : Bool} (h0 : ScO M sv) {n m : Nat} {e : Nat → zEnt} {rc : Nat → Nat} {tg : Nat → Nat → Nat} {dy sz kd pt gl : Nat → Nat} {tx : Nat → Int32} (hS : StAt M 1 n e rc tg m dy sz kd pt gl tx) (hn : n ≤ 30) (hc : cOk n e m dy sz kd pt gl) {S0 : vSt} (hV : VeS M 103 S0) {U0 : vSt} (hW : VeS M 113 U0) (x y : Int32) : ZM Γ (d + 7) m_sc_firstDifference [.ref 0, .int x, .int y] M (fun M1 v => ∃ S U, VeS M1 103 S ∧ VeS M1 113 U ∧ zFr M M1 103 20 ∧ ((¬ (dOk x = true ∧ dOk y = true) ∧ v = some (.int (-4))) ∨ (dOk x = true ∧ dOk y = true ∧ vOf n e m dy sz kd pt gl tx x S ∧ vOf n e m dy sz kd pt gl tx y U ∧ v = some (.int (oI (fdif S.1 U.1 S.2.1 U.2.1) (-9)))))) := by
  refine ZM.of mk_sc_firstDifference (Nat.le_of_ble_eq_true rfl) ?_
  refine Z_aload_n d_sc_firstDifference_0 rfl ?_
  refine Z_get d_sc_firstDifference_1 lf_sc_40 h0 rfl ?_
  refine Z_aload_n d_sc_firstDifference_4 rfl ?_
  refine Z_get d_sc_firstDifference_5 lf_sc_12 h0 rfl ?_
  refine Z_iload_n d_sc_firstDifference_8 rfl ?_
  refine zV (As := [.ref 1, .int x]) (by omega) d_sc_firstDifference_9 lm_sc_138 hV.1 rfl rfl (Nat.le_of_ble_eq_true rfl) (ver_cmp (d + 0) hV hS hn (by omega) hc x) (fun M1 v hq hlen => ?_)
  rcases hq with ⟨hdf, hM, rfl⟩ | ⟨hdt, S, hV1, hF, hvo, rfl⟩
  · skip
    subst hM
    refine Zn_if_eq (a := 0) (tgt := 30) d_sc_firstDifference_12 (by decide) (by decide) (fun _ => ?_) (fun h => absurd h (by decide))
    refine Zn_bipush (-4) d_sc_firstDifference_30 (by decide) ?_
    refine Z_iret d_sc_firstDifference_32 rfl ?_
    exact ⟨S0, U0, hV, hW, zFr.rf, Or.inl ⟨fun z => absurd (hdf.symm.trans z.1) (by decide), rfl⟩⟩
  · skip
    have h0 := h0.fr hF (by omega)
    have hS := hS.fr hF (by omega)
    have hV := hV1
    have hn6 := hvo.1.1
    have hW := VeAt.fr hW hF (by omega)
    refine Zn_if_eq (a := 1) (tgt := 30) d_sc_firstDifference_12 (by decide) (by decide) (fun h => absurd h (by decide)) (fun _ => ?_)
    refine Z_aload_n d_sc_firstDifference_15 rfl ?_
    refine Z_get d_sc_firstDifference_16 lf_sc_44 h0 rfl ?_
    refine Z_aload_n d_sc_firstDifference_19 rfl ?_
    refine Z_get d_sc_firstDifference_20 lf_sc_12 h0 rfl ?_
    refine Z_iload_n d_sc_firstDifference_23 rfl ?_
    refine zV (As := [.ref 1, .int y]) (by omega) d_sc_firstDifference_24 lm_sc_138 hW.1 rfl rfl (Nat.le_of_ble_eq_true rfl) (ver_cmp (d + 0) hW hS hn (by omega) hc y) (fun M1b v hq hlen => ?_)
    rcases hq with ⟨hdfb, hM, rfl⟩ | ⟨hdtb, U, hV1b, hFb, hvob, rfl⟩
    · skip
      subst hM
      refine Zn_if_ne (a := 0) (tgt := 33) d_sc_firstDifference_27 (by decide) (by decide) (fun h => absurd h (by decide)) (fun _ => ?_)
      refine Zn_bipush (-4) d_sc_firstDifference_30 (by decide) ?_
      refine Z_iret d_sc_firstDifference_32 rfl ?_
      exact ⟨S, U0, hV, hW, hF.wide (by omega) (by omega), Or.inl ⟨fun z => absurd (hdfb.symm.trans z.2) (by decide), rfl⟩⟩
    · skip
      have h0 := h0.fr hFb (by omega)
      have hS := hS.fr hFb (by omega)
      have hW := hV1b
      have hn6 := hvob.1.1
      have hV := VeAt.fr hV hFb (by omega)
      refine Zn_if_ne (a := 1) (tgt := 33) d_sc_firstDifference_27 (by decide) (by decide) (fun _ => ?_) (fun h => absurd h (by decide))
      refine Z_aload_n d_sc_firstDifference_33 rfl ?_
      refine Z_get d_sc_firstDifference_34 lf_sc_40 h0 rfl ?_
      refine Z_get d_sc_firstDifference_37 lf_sc_142 hV.1 rfl ?_
      refine Z_aload_n d_sc_firstDifference_40 rfl ?_
      refine Z_get d_sc_firstDifference_41 lf_sc_44 h0 rfl ?_
      refine Z_get d_sc_firstDifference_44 lf_sc_142 hW.1 rfl ?_
      refine zVe (As := [.ref (113 + 1)]) (by omega) d_sc_firstDifference_47 lm_sc_179 hV.2.1.1 rfl rfl (Nat.le_of_ble_eq_true rfl) (pv_firstDifferenceFrom_ok (d + 4) hV.2.1 hW.2.1 hvo.1.1 hvob.1.1 hvo.1.k hvob.1.k) ?_
      refine Z_iret d_sc_firstDifference_50 rfl ?_
      exact ⟨S, U, hV, hW, (hF.wide (by omega) (by omega)).trans (hFb.wide (by omega) (by omega)), Or.inr ⟨hdt, hdtb, hvo, hvob, rfl⟩⟩
def vTw (n : Nat) (e : Nat → zEnt) (sz kd pt gl : Nat → Nat) (tx : Nat → Int32) (a b : Nat) (S1 : vSt) : Prop := vInv S1.1 S1.2.1 ∧ S1.2.2.1 ≤ 120 ∧ ∃ S0, vLs sz kd pt gl tx [a, b] (vBeg S0 n e) S1
set_option maxHeartbeats 4000000 in
theorem sc_doCommute_ok {Γ : zCtx} {M : List zE} (d : Nat) {sv : Bool} (h0 : ScO M sv) {n m : Nat} {e : Nat → zEnt} {rc : Nat → Nat} {tg : Nat → Nat → Nat} {dy sz kd pt gl : Nat → Nat} {tx : Nat → Int32} (hS : StAt M 1 n e rc tg m dy sz kd pt gl tx) (hn : n ≤ 30) (hc : cOk n e m dy sz kd pt gl) {S0 : vSt} (hV : VeS M 103 S0) {U0 : vSt} (hW : VeS M 113 U0) (x y : Int32) : ZM Γ (d + 7) m_sc_doCommute [.ref 0, .int x, .int y] M (fun M1 v => ∃ S U, VeS M1 103 S ∧ VeS M1 113 U ∧ zFr M M1 103 20 ∧ ((¬ (hasP m x = true ∧ hasP m y = true) ∧ v = some (.int (-3))) ∨ ∃ j k, j < m ∧ k < m ∧ x = nI j ∧ y = nI k ∧ vTw n e sz kd pt gl tx j k S ∧ vTw n e sz kd pt gl tx k j U ∧ v = some (.int (nI (if same S.1 U.1 S.2.1 U.2.1 = true then 1 else 0))))) := by
  refine ZM.of mk_sc_doCommute (Nat.le_of_ble_eq_true rfl) ?_
  refine Z_aload_n d_sc_doCommute_0 rfl ?_
  refine Z_get d_sc_doCommute_1 lf_sc_12 h0 rfl ?_
  refine Z_get d_sc_doCommute_4 lf_sc_107 hS.1 rfl ?_
  refine Z_iload_n d_sc_doCommute_7 rfl ?_
  refine zVe (As := [.int x]) (by omega) d_sc_doCommute_8 lm_sc_126 hS.2.2.2.2.2.1 rfl rfl (Nat.le_of_ble_eq_true rfl) (am_hasX (d + 5) hS.2.2.2.2.2 hc.1 x) ?_
  have hle8 := b10_lt (x := hasP m x)
  refine Zn_if_eq (tgt := 28) d_sc_doCommute_11 (by decide) (by omega) (fun h11 => ?_) (fun h11 => ?_)
  · skip
    have t11 : hasP m x = false := b10_f h11
    refine Zn_bipush (-3) d_sc_doCommute_28 (by decide) ?_
    refine Z_iret d_sc_doCommute_30 rfl ?_
    refine ⟨S0, U0, hV, hW, zFr.rf, Or.inl ⟨fun z => ?_, rfl⟩⟩
    exact absurd (t11.symm.trans z.1) (by decide)
  · skip
    have t11 : hasP m x = true := b10_t h11
    obtain ⟨j, hj, hj9, rfl⟩ := hasP_t t11
    refine Z_aload_n d_sc_doCommute_14 rfl ?_
    refine Z_get d_sc_doCommute_15 lf_sc_12 h0 rfl ?_
    refine Z_get d_sc_doCommute_18 lf_sc_107 hS.1 rfl ?_
    refine Z_iload_n d_sc_doCommute_21 rfl ?_
    refine zVe (As := [.int y]) (by omega) d_sc_doCommute_22 lm_sc_126 hS.2.2.2.2.2.1 rfl rfl (Nat.le_of_ble_eq_true rfl) (am_hasX (d + 5) hS.2.2.2.2.2 hc.1 y) ?_
    have hle22 := b10_lt (x := hasP m y)
    refine Zn_if_ne (tgt := 31) d_sc_doCommute_25 (by decide) (by omega) (fun h25 => ?_) (fun h25 => ?_)
    · skip
      have t25 : hasP m y = true := b10_t h25
      obtain ⟨k, hk, hk9, rfl⟩ := hasP_t t25
      refine Z_aload_n d_sc_doCommute_31 rfl ?_
      refine Z_get d_sc_doCommute_32 lf_sc_40 h0 rfl ?_
      refine Z_aload_n d_sc_doCommute_35 rfl ?_
      refine Z_get d_sc_doCommute_36 lf_sc_12 h0 rfl ?_
      refine Z_iload_n d_sc_doCommute_39 rfl ?_
      refine Z_iload_n d_sc_doCommute_40 rfl ?_
      refine zV (As := [.ref 1, .int (nI j), .int (nI k)]) (by omega) d_sc_doCommute_41 lm_sc_207 hV.1 rfl rfl (Nat.le_of_ble_eq_true rfl) (ver_two_ok d hV (by omega) hS hn (by omega) (by omega) hc.1 hc.2.1 hc.2.2.1 hc.2.2.2.1 vPres_all hc.2.2.2.2 hj hk) (fun M1 v hq hlen => ?_)
      obtain ⟨rfl, S, hV1, hF1, hi1, hq1, hls1⟩ := hq
      replace h0 := h0.fr hF1 (by omega)
      replace hS := hS.fr hF1 (by omega)
      replace hV := hV1
      replace hW := hW.fr hF1 (by omega)
      refine Z_aload_n d_sc_doCommute_44 rfl ?_
      refine Z_get d_sc_doCommute_45 lf_sc_44 h0 rfl ?_
      refine Z_aload_n d_sc_doCommute_48 rfl ?_
      refine Z_get d_sc_doCommute_49 lf_sc_12 h0 rfl ?_
      refine Z_iload_n d_sc_doCommute_52 rfl ?_
      refine Z_iload_n d_sc_doCommute_53 rfl ?_
      refine zV (As := [.ref 1, .int (nI k), .int (nI j)]) (by omega) d_sc_doCommute_54 lm_sc_207 hW.1 rfl rfl (Nat.le_of_ble_eq_true rfl) (ver_two_ok d hW (by omega) hS hn (by omega) (by omega) hc.1 hc.2.1 hc.2.2.1 hc.2.2.2.1 vPres_all hc.2.2.2.2 hk hj) (fun M2 v hq hlen => ?_)
      obtain ⟨rfl, U, hV2, hF2, hi2, hq2, hls2⟩ := hq
      replace h0 := h0.fr hF2 (by omega)
      replace hS := hS.fr hF2 (by omega)
      replace hW := hV2
      replace hV := hV.fr hF2 (by omega)
      refine Z_aload_n d_sc_doCommute_57 rfl ?_
      refine Z_get d_sc_doCommute_58 lf_sc_40 h0 rfl ?_
      refine Z_get d_sc_doCommute_61 lf_sc_142 hV.1 rfl ?_
      refine Z_aload_n d_sc_doCommute_64 rfl ?_
      refine Z_get d_sc_doCommute_65 lf_sc_44 h0 rfl ?_
      refine Z_get d_sc_doCommute_68 lf_sc_142 hW.1 rfl ?_
      refine zVe (As := [.ref (113 + 1)]) (by omega) d_sc_doCommute_71 lm_sc_211 hV.2.1.1 rfl rfl (Nat.le_of_ble_eq_true rfl) (pv_isSameResultAs_ok (d + 3) hV.2.1 hW.2.1 hi1.1 hi2.1 hi1.k hi2.k) ?_
      have hle := b10_lt (x := same S.1 U.1 S.2.1 U.2.1)
      refine Zn_if_eq (tgt := 81) d_sc_doCommute_74 (by decide) (by omega) (fun h74 => ?_) (fun h74 => ?_)
      · skip
        have t74 := b10_f h74
        refine Zn_iconst (nI 0) d_sc_doCommute_81 (by decide) ?_
        refine Z_iret d_sc_doCommute_82 rfl ?_
        exact ⟨S, U, hV, hW, (hF1.wide (by omega) (by omega)).trans (hF2.wide (by omega) (by omega)), Or.inr ⟨j, k, hj, hk, rfl, rfl, ⟨hi1, hq1, _, hls1⟩, ⟨hi2, hq2, _, hls2⟩, by rw [t74]; rfl⟩⟩
      · skip
        have t74 := b10_t h74
        refine Zn_iconst (nI 1) d_sc_doCommute_77 (by decide) ?_
        refine Z_goto (tgt := 82) d_sc_doCommute_78 (by decide) ?_
        refine Z_iret d_sc_doCommute_82 rfl ?_
        exact ⟨S, U, hV, hW, (hF1.wide (by omega) (by omega)).trans (hF2.wide (by omega) (by omega)), Or.inr ⟨j, k, hj, hk, rfl, rfl, ⟨hi1, hq1, _, hls1⟩, ⟨hi2, hq2, _, hls2⟩, by rw [t74]; rfl⟩⟩
    · skip
      have t25 : hasP m y = false := b10_f h25
      refine Zn_bipush (-3) d_sc_doCommute_28 (by decide) ?_
      refine Z_iret d_sc_doCommute_30 rfl ?_
      refine ⟨S0, U0, hV, hW, zFr.rf, Or.inl ⟨fun z => ?_, rfl⟩⟩
      exact absurd (t25.symm.trans z.2) (by decide)
def qSh (dv : Int64) (P : Nat) : Nat → Int64 → Nat → Int64 × Nat
  | 0, s, k => (s, k)
  | f + 1, s, k => if 0 ≤ lg_cmp s (dv <<< ((nI (P - 1)).toInt64 &&& 63)) then (s, k) else qSh dv P f (s <<< ((nI 1).toInt64 &&& 63)) (k + 1)
def qMa (dv s : Int64) : Int64 := if 0 < lg_cmp (2 * (s - s / dv * dv)) dv then s / dv + 1 else if lg_cmp (2 * (s - s / dv * dv)) dv = 0 then (if lg_cmp (s / dv &&& 1) 1 = 0 then s / dv + 1 else s / dv) else s / dv
def qRs (dv : Int64) (P B : Nat) (q : Int64 × Nat) : Int64 := (((nI (P - 1) - nI q.2 + nI B).toInt64 - 1) <<< ((nI (P - 1)).toInt64 &&& 63)) + qMa dv q.1
def qBt (a b P B : Nat) : Int64 := if 0 < a then (if 0 < b then qRs (nI b).toInt64 P B (qSh (nI b).toInt64 P 64 (nI a).toInt64 0) else 0) else 0
set_option maxHeartbeats 4000000 in
theorem sc_q_loop {Γ : zCtx} {M : List zE} (d : Nat) {a b P B : Nat} (hP : 1 ≤ P) (hP2 : P ≤ 64) (hB : B ≤ 2000) (hdv : ¬ (nI b).toInt64 = 0) : ∀ (F f k : Nat) (s : Int64), f < F → k + f = 64 → ∀ Q : List zE → Option Value → Prop, Q M (some (.long (qRs (nI b).toInt64 P B (qSh (nI b).toInt64 P f s k)))) → Z Γ (zRm (d + 1) m_sc_quotientBits) m_sc_quotientBits (zPh Γ m_sc_quotientBits Q) 0 0 21 [some (.int (nI a)), some (.int (nI b)), some (.int (nI P)), some (.int (nI B)), some (.long ((nI b).toInt64)), none, some (.long s), none, some (.int (nI k)), none, none, none, none, none, none] [] M := by
  intro F
  induction F with
  | zero => intro f k s h; exact absurd h (by omega)
  | succ F ih0 =>
    intro f k s hf hk Q hQ
    have ih := fun (g : Nat) => ih0 g
    refine Z_iload d_sc_quotientBits_21 rfl ?_
    refine Zn_bipush (nI 64) d_sc_quotientBits_23 (by decide) ?_
    refine Zn_icmp_ge (tgt := 52) d_sc_quotientBits_25 (by decide) (by omega) (by omega) (fun h25 => ?_) (fun h25 => ?_)
    · skip
      obtain rfl : f = 0 := by omega
      have hs : qSh (nI b).toInt64 P 0 s k = (s, k) := rfl
      refine Z_lload d_sc_quotientBits_52 rfl ?_
      refine Z_lload d_sc_quotientBits_54 rfl ?_
      refine Z_ldiv d_sc_quotientBits_56 hdv ?_
      refine Zn_lstore [some (.int (nI a)), some (.int (nI b)), some (.int (nI P)), some (.int (nI B)), some (.long ((nI b).toInt64)), none, some (.long s), none, some (.int (nI k)), some (.long (s / ((nI b).toInt64))), none, none, none, none, none] d_sc_quotientBits_57 (by decide) rfl ?_
      refine Z_ldc2 wk_sc_259 d_sc_quotientBits_59 ?_
      refine Z_lload d_sc_quotientBits_62 rfl ?_
      refine Z_lload d_sc_quotientBits_64 rfl ?_
      refine Z_lrem d_sc_quotientBits_66 hdv ?_
      refine Z_lmul d_sc_quotientBits_67 ?_
      refine Zn_lstore [some (.int (nI a)), some (.int (nI b)), some (.int (nI P)), some (.int (nI B)), some (.long ((nI b).toInt64)), none, some (.long s), none, some (.int (nI k)), some (.long (s / ((nI b).toInt64))), none, some (.long (2 * (s - s / ((nI b).toInt64) * ((nI b).toInt64)))), none, none, none] d_sc_quotientBits_68 (by decide) rfl ?_
      refine Z_lload d_sc_quotientBits_70 rfl ?_
      refine Z_lload d_sc_quotientBits_72 rfl ?_
      refine Z_lcmp d_sc_quotientBits_74 ?_
      refine Z_if_gt (tgt := 95) d_sc_quotientBits_75 (by decide) (fun h75 => ?_) (fun h75 => ?_)
      · skip
        skip
        refine Z_lload d_sc_quotientBits_95 rfl ?_
        refine Zn_lconst (1) d_sc_quotientBits_97 (by decide) ?_
        refine Z_ladd d_sc_quotientBits_98 ?_
        refine Zn_lstore [some (.int (nI a)), some (.int (nI b)), some (.int (nI P)), some (.int (nI B)), some (.long ((nI b).toInt64)), none, some (.long s), none, some (.int (nI k)), some (.long ((s / ((nI b).toInt64)) + 1)), none, some (.long (2 * (s - s / ((nI b).toInt64) * ((nI b).toInt64)))), none, none, none] d_sc_quotientBits_99 (by decide) rfl ?_
        refine Z_iload_n d_sc_quotientBits_101 rfl ?_
        refine Zn_iconst (nI 1) d_sc_quotientBits_102 (by decide) ?_
        refine Zn_isub d_sc_quotientBits_103 (by omega) ?_
        refine Z_iload d_sc_quotientBits_104 rfl ?_
        refine Z_isub d_sc_quotientBits_106 ?_
        refine Z_iload_n d_sc_quotientBits_107 rfl ?_
        refine Z_iadd d_sc_quotientBits_108 ?_
        refine Z_i2l d_sc_quotientBits_109 ?_
        refine Zn_lstore [some (.int (nI a)), some (.int (nI b)), some (.int (nI P)), some (.int (nI B)), some (.long ((nI b).toInt64)), none, some (.long s), none, some (.int (nI k)), some (.long ((s / ((nI b).toInt64)) + 1)), none, some (.long (2 * (s - s / ((nI b).toInt64) * ((nI b).toInt64)))), none, some (.long ((((nI (P - 1)) - (nI k)) + (nI B)).toInt64)), none] d_sc_quotientBits_110 (by decide) rfl ?_
        refine Z_lload d_sc_quotientBits_112 rfl ?_
        refine Zn_lconst (1) d_sc_quotientBits_114 (by decide) ?_
        refine Z_lsub d_sc_quotientBits_115 ?_
        refine Z_iload_n d_sc_quotientBits_116 rfl ?_
        refine Zn_iconst (nI 1) d_sc_quotientBits_117 (by decide) ?_
        refine Zn_isub d_sc_quotientBits_118 (by omega) ?_
        refine Z_lshl d_sc_quotientBits_119 ?_
        refine Z_lload d_sc_quotientBits_120 rfl ?_
        refine Z_ladd d_sc_quotientBits_122 ?_
        refine Z_lret d_sc_quotientBits_123 rfl ?_
        have hz : qMa (nI b).toInt64 s = (s / ((nI b).toInt64)) + 1 := by
          unfold qMa
          rw [if_pos h75]
        skip
        rw [hs]at hQ
        unfold qRs at hQ
        rw [hz] at hQ
        exact hQ
      · skip
        skip
        refine Z_lload d_sc_quotientBits_78 rfl ?_
        refine Z_lload d_sc_quotientBits_80 rfl ?_
        refine Z_lcmp d_sc_quotientBits_82 ?_
        refine Z_if_ne (tgt := 101) d_sc_quotientBits_83 (by decide) (fun h83 => ?_) (fun h83 => ?_)
        · skip
          skip
          refine Z_iload_n d_sc_quotientBits_101 rfl ?_
          refine Zn_iconst (nI 1) d_sc_quotientBits_102 (by decide) ?_
          refine Zn_isub d_sc_quotientBits_103 (by omega) ?_
          refine Z_iload d_sc_quotientBits_104 rfl ?_
          refine Z_isub d_sc_quotientBits_106 ?_
          refine Z_iload_n d_sc_quotientBits_107 rfl ?_
          refine Z_iadd d_sc_quotientBits_108 ?_
          refine Z_i2l d_sc_quotientBits_109 ?_
          refine Zn_lstore [some (.int (nI a)), some (.int (nI b)), some (.int (nI P)), some (.int (nI B)), some (.long ((nI b).toInt64)), none, some (.long s), none, some (.int (nI k)), some (.long (s / ((nI b).toInt64))), none, some (.long (2 * (s - s / ((nI b).toInt64) * ((nI b).toInt64)))), none, some (.long ((((nI (P - 1)) - (nI k)) + (nI B)).toInt64)), none] d_sc_quotientBits_110 (by decide) rfl ?_
          refine Z_lload d_sc_quotientBits_112 rfl ?_
          refine Zn_lconst (1) d_sc_quotientBits_114 (by decide) ?_
          refine Z_lsub d_sc_quotientBits_115 ?_
          refine Z_iload_n d_sc_quotientBits_116 rfl ?_
          refine Zn_iconst (nI 1) d_sc_quotientBits_117 (by decide) ?_
          refine Zn_isub d_sc_quotientBits_118 (by omega) ?_
          refine Z_lshl d_sc_quotientBits_119 ?_
          refine Z_lload d_sc_quotientBits_120 rfl ?_
          refine Z_ladd d_sc_quotientBits_122 ?_
          refine Z_lret d_sc_quotientBits_123 rfl ?_
          have hz : qMa (nI b).toInt64 s = s / ((nI b).toInt64) := by
            unfold qMa
            rw [if_neg h75, if_neg h83]
          skip
          rw [hs]at hQ
          unfold qRs at hQ
          rw [hz] at hQ
          exact hQ
        · skip
          skip
          refine Z_lload d_sc_quotientBits_86 rfl ?_
          refine Zn_lconst (1) d_sc_quotientBits_88 (by decide) ?_
          refine Z_land d_sc_quotientBits_89 ?_
          refine Zn_lconst (1) d_sc_quotientBits_90 (by decide) ?_
          refine Z_lcmp d_sc_quotientBits_91 ?_
          refine Z_if_ne (tgt := 101) d_sc_quotientBits_92 (by decide) (fun h92 => ?_) (fun h92 => ?_)
          · skip
            skip
            refine Z_iload_n d_sc_quotientBits_101 rfl ?_
            refine Zn_iconst (nI 1) d_sc_quotientBits_102 (by decide) ?_
            refine Zn_isub d_sc_quotientBits_103 (by omega) ?_
            refine Z_iload d_sc_quotientBits_104 rfl ?_
            refine Z_isub d_sc_quotientBits_106 ?_
            refine Z_iload_n d_sc_quotientBits_107 rfl ?_
            refine Z_iadd d_sc_quotientBits_108 ?_
            refine Z_i2l d_sc_quotientBits_109 ?_
            refine Zn_lstore [some (.int (nI a)), some (.int (nI b)), some (.int (nI P)), some (.int (nI B)), some (.long ((nI b).toInt64)), none, some (.long s), none, some (.int (nI k)), some (.long (s / ((nI b).toInt64))), none, some (.long (2 * (s - s / ((nI b).toInt64) * ((nI b).toInt64)))), none, some (.long ((((nI (P - 1)) - (nI k)) + (nI B)).toInt64)), none] d_sc_quotientBits_110 (by decide) rfl ?_
            refine Z_lload d_sc_quotientBits_112 rfl ?_
            refine Zn_lconst (1) d_sc_quotientBits_114 (by decide) ?_
            refine Z_lsub d_sc_quotientBits_115 ?_
            refine Z_iload_n d_sc_quotientBits_116 rfl ?_
            refine Zn_iconst (nI 1) d_sc_quotientBits_117 (by decide) ?_
            refine Zn_isub d_sc_quotientBits_118 (by omega) ?_
            refine Z_lshl d_sc_quotientBits_119 ?_
            refine Z_lload d_sc_quotientBits_120 rfl ?_
            refine Z_ladd d_sc_quotientBits_122 ?_
            refine Z_lret d_sc_quotientBits_123 rfl ?_
            have hz : qMa (nI b).toInt64 s = s / ((nI b).toInt64) := by
              unfold qMa
              rw [if_neg h75, if_pos h83, if_neg h92]
            skip
            rw [hs]at hQ
            unfold qRs at hQ
            rw [hz] at hQ
            exact hQ
          · skip
            skip
            refine Z_lload d_sc_quotientBits_95 rfl ?_
            refine Zn_lconst (1) d_sc_quotientBits_97 (by decide) ?_
            refine Z_ladd d_sc_quotientBits_98 ?_
            refine Zn_lstore [some (.int (nI a)), some (.int (nI b)), some (.int (nI P)), some (.int (nI B)), some (.long ((nI b).toInt64)), none, some (.long s), none, some (.int (nI k)), some (.long ((s / ((nI b).toInt64)) + 1)), none, some (.long (2 * (s - s / ((nI b).toInt64) * ((nI b).toInt64)))), none, none, none] d_sc_quotientBits_99 (by decide) rfl ?_
            refine Z_iload_n d_sc_quotientBits_101 rfl ?_
            refine Zn_iconst (nI 1) d_sc_quotientBits_102 (by decide) ?_
            refine Zn_isub d_sc_quotientBits_103 (by omega) ?_
            refine Z_iload d_sc_quotientBits_104 rfl ?_
            refine Z_isub d_sc_quotientBits_106 ?_
            refine Z_iload_n d_sc_quotientBits_107 rfl ?_
            refine Z_iadd d_sc_quotientBits_108 ?_
            refine Z_i2l d_sc_quotientBits_109 ?_
            refine Zn_lstore [some (.int (nI a)), some (.int (nI b)), some (.int (nI P)), some (.int (nI B)), some (.long ((nI b).toInt64)), none, some (.long s), none, some (.int (nI k)), some (.long ((s / ((nI b).toInt64)) + 1)), none, some (.long (2 * (s - s / ((nI b).toInt64) * ((nI b).toInt64)))), none, some (.long ((((nI (P - 1)) - (nI k)) + (nI B)).toInt64)), none] d_sc_quotientBits_110 (by decide) rfl ?_
            refine Z_lload d_sc_quotientBits_112 rfl ?_
            refine Zn_lconst (1) d_sc_quotientBits_114 (by decide) ?_
            refine Z_lsub d_sc_quotientBits_115 ?_
            refine Z_iload_n d_sc_quotientBits_116 rfl ?_
            refine Zn_iconst (nI 1) d_sc_quotientBits_117 (by decide) ?_
            refine Zn_isub d_sc_quotientBits_118 (by omega) ?_
            refine Z_lshl d_sc_quotientBits_119 ?_
            refine Z_lload d_sc_quotientBits_120 rfl ?_
            refine Z_ladd d_sc_quotientBits_122 ?_
            refine Z_lret d_sc_quotientBits_123 rfl ?_
            have hz : qMa (nI b).toInt64 s = (s / ((nI b).toInt64)) + 1 := by
              unfold qMa
              rw [if_neg h75, if_pos h83, if_pos h92]
            skip
            rw [hs]at hQ
            unfold qRs at hQ
            rw [hz] at hQ
            exact hQ
    · skip
      refine Z_lload d_sc_quotientBits_28 rfl ?_
      refine Z_lload d_sc_quotientBits_30 rfl ?_
      refine Z_iload_n d_sc_quotientBits_32 rfl ?_
      refine Zn_iconst (nI 1) d_sc_quotientBits_33 (by decide) ?_
      refine Zn_isub d_sc_quotientBits_34 (by omega) ?_
      refine Z_lshl d_sc_quotientBits_35 ?_
      refine Z_lcmp d_sc_quotientBits_36 ?_
      refine Z_if_ge (tgt := 52) d_sc_quotientBits_37 (by decide) (fun h37 => ?_) (fun h37 => ?_)
      · skip
        have hs : qSh (nI b).toInt64 P f s k = (s, k) := by
          cases f with
          | zero => rfl
          | succ g => rw [qSh, if_pos h37]
        refine Z_lload d_sc_quotientBits_52 rfl ?_
        refine Z_lload d_sc_quotientBits_54 rfl ?_
        refine Z_ldiv d_sc_quotientBits_56 hdv ?_
        refine Zn_lstore [some (.int (nI a)), some (.int (nI b)), some (.int (nI P)), some (.int (nI B)), some (.long ((nI b).toInt64)), none, some (.long s), none, some (.int (nI k)), some (.long (s / ((nI b).toInt64))), none, none, none, none, none] d_sc_quotientBits_57 (by decide) rfl ?_
        refine Z_ldc2 wk_sc_259 d_sc_quotientBits_59 ?_
        refine Z_lload d_sc_quotientBits_62 rfl ?_
        refine Z_lload d_sc_quotientBits_64 rfl ?_
        refine Z_lrem d_sc_quotientBits_66 hdv ?_
        refine Z_lmul d_sc_quotientBits_67 ?_
        refine Zn_lstore [some (.int (nI a)), some (.int (nI b)), some (.int (nI P)), some (.int (nI B)), some (.long ((nI b).toInt64)), none, some (.long s), none, some (.int (nI k)), some (.long (s / ((nI b).toInt64))), none, some (.long (2 * (s - s / ((nI b).toInt64) * ((nI b).toInt64)))), none, none, none] d_sc_quotientBits_68 (by decide) rfl ?_
        refine Z_lload d_sc_quotientBits_70 rfl ?_
        refine Z_lload d_sc_quotientBits_72 rfl ?_
        refine Z_lcmp d_sc_quotientBits_74 ?_
        refine Z_if_gt (tgt := 95) d_sc_quotientBits_75 (by decide) (fun h75 => ?_) (fun h75 => ?_)
        · skip
          skip
          refine Z_lload d_sc_quotientBits_95 rfl ?_
          refine Zn_lconst (1) d_sc_quotientBits_97 (by decide) ?_
          refine Z_ladd d_sc_quotientBits_98 ?_
          refine Zn_lstore [some (.int (nI a)), some (.int (nI b)), some (.int (nI P)), some (.int (nI B)), some (.long ((nI b).toInt64)), none, some (.long s), none, some (.int (nI k)), some (.long ((s / ((nI b).toInt64)) + 1)), none, some (.long (2 * (s - s / ((nI b).toInt64) * ((nI b).toInt64)))), none, none, none] d_sc_quotientBits_99 (by decide) rfl ?_
          refine Z_iload_n d_sc_quotientBits_101 rfl ?_
          refine Zn_iconst (nI 1) d_sc_quotientBits_102 (by decide) ?_
          refine Zn_isub d_sc_quotientBits_103 (by omega) ?_
          refine Z_iload d_sc_quotientBits_104 rfl ?_
          refine Z_isub d_sc_quotientBits_106 ?_
          refine Z_iload_n d_sc_quotientBits_107 rfl ?_
          refine Z_iadd d_sc_quotientBits_108 ?_
          refine Z_i2l d_sc_quotientBits_109 ?_
          refine Zn_lstore [some (.int (nI a)), some (.int (nI b)), some (.int (nI P)), some (.int (nI B)), some (.long ((nI b).toInt64)), none, some (.long s), none, some (.int (nI k)), some (.long ((s / ((nI b).toInt64)) + 1)), none, some (.long (2 * (s - s / ((nI b).toInt64) * ((nI b).toInt64)))), none, some (.long ((((nI (P - 1)) - (nI k)) + (nI B)).toInt64)), none] d_sc_quotientBits_110 (by decide) rfl ?_
          refine Z_lload d_sc_quotientBits_112 rfl ?_
          refine Zn_lconst (1) d_sc_quotientBits_114 (by decide) ?_
          refine Z_lsub d_sc_quotientBits_115 ?_
          refine Z_iload_n d_sc_quotientBits_116 rfl ?_
          refine Zn_iconst (nI 1) d_sc_quotientBits_117 (by decide) ?_
          refine Zn_isub d_sc_quotientBits_118 (by omega) ?_
          refine Z_lshl d_sc_quotientBits_119 ?_
          refine Z_lload d_sc_quotientBits_120 rfl ?_
          refine Z_ladd d_sc_quotientBits_122 ?_
          refine Z_lret d_sc_quotientBits_123 rfl ?_
          have hz : qMa (nI b).toInt64 s = (s / ((nI b).toInt64)) + 1 := by
            unfold qMa
            rw [if_pos h75]
          skip
          rw [hs]at hQ
          unfold qRs at hQ
          rw [hz] at hQ
          exact hQ
        · skip
          skip
          refine Z_lload d_sc_quotientBits_78 rfl ?_
          refine Z_lload d_sc_quotientBits_80 rfl ?_
          refine Z_lcmp d_sc_quotientBits_82 ?_
          refine Z_if_ne (tgt := 101) d_sc_quotientBits_83 (by decide) (fun h83 => ?_) (fun h83 => ?_)
          · skip
            skip
            refine Z_iload_n d_sc_quotientBits_101 rfl ?_
            refine Zn_iconst (nI 1) d_sc_quotientBits_102 (by decide) ?_
            refine Zn_isub d_sc_quotientBits_103 (by omega) ?_
            refine Z_iload d_sc_quotientBits_104 rfl ?_
            refine Z_isub d_sc_quotientBits_106 ?_
            refine Z_iload_n d_sc_quotientBits_107 rfl ?_
            refine Z_iadd d_sc_quotientBits_108 ?_
            refine Z_i2l d_sc_quotientBits_109 ?_
            refine Zn_lstore [some (.int (nI a)), some (.int (nI b)), some (.int (nI P)), some (.int (nI B)), some (.long ((nI b).toInt64)), none, some (.long s), none, some (.int (nI k)), some (.long (s / ((nI b).toInt64))), none, some (.long (2 * (s - s / ((nI b).toInt64) * ((nI b).toInt64)))), none, some (.long ((((nI (P - 1)) - (nI k)) + (nI B)).toInt64)), none] d_sc_quotientBits_110 (by decide) rfl ?_
            refine Z_lload d_sc_quotientBits_112 rfl ?_
            refine Zn_lconst (1) d_sc_quotientBits_114 (by decide) ?_
            refine Z_lsub d_sc_quotientBits_115 ?_
            refine Z_iload_n d_sc_quotientBits_116 rfl ?_
            refine Zn_iconst (nI 1) d_sc_quotientBits_117 (by decide) ?_
            refine Zn_isub d_sc_quotientBits_118 (by omega) ?_
            refine Z_lshl d_sc_quotientBits_119 ?_
            refine Z_lload d_sc_quotientBits_120 rfl ?_
            refine Z_ladd d_sc_quotientBits_122 ?_
            refine Z_lret d_sc_quotientBits_123 rfl ?_
            have hz : qMa (nI b).toInt64 s = s / ((nI b).toInt64) := by
              unfold qMa
              rw [if_neg h75, if_neg h83]
            skip
            rw [hs]at hQ
            unfold qRs at hQ
            rw [hz] at hQ
            exact hQ
          · skip
            skip
            refine Z_lload d_sc_quotientBits_86 rfl ?_
            refine Zn_lconst (1) d_sc_quotientBits_88 (by decide) ?_
            refine Z_land d_sc_quotientBits_89 ?_
            refine Zn_lconst (1) d_sc_quotientBits_90 (by decide) ?_
            refine Z_lcmp d_sc_quotientBits_91 ?_
            refine Z_if_ne (tgt := 101) d_sc_quotientBits_92 (by decide) (fun h92 => ?_) (fun h92 => ?_)
            · skip
              skip
              refine Z_iload_n d_sc_quotientBits_101 rfl ?_
              refine Zn_iconst (nI 1) d_sc_quotientBits_102 (by decide) ?_
              refine Zn_isub d_sc_quotientBits_103 (by omega) ?_
              refine Z_iload d_sc_quotientBits_104 rfl ?_
              refine Z_isub d_sc_quotientBits_106 ?_
              refine Z_iload_n d_sc_quotientBits_107 rfl ?_
              refine Z_iadd d_sc_quotientBits_108 ?_
              refine Z_i2l d_sc_quotientBits_109 ?_
              refine Zn_lstore [some (.int (nI a)), some (.int (nI b)), some (.int (nI P)), some (.int (nI B)), some (.long ((nI b).toInt64)), none, some (.long s), none, some (.int (nI k)), some (.long (s / ((nI b).toInt64))), none, some (.long (2 * (s - s / ((nI b).toInt64) * ((nI b).toInt64)))), none, some (.long ((((nI (P - 1)) - (nI k)) + (nI B)).toInt64)), none] d_sc_quotientBits_110 (by decide) rfl ?_
              refine Z_lload d_sc_quotientBits_112 rfl ?_
              refine Zn_lconst (1) d_sc_quotientBits_114 (by decide) ?_
              refine Z_lsub d_sc_quotientBits_115 ?_
              refine Z_iload_n d_sc_quotientBits_116 rfl ?_
              refine Zn_iconst (nI 1) d_sc_quotientBits_117 (by decide) ?_
              refine Zn_isub d_sc_quotientBits_118 (by omega) ?_
              refine Z_lshl d_sc_quotientBits_119 ?_
              refine Z_lload d_sc_quotientBits_120 rfl ?_
              refine Z_ladd d_sc_quotientBits_122 ?_
              refine Z_lret d_sc_quotientBits_123 rfl ?_
              have hz : qMa (nI b).toInt64 s = s / ((nI b).toInt64) := by
                unfold qMa
                rw [if_neg h75, if_pos h83, if_neg h92]
              skip
              rw [hs]at hQ
              unfold qRs at hQ
              rw [hz] at hQ
              exact hQ
            · skip
              skip
              refine Z_lload d_sc_quotientBits_95 rfl ?_
              refine Zn_lconst (1) d_sc_quotientBits_97 (by decide) ?_
              refine Z_ladd d_sc_quotientBits_98 ?_
              refine Zn_lstore [some (.int (nI a)), some (.int (nI b)), some (.int (nI P)), some (.int (nI B)), some (.long ((nI b).toInt64)), none, some (.long s), none, some (.int (nI k)), some (.long ((s / ((nI b).toInt64)) + 1)), none, some (.long (2 * (s - s / ((nI b).toInt64) * ((nI b).toInt64)))), none, none, none] d_sc_quotientBits_99 (by decide) rfl ?_
              refine Z_iload_n d_sc_quotientBits_101 rfl ?_
              refine Zn_iconst (nI 1) d_sc_quotientBits_102 (by decide) ?_
              refine Zn_isub d_sc_quotientBits_103 (by omega) ?_
              refine Z_iload d_sc_quotientBits_104 rfl ?_
              refine Z_isub d_sc_quotientBits_106 ?_
              refine Z_iload_n d_sc_quotientBits_107 rfl ?_
              refine Z_iadd d_sc_quotientBits_108 ?_
              refine Z_i2l d_sc_quotientBits_109 ?_
              refine Zn_lstore [some (.int (nI a)), some (.int (nI b)), some (.int (nI P)), some (.int (nI B)), some (.long ((nI b).toInt64)), none, some (.long s), none, some (.int (nI k)), some (.long ((s / ((nI b).toInt64)) + 1)), none, some (.long (2 * (s - s / ((nI b).toInt64) * ((nI b).toInt64)))), none, some (.long ((((nI (P - 1)) - (nI k)) + (nI B)).toInt64)), none] d_sc_quotientBits_110 (by decide) rfl ?_
              refine Z_lload d_sc_quotientBits_112 rfl ?_
              refine Zn_lconst (1) d_sc_quotientBits_114 (by decide) ?_
              refine Z_lsub d_sc_quotientBits_115 ?_
              refine Z_iload_n d_sc_quotientBits_116 rfl ?_
              refine Zn_iconst (nI 1) d_sc_quotientBits_117 (by decide) ?_
              refine Zn_isub d_sc_quotientBits_118 (by omega) ?_
              refine Z_lshl d_sc_quotientBits_119 ?_
              refine Z_lload d_sc_quotientBits_120 rfl ?_
              refine Z_ladd d_sc_quotientBits_122 ?_
              refine Z_lret d_sc_quotientBits_123 rfl ?_
              have hz : qMa (nI b).toInt64 s = (s / ((nI b).toInt64)) + 1 := by
                unfold qMa
                rw [if_neg h75, if_pos h83, if_pos h92]
              skip
              rw [hs]at hQ
              unfold qRs at hQ
              rw [hz] at hQ
              exact hQ
      · skip
        obtain ⟨g, rfl⟩ : ∃ g, f = g + 1 := ⟨f - 1, by omega⟩
        have hs : qSh (nI b).toInt64 P (g + 1) s k = qSh (nI b).toInt64 P g (s <<< ((nI 1).toInt64 &&& 63)) (k + 1) := by rw [qSh, if_neg h37]
        rw [hs] at hQ
        refine Z_lload d_sc_quotientBits_40 rfl ?_
        refine Zn_iconst (nI 1) d_sc_quotientBits_42 (by decide) ?_
        refine Z_lshl d_sc_quotientBits_43 ?_
        refine Zn_lstore [some (.int (nI a)), some (.int (nI b)), some (.int (nI P)), some (.int (nI B)), some (.long ((nI b).toInt64)), none, some (.long (s <<< ((nI 1).toInt64 &&& 63))), none, some (.int (nI k)), none, none, none, none, none, none] d_sc_quotientBits_44 (by decide) rfl ?_
        refine Zn_iinc [some (.int (nI a)), some (.int (nI b)), some (.int (nI P)), some (.int (nI B)), some (.long ((nI b).toInt64)), none, some (.long (s <<< ((nI 1).toInt64 &&& 63))), none, some (.int (nI (k + 1))), none, none, none, none, none, none] (nI (k + 1)) d_sc_quotientBits_46 rfl (by decide) (nI_add k 1) rfl ?_
        refine Z_goto (tgt := 21) d_sc_quotientBits_49 (by decide) ?_
        exact ih0 g _ _ (by omega) (by omega) Q hQ
theorem qdv {b : Nat} (h : 0 < b) (hb : b < 2147483648) : ¬ (nI b).toInt64 = 0 := by
  intro z
  have h1 := congrArg Int64.toInt z
  rw [Int32.toInt_toInt64, nI_toInt hb] at h1
  have h0 : (0 : Int64).toInt = 0 := by decide
  omega
set_option maxHeartbeats 4000000 in
theorem sc_q_ok {Γ : zCtx} {M : List zE} (d : Nat) {a b P B : Nat} (ha : a < 2147483648) (hb : b < 2147483648) (hP : 1 ≤ P) (hP2 : P ≤ 64) (hB : B ≤ 2000) : ZM Γ (d + 1) m_sc_quotientBits [.int (nI a), .int (nI b), .int (nI P), .int (nI B)] M (zEq M (some (.long (qBt a b P B)))) := by
  refine ZM.of mk_sc_quotientBits (Nat.le_of_ble_eq_true rfl) ?_
  rw [show zEn [.int (nI a), .int (nI b), .int (nI P), .int (nI B)] = [some (.int (nI a)), some (.int (nI b)), some (.int (nI P)), some (.int (nI B))] from rfl]
  refine zPad 11 ?_
  show Z _ _ _ _ _ _ _ [some (.int (nI a)), some (.int (nI b)), some (.int (nI P)), some (.int (nI B)), none, none, none, none, none, none, none, none, none, none, none] _ _
  refine Z_iload_n d_sc_quotientBits_0 rfl ?_
  refine Zn_if_le (tgt := 8) d_sc_quotientBits_1 (by decide) (by omega) (fun h1 => ?_) (fun h1 => ?_)
  · skip
    refine Zn_lconst (0) d_sc_quotientBits_8 (by decide) ?_
    refine Z_lret d_sc_quotientBits_9 rfl ?_
    refine ⟨rfl, ?_⟩
    unfold qBt
    first | rw [if_neg (by omega)] | rw [if_pos (by omega), if_neg (by omega)]
  · skip
    refine Z_iload_n d_sc_quotientBits_4 rfl ?_
    refine Zn_if_gt (tgt := 10) d_sc_quotientBits_5 (by decide) (by omega) (fun h5 => ?_) (fun h5 => ?_)
    · skip
      refine Z_iload_n d_sc_quotientBits_10 rfl ?_
      refine Z_i2l d_sc_quotientBits_11 ?_
      refine Zn_lstore [some (.int (nI a)), some (.int (nI b)), some (.int (nI P)), some (.int (nI B)), some (.long ((nI b).toInt64)), none, none, none, none, none, none, none, none, none, none] d_sc_quotientBits_12 (by decide) rfl ?_
      refine Z_iload_n d_sc_quotientBits_14 rfl ?_
      refine Z_i2l d_sc_quotientBits_15 ?_
      refine Zn_lstore [some (.int (nI a)), some (.int (nI b)), some (.int (nI P)), some (.int (nI B)), some (.long ((nI b).toInt64)), none, some (.long ((nI a).toInt64)), none, none, none, none, none, none, none, none] d_sc_quotientBits_16 (by decide) rfl ?_
      refine Zn_iconst (nI 0) d_sc_quotientBits_18 (by decide) ?_
      refine Zn_istore [some (.int (nI a)), some (.int (nI b)), some (.int (nI P)), some (.int (nI B)), some (.long ((nI b).toInt64)), none, some (.long ((nI a).toInt64)), none, some (.int (nI 0)), none, none, none, none, none, none] d_sc_quotientBits_19 (by decide) rfl ?_
      refine sc_q_loop d hP hP2 hB (qdv (by omega) hb) 65 64 0 _ (by omega) (by omega) _ ⟨rfl, ?_⟩
      unfold qBt
      rw [if_pos (by omega), if_pos (by omega)]
    · skip
      refine Zn_lconst (0) d_sc_quotientBits_8 (by decide) ?_
      refine Z_lret d_sc_quotientBits_9 rfl ?_
      refine ⟨rfl, ?_⟩
      unfold qBt
      first | rw [if_neg (by omega)] | rw [if_pos (by omega), if_neg (by omega)]
