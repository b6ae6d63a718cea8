set_option maxHeartbeats 4000000 in
theorem mo_apA_loop {Γ : zCtx} (d : Nat) {kd pt gl : Nat → Nat} {tx : Nat → Int32} {n0 a z : Nat} (ha : a < 8) {c : Nat → vSt} (hch : ∀ i, i < z → vIn kd pt gl tx a i (a * 15 + i) (c i) (c (i + 1))) {M0 : List zE} {s : Nat → Nat} {G : Nat → Nat → Nat} (hz : G 6 a = z) (hsl : ∀ i, i < z → slB kd pt gl tx G (a * 15 + i) (16 * a + i)) (hz9 : z ≤ 15) (hb2 : s 2 + z ≤ 159) (hb4 : s 4 + z ≤ 120)  : ∀ (f : Nat) (i : Nat) (M : List zE) (s1 : Nat → Nat) (G1 : Nat → Nat → Nat) (y : Option Value), i ≤ z → z < i + f → FW M0 M s1 G1 → RV (c i) n0 s1 G1 → cF s s1 G G1 → s1 2 ≤ s 2 + i → s1 4 ≤ s 4 + i → ∀ Q : List zE → Option Value → Prop, (∀ M1 s2 G2, FW M0 M1 s2 G2 → RV (c z) n0 s2 G2 → cF s s2 G G2 → s2 2 ≤ s 2 + z → s2 4 ≤ s 4 + z → Q M1 none) → Z Γ (zRm (d + 6) m_mo_applyAmendment) m_mo_applyAmendment (zPh Γ m_mo_applyAmendment Q) 0 0 2 [some (.ref 123), some (.int (nI a)), some (.int (nI i)), y] [] M := by
  intro f
  induction f with
  | zero => intro i M s1 G1 y hi hf; exact absurd hf (by omega)
  | succ f ih =>
    intro i M s1 G1 y hi hf hF hR hc hi2 hi4 Q hQ
    have e6 : G1 6 = G 6 := hc.2 6 (by decide) (by decide)
    refine Z_iload_n d_mo_applyAmendment_2 rfl ?_
    refine Z_aload_n d_mo_applyAmendment_3 rfl ?_
    refine Z_get (v := .ref 130) d_mo_applyAmendment_4 lf_mo_28 hF.1 rfl ?_
    refine Z_iload_n d_mo_applyAmendment_7 rfl ?_
    refine Zn_iald d_mo_applyAmendment_8 hF.a6 (by omega) (by omega) ?_
    rw [e6, hz]
    skip
    refine Zn_icmp_ge (tgt := 74) d_mo_applyAmendment_9 (by decide) (by omega) (by omega) (fun h9 => ?_) (fun h9 => ?_)
    · skip
      obtain rfl : i = z := by omega
      refine Z_vret d_mo_applyAmendment_74 rfl ?_
      exact hQ _ s1 G1 hF hR hc (by omega) (by omega)
    · skip
      refine Z_aload_n d_mo_applyAmendment_12 rfl ?_
      refine Zn_bipush (nI 16) d_mo_applyAmendment_13 (by decide) ?_
      refine Z_iload_n d_mo_applyAmendment_15 rfl ?_
      refine Zn_imul d_mo_applyAmendment_16 ?_
      refine Z_iload_n d_mo_applyAmendment_17 rfl ?_
      refine Zn_iadd d_mo_applyAmendment_18 ?_
      refine Z_iload_n d_mo_applyAmendment_19 rfl ?_
      obtain ⟨hB, hC, hcn⟩ := hR.B
      obtain ⟨t, l1, l2, l3, g1, g2, g3, hs1, hs2, hs3, hs4, hs5, hs6⟩ := (hsl i (by omega)).cf hc
      refine zV (As := [.int (nI (16 * a + i)), .int (nI a)]) (by omega) d_mo_applyAmendment_20 lm_mo_301 hF.1 rfl rfl (Nat.le_of_ble_eq_true rfl) (mo_apply_ok d hF hB hC hcn (by omega) (by omega) (by omega) hs2 hs1) (fun M1 v hq hlen => ?_)
      obtain ⟨r, s2, G2, rfl, hF, hap⟩ := hq
      obtain ⟨hr5, hr0, hr1, hc2, hN2, hq2⟩ := hR.step (by omega) (hch i (by omega)) hs2 hs3 hs4 hs5 hs6 hap
      refine Zn_istore_n [some (.ref 123), some (.int (nI a)), some (.int (nI i)), some (.int (nI r))] d_mo_applyAmendment_23 (by decide) rfl ?_
      refine Z_iload_n d_mo_applyAmendment_24 rfl ?_
      refine Zn_if_le (tgt := 68) d_mo_applyAmendment_25 (by decide) (by omega) (fun h25 => ?_) (fun h25 => ?_)
      · skip
        refine Zn_iinc [some (.ref 123), some (.int (nI a)), some (.int (nI (i + 1))), some (.int (nI r))] (nI (i + 1)) d_mo_applyAmendment_68 rfl (by decide) (nI_add i 1) rfl ?_
        refine Z_goto (tgt := 2) d_mo_applyAmendment_71 (by decide) ?_
        exact ih (i + 1) _ s2 G2 _ (by omega) (by omega) hF (hr0 h25) (hc.tr hc2) (by omega) (by omega) Q hQ
      · skip
        refine Z_aload_n d_mo_applyAmendment_28 rfl ?_
        refine Z_get (v := .ref 143) d_mo_applyAmendment_29 lf_mo_68 hF.1 rfl ?_
        refine Z_aload_n d_mo_applyAmendment_32 rfl ?_
        refine Z_get (v := .int (nI (s2 4))) d_mo_applyAmendment_33 lf_mo_151 hF.1 rfl ?_
        refine Z_iload_n d_mo_applyAmendment_36 rfl ?_
        refine Zn_iast d_mo_applyAmendment_37 hF.a19 (by omega) (by omega) ?_
        replace hF := hF.p19 (s2 4) a
        refine Z_aload_n d_mo_applyAmendment_38 rfl ?_
        refine Z_get (v := .ref 144) d_mo_applyAmendment_39 lf_mo_71 hF.1 rfl ?_
        refine Z_aload_n d_mo_applyAmendment_42 rfl ?_
        refine Z_get (v := .int (nI (s2 4))) d_mo_applyAmendment_43 lf_mo_151 hF.1 rfl ?_
        refine Z_iload_n d_mo_applyAmendment_46 rfl ?_
        refine Zn_iast d_mo_applyAmendment_47 hF.a20 (by omega) (by omega) ?_
        replace hF := hF.p20 (s2 4) i
        refine Z_aload_n d_mo_applyAmendment_48 rfl ?_
        refine Z_get (v := .ref 145) d_mo_applyAmendment_49 lf_mo_74 hF.1 rfl ?_
        refine Z_aload_n d_mo_applyAmendment_52 rfl ?_
        refine Z_get (v := .int (nI (s2 4))) d_mo_applyAmendment_53 lf_mo_151 hF.1 rfl ?_
        refine Z_iload_n d_mo_applyAmendment_56 rfl ?_
        refine Zn_iast d_mo_applyAmendment_57 hF.a21 (by omega) (by omega) ?_
        replace hF := hF.p21 (s2 4) r
        refine Z_aload_n d_mo_applyAmendment_58 rfl ?_
        refine Z_dup d_mo_applyAmendment_59 rfl ?_
        refine Z_get (v := .int (nI (s2 4))) d_mo_applyAmendment_60 lf_mo_151 hF.1 rfl ?_
        refine Zn_iconst (nI 1) d_mo_applyAmendment_63 (by decide) ?_
        refine Zn_iadd d_mo_applyAmendment_64 ?_
        refine Z_puti d_mo_applyAmendment_65 lf_mo_151 hF.1 rfl rfl (Nat.le_of_ble_eq_true rfl) ?_
        replace hF := hF.u4 ((s2 4) + 1)
        refine Zn_iinc [some (.ref 123), some (.int (nI a)), some (.int (nI (i + 1))), some (.int (nI r))] (nI (i + 1)) d_mo_applyAmendment_68 rfl (by decide) (nI_add i 1) rfl ?_
        refine Z_goto (tgt := 2) d_mo_applyAmendment_71 (by decide) ?_
        refine ih (i + 1) _ _ _ _ (by omega) (by omega) hF (hr1 h25) ((hc.tr hc2).tr ⟨fun j _ _ j4 _ => nup_n j4, fun b hb _ => cfG_n (by omega)⟩) ?_ ?_ Q hQ
        · rw [nup_n (by decide)]; omega
        · rw [nup_s]; omega
set_option maxHeartbeats 4000000 in
theorem mo_apA_ok {Γ : zCtx} {M : List zE} (d : Nat) {kd pt gl : Nat → Nat} {tx : Nat → Int32} {n0 a z : Nat} (ha : a < 8) {c : Nat → vSt} (hch : ∀ i, i < z → vIn kd pt gl tx a i (a * 15 + i) (c i) (c (i + 1))) {M0 : List zE} {s : Nat → Nat} {G : Nat → Nat → Nat} (hF : FW M0 M s G) (hz : G 6 a = z) (hsl : ∀ i, i < z → slB kd pt gl tx G (a * 15 + i) (16 * a + i)) (hz9 : z ≤ 15) (hb2 : s 2 + z ≤ 159) (hb4 : s 4 + z ≤ 120) (hR : RV (c 0) n0 s G)  : ZM Γ (d + 6) m_mo_applyAmendment [.ref 123, .int (nI a)] M (fun M1 v => v = none ∧ ∃ s' G', FW M0 M1 s' G' ∧ RV (c z) n0 s' G' ∧ cF s s' G G' ∧ s' 2 ≤ s 2 + z ∧ s' 4 ≤ s 4 + z) := by
  refine ZM.of mk_mo_applyAmendment (Nat.le_of_ble_eq_true rfl) ?_
  rw [show zEn [.ref 123, .int (nI a)] = [some (.ref 123), some (.int (nI a))] from rfl]
  refine zPad 2 ?_
  show Z _ _ _ _ _ _ _ [some (.ref 123), some (.int (nI a)), none, none] _ _
  refine Zn_iconst (nI 0) d_mo_applyAmendment_0 (by decide) ?_
  refine Zn_istore_n [some (.ref 123), some (.int (nI a)), some (.int (nI 0)), none] d_mo_applyAmendment_1 (by decide) rfl ?_
  exact mo_apA_loop d ha hch hz hsl hz9 hb2 hb4 (z + 1) 0 _ s G _ (by omega) (by omega) hF hR cF.rf (by omega) (by omega) _ (fun M1 s2 G2 a1 a2 a3 a4 a5 => ⟨rfl, s2, G2, a1, a2, a3, a4, a5⟩)
set_option maxHeartbeats 4000000 in
theorem mo_nextDay_loop {Γ : zCtx} (d : Nat) {M : List zE} {M0 : List zE} {s : Nat → Nat} {G : Nat → Nat → Nat} (hF : FW M0 M s G) {x y : Nat} (hx : x ≤ 10001) (hy : y ≤ 10001) (hm : s 1 ≤ 8) (hd : ∀ i, i < s 1 → G 5 i ≤ 9999)  : ∀ (f : Nat) (i : Nat) (y5 : Option Value), i ≤ s 1 → s 1 < i + f → ∀ Q : List zE → Option Value → Prop, Q M (some (.int (oI (ndF (G 5) x y (s 1)) (-1)))) → Z Γ (zRm (d + 1) m_mo_nextDay) m_mo_nextDay (zPh Γ m_mo_nextDay Q) 0 0 5 [some (.ref 123), some (.int (mI x)), some (.int (mI y)), some (.int (oI (ndF (G 5) x y i) (-1))), some (.int (nI i)), y5] [] M := by
  intro f
  induction f with
  | zero => intro i y5 hi hf; exact absurd hf (by omega)
  | succ f ih =>
    intro i y5 hi hf Q hQ
    rcases ho : ndF (G 5) x y i with _ | b
    · skip
      refine Z_iload d_mo_nextDay_5 rfl ?_
      refine Z_aload_n d_mo_nextDay_7 rfl ?_
      refine Z_get (v := .int (nI (s 1))) d_mo_nextDay_8 lf_mo_209 hF.1 rfl ?_
      refine Zn_icmp_ge (tgt := 81) d_mo_nextDay_11 (by decide) (by omega) (by omega) (fun h11 => ?_) (fun h11 => ?_)
      · skip
        obtain rfl : i = s 1 := by omega
        refine Z_iload_n d_mo_nextDay_81 rfl ?_
        refine Z_iret d_mo_nextDay_82 rfl ?_
        rw [ho] at hQ
        exact hQ
      · skip
        have hdi := hd i (by omega)
        refine Z_aload_n d_mo_nextDay_14 rfl ?_
        refine Z_get (v := .ref 129) d_mo_nextDay_15 lf_mo_25 hF.1 rfl ?_
        refine Z_iload d_mo_nextDay_18 rfl ?_
        refine Zn_iald d_mo_nextDay_20 hF.a5 (by omega) (by omega) ?_
        refine Z_iload_n d_mo_nextDay_21 rfl ?_
        refine Z_icmp_le (tgt := 40) d_mo_nextDay_22 (by decide) (fun h22 => ?_) (fun h22 => ?_)
        · skip
          have h22 : ¬ x ≤ G 5 i := fun z => absurd ((mI_le (a := G 5 i) (by omega) (by omega)).mp h22) (by omega)
          refine Zn_iconst (nI 0) d_mo_nextDay_40 (by decide) ?_
          refine Zn_istore [some (.ref 123), some (.int (mI x)), some (.int (mI y)), some (.int (-1)), some (.int (nI i)), some (.int (nI 0))] d_mo_nextDay_41 (by decide) rfl ?_
          refine Z_iload d_mo_nextDay_43 rfl ?_
          refine Zn_if_eq (a := 0) (tgt := 73) d_mo_nextDay_45 (by decide) (by decide) (fun _ => ?_) (fun h => absurd h (by decide))
          refine Z_iload_n d_mo_nextDay_73 rfl ?_
          refine Zn_istore_n [some (.ref 123), some (.int (mI x)), some (.int (mI y)), some (.int (-1)), some (.int (nI i)), some (.int (nI 0))] d_mo_nextDay_74 (by decide) rfl ?_
          refine Zn_iinc [some (.ref 123), some (.int (mI x)), some (.int (mI y)), some (.int (-1)), some (.int (nI (i + 1))), some (.int (nI 0))] (nI (i + 1)) d_mo_nextDay_75 rfl (by decide) (nI_add i 1) rfl ?_
          refine Z_goto (tgt := 5) d_mo_nextDay_78 (by decide) ?_
          have e : ndF (G 5) x y (i + 1) = none := by
            rw [ndF_s, ho]
            first | exact if_pos ⟨h22, h33, rfl⟩ | exact if_pos ⟨h22, h33, decide_eq_true (by omega)⟩ | exact if_neg (fun z => h22 z.1) | exact if_neg (fun z => h33 z.2.1) | exact if_neg (fun z => by have := of_decide_eq_true z.2.2; omega)
          have hih := ih (i + 1) (some (.int (nI 0))) (by omega) (by omega) Q hQ
          rw [e] at hih
          exact hih
        · skip
          have h22 : x ≤ G 5 i := by
            rcases Nat.lt_or_ge (G 5 i) x with z | z
            · exact absurd ((mI_le (by omega) (by omega)).mpr z) h22
            · exact z
          refine Z_aload_n d_mo_nextDay_25 rfl ?_
          refine Z_get (v := .ref 129) d_mo_nextDay_26 lf_mo_25 hF.1 rfl ?_
          refine Z_iload d_mo_nextDay_29 rfl ?_
          refine Zn_iald d_mo_nextDay_31 hF.a5 (by omega) (by omega) ?_
          refine Z_iload_n d_mo_nextDay_32 rfl ?_
          refine Z_icmp_gt (tgt := 40) d_mo_nextDay_33 (by decide) (fun h33 => ?_) (fun h33 => ?_)
          · skip
            have h33 : ¬ G 5 i < y := fun z => absurd ((mI_le (a := G 5 i) (by omega) (by omega)).mpr z) (Int32.not_le.mpr h33)
            refine Zn_iconst (nI 0) d_mo_nextDay_40 (by decide) ?_
            refine Zn_istore [some (.ref 123), some (.int (mI x)), some (.int (mI y)), some (.int (-1)), some (.int (nI i)), some (.int (nI 0))] d_mo_nextDay_41 (by decide) rfl ?_
            refine Z_iload d_mo_nextDay_43 rfl ?_
            refine Zn_if_eq (a := 0) (tgt := 73) d_mo_nextDay_45 (by decide) (by decide) (fun _ => ?_) (fun h => absurd h (by decide))
            refine Z_iload_n d_mo_nextDay_73 rfl ?_
            refine Zn_istore_n [some (.ref 123), some (.int (mI x)), some (.int (mI y)), some (.int (-1)), some (.int (nI i)), some (.int (nI 0))] d_mo_nextDay_74 (by decide) rfl ?_
            refine Zn_iinc [some (.ref 123), some (.int (mI x)), some (.int (mI y)), some (.int (-1)), some (.int (nI (i + 1))), some (.int (nI 0))] (nI (i + 1)) d_mo_nextDay_75 rfl (by decide) (nI_add i 1) rfl ?_
            refine Z_goto (tgt := 5) d_mo_nextDay_78 (by decide) ?_
            have e : ndF (G 5) x y (i + 1) = none := by
              rw [ndF_s, ho]
              first | exact if_pos ⟨h22, h33, rfl⟩ | exact if_pos ⟨h22, h33, decide_eq_true (by omega)⟩ | exact if_neg (fun z => h22 z.1) | exact if_neg (fun z => h33 z.2.1) | exact if_neg (fun z => by have := of_decide_eq_true z.2.2; omega)
            have hih := ih (i + 1) (some (.int (nI 0))) (by omega) (by omega) Q hQ
            rw [e] at hih
            exact hih
          · skip
            have h33 : G 5 i < y := (mI_le (a := G 5 i) (by omega) (by omega)).mp (Int32.not_lt.mp h33)
            refine Zn_iconst (nI 1) d_mo_nextDay_36 (by decide) ?_
            refine Z_goto (tgt := 41) d_mo_nextDay_37 (by decide) ?_
            refine Zn_istore [some (.ref 123), some (.int (mI x)), some (.int (mI y)), some (.int (-1)), some (.int (nI i)), some (.int (nI 1))] d_mo_nextDay_41 (by decide) rfl ?_
            refine Z_iload d_mo_nextDay_43 rfl ?_
            refine Zn_if_eq (a := 1) (tgt := 73) d_mo_nextDay_45 (by decide) (by decide) (fun h => absurd h (by decide)) (fun _ => ?_)
            refine Z_iload_n d_mo_nextDay_48 rfl ?_
            refine Z_if_lt (tgt := 63) d_mo_nextDay_49 (by decide) (fun h49 => ?_) (fun h49 => ?_)
            · skip
              skip
              refine Z_aload_n d_mo_nextDay_63 rfl ?_
              refine Z_get (v := .ref 129) d_mo_nextDay_64 lf_mo_25 hF.1 rfl ?_
              refine Z_iload d_mo_nextDay_67 rfl ?_
              refine Zn_iald d_mo_nextDay_69 hF.a5 (by omega) (by omega) ?_
              refine Z_goto (tgt := 74) d_mo_nextDay_70 (by decide) ?_
              refine Zn_istore_n [some (.ref 123), some (.int (mI x)), some (.int (mI y)), some (.int (nI (G 5 i))), some (.int (nI i)), some (.int (nI 1))] d_mo_nextDay_74 (by decide) rfl ?_
              refine Zn_iinc [some (.ref 123), some (.int (mI x)), some (.int (mI y)), some (.int (nI (G 5 i))), some (.int (nI (i + 1))), some (.int (nI 1))] (nI (i + 1)) d_mo_nextDay_75 rfl (by decide) (nI_add i 1) rfl ?_
              refine Z_goto (tgt := 5) d_mo_nextDay_78 (by decide) ?_
              have e : ndF (G 5) x y (i + 1) = some (G 5 i) := by
                rw [ndF_s, ho]
                first | exact if_pos ⟨h22, h33, rfl⟩ | exact if_pos ⟨h22, h33, decide_eq_true (by omega)⟩ | exact if_neg (fun z => h22 z.1) | exact if_neg (fun z => h33 z.2.1) | exact if_neg (fun z => by have := of_decide_eq_true z.2.2; omega)
              have hih := ih (i + 1) (some (.int (nI 1))) (by omega) (by omega) Q hQ
              rw [e] at hih
              exact hih
            · skip
              exact absurd (by decide) h49 -- end
    · skip
      have hbs := (ndF_some ho).2.2.1
      refine Z_iload d_mo_nextDay_5 rfl ?_
      refine Z_aload_n d_mo_nextDay_7 rfl ?_
      refine Z_get (v := .int (nI (s 1))) d_mo_nextDay_8 lf_mo_209 hF.1 rfl ?_
      refine Zn_icmp_ge (tgt := 81) d_mo_nextDay_11 (by decide) (by omega) (by omega) (fun h11 => ?_) (fun h11 => ?_)
      · skip
        obtain rfl : i = s 1 := by omega
        refine Z_iload_n d_mo_nextDay_81 rfl ?_
        refine Z_iret d_mo_nextDay_82 rfl ?_
        rw [ho] at hQ
        exact hQ
      · skip
        have hdi := hd i (by omega)
        refine Z_aload_n d_mo_nextDay_14 rfl ?_
        refine Z_get (v := .ref 129) d_mo_nextDay_15 lf_mo_25 hF.1 rfl ?_
        refine Z_iload d_mo_nextDay_18 rfl ?_
        refine Zn_iald d_mo_nextDay_20 hF.a5 (by omega) (by omega) ?_
        refine Z_iload_n d_mo_nextDay_21 rfl ?_
        refine Z_icmp_le (tgt := 40) d_mo_nextDay_22 (by decide) (fun h22 => ?_) (fun h22 => ?_)
        · skip
          have h22 : ¬ x ≤ G 5 i := fun z => absurd ((mI_le (a := G 5 i) (by omega) (by omega)).mp h22) (by omega)
          refine Zn_iconst (nI 0) d_mo_nextDay_40 (by decide) ?_
          refine Zn_istore [some (.ref 123), some (.int (mI x)), some (.int (mI y)), some (.int (nI b)), some (.int (nI i)), some (.int (nI 0))] d_mo_nextDay_41 (by decide) rfl ?_
          refine Z_iload d_mo_nextDay_43 rfl ?_
          refine Zn_if_eq (a := 0) (tgt := 73) d_mo_nextDay_45 (by decide) (by decide) (fun _ => ?_) (fun h => absurd h (by decide))
          refine Z_iload_n d_mo_nextDay_73 rfl ?_
          refine Zn_istore_n [some (.ref 123), some (.int (mI x)), some (.int (mI y)), some (.int (nI b)), some (.int (nI i)), some (.int (nI 0))] d_mo_nextDay_74 (by decide) rfl ?_
          refine Zn_iinc [some (.ref 123), some (.int (mI x)), some (.int (mI y)), some (.int (nI b)), some (.int (nI (i + 1))), some (.int (nI 0))] (nI (i + 1)) d_mo_nextDay_75 rfl (by decide) (nI_add i 1) rfl ?_
          refine Z_goto (tgt := 5) d_mo_nextDay_78 (by decide) ?_
          have e : ndF (G 5) x y (i + 1) = some (b) := by
            rw [ndF_s, ho]
            first | exact if_pos ⟨h22, h33, rfl⟩ | exact if_pos ⟨h22, h33, decide_eq_true (by omega)⟩ | exact if_neg (fun z => h22 z.1) | exact if_neg (fun z => h33 z.2.1) | exact if_neg (fun z => by have := of_decide_eq_true z.2.2; omega)
          have hih := ih (i + 1) (some (.int (nI 0))) (by omega) (by omega) Q hQ
          rw [e] at hih
          exact hih
        · skip
          have h22 : x ≤ G 5 i := by
            rcases Nat.lt_or_ge (G 5 i) x with z | z
            · exact absurd ((mI_le (by omega) (by omega)).mpr z) h22
            · exact z
          refine Z_aload_n d_mo_nextDay_25 rfl ?_
          refine Z_get (v := .ref 129) d_mo_nextDay_26 lf_mo_25 hF.1 rfl ?_
          refine Z_iload d_mo_nextDay_29 rfl ?_
          refine Zn_iald d_mo_nextDay_31 hF.a5 (by omega) (by omega) ?_
          refine Z_iload_n d_mo_nextDay_32 rfl ?_
          refine Z_icmp_gt (tgt := 40) d_mo_nextDay_33 (by decide) (fun h33 => ?_) (fun h33 => ?_)
          · skip
            have h33 : ¬ G 5 i < y := fun z => absurd ((mI_le (a := G 5 i) (by omega) (by omega)).mpr z) (Int32.not_le.mpr h33)
            refine Zn_iconst (nI 0) d_mo_nextDay_40 (by decide) ?_
            refine Zn_istore [some (.ref 123), some (.int (mI x)), some (.int (mI y)), some (.int (nI b)), some (.int (nI i)), some (.int (nI 0))] d_mo_nextDay_41 (by decide) rfl ?_
            refine Z_iload d_mo_nextDay_43 rfl ?_
            refine Zn_if_eq (a := 0) (tgt := 73) d_mo_nextDay_45 (by decide) (by decide) (fun _ => ?_) (fun h => absurd h (by decide))
            refine Z_iload_n d_mo_nextDay_73 rfl ?_
            refine Zn_istore_n [some (.ref 123), some (.int (mI x)), some (.int (mI y)), some (.int (nI b)), some (.int (nI i)), some (.int (nI 0))] d_mo_nextDay_74 (by decide) rfl ?_
            refine Zn_iinc [some (.ref 123), some (.int (mI x)), some (.int (mI y)), some (.int (nI b)), some (.int (nI (i + 1))), some (.int (nI 0))] (nI (i + 1)) d_mo_nextDay_75 rfl (by decide) (nI_add i 1) rfl ?_
            refine Z_goto (tgt := 5) d_mo_nextDay_78 (by decide) ?_
            have e : ndF (G 5) x y (i + 1) = some (b) := by
              rw [ndF_s, ho]
              first | exact if_pos ⟨h22, h33, rfl⟩ | exact if_pos ⟨h22, h33, decide_eq_true (by omega)⟩ | exact if_neg (fun z => h22 z.1) | exact if_neg (fun z => h33 z.2.1) | exact if_neg (fun z => by have := of_decide_eq_true z.2.2; omega)
            have hih := ih (i + 1) (some (.int (nI 0))) (by omega) (by omega) Q hQ
            rw [e] at hih
            exact hih
          · skip
            have h33 : G 5 i < y := (mI_le (a := G 5 i) (by omega) (by omega)).mp (Int32.not_lt.mp h33)
            refine Zn_iconst (nI 1) d_mo_nextDay_36 (by decide) ?_
            refine Z_goto (tgt := 41) d_mo_nextDay_37 (by decide) ?_
            refine Zn_istore [some (.ref 123), some (.int (mI x)), some (.int (mI y)), some (.int (nI b)), some (.int (nI i)), some (.int (nI 1))] d_mo_nextDay_41 (by decide) rfl ?_
            refine Z_iload d_mo_nextDay_43 rfl ?_
            refine Zn_if_eq (a := 1) (tgt := 73) d_mo_nextDay_45 (by decide) (by decide) (fun h => absurd h (by decide)) (fun _ => ?_)
            refine Z_iload_n d_mo_nextDay_48 rfl ?_
            refine Z_if_lt (tgt := 63) d_mo_nextDay_49 (by decide) (fun h49 => ?_) (fun h49 => ?_)
            · skip
              exact absurd h49 (nI_pos (by omega)) -- end
            · skip
              skip
              refine Z_aload_n d_mo_nextDay_52 rfl ?_
              refine Z_get (v := .ref 129) d_mo_nextDay_53 lf_mo_25 hF.1 rfl ?_
              refine Z_iload d_mo_nextDay_56 rfl ?_
              refine Zn_iald d_mo_nextDay_58 hF.a5 (by omega) (by omega) ?_
              refine Z_iload_n d_mo_nextDay_59 rfl ?_
              refine Zn_icmp_ge (tgt := 73) d_mo_nextDay_60 (by decide) (by omega) (by omega) (fun h60 => ?_) (fun h60 => ?_)
              · skip
                refine Z_iload_n d_mo_nextDay_73 rfl ?_
                refine Zn_istore_n [some (.ref 123), some (.int (mI x)), some (.int (mI y)), some (.int (nI b)), some (.int (nI i)), some (.int (nI 1))] d_mo_nextDay_74 (by decide) rfl ?_
                refine Zn_iinc [some (.ref 123), some (.int (mI x)), some (.int (mI y)), some (.int (nI b)), some (.int (nI (i + 1))), some (.int (nI 1))] (nI (i + 1)) d_mo_nextDay_75 rfl (by decide) (nI_add i 1) rfl ?_
                refine Z_goto (tgt := 5) d_mo_nextDay_78 (by decide) ?_
                have e : ndF (G 5) x y (i + 1) = some (b) := by
                  rw [ndF_s, ho]
                  first | exact if_pos ⟨h22, h33, rfl⟩ | exact if_pos ⟨h22, h33, decide_eq_true (by omega)⟩ | exact if_neg (fun z => h22 z.1) | exact if_neg (fun z => h33 z.2.1) | exact if_neg (fun z => by have := of_decide_eq_true z.2.2; omega)
                have hih := ih (i + 1) (some (.int (nI 1))) (by omega) (by omega) Q hQ
                rw [e] at hih
                exact hih
              · skip
                refine Z_aload_n d_mo_nextDay_63 rfl ?_
                refine Z_get (v := .ref 129) d_mo_nextDay_64 lf_mo_25 hF.1 rfl ?_
                refine Z_iload d_mo_nextDay_67 rfl ?_
                refine Zn_iald d_mo_nextDay_69 hF.a5 (by omega) (by omega) ?_
                refine Z_goto (tgt := 74) d_mo_nextDay_70 (by decide) ?_
                refine Zn_istore_n [some (.ref 123), some (.int (mI x)), some (.int (mI y)), some (.int (nI (G 5 i))), some (.int (nI i)), some (.int (nI 1))] d_mo_nextDay_74 (by decide) rfl ?_
                refine Zn_iinc [some (.ref 123), some (.int (mI x)), some (.int (mI y)), some (.int (nI (G 5 i))), some (.int (nI (i + 1))), some (.int (nI 1))] (nI (i + 1)) d_mo_nextDay_75 rfl (by decide) (nI_add i 1) rfl ?_
                refine Z_goto (tgt := 5) d_mo_nextDay_78 (by decide) ?_
                have e : ndF (G 5) x y (i + 1) = some (G 5 i) := by
                  rw [ndF_s, ho]
                  first | exact if_pos ⟨h22, h33, rfl⟩ | exact if_pos ⟨h22, h33, decide_eq_true (by omega)⟩ | exact if_neg (fun z => h22 z.1) | exact if_neg (fun z => h33 z.2.1) | exact if_neg (fun z => by have := of_decide_eq_true z.2.2; omega)
                have hih := ih (i + 1) (some (.int (nI 1))) (by omega) (by omega) Q hQ
                rw [e] at hih
                exact hih
set_option maxHeartbeats 4000000 in
theorem mo_nextDay_ok {Γ : zCtx} {M : List zE} (d : Nat) {M0 : List zE} {s : Nat → Nat} {G : Nat → Nat → Nat} (hF : FW M0 M s G) {x y : Nat} (hx : x ≤ 10001) (hy : y ≤ 10001) (hm : s 1 ≤ 8) (hd : ∀ i, i < s 1 → G 5 i ≤ 9999)  : ZM Γ (d + 1) m_mo_nextDay [.ref 123, .int (mI x), .int (mI y)] M (zEq M (some (.int (oI (ndF (G 5) x y (s 1)) (-1))))) := by
  refine ZM.of mk_mo_nextDay (Nat.le_of_ble_eq_true rfl) ?_
  rw [show zEn [.ref 123, .int (mI x), .int (mI y)] = [some (.ref 123), some (.int (mI x)), some (.int (mI y))] from rfl]
  refine zPad 3 ?_
  show Z _ _ _ _ _ _ _ [some (.ref 123), some (.int (mI x)), some (.int (mI y)), none, none, none] _ _
  refine Zn_iconst (-1) d_mo_nextDay_0 (by decide) ?_
  refine Zn_istore_n [some (.ref 123), some (.int (mI x)), some (.int (mI y)), some (.int (-1)), none, none] d_mo_nextDay_1 (by decide) rfl ?_
  refine Zn_iconst (nI 0) d_mo_nextDay_2 (by decide) ?_
  refine Zn_istore [some (.ref 123), some (.int (mI x)), some (.int (mI y)), some (.int (-1)), some (.int (nI 0)), none] d_mo_nextDay_3 (by decide) rfl ?_
  exact mo_nextDay_loop d hF hx hy hm hd (s 1 + 1) 0 _ (by omega) (by omega) _ ⟨rfl, rfl⟩
