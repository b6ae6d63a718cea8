/-! the contracts of Provisions that write -/
theorem eapp_eq {e e1 e2 e3 e4 e5 : Nat → zEnt} {n i k : Nat} {t o c : Int32} (h1 : e1 = eup e n (sK (e n) k)) (h2 : e2 = eup e1 n (sT (e1 n) t)) (h3 : e3 = eup e2 n (sR (e2 n) false)) (h4 : e4 = eup e3 n (sO (e3 n) o)) (h5 : e5 = eup e4 n (sC (e4 n) c)) : eup e n (k, t, false, o, c) i = e5 i := by
  by_cases hi : i = n
  · subst hi; simp [h1, h2, h3, h4, h5, eup, sK, sT, sR, sO, sC]
  · simp [h1, h2, h3, h4, h5, eup, hi]
set_option maxHeartbeats 4000000 in
theorem pv_append_ok {Γ : zCtx} {M : List zE} (d : Nat) {b n : Nat} {e : Nat → zEnt} (hP : PvAt M b n e) (hn : n < 60) {k : Nat} {t o c : Int32} : ZM Γ (d + 1) m_pv_append [.ref b, .long (lN k), .int t, .int o, .int c] M (fun M1 v => v = none ∧ PvAt M1 b (n + 1) (eup e n (k, t, false, o, c)) ∧ zFr M M1 b 6) := by
  refine ZM.of mk_pv_append (Nat.le_of_ble_eq_true rfl) ?_
  obtain ⟨h0, h1, h2, h3, h4, h5⟩ := id hP
  refine Z_aload_n d_pv_append_0 rfl ?_
  refine Z_get d_pv_append_1 lf_pv_29 (by assumption) rfl ?_
  refine Zn_bipush (nI 60) d_pv_append_4 (by decide) ?_
  refine Zn_icmp_lt (tgt := 10) d_pv_append_6 (by decide) (by omega) (by omega) (fun h6 => ?_) (fun h6 => ?_)
  · skip
    refine Z_aload_n d_pv_append_10 rfl ?_
    refine Z_get d_pv_append_11 lf_pv_9 (by assumption) rfl ?_
    refine Z_aload_n d_pv_append_14 rfl ?_
    refine Z_get d_pv_append_15 lf_pv_29 (by assumption) rfl ?_
    refine Z_lload_n d_pv_append_18 rfl ?_
    refine Zn_last d_pv_append_19 (by assumption) (by omega) (by omega) ?_
    obtain ⟨e_1, he_1⟩ : ∃ x, x = eup e n (sK (e n) k) := ⟨_, rfl⟩
    have hP := hP.putK (j := n) (k := k)
    rw [← he_1] at hP
    obtain ⟨h0, h1, h2, h3, h4, h5⟩ := id hP
    refine Z_aload_n d_pv_append_20 rfl ?_
    refine Z_get d_pv_append_21 lf_pv_15 (by assumption) rfl ?_
    refine Z_aload_n d_pv_append_24 rfl ?_
    refine Z_get d_pv_append_25 lf_pv_29 (by assumption) rfl ?_
    refine Z_iload_n d_pv_append_28 rfl ?_
    refine Zn_iast d_pv_append_29 (by assumption) (by omega) (by omega) ?_
    obtain ⟨e_2, he_2⟩ : ∃ x, x = eup e_1 n (sT (e_1 n) t) := ⟨_, rfl⟩
    have hP := hP.putT (j := n) (x := t)
    rw [← he_2] at hP
    obtain ⟨h0, h1, h2, h3, h4, h5⟩ := id hP
    refine Z_aload_n d_pv_append_30 rfl ?_
    refine Z_get d_pv_append_31 lf_pv_19 (by assumption) rfl ?_
    refine Z_aload_n d_pv_append_34 rfl ?_
    refine Z_get d_pv_append_35 lf_pv_29 (by assumption) rfl ?_
    refine Zn_iconst (nI 0) d_pv_append_38 (by decide) ?_
    refine Zn_zast (x := bI false) d_pv_append_39 (by assumption) (by omega) (by omega) (by first | exact Or.inl rfl | exact Or.inr rfl) ?_
    obtain ⟨e_3, he_3⟩ : ∃ x, x = eup e_2 n (sR (e_2 n) false) := ⟨_, rfl⟩
    have hP := hP.putR (j := n) (x := false)
    rw [← he_3] at hP
    obtain ⟨h0, h1, h2, h3, h4, h5⟩ := id hP
    refine Z_aload_n d_pv_append_40 rfl ?_
    refine Z_get d_pv_append_41 lf_pv_23 (by assumption) rfl ?_
    refine Z_aload_n d_pv_append_44 rfl ?_
    refine Z_get d_pv_append_45 lf_pv_29 (by assumption) rfl ?_
    refine Z_iload d_pv_append_48 rfl ?_
    refine Zn_iast d_pv_append_50 (by assumption) (by omega) (by omega) ?_
    obtain ⟨e_4, he_4⟩ : ∃ x, x = eup e_3 n (sO (e_3 n) o) := ⟨_, rfl⟩
    have hP := hP.putO (j := n) (x := o)
    rw [← he_4] at hP
    obtain ⟨h0, h1, h2, h3, h4, h5⟩ := id hP
    refine Z_aload_n d_pv_append_51 rfl ?_
    refine Z_get d_pv_append_52 lf_pv_26 (by assumption) rfl ?_
    refine Z_aload_n d_pv_append_55 rfl ?_
    refine Z_get d_pv_append_56 lf_pv_29 (by assumption) rfl ?_
    refine Z_iload d_pv_append_59 rfl ?_
    refine Zn_iast d_pv_append_61 (by assumption) (by omega) (by omega) ?_
    obtain ⟨e_5, he_5⟩ : ∃ x, x = eup e_4 n (sC (e_4 n) c) := ⟨_, rfl⟩
    have hP := hP.putC (j := n) (x := c)
    rw [← he_5] at hP
    obtain ⟨h0, h1, h2, h3, h4, h5⟩ := id hP
    refine Z_aload_n d_pv_append_62 rfl ?_
    refine Z_dup d_pv_append_63 rfl ?_
    refine Z_get d_pv_append_64 lf_pv_29 (by assumption) rfl ?_
    refine Zn_iconst (nI 1) d_pv_append_67 (by decide) ?_
    refine Zn_iadd d_pv_append_68 ?_
    refine Z_puti d_pv_append_69 lf_pv_29 (by assumption) rfl rfl (Nat.le_of_ble_eq_true rfl) ?_
    refine Z_vret d_pv_append_72 rfl ?_
    refine ⟨rfl, (hP.putN (n' := n + 1)).ext (fun i => ?_), ?_⟩
    · exact eapp_eq he_1 he_2 he_3 he_4 he_5
    · (repeat (first | exact hF | exact zFr.rf | refine zFr.set ?_ (by omega) (by omega)))
  · skip
    exact absurd hn h6 -- end
def eswp (e : Nat → zEnt) (a c : Nat) : Nat → zEnt := eup (eup e a (e c)) c (e a)
theorem eswp_eq {e e1 e2 e3 e4 e5 e6 e7 e8 e9 e10 : Nat → zEnt} {a c i : Nat} (h1 : e1 = eup e a (sK (e a) (ek (e c)))) (h2 : e2 = eup e1 c (sK (e1 c) (ek (e a)))) (h3 : e3 = eup e2 a (sT (e2 a) (et (e2 c)))) (h4 : e4 = eup e3 c (sT (e3 c) (et (e2 a)))) (h5 : e5 = eup e4 a (sR (e4 a) (er (e4 c)))) (h6 : e6 = eup e5 c (sR (e5 c) (er (e4 a)))) (h7 : e7 = eup e6 a (sO (e6 a) (eo (e6 c)))) (h8 : e8 = eup e7 c (sO (e7 c) (eo (e6 a)))) (h9 : e9 = eup e8 a (sC (e8 a) (ec (e8 c)))) (h10 : e10 = eup e9 c (sC (e9 c) (ec (e8 a)))) : eswp e a c i = e10 i := by
  by_cases g3 : c = a
  · subst g3
    by_cases g1 : i = c
    · subst g1
      simp [h1, h2, h3, h4, h5, h6, h7, h8, h9, h10, eswp, eup, ek, et, er, eo, ec, sK, sT, sR, sO, sC]
    · simp [h1, h2, h3, h4, h5, h6, h7, h8, h9, h10, eswp, eup, g1]
  · have g4 : ¬ a = c := fun q => g3 q.symm
    by_cases g1 : i = c
    · subst g1
      simp [h1, h2, h3, h4, h5, h6, h7, h8, h9, h10, eswp, eup, ek, et, er, eo, ec, sK, sT, sR, sO, sC, g3, g4]
    · by_cases g2 : i = a
      · subst g2
        simp [h1, h2, h3, h4, h5, h6, h7, h8, h9, h10, eswp, eup, ek, et, er, eo, ec, sK, sT, sR, sO, sC, g3, g4]
      · simp [h1, h2, h3, h4, h5, h6, h7, h8, h9, h10, eswp, eup, g1, g2]
set_option maxHeartbeats 4000000 in
theorem pv_swap_ok {Γ : zCtx} {M : List zE} (d : Nat) {b n : Nat} {e : Nat → zEnt} (hP : PvAt M b n e) (hn : n ≤ 60) {a c : Nat} (ha : a < 60) (hc : c < 60) : ZM Γ (d + 1) m_pv_swap [.ref b, .int (nI a), .int (nI c)] M (fun M1 v => v = none ∧ PvAt M1 b n (eswp e a c) ∧ zFr M M1 b 6) := by
  refine ZM.of mk_pv_swap (Nat.le_of_ble_eq_true rfl) ?_
  obtain ⟨h0, h1, h2, h3, h4, h5⟩ := id hP
  rw [show zEn [.ref b, .int (nI a), .int (nI c)] = [some (.ref b), some (.int (nI a)), some (.int (nI c))] from rfl]
  refine zPad 6 ?_
  show Z _ _ _ _ _ _ _ [some (.ref b), some (.int (nI a)), some (.int (nI c)), none, none, none, none, none, none] _ _
  refine Z_aload_n d_pv_swap_0 rfl ?_
  refine Z_get d_pv_swap_1 lf_pv_9 (by assumption) rfl ?_
  refine Z_iload_n d_pv_swap_4 rfl ?_
  refine Zn_lald d_pv_swap_5 (by assumption) (by omega) (by omega) ?_
  refine Zn_lstore_n [some (.ref b), some (.int (nI a)), some (.int (nI c)), some (.long (lN (ek (e a)))), none, none, none, none, none] d_pv_swap_6 (by decide) rfl ?_
  refine Z_aload_n d_pv_swap_7 rfl ?_
  refine Z_get d_pv_swap_8 lf_pv_9 (by assumption) rfl ?_
  refine Z_iload_n d_pv_swap_11 rfl ?_
  refine Z_aload_n d_pv_swap_12 rfl ?_
  refine Z_get d_pv_swap_13 lf_pv_9 (by assumption) rfl ?_
  refine Z_iload_n d_pv_swap_16 rfl ?_
  refine Zn_lald d_pv_swap_17 (by assumption) (by omega) (by omega) ?_
  refine Zn_last d_pv_swap_18 (by assumption) (by omega) (by omega) ?_
  obtain ⟨e_1, he_1⟩ : ∃ x, x = eup e a (sK (e a) (ek (e c))) := ⟨_, rfl⟩
  have hP := hP.putK (j := a) (k := (ek (e c)))
  rw [← he_1] at hP
  obtain ⟨h0, h1, h2, h3, h4, h5⟩ := id hP
  refine Z_aload_n d_pv_swap_19 rfl ?_
  refine Z_get d_pv_swap_20 lf_pv_9 (by assumption) rfl ?_
  refine Z_iload_n d_pv_swap_23 rfl ?_
  refine Z_lload_n d_pv_swap_24 rfl ?_
  refine Zn_last d_pv_swap_25 (by assumption) (by omega) (by omega) ?_
  obtain ⟨e_2, he_2⟩ : ∃ x, x = eup e_1 c (sK (e_1 c) (ek (e a))) := ⟨_, rfl⟩
  have hP := hP.putK (j := c) (k := (ek (e a)))
  rw [← he_2] at hP
  obtain ⟨h0, h1, h2, h3, h4, h5⟩ := id hP
  refine Z_aload_n d_pv_swap_26 rfl ?_
  refine Z_get d_pv_swap_27 lf_pv_15 (by assumption) rfl ?_
  refine Z_iload_n d_pv_swap_30 rfl ?_
  refine Zn_iald d_pv_swap_31 (by assumption) (by omega) (by omega) ?_
  refine Zn_istore [some (.ref b), some (.int (nI a)), some (.int (nI c)), some (.long (lN (ek (e a)))), none, some (.int (et (e_2 a))), none, none, none] d_pv_swap_32 (by decide) rfl ?_
  refine Z_aload_n d_pv_swap_34 rfl ?_
  refine Z_get d_pv_swap_35 lf_pv_15 (by assumption) rfl ?_
  refine Z_iload_n d_pv_swap_38 rfl ?_
  refine Z_aload_n d_pv_swap_39 rfl ?_
  refine Z_get d_pv_swap_40 lf_pv_15 (by assumption) rfl ?_
  refine Z_iload_n d_pv_swap_43 rfl ?_
  refine Zn_iald d_pv_swap_44 (by assumption) (by omega) (by omega) ?_
  refine Zn_iast d_pv_swap_45 (by assumption) (by omega) (by omega) ?_
  obtain ⟨e_3, he_3⟩ : ∃ x, x = eup e_2 a (sT (e_2 a) (et (e_2 c))) := ⟨_, rfl⟩
  have hP := hP.putT (j := a) (x := et (e_2 c))
  rw [← he_3] at hP
  obtain ⟨h0, h1, h2, h3, h4, h5⟩ := id hP
  refine Z_aload_n d_pv_swap_46 rfl ?_
  refine Z_get d_pv_swap_47 lf_pv_15 (by assumption) rfl ?_
  refine Z_iload_n d_pv_swap_50 rfl ?_
  refine Z_iload d_pv_swap_51 rfl ?_
  refine Zn_iast d_pv_swap_53 (by assumption) (by omega) (by omega) ?_
  obtain ⟨e_4, he_4⟩ : ∃ x, x = eup e_3 c (sT (e_3 c) (et (e_2 a))) := ⟨_, rfl⟩
  have hP := hP.putT (j := c) (x := et (e_2 a))
  rw [← he_4] at hP
  obtain ⟨h0, h1, h2, h3, h4, h5⟩ := id hP
  refine Z_aload_n d_pv_swap_54 rfl ?_
  refine Z_get d_pv_swap_55 lf_pv_19 (by assumption) rfl ?_
  refine Z_iload_n d_pv_swap_58 rfl ?_
  refine Zn_zald d_pv_swap_59 (by assumption) (by omega) (by omega) ?_
  refine Zn_istore [some (.ref b), some (.int (nI a)), some (.int (nI c)), some (.long (lN (ek (e a)))), none, some (.int (et (e_2 a))), some (.int (bI (er (e_4 a)))), none, none] d_pv_swap_60 (by decide) rfl ?_
  refine Z_aload_n d_pv_swap_62 rfl ?_
  refine Z_get d_pv_swap_63 lf_pv_19 (by assumption) rfl ?_
  refine Z_iload_n d_pv_swap_66 rfl ?_
  refine Z_aload_n d_pv_swap_67 rfl ?_
  refine Z_get d_pv_swap_68 lf_pv_19 (by assumption) rfl ?_
  refine Z_iload_n d_pv_swap_71 rfl ?_
  refine Zn_zald d_pv_swap_72 (by assumption) (by omega) (by omega) ?_
  refine Zn_zast d_pv_swap_73 (by assumption) (by omega) (by omega) (bI_01 _) ?_
  obtain ⟨e_5, he_5⟩ : ∃ x, x = eup e_4 a (sR (e_4 a) (er (e_4 c))) := ⟨_, rfl⟩
  have hP := hP.putR (j := a) (x := (er (e_4 c)))
  rw [← he_5] at hP
  obtain ⟨h0, h1, h2, h3, h4, h5⟩ := id hP
  refine Z_aload_n d_pv_swap_74 rfl ?_
  refine Z_get d_pv_swap_75 lf_pv_19 (by assumption) rfl ?_
  refine Z_iload_n d_pv_swap_78 rfl ?_
  refine Z_iload d_pv_swap_79 rfl ?_
  refine Zn_zast d_pv_swap_81 (by assumption) (by omega) (by omega) (bI_01 _) ?_
  obtain ⟨e_6, he_6⟩ : ∃ x, x = eup e_5 c (sR (e_5 c) (er (e_4 a))) := ⟨_, rfl⟩
  have hP := hP.putR (j := c) (x := (er (e_4 a)))
  rw [← he_6] at hP
  obtain ⟨h0, h1, h2, h3, h4, h5⟩ := id hP
  refine Z_aload_n d_pv_swap_82 rfl ?_
  refine Z_get d_pv_swap_83 lf_pv_23 (by assumption) rfl ?_
  refine Z_iload_n d_pv_swap_86 rfl ?_
  refine Zn_iald d_pv_swap_87 (by assumption) (by omega) (by omega) ?_
  refine Zn_istore [some (.ref b), some (.int (nI a)), some (.int (nI c)), some (.long (lN (ek (e a)))), none, some (.int (et (e_2 a))), some (.int (bI (er (e_4 a)))), some (.int (eo (e_6 a))), none] d_pv_swap_88 (by decide) rfl ?_
  refine Z_aload_n d_pv_swap_90 rfl ?_
  refine Z_get d_pv_swap_91 lf_pv_23 (by assumption) rfl ?_
  refine Z_iload_n d_pv_swap_94 rfl ?_
  refine Z_aload_n d_pv_swap_95 rfl ?_
  refine Z_get d_pv_swap_96 lf_pv_23 (by assumption) rfl ?_
  refine Z_iload_n d_pv_swap_99 rfl ?_
  refine Zn_iald d_pv_swap_100 (by assumption) (by omega) (by omega) ?_
  refine Zn_iast d_pv_swap_101 (by assumption) (by omega) (by omega) ?_
  obtain ⟨e_7, he_7⟩ : ∃ x, x = eup e_6 a (sO (e_6 a) (eo (e_6 c))) := ⟨_, rfl⟩
  have hP := hP.putO (j := a) (x := eo (e_6 c))
  rw [← he_7] at hP
  obtain ⟨h0, h1, h2, h3, h4, h5⟩ := id hP
  refine Z_aload_n d_pv_swap_102 rfl ?_
  refine Z_get d_pv_swap_103 lf_pv_23 (by assumption) rfl ?_
  refine Z_iload_n d_pv_swap_106 rfl ?_
  refine Z_iload d_pv_swap_107 rfl ?_
  refine Zn_iast d_pv_swap_109 (by assumption) (by omega) (by omega) ?_
  obtain ⟨e_8, he_8⟩ : ∃ x, x = eup e_7 c (sO (e_7 c) (eo (e_6 a))) := ⟨_, rfl⟩
  have hP := hP.putO (j := c) (x := eo (e_6 a))
  rw [← he_8] at hP
  obtain ⟨h0, h1, h2, h3, h4, h5⟩ := id hP
  refine Z_aload_n d_pv_swap_110 rfl ?_
  refine Z_get d_pv_swap_111 lf_pv_26 (by assumption) rfl ?_
  refine Z_iload_n d_pv_swap_114 rfl ?_
  refine Zn_iald d_pv_swap_115 (by assumption) (by omega) (by omega) ?_
  refine Zn_istore [some (.ref b), some (.int (nI a)), some (.int (nI c)), some (.long (lN (ek (e a)))), none, some (.int (et (e_2 a))), some (.int (bI (er (e_4 a)))), some (.int (eo (e_6 a))), some (.int (ec (e_8 a)))] d_pv_swap_116 (by decide) rfl ?_
  refine Z_aload_n d_pv_swap_118 rfl ?_
  refine Z_get d_pv_swap_119 lf_pv_26 (by assumption) rfl ?_
  refine Z_iload_n d_pv_swap_122 rfl ?_
  refine Z_aload_n d_pv_swap_123 rfl ?_
  refine Z_get d_pv_swap_124 lf_pv_26 (by assumption) rfl ?_
  refine Z_iload_n d_pv_swap_127 rfl ?_
  refine Zn_iald d_pv_swap_128 (by assumption) (by omega) (by omega) ?_
  refine Zn_iast d_pv_swap_129 (by assumption) (by omega) (by omega) ?_
  obtain ⟨e_9, he_9⟩ : ∃ x, x = eup e_8 a (sC (e_8 a) (ec (e_8 c))) := ⟨_, rfl⟩
  have hP := hP.putC (j := a) (x := ec (e_8 c))
  rw [← he_9] at hP
  obtain ⟨h0, h1, h2, h3, h4, h5⟩ := id hP
  refine Z_aload_n d_pv_swap_130 rfl ?_
  refine Z_get d_pv_swap_131 lf_pv_26 (by assumption) rfl ?_
  refine Z_iload_n d_pv_swap_134 rfl ?_
  refine Z_iload d_pv_swap_135 rfl ?_
  refine Zn_iast d_pv_swap_137 (by assumption) (by omega) (by omega) ?_
  obtain ⟨e_10, he_10⟩ : ∃ x, x = eup e_9 c (sC (e_9 c) (ec (e_8 a))) := ⟨_, rfl⟩
  have hP := hP.putC (j := c) (x := ec (e_8 a))
  rw [← he_10] at hP
  obtain ⟨h0, h1, h2, h3, h4, h5⟩ := id hP
  refine Z_vret d_pv_swap_138 rfl ?_
  refine ⟨rfl, hP.ext (fun i => ?_), ?_⟩
  · exact eswp_eq he_1 he_2 he_3 he_4 he_5 he_6 he_7 he_8 he_9 he_10
  · (repeat (first | exact hF | exact zFr.rf | refine zFr.set ?_ (by omega) (by omega)))
def rpE (e : Nat → zEnt) (k i0 : Nat) : Nat → zEnt := fun i => if i < i0 ∧ ek (e i) / un (lev k) = k / un (lev k) then sR (e i) true else e i
theorem rp_self {e : Nat → zEnt} {k i : Nat} : rpE e k i i = e i := if_neg (fun q => absurd q.1 (Nat.lt_irrefl i))
theorem rp_step {e : Nat → zEnt} {k i : Nat} (h : ek (e i) / un (lev k) = k / un (lev k)) (j : Nat) : rpE e k (i + 1) j = eup (rpE e k i) i (sR (rpE e k i i) true) j := by
  by_cases hj : j = i
  · subst hj
    rw [eup_s, rp_self]
    exact if_pos ⟨by omega, h⟩
  · rw [eup_n hj]
    unfold rpE
    by_cases h2 : j < i
    · simp only [h2, show j < i + 1 by omega, true_and]
    · simp only [h2, show ¬ j < i + 1 by omega, false_and]
theorem rp_skip {e : Nat → zEnt} {k i : Nat} (h : ¬ ek (e i) / un (lev k) = k / un (lev k)) (j : Nat) : rpE e k (i + 1) j = rpE e k i j := by
  unfold rpE
  by_cases hj : j = i
  · subst hj
    rw [if_neg (fun q => h q.2), if_neg (fun q => h q.2)]
  · by_cases h2 : j < i
    · simp only [h2, show j < i + 1 by omega, true_and]
    · simp only [h2, show ¬ j < i + 1 by omega, false_and]
def cpE (e : Nat → zEnt) (k q i0 : Nat) : Nat → zEnt := fun i => if i < i0 ∧ ek (e i) / un (lev k) = k / un (lev k) then sK (e i) (q + ek (e i) % un (lev k)) else e i
theorem cp_self {e : Nat → zEnt} {k q i : Nat} : cpE e k q i i = e i := if_neg (fun z => absurd z.1 (Nat.lt_irrefl i))
theorem cp_step {e : Nat → zEnt} {k q i : Nat} (h : ek (e i) / un (lev k) = k / un (lev k)) (j : Nat) : cpE e k q (i + 1) j = eup (cpE e k q i) i (sK (cpE e k q i i) (q + ek (e i) % un (lev k))) j := by
  by_cases hj : j = i
  · subst hj
    rw [eup_s, cp_self]
    exact if_pos ⟨by omega, h⟩
  · rw [eup_n hj]
    unfold cpE
    by_cases h2 : j < i
    · simp only [h2, show j < i + 1 by omega, true_and]
    · simp only [h2, show ¬ j < i + 1 by omega, false_and]
theorem cp_skip {e : Nat → zEnt} {k q i : Nat} (h : ¬ ek (e i) / un (lev k) = k / un (lev k)) (j : Nat) : cpE e k q (i + 1) j = cpE e k q i j := by
  unfold cpE
  by_cases hj : j = i
  · subst hj
    rw [if_neg (fun q => h q.2), if_neg (fun q => h q.2)]
  · by_cases h2 : j < i
    · simp only [h2, show j < i + 1 by omega, true_and]
    · simp only [h2, show ¬ j < i + 1 by omega, false_and]
theorem zb_or {a b s : Nat} (ha : a < 2 ^ 63) (h0 : a % 2 ^ s = 0) (hb : b < 2 ^ s) (hs : s ≤ 42) : lN a ||| lN b = lN (a + b) := by
  have h1 : 2 ^ s ≤ 2 ^ 42 := Nat.pow_le_pow_right (by decide) hs
  rw [wb_or (by omega) (by omega)]
  have h2 : a = 2 ^ s * (a / 2 ^ s) := by have := Nat.div_add_mod a (2 ^ s); omega
  rw [h2, ← Nat.two_pow_add_eq_or_of_lt hb]
theorem un_pos (l : Nat) : 0 < un l := Nat.two_pow_pos _
def mixE (e e2 : Nat → zEnt) (i0 : Nat) : Nat → zEnt := fun i => if i < i0 then e2 i else e i
theorem mix_step {e e2 : Nat → zEnt} {i : Nat} (j : Nat) : mixE e e2 (i + 1) j = eup (mixE e e2 i) i (e2 i) j := by
  by_cases hj : j = i
  · subst hj
    rw [eup_s]
    exact if_pos (by omega)
  · rw [eup_n hj]
    unfold mixE
    by_cases h2 : j < i
    · rw [if_pos (by omega), if_pos h2]
    · rw [if_neg (by omega), if_neg h2]
theorem ecopy_eq {e x1 x2 x3 x4 x5 : Nat → zEnt} {i j : Nat} {y : zEnt} (h1 : x1 = eup e i (sK (e i) (ek y))) (h2 : x2 = eup x1 i (sT (x1 i) (et y))) (h3 : x3 = eup x2 i (sR (x2 i) (er y))) (h4 : x4 = eup x3 i (sO (x3 i) (eo y))) (h5 : x5 = eup x4 i (sC (x4 i) (ec y))) : eup e i y j = x5 j := by
  by_cases hi : j = i
  · subst hi; simp [h1, h2, h3, h4, h5, eup, sK, sT, sR, sO, sC, ek, et, er, eo, ec]
  · simp [h1, h2, h3, h4, h5, eup, hi]
set_option maxHeartbeats 4000000 in
theorem pv_repeal_loop {Γ : zCtx} {M0 : List zE} (d : Nat) {b n : Nat} {e : Nat → zEnt} (hn : n ≤ 60) (hk : ∀ i, i < n → ek (e i) < 2 ^ 63) {k : Nat} (hk9 : k < 2 ^ 63) (hlv : 1 ≤ lev k) : ∀ (f : Nat) (i : Nat) (M : List zE), i ≤ n → n < i + f → PvAt M b n (rpE e k i) → zFr M0 M b 6 → ∀ Q : List zE → Option Value → Prop, (∀ M1, PvAt M1 b n (rpE e k n) → zFr M0 M1 b 6 → Q M1 none) → Z Γ (zRm (d + 2) m_pv_repeal) m_pv_repeal (zPh Γ m_pv_repeal Q) 0 0 8 [some (.ref b), some (.long (lN k)), none, some (.int (nI (lev k))), some (.int (nI i))] [] M := by
  intro f
  induction f with
  | zero => intro i M hi hf; exact absurd hf (by omega)
  | succ f ih =>
    intro i M hi hf hP hF Q hQ
    obtain ⟨h0, h1, h2, h3, h4, h5⟩ := id hP
    have hl3 := lev_le k
    have hkk := hk i
    refine Z_iload d_pv_repeal_8 rfl ?_
    refine Z_aload_n d_pv_repeal_10 rfl ?_
    refine Z_get d_pv_repeal_11 lf_pv_29 (by assumption) rfl ?_
    refine Zn_icmp_ge (tgt := 46) d_pv_repeal_14 (by decide) (by omega) (by omega) (fun h14 => ?_) (fun h14 => ?_)
    · skip
      have hi : i = n := by omega
      subst hi
      refine Z_vret d_pv_repeal_46 rfl ?_
      exact hQ M hP hF
    · skip
      refine Z_aload_n d_pv_repeal_17 rfl ?_
      refine Z_get d_pv_repeal_18 lf_pv_9 (by assumption) rfl ?_
      refine Z_iload d_pv_repeal_21 rfl ?_
      refine Zn_lald d_pv_repeal_23 (by assumption) (by omega) (by omega) ?_
      rw [rp_self]
      refine Z_lload_n d_pv_repeal_24 rfl ?_
      refine Z_iload_n d_pv_repeal_25 rfl ?_
      refine zTe (As := [.long (lN (ek (e i))), .long (lN k), .int (nI (lev k))]) (by omega) d_pv_repeal_26 lm_pv_69 rfl (Nat.le_of_ble_eq_true rfl) (pa_isWithin_ok (d + 0) (hk i (by omega)) hk9 (by omega) (by omega)) ?_
      rw [show ((some (Value.int (nI (if ek (e i) / un (lev k) = k / un (lev k) then 1 else 0)))).toList) = [Value.int (nI (if ek (e i) / un (lev k) = k / un (lev k) then 1 else 0))] from rfl]
      have hle : (if ek (e i) / un (lev k) = k / un (lev k) then 1 else 0) < 2147483648 := by split <;> decide
      refine Zn_if_eq (tgt := 40) d_pv_repeal_29 (by decide) (by omega) (fun h29 => ?_) (fun h29 => ?_)
      · skip
        have hw : ¬ ek (e i) / un (lev k) = k / un (lev k) := fun z => by rw [if_pos z] at h29; exact absurd h29 (by decide)
        refine Zn_iinc [some (.ref b), some (.long (lN k)), none, some (.int (nI (lev k))), some (.int (nI (i + 1)))] (nI (i + 1)) d_pv_repeal_40 rfl (by decide) (nI_add i 1) rfl ?_
        refine Z_goto (tgt := 8) d_pv_repeal_43 (by decide) ?_
        exact ih (i + 1) _ (by omega) (by omega) (hP.ext (rp_skip hw)) hF Q hQ
      · skip
        have hw : ek (e i) / un (lev k) = k / un (lev k) := by
          rcases Nat.decEq (ek (e i) / un (lev k)) (k / un (lev k)) with z | z
          · rw [if_neg z] at h29; exact absurd rfl h29
          · exact z
        refine Z_aload_n d_pv_repeal_32 rfl ?_
        refine Z_get d_pv_repeal_33 lf_pv_19 (by assumption) rfl ?_
        refine Z_iload d_pv_repeal_36 rfl ?_
        refine Zn_iconst (nI 1) d_pv_repeal_38 (by decide) ?_
        refine Zn_zast (x := bI true) d_pv_repeal_39 (by assumption) (by omega) (by omega) (by first | exact Or.inl rfl | exact Or.inr rfl) ?_
        obtain ⟨e_1, he_1⟩ : ∃ x, x = eup (rpE e k i) i (sR ((rpE e k i) i) true) := ⟨_, rfl⟩
        have hP := hP.putR (j := i) (x := true)
        rw [← he_1] at hP
        obtain ⟨h0, h1, h2, h3, h4, h5⟩ := id hP
        refine Zn_iinc [some (.ref b), some (.long (lN k)), none, some (.int (nI (lev k))), some (.int (nI (i + 1)))] (nI (i + 1)) d_pv_repeal_40 rfl (by decide) (nI_add i 1) rfl ?_
        refine Z_goto (tgt := 8) d_pv_repeal_43 (by decide) ?_
        exact ih (i + 1) _ (by omega) (by omega) (hP.ext (fun j => by rw [he_1]; exact rp_step hw j)) (by (repeat (first | exact hF | exact zFr.rf | refine zFr.set ?_ (by omega) (by omega)))) Q hQ
set_option maxHeartbeats 4000000 in
theorem pv_repeal_ok {Γ : zCtx} {M : List zE} (d : Nat) {b n : Nat} {e : Nat → zEnt} (hP : PvAt M b n e) (hn : n ≤ 60) (hk : ∀ i, i < n → ek (e i) < 2 ^ 63) {k : Nat} (hk9 : k < 2 ^ 63) (hlv : 1 ≤ lev k) : ZM Γ (d + 2) m_pv_repeal [.ref b, .long (lN k)] M (fun M1 v => v = none ∧ PvAt M1 b n (rpE e k n) ∧ zFr M M1 b 6) := by
  refine ZM.of mk_pv_repeal (Nat.le_of_ble_eq_true rfl) ?_
  rw [show zEn [.ref b, .long (lN k)] = [some (.ref b), some (.long (lN k)), none] from rfl]
  refine zPad 2 ?_
  show Z _ _ _ _ _ _ _ [some (.ref b), some (.long (lN k)), none, none, none] _ _
  refine Z_lload_n d_pv_repeal_0 rfl ?_
  refine zTe (As := [.long (lN k)]) (by omega) d_pv_repeal_1 lm_pv_43 rfl (Nat.le_of_ble_eq_true rfl) (pa_levelOf_ok (d + 0) hk9) ?_
  refine Zn_istore_n [some (.ref b), some (.long (lN k)), none, some (.int (nI (lev k))), none] d_pv_repeal_4 (by decide) rfl ?_
  refine Zn_iconst (nI 0) d_pv_repeal_5 (by decide) ?_
  refine Zn_istore [some (.ref b), some (.long (lN k)), none, some (.int (nI (lev k))), some (.int (nI 0))] d_pv_repeal_6 (by decide) rfl ?_
  exact pv_repeal_loop d hn hk hk9 hlv (n + 1) 0 M (by omega) (by omega) (hP.ext (fun j => if_neg (fun q => absurd q.1 (Nat.not_lt_zero j)))) zFr.rf _ (fun M1 a1 a2 => ⟨rfl, a1, a2⟩)
