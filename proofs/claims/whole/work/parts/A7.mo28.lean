/-! new provisions of the reference -/
theorem nI_n1 {j : Nat} (h : j < 2147483648) : nI j ≠ -1 := by
  intro z
  have h1 := zn_cl h
  have h2 : hasP (j + 1) (nI j) = false := by rw [z]; exact hasP_neg (by decide)
  rw [hasP_nI h] at h2
  exact absurd h2 (by simp)
theorem OR.key {n : Nat} {e : Nat → zEnt} {G : Nat → Nat → Nat} {K : Nat → Nat} (h : OR n e G K) {j : Nat} (hj : j < n) : keyOf n e (nI j) = K j := by
  have h1 := h.1.1
  obtain ⟨i, hi, hm⟩ := h.1.2.2.1 j hj (by show (1 : Nat) ≠ 0; decide)
  have e1 : eo (e i) = nI j := hm.2.2.2.1
  unfold keyOf
  cases hh : frst (fun i => decide (eo (e i) = nI j)) n with
  | none => exact absurd e1 (of_decide_eq_false (frst_none.mp hh i hi))
  | some q =>
    obtain ⟨q1, q2, _⟩ := frst_some.mp hh
    obtain ⟨v, v1, _, v3⟩ := h.1.2.1 q q1
    have e2 : eo (e q) = nI v := v3.2.2.2.1
    have e3 : nI v = nI j := by rw [← e2]; exact of_decide_eq_true q2
    have e4 : v = j := (zn_eq (by omega) (by omega)).mp e3
    show ek (e q) = K j
    rw [v3.1, e4]
theorem OR.bg2 {n : Nat} {e : Nat → zEnt} {G G' : Nat → Nat → Nat} {K : Nat → Nat} (h : OR n e G K) (hb : bgR n (fun j => lev (K j)) G G' n) : VR n e n G' K n := by
  obtain ⟨b1, b2⟩ := hb
  refine VR.same h (fun b hb1 hb2 v hv => ?_) (fun i hi => rfl)
  obtain ⟨c0, c1, c2, c3, c4, c5, c6, c7⟩ := b2 v hv
  rcases (show b = 10 ∨ b = 11 ∨ b = 12 ∨ b = 13 ∨ b = 14 ∨ b = 15 ∨ b = 16 ∨ b = 17 by omega) with rfl | rfl | rfl | rfl | rfl | rfl | rfl | rfl
  · rw [c0]; rfl
  · rw [c1]; rfl
  · rw [c2]; rfl
  · rw [c3]; rfl
  · rw [c4]; rfl
  · rw [c5]; rfl
  · rw [c6]; rfl
  · rw [c7]; rfl
theorem bg_cF {n : Nat} {L : Nat → Nat} {s s' : Nat → Nat} {G G' : Nat → Nat → Nat} (hb : bgR n L G G' n) (hs : bgS s s' n) : cF s s' G G' := ⟨fun j j2 j3 j4 _ => hs.2.2.2 j j2 j3 j4, fun b hb' _ => hb.1 b (by omega)⟩
def adQ (n : Nat) (e : Nat → zEnt) (K : Nat → Nat) (t : Int32) (s s' : Nat → Nat) (G G' : Nat → Nat → Nat) : Option Nat → Prop
  | none => cF s s' G G'
  | some k => ∃ a tt, t = nI tt ∧ tt ≤ 9999 ∧ n < 30 ∧ gk k ∧ (∀ i, i < n → ek (e i) ≠ k) ∧ ((a = 0 ∧ lev k = 1) ∨ ∃ u, a = u + 1 ∧ u < n ∧ K u = par k ∧ 2 ≤ lev k) ∧ (∀ j, j ≠ 0 → j ≠ 2 → j ≠ 3 → j ≠ 4 → j ≠ 6 → s' j = s j) ∧ s' 0 = n + 1 ∧ G' 0 = nup (G 0) n a ∧ G' 1 = nup (G 1) n (lab k (lev k)) ∧ G' 2 = nup (G 2) n tt ∧ G' 3 = nup (G 3) n 0 ∧ ∀ b, (4 ≤ b ∧ b < 10 ∨ 21 < b) → b ≠ 23 → G' b = G b
theorem cF_rf {s : Nat → Nat} {G : Nat → Nat → Nat} : cF s s G G := ⟨fun _ _ _ _ _ => rfl, fun _ _ _ => rfl⟩
theorem adQ_mk {n : Nat} {e : Nat → zEnt} {K : Nat → Nat} {s s1 : Nat → Nat} {G G1 : Nat → Nat → Nat} {k a b tt : Nat} (hc : cF s s1 G G1) (ht : tt ≤ 9999) (hn : n < 30) (hk : gk k) (hf : ∀ i, i < n → ek (e i) ≠ k) (ha : (a = 0 ∧ lev k = 1) ∨ ∃ u, a = u + 1 ∧ u < n ∧ K u = par k ∧ 2 ≤ lev k) (hb : b = lab k (lev k)) : adQ n e K (nI tt) s (nup s1 0 (n + 1)) G (gup (gup (gup (gup G1 0 n a) 1 n b) 2 n tt) 3 n 0) (some k) := by
  refine ⟨a, tt, rfl, ht, hn, hk, hf, ha, fun j j0 j2 j3 j4 j6 => by rw [nup_n j0]; exact hc.1 j j2 j3 j4 j6, nup_s, ?_, ?_, ?_, ?_, fun b hb1 hb2 => ?_⟩
  · rw [gup_n (by decide), gup_n (by decide), gup_n (by decide), gup_s, hc.2 0 (by omega) (by decide)]
  · rw [gup_n (by decide), gup_n (by decide), gup_s, gup_n (by decide), hc.2 1 (by omega) (by decide), hb]
  · rw [gup_n (by decide), gup_s, gup_n (by decide), gup_n (by decide), hc.2 2 (by omega) (by decide)]
  · rw [gup_s, gup_n (by decide), gup_n (by decide), gup_n (by decide), hc.2 3 (by omega) (by decide)]
  · rw [gup_n (by omega), gup_n (by omega), gup_n (by omega), gup_n (by omega)]; exact hc.2 b (by omega) hb2
/-- the original text with one more provision -/
theorem OR.add {n : Nat} {e e1 : Nat → zEnt} {G G' : Nat → Nat → Nat} {K : Nat → Nat} {s s' : Nat → Nat} {t : Int32} {k : Nat} (h : OR n e G K) (hq : adQ n e K t s s' G G' (some k)) (hp : zPerm (n + 1) (eup e n (k, t, false, nI n, -9)) e1) (hs : srtd (n + 1) e1) : OR (n + 1) e1 G' (nup K n k) := by
  obtain ⟨a, tt, rfl, ht, hn, hkn, hf, ha, -, -, g0, g1, g2, -, -⟩ := hq
  refine VS.sort ?_ hp hs
  obtain ⟨h1, h2, h3, h4, h5, h6, h7, h8⟩ := h.1
  have kv : ∀ w, w < n → nup K n k w = K w := fun w hw => nup_n (by omega)
  have nv : ∀ b w, w < n → orgG G' (nup K n k) b w = orgG G K b w := by
    intro b w hw
    unfold orgG
    rw [g0, g1, g2, kv w hw, nup_n (by omega), nup_n (by omega), nup_n (by omega)]
  have s10 : orgG G' (nup K n k) 10 n = a := by show G' 0 n = a; rw [g0, nup_s]
  have s11 : orgG G' (nup K n k) 11 n = lev k := by show lev (nup K n k n) = lev k; rw [nup_s]
  have s12 : orgG G' (nup K n k) 12 n = lab k (lev k) := by show G' 1 n = _; rw [g1, nup_s]
  have s13 : orgG G' (nup K n k) 13 n = tt := by show G' 2 n = _; rw [g2, nup_s]
  have s14 : ∀ w, orgG G' (nup K n k) 14 w = w + 1 := fun w => rfl
  have s15 : orgG G' (nup K n k) 15 n = 0 := rfl
  have s16 : orgG G' (nup K n k) 16 n = 0 := rfl
  have s17 : ∀ w, orgG G' (nup K n k) 17 w = 1 := fun w => rfl
  have p17 : ∀ w, orgG G K 17 w ≠ 0 := fun w => by show (1 : Nat) ≠ 0; decide
  have mo : ∀ x w, w < n → mt (orgG G K) K x w → mt (orgG G' (nup K n k)) (nup K n k) x w := by
    intro x w hw hm
    unfold mt
    rw [nv _ w hw, nv _ w hw, nv _ w hw, nv _ w hw, kv w hw]
    exact hm
  have mn : mt (orgG G' (nup K n k)) (nup K n k) (k, nI tt, false, nI n, -9) n := by
    unfold mt
    rw [s13, s14, s15, s16, nup_s]
    exact ⟨rfl, rfl, rfl, rfl, rfl⟩
  have fresh : ∀ w, w < n → K w ≠ k := by
    intro w hw e1
    obtain ⟨i, hi, hm⟩ := h3 w hw (p17 w)
    exact hf i hi (by rw [hm.1, e1])
  refine ⟨by omega, fun i hi => ?_, fun v hv hp => ?_, fun i j hi hj he => ?_, ⟨fun v hv hp => ?_, fun v w hv hw hpv hpw he => ?_⟩, ⟨by omega, fun v hv => ?_⟩, by omega, fun v hv => by rw [s14, if_pos hv]⟩
  · by_cases hin : i = n
    · refine ⟨n, by omega, by rw [s17]; decide, ?_⟩
      rw [hin, eup_s]; exact mn
    · obtain ⟨w, w1, w2, w3⟩ := h2 i (by omega)
      refine ⟨w, by omega, by rw [s17]; decide, ?_⟩
      rw [eup_n hin]; exact mo _ w w1 w3
  · by_cases hvN : v = n
    · exact ⟨n, by omega, by rw [hvN, eup_s]; exact mn⟩
    · have hv' : v < n := by omega
      obtain ⟨i, hi, hm⟩ := h3 v hv' (p17 v)
      exact ⟨i, by omega, by rw [eup_n (by omega)]; exact mo _ v hv' hm⟩
  · by_cases hin : i = n
    · by_cases hjn : j = n
      · omega
      · rw [hin, eup_s, eup_n hjn] at he
        exact absurd he.symm (hf j (by omega))
    · by_cases hjn : j = n
      · rw [hjn, eup_s, eup_n hin] at he
        exact absurd he (hf i (by omega))
      · rw [eup_n hin, eup_n hjn] at he
        exact h4 i j (by omega) (by omega) he
  · unfold nd
    by_cases hvN : v = n
    · rw [hvN, s10, s11, s12, nup_s]
      refine ⟨hkn, rfl, rfl, ?_⟩
      rcases ha with ha | ⟨u, u1, u2, u4, u5⟩
      · exact Or.inl ha
      · exact Or.inr ⟨u, u1, by omega, by rw [s17]; decide, by rw [kv u u2]; exact u4, u5⟩
    · have hv' : v < n := by omega
      rw [nv _ v hv', nv _ v hv', nv _ v hv', kv v hv']
      obtain ⟨d1, d2, d3, d4⟩ := h5.1 v hv' (p17 v)
      refine ⟨d1, d2, d3, ?_⟩
      rcases d4 with d4 | ⟨u, u1, u2, u3, u4, u5⟩
      · exact Or.inl d4
      · exact Or.inr ⟨u, u1, by omega, by rw [s17]; decide, by rw [kv u u2]; exact u4, u5⟩
  · by_cases hvN : v = n
    · by_cases hwN : w = n
      · omega
      · have hw' : w < n := by omega
        rw [hvN, nup_s, kv w hw'] at he
        exact absurd he.symm (fresh w hw')
    · have hv' : v < n := by omega
      by_cases hwN : w = n
      · rw [hwN, nup_s, kv v hv'] at he
        exact absurd he (fresh v hv')
      · have hw' : w < n := by omega
        rw [kv v hv', kv w hw'] at he
        exact h5.2 v w hv' hw' (p17 v) (p17 w) he
  · by_cases hvN : v = n
    · rw [hvN, s10, s11, s12, s16, s17]
      have := gk_lev hkn
      have := (gk_lab hkn).r
      refine ⟨by omega, ?_, by omega, by omega, by omega⟩
      rcases ha with ha | ⟨u, u1, u2, _⟩ <;> omega
    · have hv' : v < n := by omega
      rw [nv _ v hv', nv _ v hv', nv _ v hv', nv _ v hv', nv _ v hv']
      exact h6.2 v hv'
set_option maxHeartbeats 4000000 in
theorem mo_addOriginal_ok {Γ : zCtx} {M : List zE} (d : Nat) {M0 : List zE} {s : Nat → Nat} {G : Nat → Nat → Nat} (hF : FW M0 M s G) (hn : s 0 < 30) {a b tt : Nat} (hb : b < 2147483648)  : ZM Γ (d + 1) m_mo_addOriginal [.ref 123, .int (mI a), .int (nI b), .int (nI tt)] M (fun M1 v => v = some (.int (nI (s 0))) ∧ FW M0 M1 (nup s 0 (s 0 + 1)) (gup (gup (gup (gup G 0 (s 0) a) 1 (s 0) b) 2 (s 0) tt) 3 (s 0) 0)) := by
  refine ZM.of mk_mo_addOriginal (Nat.le_of_ble_eq_true rfl) ?_
  refine Z_iload_n d_mo_addOriginal_0 rfl ?_
  refine Zn_if_ge (tgt := 7) d_mo_addOriginal_1 (by decide) (by omega) ?_
  refine Z_aload_n d_mo_addOriginal_7 rfl ?_
  refine Z_get (v := .ref 124) d_mo_addOriginal_8 lf_mo_9 hF.1 rfl ?_
  refine Z_aload_n d_mo_addOriginal_11 rfl ?_
  refine Z_get (v := .int (nI (s 0))) d_mo_addOriginal_12 lf_mo_154 hF.1 rfl ?_
  refine Z_iload_n d_mo_addOriginal_15 rfl ?_
  refine Zn_iast d_mo_addOriginal_16 hF.a0 (by omega) (by omega) ?_
  replace hF := hF.p0 (s 0) a
  refine Z_aload_n d_mo_addOriginal_17 rfl ?_
  refine Z_get (v := .ref 125) d_mo_addOriginal_18 lf_mo_13 hF.1 rfl ?_
  refine Z_aload_n d_mo_addOriginal_21 rfl ?_
  refine Z_get (v := .int (nI (s 0))) d_mo_addOriginal_22 lf_mo_154 hF.1 rfl ?_
  refine Z_iload_n d_mo_addOriginal_25 rfl ?_
  refine Zn_iast d_mo_addOriginal_26 hF.a1 (by omega) (by omega) ?_
  replace hF := hF.p1 (s 0) b
  refine Z_aload_n d_mo_addOriginal_27 rfl ?_
  refine Z_get (v := .ref 126) d_mo_addOriginal_28 lf_mo_16 hF.1 rfl ?_
  refine Z_aload_n d_mo_addOriginal_31 rfl ?_
  refine Z_get (v := .int (nI (s 0))) d_mo_addOriginal_32 lf_mo_154 hF.1 rfl ?_
  refine Z_iload_n d_mo_addOriginal_35 rfl ?_
  refine Zn_iast d_mo_addOriginal_36 hF.a2 (by omega) (by omega) ?_
  replace hF := hF.p2 (s 0) tt
  refine Z_aload_n d_mo_addOriginal_37 rfl ?_
  refine Z_get (v := .ref 127) d_mo_addOriginal_38 lf_mo_19 hF.1 rfl ?_
  refine Z_aload_n d_mo_addOriginal_41 rfl ?_
  refine Z_get (v := .int (nI (s 0))) d_mo_addOriginal_42 lf_mo_154 hF.1 rfl ?_
  refine Zn_iconst (nI 0) d_mo_addOriginal_45 (by decide) ?_
  refine Zn_iast d_mo_addOriginal_46 hF.a3 (by omega) (by omega) ?_
  replace hF := hF.p3 (s 0) 0
  refine Z_aload_n d_mo_addOriginal_47 rfl ?_
  refine Z_dup d_mo_addOriginal_48 rfl ?_
  refine Z_get (v := .int (nI (s 0))) d_mo_addOriginal_49 lf_mo_154 hF.1 rfl ?_
  refine Zn_iconst (nI 1) d_mo_addOriginal_52 (by decide) ?_
  refine Zn_iadd d_mo_addOriginal_53 ?_
  refine Z_puti d_mo_addOriginal_54 lf_mo_154 hF.1 rfl rfl (Nat.le_of_ble_eq_true rfl) ?_
  replace hF := hF.u0 ((s 0) + 1)
  refine Z_aload_n d_mo_addOriginal_57 rfl ?_
  refine Z_get (v := .int (nI ((s 0) + 1))) d_mo_addOriginal_58 lf_mo_154 hF.1 rfl ?_
  refine Zn_iconst (nI 1) d_mo_addOriginal_61 (by decide) ?_
  refine Zn_isub d_mo_addOriginal_62 (by omega) ?_
  refine Z_iret d_mo_addOriginal_63 rfl ?_
  exact ⟨rfl, hF⟩
set_option maxHeartbeats 4000000 in
theorem mo_addOriginal_no {Γ : zCtx} {M : List zE} (d : Nat) {M0 : List zE} {s : Nat → Nat} {G : Nat → Nat → Nat} (hF : FW M0 M s G) {a tt : Nat}  : ZM Γ (d + 1) m_mo_addOriginal [.ref 123, .int (mI a), .int (-1), .int (nI tt)] M (zEq M (some (.int (-7)))) := by
  refine ZM.of mk_mo_addOriginal (Nat.le_of_ble_eq_true rfl) ?_
  refine Z_iload_n d_mo_addOriginal_0 rfl ?_
  refine Z_if_ge (tgt := 7) d_mo_addOriginal_1 (by decide) (fun h1 => ?_) (fun h1 => ?_)
  · skip
    exact absurd h1 (by decide) -- end
  · skip
    refine Zn_bipush (-7) d_mo_addOriginal_4 (by decide) ?_
    refine Z_iret d_mo_addOriginal_6 rfl ?_
    exact ⟨rfl, rfl⟩
set_option maxHeartbeats 4000000 in
theorem mo_addProvision_rt {Γ : zCtx} {M : List zE} (d : Nat) {M0 : List zE} {s : Nat → Nat} {G : Nat → Nat → Nat} (hF : FW M0 M s G) {n : Nat} (hs0 : s 0 = n) (hn : n ≤ 30) {e : Nat → zEnt} {K : Nat → Nat} (hO : OR n e G K) (y : Int32)  : ZM Γ (d + 3) m_mo_addProvision [.ref 123, .int (-1), .int y] M (fun M1 v => ∃ s' G', v = some (.int (addP n e (-1) y).1) ∧ FW M0 M1 s' G' ∧ adQ n e K y s s' G G' (addP n e (-1) y).2) := by
  refine ZM.of mk_mo_addProvision (Nat.le_of_ble_eq_true rfl) ?_
  refine Z_iload_n d_mo_addProvision_0 rfl ?_
  refine Zn_iconst (-1) d_mo_addProvision_1 (by decide) ?_
  refine Z_icmp_eq (tgt := 15) d_mo_addProvision_2 (by decide) (fun h2 => ?_) (fun h2 => ?_)
  · skip
    refine Z_iload_n d_mo_addProvision_15 rfl ?_
    refine Zn_iconst (nI 0) d_mo_addProvision_16 (by decide) ?_
    refine Zn_sipush (nI 9999) d_mo_addProvision_17 (by decide) ?_
    refine zTe (As := [.int y, .int (nI 0), .int (nI 9999)]) (by omega) d_mo_addProvision_20 lm_mo_189 rfl (Nat.le_of_ble_eq_true rfl) (mo_in_ok d _ _ _) ?_
    rw [inI_t]
    rcases hy : tOk y with _ | _
    · skip
      refine Zn_if_ne (a := 0) (tgt := 29) d_mo_addProvision_23 (by decide) (by decide) (fun h => absurd h (by decide)) (fun _ => ?_)
      refine Zn_bipush (-5) d_mo_addProvision_26 (by decide) ?_
      refine Z_iret d_mo_addProvision_28 rfl ?_
      have e0 : addP n e (-1) y = (-5, none) := by unfold addP; rw [if_pos rfl]; unfold addK; rw [if_neg (by rw [hy]; decide)]
      rw [e0]
      exact ⟨s, G, rfl, hF, cF_rf⟩
    · skip
      obtain ⟨t, ht1, rfl⟩ := tOk_t hy
      refine Zn_if_ne (a := 1) (tgt := 29) d_mo_addProvision_23 (by decide) (by decide) (fun _ => ?_) (fun h => absurd h (by decide))
      refine Z_iload_n d_mo_addProvision_29 rfl ?_
      refine Zn_iconst (-1) d_mo_addProvision_30 (by decide) ?_
      refine Z_icmp_eq (tgt := 46) d_mo_addProvision_31 (by decide) (fun h31 => ?_) (fun h31 => ?_)
      · skip
        refine Z_aload_n d_mo_addProvision_46 rfl ?_
        refine Z_get (v := .int (nI (s 0))) d_mo_addProvision_47 lf_mo_154 hF.1 rfl ?_
        refine Zn_bipush (nI 30) d_mo_addProvision_50 (by decide) ?_
        refine Zn_icmp_ne (tgt := 58) d_mo_addProvision_52 (by decide) (by omega) (by omega) (fun h52 => ?_) (fun h52 => ?_)
        · skip
          refine Z_aload_n d_mo_addProvision_58 rfl ?_
          refine zV (As := []) (by omega) d_mo_addProvision_59 lm_mo_196 hF.1 rfl rfl (Nat.le_of_ble_eq_true rfl) (mo_begin_ok (d + 0) hF (by omega) (by rw [hs0]; exact hO.lv)) (fun M1 v hq hlen => ?_)
          obtain ⟨rfl, s1, G1, hF, hb1, hb2⟩ := hq
          rw [hs0] at hb1 hb2
          have hR := hO.bg2 hb1
          have hc := bg_cF hb1 hb2
          have hs2 : s1 2 = n := hb2.1
          have hs1 : s1 0 = n := by rw [hc.1 0 (by decide) (by decide) (by decide) (by decide)]; exact hs0
          have hB1 : nB (s1 2) G1 := by rw [hs2]; exact hR.1.2.2.2.2.2.1
          have h17 : ∀ v, v < n → G1 17 v ≠ 0 := fun v hv => by rw [(hb1.2 v hv).2.2.2.2.2.2.2]; decide
          refine Z_aload_n d_mo_addProvision_62 rfl ?_
          refine Z_iload_n d_mo_addProvision_63 rfl ?_
          refine Z_aload_n d_mo_addProvision_64 rfl ?_
          refine Z_iload_n d_mo_addProvision_65 rfl ?_
          refine zVe (As := [.int (mI (0))]) (by omega) d_mo_addProvision_66 lm_mo_199 hF.1 rfl rfl (Nat.le_of_ble_eq_true rfl) (mo_labelAtEnd_ok (a := 0) d hF hB1 (by omega)) ?_
          rw [hs2, hR.1.fin (a := 0) (Or.inl rfl), KA_0]
          rcases hnw : newl n e 0 with _ | b
          · skip
            show Z _ _ _ _ _ _ _ _ _ _
            refine Z_iload_n d_mo_addProvision_69 rfl ?_
            refine zVe (As := [.int (mI (0)), .int (-1), .int (nI t)]) (by omega) d_mo_addProvision_70 lm_mo_202 hF.1 rfl rfl (Nat.le_of_ble_eq_true rfl) (mo_addOriginal_no (d + 0) hF) ?_
            refine Z_iret d_mo_addProvision_73 rfl ?_
            have e0 : addP n e (-1) (nI t) = (-7, none) := by unfold addP; rw [if_pos rfl]; unfold addK; rw [if_pos hy]; rw [if_pos (show lev 0 < 3 by decide)]; rw [if_pos (by omega), hnw]
            rw [e0]
            exact ⟨s1, G1, rfl, hF, hc⟩
          · skip
            obtain ⟨hbk, hfr⟩ := hR.1.finNew (Or.inl rfl) hnw
            have hb21 := hbk.r
            refine Z_iload_n d_mo_addProvision_69 rfl ?_
            refine zV (As := [.int (mI (0)), .int (nI b), .int (nI t)]) (by omega) d_mo_addProvision_70 lm_mo_202 hF.1 rfl rfl (Nat.le_of_ble_eq_true rfl) (mo_addOriginal_ok (d + 0) hF (by omega) (by omega)) (fun M2 v2 hq2 hlen2 => ?_)
            obtain ⟨rfl, hF2⟩ := hq2
            rw [hs1] at hF2 ⊢
            refine Z_iret d_mo_addProvision_73 rfl ?_
            have e0 : addP n e (-1) (nI t) = (nI n, some (putl 0 (lev 0 + 1) b)) := by unfold addP; rw [if_pos rfl]; unfold addK; rw [if_pos hy]; rw [if_pos (show lev 0 < 3 by decide)]; rw [if_pos (by omega), hnw]
            rw [e0]
            obtain ⟨c1, c2, c3, c4⟩ := gk_child (Or.inl rfl) hbk
            exact ⟨_, _, rfl, hF2, adQ_mk hc ht1 (by omega) c1 hfr (Or.inl ⟨rfl, by rw [c3]; rfl⟩) (by rw [c3, c4])⟩
        · skip
          refine Zn_bipush (-6) d_mo_addProvision_55 (by decide) ?_
          refine Z_iret d_mo_addProvision_57 rfl ?_
          have e0 : addP n e (-1) (nI t) = (-6, none) := by unfold addP; rw [if_pos rfl]; unfold addK; rw [if_pos hy]; rw [if_pos (show lev 0 < 3 by decide)]; rw [if_neg (by omega)]
          rw [e0]
          exact ⟨s, G, rfl, hF, cF_rf⟩
      · skip
        exact absurd rfl h31 -- end
  · skip
    exact absurd rfl h2 -- end
set_option maxHeartbeats 4000000 in
theorem mo_addProvision_ch {Γ : zCtx} {M : List zE} (d : Nat) {M0 : List zE} {s : Nat → Nat} {G : Nat → Nat → Nat} (hF : FW M0 M s G) {n : Nat} (hs0 : s 0 = n) (hn : n ≤ 30) {e : Nat → zEnt} {K : Nat → Nat} (hO : OR n e G K) {j : Nat} (hj : j < n) (y : Int32)  : ZM Γ (d + 3) m_mo_addProvision [.ref 123, .int (nI j), .int y] M (fun M1 v => ∃ s' G', v = some (.int (addP n e (nI j) y).1) ∧ FW M0 M1 s' G' ∧ adQ n e K y s s' G G' (addP n e (nI j) y).2) := by
  refine ZM.of mk_mo_addProvision (Nat.le_of_ble_eq_true rfl) ?_
  have hhj : hasP n (nI j) = true := by rw [hasP_nI (by omega)]; exact decide_eq_true hj
  have hgk : gk (K j) := (hO.1.2.2.2.2.1.1 j hj (by show (1 : Nat) ≠ 0; decide)).1
  refine Z_iload_n d_mo_addProvision_0 rfl ?_
  refine Zn_iconst (-1) d_mo_addProvision_1 (by decide) ?_
  refine Z_icmp_eq (tgt := 15) d_mo_addProvision_2 (by decide) (fun h2 => ?_) (fun h2 => ?_)
  · skip
    exact absurd h2 (nI_n1 (by omega)) -- end
  · skip
    refine Z_aload_n d_mo_addProvision_5 rfl ?_
    refine Z_iload_n d_mo_addProvision_6 rfl ?_
    refine zVe (As := [.int (nI j)]) (by omega) d_mo_addProvision_7 lm_mo_193 hF.1 rfl rfl (Nat.le_of_ble_eq_true rfl) (mo_isOriginal_ok d hF hs0 (by omega) (nI j)) ?_
    rw [if_pos hhj]
    refine Zn_if_ne (a := 1) (tgt := 15) d_mo_addProvision_10 (by decide) (by decide) (fun _ => ?_) (fun h => absurd h (by decide))
    refine Z_iload_n d_mo_addProvision_15 rfl ?_
    refine Zn_iconst (nI 0) d_mo_addProvision_16 (by decide) ?_
    refine Zn_sipush (nI 9999) d_mo_addProvision_17 (by decide) ?_
    refine zTe (As := [.int y, .int (nI 0), .int (nI 9999)]) (by omega) d_mo_addProvision_20 lm_mo_189 rfl (Nat.le_of_ble_eq_true rfl) (mo_in_ok d _ _ _) ?_
    rw [inI_t]
    rcases hy : tOk y with _ | _
    · skip
      refine Zn_if_ne (a := 0) (tgt := 29) d_mo_addProvision_23 (by decide) (by decide) (fun h => absurd h (by decide)) (fun _ => ?_)
      refine Zn_bipush (-5) d_mo_addProvision_26 (by decide) ?_
      refine Z_iret d_mo_addProvision_28 rfl ?_
      have e0 : addP n e (nI j) y = (-5, none) := by unfold addP; rw [if_neg (nI_n1 (by omega)), if_pos hhj, hO.key hj]; unfold addK; rw [if_neg (by rw [hy]; decide)]
      rw [e0]
      exact ⟨s, G, rfl, hF, cF_rf⟩
    · skip
      obtain ⟨t, ht1, rfl⟩ := tOk_t hy
      refine Zn_if_ne (a := 1) (tgt := 29) d_mo_addProvision_23 (by decide) (by decide) (fun _ => ?_) (fun h => absurd h (by decide))
      refine Z_iload_n d_mo_addProvision_29 rfl ?_
      refine Zn_iconst (-1) d_mo_addProvision_30 (by decide) ?_
      refine Z_icmp_eq (tgt := 46) d_mo_addProvision_31 (by decide) (fun h31 => ?_) (fun h31 => ?_)
      · skip
        exact absurd h31 (nI_n1 (by omega)) -- end
      · skip
        refine Z_aload_n d_mo_addProvision_34 rfl ?_
        refine Z_iload_n d_mo_addProvision_35 rfl ?_
        refine zVe (As := [.int (nI j)]) (by omega) d_mo_addProvision_36 lm_mo_157 hF.1 rfl rfl (Nat.le_of_ble_eq_true rfl) (mo_levelOf_ok (n := n) d hF hn hO.lv hj) ?_
        have hl3 := (hO.lv j hj).1
        have hl1 := (gk_lev hgk).1
        dsimp only at hl3 ⊢
        refine Zn_iconst (nI 3) d_mo_addProvision_39 (by decide) ?_
        refine Zn_icmp_ne (tgt := 46) d_mo_addProvision_40 (by decide) (by omega) (by omega) (fun h40 => ?_) (fun h40 => ?_)
        · skip
          refine Z_aload_n d_mo_addProvision_46 rfl ?_
          refine Z_get (v := .int (nI (s 0))) d_mo_addProvision_47 lf_mo_154 hF.1 rfl ?_
          refine Zn_bipush (nI 30) d_mo_addProvision_50 (by decide) ?_
          refine Zn_icmp_ne (tgt := 58) d_mo_addProvision_52 (by decide) (by omega) (by omega) (fun h52 => ?_) (fun h52 => ?_)
          · skip
            refine Z_aload_n d_mo_addProvision_58 rfl ?_
            refine zV (As := []) (by omega) d_mo_addProvision_59 lm_mo_196 hF.1 rfl rfl (Nat.le_of_ble_eq_true rfl) (mo_begin_ok (d + 0) hF (by omega) (by rw [hs0]; exact hO.lv)) (fun M1 v hq hlen => ?_)
            obtain ⟨rfl, s1, G1, hF, hb1, hb2⟩ := hq
            rw [hs0] at hb1 hb2
            have hR := hO.bg2 hb1
            have hc := bg_cF hb1 hb2
            have hs2 : s1 2 = n := hb2.1
            have hs1 : s1 0 = n := by rw [hc.1 0 (by decide) (by decide) (by decide) (by decide)]; exact hs0
            have hB1 : nB (s1 2) G1 := by rw [hs2]; exact hR.1.2.2.2.2.2.1
            have h17 : ∀ v, v < n → G1 17 v ≠ 0 := fun v hv => by rw [(hb1.2 v hv).2.2.2.2.2.2.2]; decide
            refine Z_aload_n d_mo_addProvision_62 rfl ?_
            refine Z_iload_n d_mo_addProvision_63 rfl ?_
            refine Z_aload_n d_mo_addProvision_64 rfl ?_
            refine Z_iload_n d_mo_addProvision_65 rfl ?_
            refine zVe (As := [.int (mI (j + 1))]) (by omega) d_mo_addProvision_66 lm_mo_199 hF.1 rfl rfl (Nat.le_of_ble_eq_true rfl) (mo_labelAtEnd_ok (a := j + 1) d hF hB1 (by omega)) ?_
            rw [hs2, hR.1.fin (a := j + 1) (Or.inr ⟨hj, h17 j hj⟩), KA_s]
            rcases hnw : newl n e (K j) with _ | b
            · skip
              show Z _ _ _ _ _ _ _ _ _ _
              refine Z_iload_n d_mo_addProvision_69 rfl ?_
              refine zVe (As := [.int (mI (j + 1)), .int (-1), .int (nI t)]) (by omega) d_mo_addProvision_70 lm_mo_202 hF.1 rfl rfl (Nat.le_of_ble_eq_true rfl) (mo_addOriginal_no (d + 0) hF) ?_
              refine Z_iret d_mo_addProvision_73 rfl ?_
              have e0 : addP n e (nI j) (nI t) = (-7, none) := by unfold addP; rw [if_neg (nI_n1 (by omega)), if_pos hhj, hO.key hj]; unfold addK; rw [if_pos hy]; rw [if_pos (show lev (K j) < 3 by omega)]; rw [if_pos (by omega), hnw]
              rw [e0]
              exact ⟨s1, G1, rfl, hF, hc⟩
            · skip
              obtain ⟨hbk, hfr⟩ := hR.1.finNew (Or.inr ⟨hgk, by omega⟩) hnw
              have hb21 := hbk.r
              refine Z_iload_n d_mo_addProvision_69 rfl ?_
              refine zV (As := [.int (mI (j + 1)), .int (nI b), .int (nI t)]) (by omega) d_mo_addProvision_70 lm_mo_202 hF.1 rfl rfl (Nat.le_of_ble_eq_true rfl) (mo_addOriginal_ok (d + 0) hF (by omega) (by omega)) (fun M2 v2 hq2 hlen2 => ?_)
              obtain ⟨rfl, hF2⟩ := hq2
              rw [hs1] at hF2 ⊢
              refine Z_iret d_mo_addProvision_73 rfl ?_
              have e0 : addP n e (nI j) (nI t) = (nI n, some (putl (K j) (lev (K j) + 1) b)) := by unfold addP; rw [if_neg (nI_n1 (by omega)), if_pos hhj, hO.key hj]; unfold addK; rw [if_pos hy]; rw [if_pos (show lev (K j) < 3 by omega)]; rw [if_pos (by omega), hnw]
              rw [e0]
              obtain ⟨c1, c2, c3, c4⟩ := gk_child (Or.inr ⟨hgk, by omega⟩) hbk
              exact ⟨_, _, rfl, hF2, adQ_mk hc ht1 (by omega) c1 hfr (Or.inr ⟨j, rfl, hj, c2.symm, by rw [c3]; omega⟩) (by rw [c3, c4])⟩
          · skip
            refine Zn_bipush (-6) d_mo_addProvision_55 (by decide) ?_
            refine Z_iret d_mo_addProvision_57 rfl ?_
            have e0 : addP n e (nI j) (nI t) = (-6, none) := by unfold addP; rw [if_neg (nI_n1 (by omega)), if_pos hhj, hO.key hj]; unfold addK; rw [if_pos hy]; rw [if_pos (show lev (K j) < 3 by omega)]; rw [if_neg (by omega)]
            rw [e0]
            exact ⟨s, G, rfl, hF, cF_rf⟩
        · skip
          refine Zn_bipush (-8) d_mo_addProvision_43 (by decide) ?_
          refine Z_iret d_mo_addProvision_45 rfl ?_
          have e0 : addP n e (nI j) (nI t) = (-8, none) := by unfold addP; rw [if_neg (nI_n1 (by omega)), if_pos hhj, hO.key hj]; unfold addK; rw [if_pos hy, if_neg (show ¬ lev (K j) < 3 by omega)]
          rw [e0]
          exact ⟨s, G, rfl, hF, cF_rf⟩
set_option maxHeartbeats 4000000 in
theorem mo_addProvision_no {Γ : zCtx} {M : List zE} (d : Nat) {M0 : List zE} {s : Nat → Nat} {G : Nat → Nat → Nat} (hF : FW M0 M s G) {n : Nat} (hs0 : s 0 = n) (hn : n ≤ 30) {e : Nat → zEnt} {K : Nat → Nat} (hO : OR n e G K) (x y : Int32) (hx1 : x ≠ -1) (hh : hasP n x = false)  : ZM Γ (d + 3) m_mo_addProvision [.ref 123, .int x, .int y] M (fun M1 v => ∃ s' G', v = some (.int (addP n e x y).1) ∧ FW M0 M1 s' G' ∧ adQ n e K y s s' G G' (addP n e x y).2) := by
  refine ZM.of mk_mo_addProvision (Nat.le_of_ble_eq_true rfl) ?_
  refine Z_iload_n d_mo_addProvision_0 rfl ?_
  refine Zn_iconst (-1) d_mo_addProvision_1 (by decide) ?_
  refine Z_icmp_eq (tgt := 15) d_mo_addProvision_2 (by decide) (fun h2 => ?_) (fun h2 => ?_)
  · skip
    exact absurd h2 hx1 -- end
  · skip
    refine Z_aload_n d_mo_addProvision_5 rfl ?_
    refine Z_iload_n d_mo_addProvision_6 rfl ?_
    refine zVe (As := [.int x]) (by omega) d_mo_addProvision_7 lm_mo_193 hF.1 rfl rfl (Nat.le_of_ble_eq_true rfl) (mo_isOriginal_ok d hF hs0 (by omega) x) ?_
    rw [if_neg (show ¬ hasP n x = true by rw [hh]; decide)]
    refine Zn_if_ne (a := 0) (tgt := 15) d_mo_addProvision_10 (by decide) (by decide) (fun h => absurd h (by decide)) (fun _ => ?_)
    refine Zn_iconst (-1) d_mo_addProvision_13 (by decide) ?_
    refine Z_iret d_mo_addProvision_14 rfl ?_
    have e0 : addP n e x y = (-1, none) := by unfold addP; rw [if_neg hx1, if_neg (by rw [hh]; decide)]
    rw [e0]
    exact ⟨s, G, rfl, hF, cF_rf⟩
theorem mo_addProvision_ok {Γ : zCtx} {M : List zE} (d : Nat) {M0 : List zE} {s : Nat → Nat} {G : Nat → Nat → Nat} (hF : FW M0 M s G) {n : Nat} (hs0 : s 0 = n) (hn : n ≤ 30) {e : Nat → zEnt} {K : Nat → Nat} (hO : OR n e G K) (x y : Int32) : ZM Γ (d + 3) m_mo_addProvision [.ref 123, .int x, .int y] M (fun M1 v => ∃ s' G', v = some (.int (addP n e x y).1) ∧ FW M0 M1 s' G' ∧ adQ n e K y s s' G G' (addP n e x y).2) := by
  by_cases hx : x = -1
  · rw [hx]; exact mo_addProvision_rt d hF hs0 hn hO y
  · cases hh : hasP n x with
    | false => exact mo_addProvision_no d hF hs0 hn hO x y hx hh
    | true =>
      obtain ⟨j, hj, _, rfl⟩ := hasP_t hh
      exact mo_addProvision_ch d hF hs0 hn hO hj y
theorem OR.pa {n : Nat} {e : Nat → zEnt} {G : Nat → Nat → Nat} {K : Nat → Nat} (h : OR n e G K) {j : Nat} (hj : j < n) : (G 0 j = 0 ∧ lev (K j) = 1) ∨ ∃ u, G 0 j = u + 1 ∧ u < n ∧ K u = par (K j) ∧ 2 ≤ lev (K j) := by
  rcases (h.1.2.2.2.2.1.1 j hj (by show (1 : Nat) ≠ 0; decide)).2.2.2 with d4 | ⟨u, u1, u2, u3, u4, u5⟩
  · exact Or.inl d4
  · exact Or.inr ⟨u, u1, u2, u4, u5⟩
set_option maxHeartbeats 4000000 in
theorem mo_insertProvision_ok {Γ : zCtx} {M : List zE} (d : Nat) {M0 : List zE} {s : Nat → Nat} {G : Nat → Nat → Nat} (hF : FW M0 M s G) {n : Nat} (hs0 : s 0 = n) (hn : n ≤ 30) {e : Nat → zEnt} {K : Nat → Nat} (hO : OR n e G K) (x y : Int32)  : ZM Γ (d + 4) m_mo_insertProvision [.ref 123, .int x, .int y] M (fun M1 v => ∃ s' G', v = some (.int (insP n e x y).1) ∧ FW M0 M1 s' G' ∧ adQ n e K y s s' G G' (insP n e x y).2) := by
  refine ZM.of mk_mo_insertProvision (Nat.le_of_ble_eq_true rfl) ?_
  refine Z_aload_n d_mo_insertProvision_0 rfl ?_
  refine Z_iload_n d_mo_insertProvision_1 rfl ?_
  refine zVe (As := [.int x]) (by omega) d_mo_insertProvision_2 lm_mo_193 hF.1 rfl rfl (Nat.le_of_ble_eq_true rfl) (mo_isOriginal_ok d hF hs0 (by omega) x) ?_
  rcases hx : hasP n x with _ | _
  · skip
    refine Zn_if_ne (a := 0) (tgt := 10) d_mo_insertProvision_5 (by decide) (by decide) (fun h => absurd h (by decide)) (fun _ => ?_)
    refine Zn_iconst (-1) d_mo_insertProvision_8 (by decide) ?_
    refine Z_iret d_mo_insertProvision_9 rfl ?_
    have e0 : insP n e x y = (-1, none) := by unfold insP; rw [if_neg (by rw [hx]; decide)]
    rw [e0]
    exact ⟨s, G, rfl, hF, cF_rf⟩
  · skip
    obtain ⟨j, hj1, hj2, rfl⟩ := hasP_t hx
    refine Zn_if_ne (a := 1) (tgt := 10) d_mo_insertProvision_5 (by decide) (by decide) (fun _ => ?_) (fun h => absurd h (by decide))
    refine Z_iload_n d_mo_insertProvision_10 rfl ?_
    refine Zn_iconst (nI 0) d_mo_insertProvision_11 (by decide) ?_
    refine Zn_sipush (nI 9999) d_mo_insertProvision_12 (by decide) ?_
    refine zTe (As := [.int y, .int (nI 0), .int (nI 9999)]) (by omega) d_mo_insertProvision_15 lm_mo_189 rfl (Nat.le_of_ble_eq_true rfl) (mo_in_ok d _ _ _) ?_
    rw [inI_t]
    rcases hy : tOk y with _ | _
    · skip
      refine Zn_if_ne (a := 0) (tgt := 24) d_mo_insertProvision_18 (by decide) (by decide) (fun h => absurd h (by decide)) (fun _ => ?_)
      refine Zn_bipush (-5) d_mo_insertProvision_21 (by decide) ?_
      refine Z_iret d_mo_insertProvision_23 rfl ?_
      have e0 : insP n e (nI j) y = (-5, none) := by unfold insP; rw [if_pos hx, if_neg (by rw [hy]; decide)]
      rw [e0]
      exact ⟨s, G, rfl, hF, cF_rf⟩
    · skip
      obtain ⟨t, ht1, rfl⟩ := tOk_t hy
      refine Zn_if_ne (a := 1) (tgt := 24) d_mo_insertProvision_18 (by decide) (by decide) (fun _ => ?_) (fun h => absurd h (by decide))
      refine Z_aload_n d_mo_insertProvision_24 rfl ?_
      refine Z_get (v := .int (nI (s 0))) d_mo_insertProvision_25 lf_mo_154 hF.1 rfl ?_
      refine Zn_bipush (nI 30) d_mo_insertProvision_28 (by decide) ?_
      refine Zn_icmp_ne (tgt := 36) d_mo_insertProvision_30 (by decide) (by omega) (by omega) (fun h30 => ?_) (fun h30 => ?_)
      · skip
        refine Z_aload_n d_mo_insertProvision_36 rfl ?_
        refine zV (As := []) (by omega) d_mo_insertProvision_37 lm_mo_196 hF.1 rfl rfl (Nat.le_of_ble_eq_true rfl) (mo_begin_ok (d + 0) hF (by omega) (by rw [hs0]; exact hO.lv)) (fun M1 v hq hlen => ?_)
        obtain ⟨rfl, s1, G1, hF, hb1, hb2⟩ := hq
        rw [hs0] at hb1 hb2
        have hR := hO.bg2 hb1
        have hc := bg_cF hb1 hb2
        have hs2 : s1 2 = n := hb2.1
        have hs1 : s1 0 = n := by rw [hc.1 0 (by decide) (by decide) (by decide) (by decide)]; exact hs0
        have hB1 : nB (s1 2) G1 := by rw [hs2]; exact hR.1.2.2.2.2.2.1
        have h17 : ∀ v, v < n → G1 17 v ≠ 0 := fun v hv => by rw [(hb1.2 v hv).2.2.2.2.2.2.2]; decide
        refine Z_aload_n d_mo_insertProvision_40 rfl ?_
        refine Z_aload_n d_mo_insertProvision_41 rfl ?_
        refine Z_get (v := .ref 124) d_mo_insertProvision_42 lf_mo_9 hF.1 rfl ?_
        refine Z_iload_n d_mo_insertProvision_45 rfl ?_
        refine Zn_iald d_mo_insertProvision_46 hF.a0 (by omega) (by omega) ?_
        refine Z_aload_n d_mo_insertProvision_47 rfl ?_
        refine Z_iload_n d_mo_insertProvision_48 rfl ?_
        refine zVe (As := [.int (nI j)]) (by omega) d_mo_insertProvision_49 lm_mo_206 hF.1 rfl rfl (Nat.le_of_ble_eq_true rfl) (mo_labelAfter_ok (v := j) d hF hB1 (by omega)) ?_
        have hgk : gk (K j) := (hO.1.2.2.2.2.1.1 j hj1 (by show (1 : Nat) ≠ 0; decide)).1
        rw [hs2, hR.1.aft (q := 0) rfl rfl (fun w hw => ⟨fun z => ⟨z, fun q => by have := (gk_lev (hO.1.2.2.2.2.1.1 w hw (by show (1 : Nat) ≠ 0; decide)).1).1; rw [q] at this; exact absurd this (by decide)⟩, fun z => z.1⟩) hj1 (h17 j hj1)]
        rcases hnw : aftl n e (K j) 0 with _ | b
        · skip
          show Z _ _ _ _ _ _ _ _ _ _
          refine Z_iload_n d_mo_insertProvision_52 rfl ?_
          refine zVe (As := [.int (mI (G1 0 j)), .int (-1), .int (nI t)]) (by omega) d_mo_insertProvision_53 lm_mo_202 hF.1 rfl rfl (Nat.le_of_ble_eq_true rfl) (mo_addOriginal_no (d + 0) hF) ?_
          refine Z_iret d_mo_insertProvision_56 rfl ?_
          have e0 : insP n e (nI j) (nI t) = (-7, none) := by unfold insP; rw [if_pos hx, if_pos hy]; rw [if_pos (by omega), hO.key hj1, hnw]
          rw [e0]
          exact ⟨s1, G1, rfl, hF, hc⟩
        · skip
          obtain ⟨hbk, hfr⟩ := hR.1.aftNew hj1 (h17 j hj1) hnw
          have hb21 := hbk.r
          refine Z_iload_n d_mo_insertProvision_52 rfl ?_
          refine zV (As := [.int (mI (G1 0 j)), .int (nI b), .int (nI t)]) (by omega) d_mo_insertProvision_53 lm_mo_202 hF.1 rfl rfl (Nat.le_of_ble_eq_true rfl) (mo_addOriginal_ok (d + 0) hF (by omega) (by omega)) (fun M2 v2 hq2 hlen2 => ?_)
          obtain ⟨rfl, hF2⟩ := hq2
          rw [hs1] at hF2 ⊢
          refine Z_iret d_mo_insertProvision_56 rfl ?_
          have e0 : insP n e (nI j) (nI t) = (nI n, some (putl (K j) (lev (K j)) b)) := by unfold insP; rw [if_pos hx, if_pos hy]; rw [if_pos (by omega), hO.key hj1, hnw]
          rw [e0]
          obtain ⟨c1, c2, c3, c4⟩ := gk_sib hgk hbk
          exact ⟨_, _, rfl, hF2, adQ_mk hc ht1 (by omega) c1 (fun i hi => hfr i hi (fun z => by have := (gk_lev (hR.1.gd hi)).1; rw [z] at this; exact absurd this (by decide))) (by rw [hc.2 0 (by omega) (by decide), c2, c3]; exact hO.pa hj1) (by rw [c3, c4])⟩
      · skip
        refine Zn_bipush (-6) d_mo_insertProvision_33 (by decide) ?_
        refine Z_iret d_mo_insertProvision_35 rfl ?_
        have e0 : insP n e (nI j) (nI t) = (-6, none) := by unfold insP; rw [if_pos hx, if_pos hy]; rw [if_neg (by omega)]
        rw [e0]
        exact ⟨s, G, rfl, hF, cF_rf⟩
