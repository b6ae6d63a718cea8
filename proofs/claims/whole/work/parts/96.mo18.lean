/-! two versions -/
theorem OR.p {n : Nat} {e : Nat → zEnt} {s s' : Nat → Nat} {G G' : Nat → Nat → Nat} {K : Nat → Nat} (h : OR n e G K) (hp : pF s s' G G') : OR n e G' K := by
  have : orgG G' K = orgG G K := by
    funext b j
    unfold orgG
    rw [hp.2 0 (by decide), hp.2 1 (by decide), hp.2 2 (by decide)]
  unfold OR at h ⊢
  rw [this]
  exact h
theorem amR.p {m : Nat} {dy sz kd pt gl : Nat → Nat} {tx : Nat → Int32} {s s' : Nat → Nat} {G G' : Nat → Nat → Nat} (h : amR m dy sz kd pt gl tx s G) (hp : pF s s' G G') : amR m dy sz kd pt gl tx s' G' := by
  refine ⟨(hp.1 1 (by decide)).trans h.1, h.2.1, fun a ha => ?_⟩
  obtain ⟨a1, a2, a3, a4, a5⟩ := h.2.2 a ha
  rw [hp.2 5 (by decide), hp.2 6 (by decide)]
  exact ⟨a1, a2, a3, a4, fun i hi => (a5 i hi).to (hp.2 7 (by decide)) (hp.2 8 (by decide)) (hp.2 9 (by decide))⟩
theorem vHy.p {m : Nat} {dy sz kd pt gl : Nat → Nat} {tx : Nat → Int32} {s s' : Nat → Nat} {G G' : Nat → Nat → Nat} {n : Nat} {e : Nat → zEnt} {K : Nat → Nat} {y : Nat} {S1 : vSt} (h : vHy m dy sz kd pt gl tx s G n e K y S1) (hp : pF s s' G G') : vHy m dy sz kd pt gl tx s' G' n e K y S1 := ⟨h.1.p hp, h.2.1.p hp, (hp.1 0 (by decide)).trans h.2.2.1, h.2.2.2⟩
theorem RO.gks {S : vSt} {n0 : Nat} {s : Nat → Nat} {G : Nat → Nat → Nat} (h : RO S n0 s G) : S.1 ≤ 60 ∧ ∀ i, i < S.1 → gk (ek (S.2.1 i)) := by
  obtain ⟨K, h1, _⟩ := h
  exact ⟨h1.1.1, fun i hi => h1.1.gd hi⟩
theorem RO.nd {S : vSt} {n0 : Nat} {s : Nat → Nat} {G : Nat → Nat → Nat} (h : RO S n0 s G) : ∃ K, nodes (s 2) G K ∧ od S.1 S.2.1 (s 2) G K S.1 := by
  obtain ⟨K, h1, h2, h3, h4, h5⟩ := h
  exact ⟨K, h1.1.2.2.2.2.1, h5⟩
theorem kpt.c {S : vSt} {s s' : Nat → Nat} {G G' : Nat → Nat → Nat} (h : kpt S G S.1) (hc : cF s s' G G') : kpt S G' S.1 := by
  unfold kpt at h ⊢
  rw [hc.2 26 (by decide) (by decide), hc.2 27 (by decide) (by decide), hc.2 28 (by decide) (by decide), hc.2 29 (by decide) (by decide)]
  exact h
set_option maxHeartbeats 4000000 in
theorem mo_firstDifference_ok {Γ : zCtx} {M : List zE} (d : Nat) {M0 : List zE} {s : Nat → Nat} {G : Nat → Nat → Nat} (hF : FW M0 M s G) {m : Nat} {dy sz kd pt gl : Nat → Nat} {tx : Nat → Int32} {n : Nat} {e : Nat → zEnt} {K : Nat → Nat} {y : Nat} {S1 : vSt} (hV : vHy m dy sz kd pt gl tx s G n e K y S1) {y2 : Nat} {S2 : vSt} (hV2 : vHy m dy sz kd pt gl tx s G n e K y2 S2)  : ZM Γ (d + 8) m_mo_firstDifference [.ref 123, .int (mI y), .int (mI y2)] M (fun M1 v => v = some (.int (oI (fdif S1.1 S2.1 S1.2.1 S2.2.1) (-9))) ∧ ∃ s' G', FW M0 M1 s' G' ∧ pF s s' G G') := by
  refine ZM.of mk_mo_firstDifference (Nat.le_of_ble_eq_true rfl) ?_
  refine Z_aload_n d_mo_firstDifference_0 rfl ?_
  refine Z_iload_n d_mo_firstDifference_1 rfl ?_
  refine zV (As := [.int (mI y)]) (by omega) d_mo_firstDifference_2 lm_mo_313 hF.1 rfl rfl (Nat.le_of_ble_eq_true rfl) (mo_compute_v d hF hV) (fun M1 v hq hlen => ?_)
  obtain ⟨rfl, s1, G1, hF, hRO, hc⟩ := hq
  have hnn := hRO.nn
  have h120 := hV.2.2.2.2.2.1
  refine Zn_if_ne (a := 1) (tgt := 11) d_mo_firstDifference_5 (by decide) (by decide) (fun _ => ?_) (fun h => absurd h (by decide))
  refine Z_aload_n d_mo_firstDifference_11 rfl ?_
  refine zV (As := []) (by omega) d_mo_firstDifference_12 lm_mo_344 hF.1 rfl rfl (Nat.le_of_ble_eq_true rfl) (mo_keep_ok d hF hRO) (fun M1 v hq hlen => ?_)
  obtain ⟨rfl, s2, G2, hF, hk10, hkp, hkf⟩ := hq
  have hgS := hRO.gks
  refine Z_aload_n d_mo_firstDifference_15 rfl ?_
  refine Z_iload_n d_mo_firstDifference_16 rfl ?_
  refine zV (As := [.int (mI y2)]) (by omega) d_mo_firstDifference_17 lm_mo_313 hF.1 rfl rfl (Nat.le_of_ble_eq_true rfl) (mo_compute_v d hF (hV2.p (hc.p.tr hkf.p))) (fun M1 v hq hlen => ?_)
  obtain ⟨rfl, s3, G3, hF, hRO2, hc2⟩ := hq
  obtain ⟨K2, hND, hod⟩ := hRO2.nd
  refine Zn_if_eq (a := 1) (tgt := 31) d_mo_firstDifference_20 (by decide) (by decide) (fun h => absurd h (by decide)) (fun _ => ?_)
  refine Z_aload_n d_mo_firstDifference_23 rfl ?_
  refine Zn_iconst (nI 0) d_mo_firstDifference_24 (by decide) ?_
  refine zVe (As := [.int (nI 0)]) (by omega) d_mo_firstDifference_25 lm_mo_347 hF.1 rfl rfl (Nat.le_of_ble_eq_true rfl) (mo_firstUnlike_ok d hF hRO2 hND hod (hkp.c hc2) ((hc2.1 10 (by decide) (by decide) (by decide) (by decide)).trans hk10) hgS.1 hgS.2 (o := 0) (by omega)) ?_
  refine Z_goto (tgt := 33) d_mo_firstDifference_28 (by decide) ?_
  refine Z_iret d_mo_firstDifference_33 rfl ?_
  refine ⟨?_, s3, G3, hF, (hc.p.tr hkf.p).tr hc2.p⟩
  rw [fu_fdif]
set_option maxHeartbeats 4000000 in
theorem mo_firstDifference_no2 {Γ : zCtx} {M : List zE} (d : Nat) {M0 : List zE} {s : Nat → Nat} {G : Nat → Nat → Nat} (hF : FW M0 M s G) {m : Nat} {dy sz kd pt gl : Nat → Nat} {tx : Nat → Int32} {n : Nat} {e : Nat → zEnt} {K : Nat → Nat} {y : Nat} {S1 : vSt} (hV : vHy m dy sz kd pt gl tx s G n e K y S1) {x : Int32} (hno : dOk x = false)  : ZM Γ (d + 8) m_mo_firstDifference [.ref 123, .int (mI y), .int x] M (fun M1 v => v = some (.int (-4)) ∧ ∃ s' G', FW M0 M1 s' G' ∧ pF s s' G G') := by
  refine ZM.of mk_mo_firstDifference (Nat.le_of_ble_eq_true rfl) ?_
  refine Z_aload_n d_mo_firstDifference_0 rfl ?_
  refine Z_iload_n d_mo_firstDifference_1 rfl ?_
  refine zV (As := [.int (mI y)]) (by omega) d_mo_firstDifference_2 lm_mo_313 hF.1 rfl rfl (Nat.le_of_ble_eq_true rfl) (mo_compute_v d hF hV) (fun M1 v hq hlen => ?_)
  obtain ⟨rfl, s1, G1, hF, hRO, hc⟩ := hq
  have hnn := hRO.nn
  have h120 := hV.2.2.2.2.2.1
  refine Zn_if_ne (a := 1) (tgt := 11) d_mo_firstDifference_5 (by decide) (by decide) (fun _ => ?_) (fun h => absurd h (by decide))
  refine Z_aload_n d_mo_firstDifference_11 rfl ?_
  refine zV (As := []) (by omega) d_mo_firstDifference_12 lm_mo_344 hF.1 rfl rfl (Nat.le_of_ble_eq_true rfl) (mo_keep_ok d hF hRO) (fun M1 v hq hlen => ?_)
  obtain ⟨rfl, s2, G2, hF, hk10, hkp, hkf⟩ := hq
  have hgS := hRO.gks
  refine Z_aload_n d_mo_firstDifference_15 rfl ?_
  refine Z_iload_n d_mo_firstDifference_16 rfl ?_
  refine zVe (As := [.int x]) (by omega) d_mo_firstDifference_17 lm_mo_313 hF.1 rfl rfl (Nat.le_of_ble_eq_true rfl) (mo_compute_no d hF hno) ?_
  refine Zn_if_eq (a := 0) (tgt := 31) d_mo_firstDifference_20 (by decide) (by decide) (fun _ => ?_) (fun h => absurd h (by decide))
  refine Zn_bipush (-4) d_mo_firstDifference_31 (by decide) ?_
  refine Z_iret d_mo_firstDifference_33 rfl ?_
  exact ⟨rfl, s2, G2, hF, hc.p.tr hkf.p⟩
set_option maxHeartbeats 4000000 in
theorem mo_firstDifference_no {Γ : zCtx} {M : List zE} (d : Nat) {M0 : List zE} {s : Nat → Nat} {G : Nat → Nat → Nat} (hF : FW M0 M s G) {x : Int32} (hno : dOk x = false) (z : Int32)  : ZM Γ (d + 8) m_mo_firstDifference [.ref 123, .int x, .int z] M (zEq M (some (.int (-4)))) := by
  refine ZM.of mk_mo_firstDifference (Nat.le_of_ble_eq_true rfl) ?_
  refine Z_aload_n d_mo_firstDifference_0 rfl ?_
  refine Z_iload_n d_mo_firstDifference_1 rfl ?_
  refine zVe (As := [.int x]) (by omega) d_mo_firstDifference_2 lm_mo_313 hF.1 rfl rfl (Nat.le_of_ble_eq_true rfl) (mo_compute_no d hF hno) ?_
  refine Zn_if_ne (a := 0) (tgt := 11) d_mo_firstDifference_5 (by decide) (by decide) (fun h => absurd h (by decide)) (fun _ => ?_)
  refine Zn_bipush (-4) d_mo_firstDifference_8 (by decide) ?_
  refine Z_iret d_mo_firstDifference_10 rfl ?_
  exact ⟨rfl, rfl⟩
set_option maxHeartbeats 4000000 in
theorem mo_isAmendment_ok {Γ : zCtx} {M : List zE} (d : Nat) {M0 : List zE} {s : Nat → Nat} {G : Nat → Nat → Nat} (hF : FW M0 M s G) {n : Nat} (hs : s 1 = n) (hn : n ≤ 60) (x : Int32)  : ZM Γ (d + 2) m_mo_isAmendment [.ref 123, .int x] M (zEq M (some (.int (nI (if hasP n x = true then 1 else 0))))) := by
  refine ZM.of mk_mo_isAmendment (Nat.le_of_ble_eq_true rfl) ?_
  refine Z_iload_n d_mo_isAmendment_0 rfl ?_
  refine Zn_iconst (nI 0) d_mo_isAmendment_1 (by decide) ?_
  refine Z_aload_n d_mo_isAmendment_2 rfl ?_
  refine Z_get (v := .int (nI (s 1))) d_mo_isAmendment_3 lf_mo_209 hF.1 rfl ?_
  refine Zn_iconst (nI 1) d_mo_isAmendment_6 (by decide) ?_
  refine Z_isub d_mo_isAmendment_7 ?_
  rw [hs]
  refine zTe (As := [.int x, .int (nI 0), .int (nI n - nI 1)]) (by omega) d_mo_isAmendment_8 lm_mo_189 rfl (Nat.le_of_ble_eq_true rfl) (mo_in_ok d _ _ _) ?_
  rw [inI_has (by omega)]
  refine Z_zret d_mo_isAmendment_11 rfl (by split <;> rfl) ?_
  exact ⟨rfl, rfl⟩
set_option maxHeartbeats 4000000 in
theorem mo_isOriginal_ok {Γ : zCtx} {M : List zE} (d : Nat) {M0 : List zE} {s : Nat → Nat} {G : Nat → Nat → Nat} (hF : FW M0 M s G) {n : Nat} (hs : s 0 = n) (hn : n ≤ 60) (x : Int32)  : ZM Γ (d + 2) m_mo_isOriginal [.ref 123, .int x] M (zEq M (some (.int (nI (if hasP n x = true then 1 else 0))))) := by
  refine ZM.of mk_mo_isOriginal (Nat.le_of_ble_eq_true rfl) ?_
  refine Z_iload_n d_mo_isOriginal_0 rfl ?_
  refine Zn_iconst (nI 0) d_mo_isOriginal_1 (by decide) ?_
  refine Z_aload_n d_mo_isOriginal_2 rfl ?_
  refine Z_get (v := .int (nI (s 0))) d_mo_isOriginal_3 lf_mo_154 hF.1 rfl ?_
  refine Zn_iconst (nI 1) d_mo_isOriginal_6 (by decide) ?_
  refine Z_isub d_mo_isOriginal_7 ?_
  rw [hs]
  refine zTe (As := [.int x, .int (nI 0), .int (nI n - nI 1)]) (by omega) d_mo_isOriginal_8 lm_mo_189 rfl (Nat.le_of_ble_eq_true rfl) (mo_in_ok d _ _ _) ?_
  rw [inI_has (by omega)]
  refine Z_zret d_mo_isOriginal_11 rfl (by split <;> rfl) ?_
  exact ⟨rfl, rfl⟩
set_option maxHeartbeats 4000000 in
theorem mo_doCommute_ok {Γ : zCtx} {M : List zE} (d : Nat) {M0 : List zE} {s : Nat → Nat} {G : Nat → Nat → Nat} (hF : FW M0 M s G) {m : Nat} {dy sz kd pt gl : Nat → Nat} {tx : Nat → Int32} (ham : amR m dy sz kd pt gl tx s G) {n : Nat} {e : Nat → zEnt} {K : Nat → Nat} (hO : OR n e G K) (hs0 : s 0 = n) (hn : n ≤ 30) {j k : Nat} (hj : j < m) (hk : k < m) {S0 T0 Sa S1 Ua U1 : vSt} (hap1 : vAp kd pt gl tx j (vBeg S0 n e) (sz j) Sa) (hap2 : vAp kd pt gl tx k Sa (sz k) S1) (hap1t : vAp kd pt gl tx k (vBeg T0 n e) (sz k) Ua) (hap2t : vAp kd pt gl tx j Ua (sz j) U1)  : ZM Γ (d + 7) m_mo_doCommute [.ref 123, .int (nI j), .int (nI k)] M (fun M1 v => v = some (.int (nI (if same S1.1 U1.1 S1.2.1 U1.2.1 = true then 1 else 0))) ∧ ∃ s' G', FW M0 M1 s' G' ∧ pF s s' G G') := by
  refine ZM.of mk_mo_doCommute (Nat.le_of_ble_eq_true rfl) ?_
  have hm8 := ham.2.1
  have hzj := (ham.2.2 j hj).2.2.2.1
  have hzk := (ham.2.2 k hk).2.2.2.1
  refine Z_aload_n d_mo_doCommute_0 rfl ?_
  refine Z_iload_n d_mo_doCommute_1 rfl ?_
  refine zVe (As := [.int (nI j)]) (by omega) d_mo_doCommute_2 lm_mo_279 hF.1 rfl rfl (Nat.le_of_ble_eq_true rfl) (mo_isAmendment_ok d hF ham.1 (by omega) (nI j)) ?_
  rw [hasP_nI (by omega), decide_eq_true (by assumption), if_pos rfl]
  refine Zn_if_eq (a := 1) (tgt := 16) d_mo_doCommute_5 (by decide) (by decide) (fun h => absurd h (by decide)) (fun _ => ?_)
  refine Z_aload_n d_mo_doCommute_8 rfl ?_
  refine Z_iload_n d_mo_doCommute_9 rfl ?_
  refine zVe (As := [.int (nI k)]) (by omega) d_mo_doCommute_10 lm_mo_279 hF.1 rfl rfl (Nat.le_of_ble_eq_true rfl) (mo_isAmendment_ok d hF ham.1 (by omega) (nI k)) ?_
  rw [hasP_nI (by omega), decide_eq_true (by assumption), if_pos rfl]
  refine Zn_if_ne (a := 1) (tgt := 19) d_mo_doCommute_13 (by decide) (by decide) (fun _ => ?_) (fun h => absurd h (by decide))
  refine Z_aload_n d_mo_doCommute_19 rfl ?_
  refine zV (As := []) (by omega) d_mo_doCommute_20 lm_mo_196 hF.1 rfl rfl (Nat.le_of_ble_eq_true rfl) (mo_begin_ok (d + 4) hF (by omega) (by rw [hs0]; exact hO.lv)) (fun M1 v hq hlen => ?_)
  obtain ⟨rfl, s1, G1, hF, hb1, hb2⟩ := hq
  rw [hs0] at hb1 hb2
  obtain ⟨hR, hc, hn2, hq4⟩ := hO.beg hb1 hb2 S0
  refine Z_aload_n d_mo_doCommute_23 rfl ?_
  refine Z_iload_n d_mo_doCommute_24 rfl ?_
  obtain ⟨c1, c10, c1z, c1ch⟩ := vAp_ch hap1
  have haa1 := ham.2.2 j (by omega)
  refine zV (As := [.int (nI j)]) (by omega) d_mo_doCommute_25 lm_mo_307 hF.1 rfl rfl (Nat.le_of_ble_eq_true rfl) (mo_apA_ok (n0 := n) d (by omega) c1ch hF (by rw [hc.2 6 (by decide) (by decide)]; exact haa1.2.2.1) (fun i hi => (haa1.2.2.2.2 i hi).cf hc) haa1.2.2.2.1 (by omega) (by omega) (by rw [c10]; exact hR)) (fun M1 v hq hlen => ?_)
  obtain ⟨rfl, s2, G2, hF, hR2, hcx, hbn1, hbq1⟩ := hq
  rw [c1z] at hR2
  have hcc2 := hc.tr hcx
  refine Z_aload_n d_mo_doCommute_28 rfl ?_
  refine Z_iload_n d_mo_doCommute_29 rfl ?_
  obtain ⟨c2, c20, c2z, c2ch⟩ := vAp_ch hap2
  have haa2 := ham.2.2 k (by omega)
  refine zV (As := [.int (nI k)]) (by omega) d_mo_doCommute_30 lm_mo_307 hF.1 rfl rfl (Nat.le_of_ble_eq_true rfl) (mo_apA_ok (n0 := n) d (by omega) c2ch hF (by rw [hcc2.2 6 (by decide) (by decide)]; exact haa2.2.2.1) (fun i hi => (haa2.2.2.2.2 i hi).cf hcc2) haa2.2.2.2.1 (by omega) (by omega) (by rw [c20]; exact hR2)) (fun M1 v hq hlen => ?_)
  obtain ⟨rfl, s3, G3, hF, hR3, hcx, hbn2, hbq2⟩ := hq
  rw [c2z] at hR3
  have hcc3 := hcc2.tr hcx
  refine Z_aload_n d_mo_doCommute_33 rfl ?_
  obtain ⟨KK, hVV, hx3, hx4, hxc⟩ := hR3
  refine zV (As := []) (by omega) d_mo_doCommute_34 lm_mo_310 hF.1 rfl rfl (Nat.le_of_ble_eq_true rfl) (mo_orderVersion_ok (d + 1) hF hVV) (fun M1 v hq hlen => ?_)
  obtain ⟨rfl, G4, hF, hG4, hod4⟩ := hq
  have hRO := RV.ord hVV hx3 hx4 hxc hG4 hod4
  have hcO := hcc3.ord (n := S1.1) hG4
  refine Z_aload_n d_mo_doCommute_37 rfl ?_
  refine zV (As := []) (by omega) d_mo_doCommute_38 lm_mo_344 hF.1 rfl rfl (Nat.le_of_ble_eq_true rfl) (mo_keep_ok d hF hRO) (fun M1 v hq hlen => ?_)
  obtain ⟨rfl, s5, G5, hF, hk10, hkp, hkf⟩ := hq
  have hgS := hRO.gks
  have hp5 := hcO.p.tr hkf.p
  have ham5 := ham.p hp5
  have hO5 := hO.p hp5
  have hs0t : s5 0 = n := (hp5.1 0 (by decide)).trans hs0
  refine Z_aload_n d_mo_doCommute_41 rfl ?_
  refine zV (As := []) (by omega) d_mo_doCommute_42 lm_mo_196 hF.1 rfl rfl (Nat.le_of_ble_eq_true rfl) (mo_begin_ok (d + 4) hF (by omega) (by rw [hs0t]; exact hO5.lv)) (fun M1 v hq hlen => ?_)
  obtain ⟨rfl, s1t, G1t, hF, hb1t, hb2t⟩ := hq
  rw [hs0t] at hb1t hb2t
  obtain ⟨hRt, hct, hn2t, hq4t⟩ := hO5.beg hb1t hb2t T0
  refine Z_aload_n d_mo_doCommute_45 rfl ?_
  refine Z_iload_n d_mo_doCommute_46 rfl ?_
  obtain ⟨c1t, c1t0, c1tz, c1tch⟩ := vAp_ch hap1t
  have haa1t := ham5.2.2 k (by omega)
  refine zV (As := [.int (nI k)]) (by omega) d_mo_doCommute_47 lm_mo_307 hF.1 rfl rfl (Nat.le_of_ble_eq_true rfl) (mo_apA_ok (n0 := n) d (by omega) c1tch hF (by rw [hct.2 6 (by decide) (by decide)]; exact haa1t.2.2.1) (fun i hi => (haa1t.2.2.2.2 i hi).cf hct) haa1t.2.2.2.1 (by omega) (by omega) (by rw [c1t0]; exact hRt)) (fun M1 v hq hlen => ?_)
  obtain ⟨rfl, s2t, G2t, hF, hR2t, hcx, hbn1t, hbq1t⟩ := hq
  rw [c1tz] at hR2t
  have hcc2t := hct.tr hcx
  refine Z_aload_n d_mo_doCommute_50 rfl ?_
  refine Z_iload_n d_mo_doCommute_51 rfl ?_
  obtain ⟨c2t, c2t0, c2tz, c2tch⟩ := vAp_ch hap2t
  have haa2t := ham5.2.2 j (by omega)
  refine zV (As := [.int (nI j)]) (by omega) d_mo_doCommute_52 lm_mo_307 hF.1 rfl rfl (Nat.le_of_ble_eq_true rfl) (mo_apA_ok (n0 := n) d (by omega) c2tch hF (by rw [hcc2t.2 6 (by decide) (by decide)]; exact haa2t.2.2.1) (fun i hi => (haa2t.2.2.2.2 i hi).cf hcc2t) haa2t.2.2.2.1 (by omega) (by omega) (by rw [c2t0]; exact hR2t)) (fun M1 v hq hlen => ?_)
  obtain ⟨rfl, s3t, G3t, hF, hR3t, hcx, hbn2t, hbq2t⟩ := hq
  rw [c2tz] at hR3t
  have hcc3t := hcc2t.tr hcx
  refine Z_aload_n d_mo_doCommute_55 rfl ?_
  obtain ⟨KKt, hVVt, hx3t, hx4t, hxct⟩ := hR3t
  refine zV (As := []) (by omega) d_mo_doCommute_56 lm_mo_310 hF.1 rfl rfl (Nat.le_of_ble_eq_true rfl) (mo_orderVersion_ok (d + 1) hF hVVt) (fun M1 v hq hlen => ?_)
  obtain ⟨rfl, G4t, hF, hG4t, hod4t⟩ := hq
  have hRO2 := RV.ord hVVt hx3t hx4t hxct hG4t hod4t
  have hcOt := hcc3t.ord (n := U1.1) hG4t
  obtain ⟨K2, hND, hod⟩ := hRO2.nd
  refine Z_aload_n d_mo_doCommute_59 rfl ?_
  refine Zn_iconst (nI 1) d_mo_doCommute_60 (by decide) ?_
  refine zVe (As := [.int (nI 1)]) (by omega) d_mo_doCommute_61 lm_mo_347 hF.1 rfl rfl (Nat.le_of_ble_eq_true rfl) (mo_firstUnlike_ok d hF hRO2 hND hod (hkp.c hcOt) ((hcOt.1 10 (by decide) (by decide) (by decide) (by decide)).trans hk10) hgS.1 hgS.2 (o := 1) (by omega)) ?_
  have hsm := fu_same (S := S1) (U := U1)
  rcases hfr : frst (fun i => !(keq S1 U1 1 i)) (max S1.1 U1.1) with _ | r
  · skip
    rw [hfr] at hsm
    refine Zn_bipush (-9) d_mo_doCommute_64 (by decide) ?_
    refine Z_icmp_ne (tgt := 73) d_mo_doCommute_66 (by decide) (fun h66 => ?_) (fun h66 => ?_)
    · skip
      exact absurd rfl h66 -- end
    · skip
      skip
      refine Zn_iconst (nI 1) d_mo_doCommute_69 (by decide) ?_
      refine Z_goto (tgt := 74) d_mo_doCommute_70 (by decide) ?_
      refine Z_iret d_mo_doCommute_74 rfl ?_
      refine ⟨?_, _, _, hF, hp5.tr hcOt.p⟩
      rw [← hsm]
      rfl
  · skip
    rw [hfr] at hsm
    have hrl := (frst_some.mp hfr).1
    have hu60 := hRO2.gks.1
    have hs60 := hgS.1
    refine Zn_bipush (-9) d_mo_doCommute_64 (by decide) ?_
    refine Z_icmp_ne (tgt := 73) d_mo_doCommute_66 (by decide) (fun h66 => ?_) (fun h66 => ?_)
    · skip
      skip
      refine Zn_iconst (nI 0) d_mo_doCommute_73 (by decide) ?_
      refine Z_iret d_mo_doCommute_74 rfl ?_
      refine ⟨?_, _, _, hF, hp5.tr hcOt.p⟩
      rw [← hsm]
      rfl
    · skip
      exact absurd h66 (zn_m9 (by omega)) -- end
set_option maxHeartbeats 4000000 in
theorem mo_doCommute_no {Γ : zCtx} {M : List zE} (d : Nat) {M0 : List zE} {s : Nat → Nat} {G : Nat → Nat → Nat} (hF : FW M0 M s G) {m : Nat} (hm : s 1 = m) (hm8 : m ≤ 8) {x z : Int32} (hno : ¬ (hasP m x = true ∧ hasP m z = true))  : ZM Γ (d + 7) m_mo_doCommute [.ref 123, .int x, .int z] M (zEq M (some (.int (-3)))) := by
  refine ZM.of mk_mo_doCommute (Nat.le_of_ble_eq_true rfl) ?_
  refine Z_aload_n d_mo_doCommute_0 rfl ?_
  refine Z_iload_n d_mo_doCommute_1 rfl ?_
  refine zVe (As := [.int x]) (by omega) d_mo_doCommute_2 lm_mo_279 hF.1 rfl rfl (Nat.le_of_ble_eq_true rfl) (mo_isAmendment_ok d hF hm (by omega) x) ?_
  rcases h1 : hasP m x with _ | _
  · skip
    refine Zn_if_eq (a := 0) (tgt := 16) d_mo_doCommute_5 (by decide) (by decide) (fun _ => ?_) (fun h => absurd h (by decide))
    refine Zn_bipush (-3) d_mo_doCommute_16 (by decide) ?_
    refine Z_iret d_mo_doCommute_18 rfl ?_
    exact ⟨rfl, rfl⟩
  · skip
    refine Zn_if_eq (a := 1) (tgt := 16) d_mo_doCommute_5 (by decide) (by decide) (fun h => absurd h (by decide)) (fun _ => ?_)
    refine Z_aload_n d_mo_doCommute_8 rfl ?_
    refine Z_iload_n d_mo_doCommute_9 rfl ?_
    refine zVe (As := [.int z]) (by omega) d_mo_doCommute_10 lm_mo_279 hF.1 rfl rfl (Nat.le_of_ble_eq_true rfl) (mo_isAmendment_ok d hF hm (by omega) z) ?_
    rcases h2 : hasP m z with _ | _
    · skip
      refine Zn_if_ne (a := 0) (tgt := 19) d_mo_doCommute_13 (by decide) (by decide) (fun h => absurd h (by decide)) (fun _ => ?_)
      refine Zn_bipush (-3) d_mo_doCommute_16 (by decide) ?_
      refine Z_iret d_mo_doCommute_18 rfl ?_
      exact ⟨rfl, rfl⟩
    · skip
      exact absurd ⟨h1, h2⟩ hno
