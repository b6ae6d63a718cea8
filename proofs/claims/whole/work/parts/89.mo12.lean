/-! references -/
def rfO (G : Nat → Nat → Nat) (v : Nat) : Nat := match G 14 v with
  | 0 => 0
  | u + 1 => G 3 u
theorem rfO_0 {G : Nat → Nat → Nat} {v : Nat} (h : G 14 v = 0) : rfO G v = 0 := by unfold rfO; rw [h]
theorem rfO_s {G : Nat → Nat → Nat} {v u : Nat} (h : G 14 v = u + 1) : rfO G v = G 3 u := by unfold rfO; rw [h]
theorem RO.rf {S : vSt} {n : Nat} {s : Nat → Nat} {G : Nat → Nat → Nat} {rc : Nat → Nat} {tg : Nat → Nat → Nat} (h : RO S n s G) (hr : rfR n rc tg G) (hn : n ≤ 30) {j : Nat} (hj : j < S.1) : rcO n rc (eo (S.2.1 j)) = rfO G (G 18 j) ∧ (∀ u, G 14 (G 18 j) = u + 1 → u < n ∧ eo (S.2.1 j) = nI u ∧ rfO G (G 18 j) = rc u) ∧ rfO G (G 18 j) ≤ 4 := by
  have a := h.at hj
  have e14 := a.2.2.2.2.2.2.2.2.2
  have eo' := a.2.2.2.2.2.1
  rcases ho : G 14 (G 18 j) with _ | u
  · rw [ho] at eo'
    refine ⟨?_, fun u hu => by omega, by rw [rfO_0 ho]; omega⟩
    rw [rfO_0 ho, eo', kI_0]
    unfold rcO
    rw [hasP_neg (by decide)]
    rfl
  · rw [ho] at eo' e14
    have un : u < n := by
      split at e14 <;> omega
    have r := hr u un
    rw [kI_s] at eo'
    refine ⟨?_, fun u' hu => by
      have : u' = u := by omega
      subst this
      exact ⟨un, eo', by rw [rfO_s ho]; exact r.1⟩, by rw [rfO_s ho, r.1]; exact r.2.1⟩
    rw [rfO_s ho, eo', r.1]
    unfold rcO
    rw [hasP_nI (by omega), decide_eq_true un, if_pos rfl, zn_cl (by omega)]
set_option maxHeartbeats 4000000 in
theorem mo_referencesOf_ok {Γ : zCtx} {M : List zE} (d : Nat) {M0 : List zE} {s : Nat → Nat} {G : Nat → Nat → Nat} (hF : FW M0 M s G) {v : Nat} (hv : v < 160) (hu : ∀ u, G 14 v = u + 1 → u < 30)  : ZM Γ (d + 1) m_mo_referencesOf [.ref 123, .int (nI v)] M (zEq M (some (.int (nI (rfO G v))))) := by
  refine ZM.of mk_mo_referencesOf (Nat.le_of_ble_eq_true rfl) ?_
  refine Z_aload_n d_mo_referencesOf_0 rfl ?_
  refine Z_get (v := .ref 138) d_mo_referencesOf_1 lf_mo_52 hF.1 rfl ?_
  refine Z_iload_n d_mo_referencesOf_4 rfl ?_
  refine Zn_iald d_mo_referencesOf_5 hF.a14 (by omega) (by omega) ?_
  rcases ho : G 14 v with _ | u
  · skip
    refine Z_if_ge (tgt := 13) d_mo_referencesOf_6 (by decide) (fun h6 => ?_) (fun h6 => ?_)
    · skip
      exact absurd h6 (by decide) -- end
    · skip
      skip
      refine Zn_iconst (nI 0) d_mo_referencesOf_9 (by decide) ?_
      refine Z_goto (tgt := 24) d_mo_referencesOf_10 (by decide) ?_
      refine Z_iret d_mo_referencesOf_24 rfl ?_
      exact ⟨rfl, by rw [rfO_0 ho]⟩
  · skip
    have hu9 := hu u ho
    refine Z_if_ge (tgt := 13) d_mo_referencesOf_6 (by decide) (fun h6 => ?_) (fun h6 => ?_)
    · skip
      skip
      refine Z_aload_n d_mo_referencesOf_13 rfl ?_
      refine Z_get (v := .ref 127) d_mo_referencesOf_14 lf_mo_19 hF.1 rfl ?_
      refine Z_aload_n d_mo_referencesOf_17 rfl ?_
      refine Z_get (v := .ref 138) d_mo_referencesOf_18 lf_mo_52 hF.1 rfl ?_
      refine Z_iload_n d_mo_referencesOf_21 rfl ?_
      refine Zn_iald d_mo_referencesOf_22 hF.a14 (by omega) (by omega) ?_
      rw [ho, kI_s]
      refine Zn_iald d_mo_referencesOf_23 hF.a3 (by omega) (by omega) ?_
      refine Z_iret d_mo_referencesOf_24 rfl ?_
      exact ⟨rfl, by rw [rfO_s ho]⟩
    · skip
      exact absurd (nI_pos' (by omega)) h6 -- end
set_option maxHeartbeats 4000000 in
theorem mo_referenceCountAt_ok {Γ : zCtx} {M : List zE} (d : Nat) {M0 : List zE} {s : Nat → Nat} {G : Nat → Nat → Nat} (hF : FW M0 M s G) {m : Nat} {dy sz kd pt gl : Nat → Nat} {tx : Nat → Int32} {n : Nat} {e : Nat → zEnt} {K : Nat → Nat} {y : Nat} {S1 : vSt} (hV : vHy m dy sz kd pt gl tx s G n e K y S1) {rc : Nat → Nat} {tg : Nat → Nat → Nat} (hrf : rfR n rc tg G) (z : Int32)  : ZM Γ (d + 9) m_mo_referenceCountAt [.ref 123, .int (mI y), .int z] M (fun M1 v => v = some (.int (if hasP S1.1 z = true then nI (rcO n rc (eo (S1.2.1 z.toNatClampNeg))) else -2)) ∧ ∃ s' G', FW M0 M1 s' G' ∧ pF s s' G G') := by
  refine ZM.of mk_mo_referenceCountAt (Nat.le_of_ble_eq_true rfl) ?_
  rw [show zEn [.ref 123, .int (mI y), .int z] = [some (.ref 123), some (.int (mI y)), some (.int z)] from rfl]
  refine zPad 1 ?_
  show Z _ _ _ _ _ _ _ [some (.ref 123), some (.int (mI y)), some (.int z), none] _ _
  refine Z_aload_n d_mo_referenceCountAt_0 rfl ?_
  refine Z_iload_n d_mo_referenceCountAt_1 rfl ?_
  refine Z_iload_n d_mo_referenceCountAt_2 rfl ?_
  refine zV (As := [.int (mI y), .int z]) (by omega) d_mo_referenceCountAt_3 lm_mo_316 hF.1 rfl rfl (Nat.le_of_ble_eq_true rfl) (mo_reach_ok d hF hV z) (fun M1 v hq hlen => ?_)
  obtain ⟨rfl, s1, G1, hF, hRO, hc⟩ := hq
  have hnn := hRO.nn
  rcases hz : hasP S1.1 z with _ | _
  · skip
    refine Zn_istore_n [some (.ref 123), some (.int (mI y)), some (.int z), some (.int (-2))] d_mo_referenceCountAt_6 (by decide) rfl ?_
    refine Z_iload_n d_mo_referenceCountAt_7 rfl ?_
    refine Z_if_ge (tgt := 15) d_mo_referenceCountAt_8 (by decide) (fun h8 => ?_) (fun h8 => ?_)
    · skip
      exact absurd h8 (by decide) -- end
    · skip
      skip
      refine Z_iload_n d_mo_referenceCountAt_11 rfl ?_
      refine Z_goto (tgt := 25) d_mo_referenceCountAt_12 (by decide) ?_
      refine Z_iret d_mo_referenceCountAt_25 rfl ?_
      exact ⟨rfl, s1, G1, hF, hc.p⟩
  · skip
    obtain ⟨j, hj1, hj2, rfl⟩ := hasP_t hz
    have hat := hRO.at hj1
    refine Zn_istore_n [some (.ref 123), some (.int (mI y)), some (.int (nI j)), some (.int (nI 0))] d_mo_referenceCountAt_6 (by decide) rfl ?_
    refine Z_iload_n d_mo_referenceCountAt_7 rfl ?_
    refine Z_if_ge (tgt := 15) d_mo_referenceCountAt_8 (by decide) (fun h8 => ?_) (fun h8 => ?_)
    · skip
      skip
      refine Z_aload_n d_mo_referenceCountAt_15 rfl ?_
      refine Z_aload_n d_mo_referenceCountAt_16 rfl ?_
      refine Z_get (v := .ref 142) d_mo_referenceCountAt_17 lf_mo_65 hF.1 rfl ?_
      refine Z_iload_n d_mo_referenceCountAt_20 rfl ?_
      refine Zn_iald d_mo_referenceCountAt_21 hF.a18 (by omega) (by omega) ?_
      have hn30 := hV.2.2.2.1
      have hrr := hRO.rf (hrf.p hc.p) hn30 hj1
      refine zVe (As := [.int (nI (G1 18 j))]) (by omega) d_mo_referenceCountAt_22 lm_mo_351 hF.1 rfl rfl (Nat.le_of_ble_eq_true rfl) (mo_referencesOf_ok d hF (by omega) (fun u hu => by have := (hrr.2.1 u hu).1; omega)) ?_
      refine Z_iret d_mo_referenceCountAt_25 rfl ?_
      refine ⟨?_, s1, G1, hF, hc.p⟩
      rw [if_pos rfl, zn_cl hj2, hrr.1]
    · skip
      exact absurd (by decide) h8 -- end
set_option maxHeartbeats 4000000 in
theorem mo_referenceCountAt_no {Γ : zCtx} {M : List zE} (d : Nat) {M0 : List zE} {s : Nat → Nat} {G : Nat → Nat → Nat} (hF : FW M0 M s G) {x : Int32} (hno : dOk x = false) (z : Int32)  : ZM Γ (d + 9) m_mo_referenceCountAt [.ref 123, .int x, .int z] M (zEq M (some (.int (-4)))) := by
  refine ZM.of mk_mo_referenceCountAt (Nat.le_of_ble_eq_true rfl) ?_
  rw [show zEn [.ref 123, .int x, .int z] = [some (.ref 123), some (.int x), some (.int z)] from rfl]
  refine zPad 1 ?_
  show Z _ _ _ _ _ _ _ [some (.ref 123), some (.int x), some (.int z), none] _ _
  refine Z_aload_n d_mo_referenceCountAt_0 rfl ?_
  refine Z_iload_n d_mo_referenceCountAt_1 rfl ?_
  refine Z_iload_n d_mo_referenceCountAt_2 rfl ?_
  refine zVe (As := [.int x, .int z]) (by omega) d_mo_referenceCountAt_3 lm_mo_316 hF.1 rfl rfl (Nat.le_of_ble_eq_true rfl) (mo_reach_no d hF hno z) ?_
  refine Zn_istore_n [some (.ref 123), some (.int x), some (.int z), some (.int (-4))] d_mo_referenceCountAt_6 (by decide) rfl ?_
  refine Z_iload_n d_mo_referenceCountAt_7 rfl ?_
  refine Z_if_ge (tgt := 15) d_mo_referenceCountAt_8 (by decide) (fun h8 => ?_) (fun h8 => ?_)
  · skip
    exact absurd h8 (by decide) -- end
  · skip
    skip
    refine Z_iload_n d_mo_referenceCountAt_11 rfl ?_
    refine Z_goto (tgt := 25) d_mo_referenceCountAt_12 (by decide) ?_
    refine Z_iret d_mo_referenceCountAt_25 rfl ?_
    exact ⟨rfl, rfl⟩
def dgl (G : Nat → Nat → Nat) (t : Nat) : Nat := if G 17 t = 0 ∨ G 16 t ≠ 0 then 1 else 0
set_option maxHeartbeats 4000000 in
theorem mo_isDangling_ok {Γ : zCtx} {M : List zE} (d : Nat) {M0 : List zE} {s : Nat → Nat} {G : Nat → Nat → Nat} (hF : FW M0 M s G) {t : Nat} (ht : t < 160) (h17 : G 17 t ≤ 1) (h16 : G 16 t ≤ 1)  : ZM Γ (d + 1) m_mo_isDangling [.ref 123, .int (nI t)] M (zEq M (some (.int (nI (dgl G t))))) := by
  refine ZM.of mk_mo_isDangling (Nat.le_of_ble_eq_true rfl) ?_
  refine Z_aload_n d_mo_isDangling_0 rfl ?_
  refine Z_get (v := .ref 141) d_mo_isDangling_1 lf_mo_62 hF.1 rfl ?_
  refine Z_iload_n d_mo_isDangling_4 rfl ?_
  refine Zn_zald d_mo_isDangling_5 hF.a17 (by omega) (by omega) ?_
  skip
  refine Zn_if_eq (tgt := 18) d_mo_isDangling_6 (by decide) (by omega) (fun h6 => ?_) (fun h6 => ?_)
  · skip
    refine Zn_iconst (nI 1) d_mo_isDangling_18 (by decide) ?_
    refine Z_goto (tgt := 23) d_mo_isDangling_19 (by decide) ?_
    refine Z_zret d_mo_isDangling_23 rfl rfl ?_
    refine ⟨rfl, ?_⟩
    unfold dgl
    first | rw [if_pos (Or.inl h6)] | rw [if_pos (Or.inr h15)] | rw [if_neg (fun z => by rcases z with z | z; exact h6 z; exact z h15)]
  · skip
    refine Z_aload_n d_mo_isDangling_9 rfl ?_
    refine Z_get (v := .ref 140) d_mo_isDangling_10 lf_mo_58 hF.1 rfl ?_
    refine Z_iload_n d_mo_isDangling_13 rfl ?_
    refine Zn_zald d_mo_isDangling_14 hF.a16 (by omega) (by omega) ?_
    refine Zn_if_eq (tgt := 22) d_mo_isDangling_15 (by decide) (by omega) (fun h15 => ?_) (fun h15 => ?_)
    · skip
      refine Zn_iconst (nI 0) d_mo_isDangling_22 (by decide) ?_
      refine Z_zret d_mo_isDangling_23 rfl rfl ?_
      refine ⟨rfl, ?_⟩
      unfold dgl
      first | rw [if_pos (Or.inl h6)] | rw [if_pos (Or.inr h15)] | rw [if_neg (fun z => by rcases z with z | z; exact h6 z; exact z h15)]
    · skip
      refine Zn_iconst (nI 1) d_mo_isDangling_18 (by decide) ?_
      refine Z_goto (tgt := 23) d_mo_isDangling_19 (by decide) ?_
      refine Z_zret d_mo_isDangling_23 rfl rfl ?_
      refine ⟨rfl, ?_⟩
      unfold dgl
      first | rw [if_pos (Or.inl h6)] | rw [if_pos (Or.inr h15)] | rw [if_neg (fun z => by rcases z with z | z; exact h6 z; exact z h15)]
set_option maxHeartbeats 4000000 in
theorem mo_positionOf_loop {Γ : zCtx} (d : Nat) {M : List zE} {M0 : List zE} {s : Nat → Nat} {G : Nat → Nat → Nat} (hF : FW M0 M s G) {i t : Nat} (hi : i < 60) (hi18 : G 18 i = t) (hlt : ∀ j, j < i → G 18 j ≠ t) (hb : ∀ j, j ≤ i → G 18 j < 160)  : ∀ (f : Nat) (j : Nat), j ≤ i → i < j + f → ∀ Q : List zE → Option Value → Prop, Q M (some (.int (nI i))) → Z Γ (zRm (d + 1) m_mo_positionOf) m_mo_positionOf (zPh Γ m_mo_positionOf Q) 0 0 2 [some (.ref 123), some (.int (nI t)), some (.int (nI j))] [] M := by
  intro f
  induction f with
  | zero => intro j hj hf; exact absurd hf (by omega)
  | succ f ih =>
    intro j hj hf Q hQ
    have hbi := hb i (by omega)
    refine Z_aload_n d_mo_positionOf_2 rfl ?_
    refine Z_get (v := .ref 142) d_mo_positionOf_3 lf_mo_65 hF.1 rfl ?_
    refine Z_iload_n d_mo_positionOf_6 rfl ?_
    refine Zn_iald d_mo_positionOf_7 hF.a18 (by omega) (by omega) ?_
    have hbj := hb j (by omega)
    refine Z_iload_n d_mo_positionOf_8 rfl ?_
    refine Zn_icmp_eq (tgt := 18) d_mo_positionOf_9 (by decide) (by omega) (by omega) (fun h9 => ?_) (fun h9 => ?_)
    · skip
      obtain rfl : j = i := by
        rcases Nat.lt_or_ge j i with z | z
        · exact absurd h9 (hlt j z)
        · omega
      refine Z_iload_n d_mo_positionOf_18 rfl ?_
      refine Z_iret d_mo_positionOf_19 rfl ?_
      exact hQ
    · skip
      have hji : j ≠ i := fun z => by rw [z] at h9; exact h9 hi18
      refine Zn_iinc [some (.ref 123), some (.int (nI t)), some (.int (nI (j + 1)))] (nI (j + 1)) d_mo_positionOf_12 rfl (by decide) (nI_add j 1) rfl ?_
      refine Z_goto (tgt := 2) d_mo_positionOf_15 (by decide) ?_
      exact ih (j + 1) (by omega) (by omega) Q hQ
set_option maxHeartbeats 4000000 in
theorem mo_positionOf_ok {Γ : zCtx} {M : List zE} (d : Nat) {M0 : List zE} {s : Nat → Nat} {G : Nat → Nat → Nat} (hF : FW M0 M s G) {i t : Nat} (hi : i < 60) (hi18 : G 18 i = t) (hlt : ∀ j, j < i → G 18 j ≠ t) (hb : ∀ j, j ≤ i → G 18 j < 160)  : ZM Γ (d + 1) m_mo_positionOf [.ref 123, .int (nI t)] M (zEq M (some (.int (nI i)))) := by
  refine ZM.of mk_mo_positionOf (Nat.le_of_ble_eq_true rfl) ?_
  rw [show zEn [.ref 123, .int (nI t)] = [some (.ref 123), some (.int (nI t))] from rfl]
  refine zPad 1 ?_
  show Z _ _ _ _ _ _ _ [some (.ref 123), some (.int (nI t)), none] _ _
  refine Zn_iconst (nI 0) d_mo_positionOf_0 (by decide) ?_
  refine Zn_istore_n [some (.ref 123), some (.int (nI t)), some (.int (nI 0))] d_mo_positionOf_1 (by decide) rfl ?_
  exact mo_positionOf_loop d hF hi hi18 hlt hb (i + 1) 0 (by omega) (by omega) _ ⟨rfl, rfl⟩
theorem RO.b1 {S : vSt} {n0 : Nat} {s : Nat → Nat} {G : Nat → Nat → Nat} (h : RO S n0 s G) {t : Nat} (ht : t < s 2) : G 17 t ≤ 1 ∧ G 16 t ≤ 1 ∧ G 14 t = if t < n0 then t + 1 else 0 := by
  obtain ⟨K, h1, h2, h3, h4, h5⟩ := h
  have hb := h1.1.2.2.2.2.2.1.2 t ht
  exact ⟨hb.2.2.2.2, hb.2.2.2.1, h1.1.2.2.2.2.2.2.2 t ht⟩
set_option maxHeartbeats 4000000 in
theorem mo_referenceAt_ok {Γ : zCtx} {M : List zE} (d : Nat) {M0 : List zE} {s : Nat → Nat} {G : Nat → Nat → Nat} (hF : FW M0 M s G) {m : Nat} {dy sz kd pt gl : Nat → Nat} {tx : Nat → Int32} {n : Nat} {e : Nat → zEnt} {K : Nat → Nat} {y : Nat} {S1 : vSt} (hV : vHy m dy sz kd pt gl tx s G n e K y S1) {rc : Nat → Nat} {tg : Nat → Nat → Nat} (hrf : rfR n rc tg G) (z q : Int32)  : ZM Γ (d + 9) m_mo_referenceAt [.ref 123, .int (mI y), .int z, .int q] M (fun M1 v => v = some (.int (if hasP S1.1 z = true then rfA n rc tg S1 (eo (S1.2.1 z.toNatClampNeg)) q else -2)) ∧ ∃ s' G', FW M0 M1 s' G' ∧ pF s s' G G') := by
  refine ZM.of mk_mo_referenceAt (Nat.le_of_ble_eq_true rfl) ?_
  rw [show zEn [.ref 123, .int (mI y), .int z, .int q] = [some (.ref 123), some (.int (mI y)), some (.int z), some (.int q)] from rfl]
  refine zPad 3 ?_
  show Z _ _ _ _ _ _ _ [some (.ref 123), some (.int (mI y)), some (.int z), some (.int q), none, none, none] _ _
  refine Z_aload_n d_mo_referenceAt_0 rfl ?_
  refine Z_iload_n d_mo_referenceAt_1 rfl ?_
  refine Z_iload_n d_mo_referenceAt_2 rfl ?_
  refine zV (As := [.int (mI y), .int z]) (by omega) d_mo_referenceAt_3 lm_mo_316 hF.1 rfl rfl (Nat.le_of_ble_eq_true rfl) (mo_reach_ok d hF hV z) (fun M1 v hq hlen => ?_)
  obtain ⟨rfl, s1, G1, hF, hRO, hc⟩ := hq
  have hnn := hRO.nn
  rcases hz : hasP S1.1 z with _ | _
  · skip
    refine Zn_istore [some (.ref 123), some (.int (mI y)), some (.int z), some (.int q), some (.int (-2)), none, none] d_mo_referenceAt_6 (by decide) rfl ?_
    refine Z_iload d_mo_referenceAt_8 rfl ?_
    refine Z_if_ge (tgt := 16) d_mo_referenceAt_10 (by decide) (fun h10 => ?_) (fun h10 => ?_)
    · skip
      exact absurd h10 (by decide) -- end
    · skip
      skip
      refine Z_iload d_mo_referenceAt_13 rfl ?_
      refine Z_iret d_mo_referenceAt_15 rfl ?_
      exact ⟨rfl, s1, G1, hF, hc.p⟩
  · skip
    obtain ⟨j, hj1, hj2, rfl⟩ := hasP_t hz
    have hat := hRO.at hj1
    have hn30 := hV.2.2.2.1
    have hrf1 := hrf.p hc.p
    have hrr := hRO.rf hrf1 hn30 hj1
    refine Zn_istore [some (.ref 123), some (.int (mI y)), some (.int (nI j)), some (.int q), some (.int (nI 0)), none, none] d_mo_referenceAt_6 (by decide) rfl ?_
    refine Z_iload d_mo_referenceAt_8 rfl ?_
    refine Z_if_ge (tgt := 16) d_mo_referenceAt_10 (by decide) (fun h10 => ?_) (fun h10 => ?_)
    · skip
      skip
      refine Z_aload_n d_mo_referenceAt_16 rfl ?_
      refine Z_get (v := .ref 142) d_mo_referenceAt_17 lf_mo_65 hF.1 rfl ?_
      refine Z_iload_n d_mo_referenceAt_20 rfl ?_
      refine Zn_iald d_mo_referenceAt_21 hF.a18 (by omega) (by omega) ?_
      refine Zn_istore [some (.ref 123), some (.int (mI y)), some (.int (nI j)), some (.int q), some (.int (nI 0)), some (.int (nI (G1 18 j))), none] d_mo_referenceAt_22 (by decide) rfl ?_
      refine Z_iload_n d_mo_referenceAt_24 rfl ?_
      refine Zn_iconst (nI 0) d_mo_referenceAt_25 (by decide) ?_
      refine Z_aload_n d_mo_referenceAt_26 rfl ?_
      refine Z_iload d_mo_referenceAt_27 rfl ?_
      refine zVe (As := [.int (nI (G1 18 j))]) (by omega) d_mo_referenceAt_29 lm_mo_351 hF.1 rfl rfl (Nat.le_of_ble_eq_true rfl) (mo_referencesOf_ok d hF (by omega) (fun u hu => by have := (hrr.2.1 u hu).1; omega)) ?_
      refine Zn_iconst (nI 1) d_mo_referenceAt_32 (by decide) ?_
      refine Z_isub d_mo_referenceAt_33 ?_
      refine zTe (As := [.int q, .int (nI 0), .int (nI (rfO G1 (G1 18 j)) - nI 1)]) (by omega) d_mo_referenceAt_34 lm_mo_189 rfl (Nat.le_of_ble_eq_true rfl) (mo_in_ok d _ _ _) ?_
      rw [inI_has (by omega)]
      rcases hw : hasP (rfO G1 (G1 18 j)) q with _ | _
      · skip
        refine Zn_if_ne (a := 0) (tgt := 43) d_mo_referenceAt_37 (by decide) (by decide) (fun h => absurd h (by decide)) (fun _ => ?_)
        refine Zn_bipush (-9) d_mo_referenceAt_40 (by decide) ?_
        refine Z_iret d_mo_referenceAt_42 rfl ?_
        refine ⟨?_, s1, G1, hF, hc.p⟩
        rw [if_pos rfl, zn_cl hj2]
        unfold rfA
        rw [hrr.1, hw]
        rfl
      · skip
        obtain ⟨k, hk1, hk2, rfl⟩ := hasP_t hw
        obtain ⟨u, hu⟩ : ∃ u, G1 14 (G1 18 j) = u + 1 := by
          rcases ho : G1 14 (G1 18 j) with _ | u
          · rw [rfO_0 ho] at hk1; omega
          · exact ⟨u, rfl⟩
        obtain ⟨hu1, hu2, hu3⟩ := hrr.2.1 u hu
        have hru := hrf1 u hu1
        rw [hu3] at hk1
        have htk := hru.2.2 k hk1
        have hr4 := hru.2.1
        have hnn2 := hnn.2.2.2.2
        refine Zn_if_ne (a := 1) (tgt := 43) d_mo_referenceAt_37 (by decide) (by decide) (fun _ => ?_) (fun h => absurd h (by decide))
        refine Z_aload_n d_mo_referenceAt_43 rfl ?_
        refine Z_get (v := .ref 128) d_mo_referenceAt_44 lf_mo_22 hF.1 rfl ?_
        refine Zn_iconst (nI 4) d_mo_referenceAt_47 (by decide) ?_
        refine Z_aload_n d_mo_referenceAt_48 rfl ?_
        refine Z_get (v := .ref 138) d_mo_referenceAt_49 lf_mo_52 hF.1 rfl ?_
        refine Z_iload d_mo_referenceAt_52 rfl ?_
        refine Zn_iald d_mo_referenceAt_54 hF.a14 (by omega) (by omega) ?_
        rw [hu, kI_s]
        refine Zn_imul d_mo_referenceAt_55 ?_
        refine Z_iload_n d_mo_referenceAt_56 rfl ?_
        refine Zn_iadd d_mo_referenceAt_57 ?_
        refine Zn_iald d_mo_referenceAt_58 hF.a4 (by omega) (by omega) ?_
        rw [htk.1]
        refine Zn_istore [some (.ref 123), some (.int (mI y)), some (.int (nI j)), some (.int (nI k)), some (.int (nI 0)), some (.int (nI (G1 18 j))), some (.int (nI (tg u k)))] d_mo_referenceAt_59 (by decide) rfl ?_
        refine Z_aload_n d_mo_referenceAt_61 rfl ?_
        refine Z_iload d_mo_referenceAt_62 rfl ?_
        refine zVe (As := [.int (nI (tg u k))]) (by omega) d_mo_referenceAt_64 lm_mo_354 hF.1 rfl rfl (Nat.le_of_ble_eq_true rfl) (mo_isDangling_ok d hF (by omega) (hRO.b1 (by omega)).1 (hRO.b1 (by omega)).2.1) ?_
        unfold dgl
        rcases hRO.inf htk.2 hn30 with ⟨hi1, hi2⟩ | ⟨i, hi1, hi2, hi3, hi4, hi5, hi6⟩
        · skip
          rw [if_pos hi2]
          refine Zn_if_eq (a := 1) (tgt := 75) d_mo_referenceAt_67 (by decide) (by decide) (fun h => absurd h (by decide)) (fun _ => ?_)
          refine Zn_bipush (-10) d_mo_referenceAt_70 (by decide) ?_
          refine Z_goto (tgt := 81) d_mo_referenceAt_72 (by decide) ?_
          refine Z_iret d_mo_referenceAt_81 rfl ?_
          refine ⟨?_, s1, G1, hF, hc.p⟩
          rw [if_pos rfl, zn_cl hj2]
          unfold rfA
          rw [hrr.1, hw, if_pos rfl, hu2, zn_cl (a := u) (by omega), zn_cl hk2, hi1]
          rfl
        · skip
          rw [if_neg (show ¬ (G1 17 (tg u k) = 0 ∨ G1 16 (tg u k) ≠ 0) from fun z => z.elim hi2 (fun y => y hi3))]
          refine Zn_if_eq (a := 0) (tgt := 75) d_mo_referenceAt_67 (by decide) (by decide) (fun _ => ?_) (fun h => absurd h (by decide))
          refine Z_aload_n d_mo_referenceAt_75 rfl ?_
          refine Z_iload d_mo_referenceAt_76 rfl ?_
          refine zVe (As := [.int (nI (tg u k))]) (by omega) d_mo_referenceAt_78 lm_mo_331 hF.1 rfl rfl (Nat.le_of_ble_eq_true rfl) (mo_positionOf_ok d hF (by omega) hi5 hi6 (fun j hj => (hRO.at (show j < S1.1 by omega)).1)) ?_
          refine Z_iret d_mo_referenceAt_81 rfl ?_
          refine ⟨?_, s1, G1, hF, hc.p⟩
          rw [if_pos rfl, zn_cl hj2]
          unfold rfA
          rw [hrr.1, hw, if_pos rfl, hu2, zn_cl (a := u) (by omega), zn_cl hk2, hi1]
          rfl
    · skip
      exact absurd (by decide) h10 -- end
set_option maxHeartbeats 4000000 in
theorem mo_referenceAt_no {Γ : zCtx} {M : List zE} (d : Nat) {M0 : List zE} {s : Nat → Nat} {G : Nat → Nat → Nat} (hF : FW M0 M s G) {x : Int32} (hno : dOk x = false) (z q : Int32)  : ZM Γ (d + 9) m_mo_referenceAt [.ref 123, .int x, .int z, .int q] M (zEq M (some (.int (-4)))) := by
  refine ZM.of mk_mo_referenceAt (Nat.le_of_ble_eq_true rfl) ?_
  rw [show zEn [.ref 123, .int x, .int z, .int q] = [some (.ref 123), some (.int x), some (.int z), some (.int q)] from rfl]
  refine zPad 3 ?_
  show Z _ _ _ _ _ _ _ [some (.ref 123), some (.int x), some (.int z), some (.int q), none, none, none] _ _
  refine Z_aload_n d_mo_referenceAt_0 rfl ?_
  refine Z_iload_n d_mo_referenceAt_1 rfl ?_
  refine Z_iload_n d_mo_referenceAt_2 rfl ?_
  refine zVe (As := [.int x, .int z]) (by omega) d_mo_referenceAt_3 lm_mo_316 hF.1 rfl rfl (Nat.le_of_ble_eq_true rfl) (mo_reach_no d hF hno z) ?_
  refine Zn_istore [some (.ref 123), some (.int x), some (.int z), some (.int q), some (.int (-4)), none, none] d_mo_referenceAt_6 (by decide) rfl ?_
  refine Z_iload d_mo_referenceAt_8 rfl ?_
  refine Z_if_ge (tgt := 16) d_mo_referenceAt_10 (by decide) (fun h10 => ?_) (fun h10 => ?_)
  · skip
    exact absurd h10 (by decide) -- end
  · skip
    skip
    refine Z_iload d_mo_referenceAt_13 rfl ?_
    refine Z_iret d_mo_referenceAt_15 rfl ?_
    exact ⟨rfl, rfl⟩
