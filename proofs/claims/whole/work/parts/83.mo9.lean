/-! ordering -/
theorem nup_nup {s : Nat → Nat} {k a b : Nat} : nup (nup s k a) k b = nup s k b := by
  funext j
  by_cases h : j = k
  · rw [h, nup_s, nup_s]
  · rw [nup_n h, nup_n h, nup_n h]
theorem nup_id {s : Nat → Nat} {k a : Nat} (h : s k = a) : nup s k a = s := by
  funext j
  by_cases hj : j = k
  · rw [hj, nup_s, h]
  · rw [nup_n hj]
theorem nxC_cong {G G1 : Nat → Nat → Nat} (h10 : G1 10 = G 10) (h12 : G1 12 = G 12) (h17 : G1 17 = G 17) {a c : Nat} : ∀ {i : Nat}, nxC G1 a c i = nxC G a c i := by
  intro i
  induction i with
  | zero => rfl
  | succ i ih =>
    unfold nxC isC
    rw [ih, h10, h12, h17]
theorem nB.cong {N : Nat} {G G1 : Nat → Nat → Nat} (h : nB N G) (hg : ∀ b, 10 ≤ b → b ≤ 17 → G1 b = G b) : nB N G1 := by
  unfold nB at h ⊢
  rw [hg 12 (by decide) (by decide), hg 10 (by decide) (by decide), hg 11 (by decide) (by decide), hg 16 (by decide) (by decide), hg 17 (by decide) (by decide)]
  exact h
theorem od.put {n N : Nat} {e : Nat → zEnt} {G : Nat → Nat → Nat} {K : Nat → Nat} {c v : Nat} (h : od n e N G K c) (hv : v < N) (hp : G 17 v ≠ 0) (hk : K v = ek (e c)) : od n e N (gup G 18 c v) K (c + 1) := by
  intro j hj
  rw [gup_s, gup_n (b := 17) (a := 18) (by decide)]
  by_cases hjc : j = c
  · rw [hjc, nup_s]; exact ⟨hv, hp, hk⟩
  · rw [nup_n hjc]; exact h j (by omega)
def orQ (M0 : List zE) (n : Nat) (e : Nat → zEnt) (K : Nat → Nat) (s : Nat → Nat) (G : Nat → Nat → Nat) (ka c : Nat) : List zE → Option Value → Prop := fun M1 v => v = none ∧ ∃ G' c', FW M0 M1 (nup s 6 c') G' ∧ (∀ b, b ≠ 18 → G' b = G b) ∧ orE n e ka c c' ∧ od n e (s 2) G' K c'
set_option maxHeartbeats 4000000 in
theorem mo_ord_loop {Γ : zCtx} (d : Nat) {M0 : List zE} {s : Nat → Nat} {G : Nat → Nat → Nat} {n n0 : Nat} {e : Nat → zEnt} {K : Nat → Nat} (h : VR n e (s 2) G K n0) (hB : nB (s 2) G) {a c : Nat} (ha : a = 0 ∨ (a - 1 < s 2 ∧ G 17 (a - 1) ≠ 0)) (ha9 : a ≤ 160) (hrec : ∀ {M : List zE} {G1 : Nat → Nat → Nat} (v c1 : Nat), FW M0 M (nup s 6 c1) G1 → (∀ b, b ≠ 18 → G1 b = G b) → v < s 2 → G 17 v ≠ 0 → lev (KA K a) < lev (K v) → lev (K v) ≤ 2 → orI n e (K v) c1 c1 0 → od n e (s 2) G1 K c1 → ZM Γ (d + 1) m_mo_orderChildren [.ref 123, .int (nI v)] M (orQ M0 n e K (nup s 6 c1) G (K v) c1))  : ∀ (f : Nat) (c1 lb : Nat) (M : List zE) (G1 : Nat → Nat → Nat), n < c1 + f → FW M0 M (nup s 6 c1) G1 → (∀ b, b ≠ 18 → G1 b = G b) → orI n e (KA K a) c c1 lb → od n e (s 2) G1 K c1 → ∀ Q : List zE → Option Value → Prop, (∀ M1 G2 c2, FW M0 M1 (nup s 6 c2) G2 → (∀ b, b ≠ 18 → G2 b = G b) → orE n e (KA K a) c c2 → od n e (s 2) G2 K c2 → Q M1 none) → Z Γ (zRm (d + 2) m_mo_orderChildren) m_mo_orderChildren (zPh Γ m_mo_orderChildren Q) 0 0 7 [some (.ref 123), some (.int (mI a)), some (.int (oI (nxC G a lb (s 2)) (-1)))] [] M := by
  intro f
  induction f with
  | zero => intro c1 lb M G1 hf hF hG hi; exact absurd hf (by have := hi.2.1; omega)
  | succ f ih =>
    intro c1 lb M G1 hf hF hG hi hod Q hQ
    have nx := ord_next h ha hi
    have h60 := h.1.1
    rcases hx : nxC G a lb (s 2) with _ | v
    · skip
      rw [hx] at nx
      refine Z_iload_n d_mo_orderChildren_7 rfl ?_
      refine Z_if_lt (tgt := 61) d_mo_orderChildren_8 (by decide) (fun h8 => ?_) (fun h8 => ?_)
      · skip
        skip
        refine Z_vret d_mo_orderChildren_61 rfl ?_
        exact hQ _ G1 c1 hF hG nx hod
      · skip
        exact absurd (by decide) h8 -- end
    · skip
      rw [hx] at nx
      have hvr := hB.2 v nx.1
      have h160 := hB.1
      have hcn := nx.2.2.2.2.1
      refine Z_iload_n d_mo_orderChildren_7 rfl ?_
      refine Z_if_lt (tgt := 61) d_mo_orderChildren_8 (by decide) (fun h8 => ?_) (fun h8 => ?_)
      · skip
        exact absurd h8 (nI_pos (by omega)) -- end
      · skip
        skip
        refine Z_aload_n d_mo_orderChildren_11 rfl ?_
        refine Z_get (v := .ref 142) d_mo_orderChildren_12 lf_mo_65 hF.1 rfl ?_
        refine Z_aload_n d_mo_orderChildren_15 rfl ?_
        refine Z_get (v := .int (nI c1)) d_mo_orderChildren_16 lf_mo_169 hF.1 rfl ?_
        refine Z_iload_n d_mo_orderChildren_19 rfl ?_
        refine Zn_iast d_mo_orderChildren_20 hF.a18 (by omega) (by omega) ?_
        replace hF := hF.p18 c1 v
        refine Z_aload_n d_mo_orderChildren_21 rfl ?_
        refine Z_dup d_mo_orderChildren_22 rfl ?_
        refine Z_get (v := .int (nI c1)) d_mo_orderChildren_23 lf_mo_169 hF.1 rfl ?_
        refine Zn_iconst (nI 1) d_mo_orderChildren_26 (by decide) ?_
        refine Zn_iadd d_mo_orderChildren_27 ?_
        refine Z_puti d_mo_orderChildren_28 lf_mo_169 hF.1 rfl rfl (Nat.le_of_ble_eq_true rfl) ?_
        replace hF := hF.u6 (c1 + 1)
        rw [nup_nup] at hF
        have hG2 : ∀ b, b ≠ 18 → gup G1 18 c1 v b = G b := fun b hb => by rw [gup_n hb, hG b hb]
        have hod2 : od n e (s 2) (gup G1 18 c1 v) K (c1 + 1) := hod.put nx.1 (by rw [hG 17 (by decide)]; exact nx.2.1) nx.2.2.2.2.2.1.symm
        have dv := h.1.2.2.2.2.1.1 v nx.1 nx.2.1
        have hlv : lev (K v) = lev (KA K a) + 1 := by
          have pv := (h.1.2.2.2.2.1.ch nx.1 nx.2.1 ha).mp nx.2.2.1
          rw [← pv]
          rcases gk_par dv.1 with y | y
          · rw [y.2, lev_0, y.1]
          · exact y.2.2.symm
        refine Z_aload_n d_mo_orderChildren_31 rfl ?_
        refine Z_get (v := .ref 135) d_mo_orderChildren_32 lf_mo_43 hF.1 rfl ?_
        refine Z_iload_n d_mo_orderChildren_35 rfl ?_
        refine Zn_iald d_mo_orderChildren_36 hF.a11 (by omega) (by omega) ?_
        rw [gup_n (by decide), hG 11 (by decide)]
        refine Zn_iconst (nI 3) d_mo_orderChildren_37 (by decide) ?_
        refine Zn_icmp_ge (tgt := 46) d_mo_orderChildren_38 (by decide) (by omega) (by omega) (fun h38 => ?_) (fun h38 => ?_)
        · skip
          obtain ⟨c2, hc2⟩ : ∃ c2, c2 = c1 + 1 := ⟨_, rfl⟩
          have hoE : orE n e (K v) (c1 + 1) c2 := by rw [hc2]; exact ord_leaf h dv.1 (by have := dv.2.1; have := gk_lev dv.1; omega) hcn
          rw [← hc2] at hF hod2 ⊢
          obtain ⟨G3, hG3e⟩ : ∃ G3, G3 = gup G1 18 c1 v := ⟨_, rfl⟩
          rw [← hG3e] at hF hG2 hod2
          have hG3 := hG2
          have hod3 := hod2
          refine Z_aload_n d_mo_orderChildren_46 rfl ?_
          refine Z_iload_n d_mo_orderChildren_47 rfl ?_
          refine Z_aload_n d_mo_orderChildren_48 rfl ?_
          refine Z_get (v := .ref 136) d_mo_orderChildren_49 lf_mo_46 hF.1 rfl ?_
          refine Z_iload_n d_mo_orderChildren_52 rfl ?_
          refine Zn_iald d_mo_orderChildren_53 hF.a12 (by omega) (by omega) ?_
          rw [hG3 12 (by decide)]
          refine zVe (As := [.int (mI a), .int (nI (G 12 v))]) (by omega) d_mo_orderChildren_54 lm_mo_165 hF.1 rfl rfl (Nat.le_of_ble_eq_true rfl) (mo_nextChild_ok (a := a) d hF (hB.cong (G1 := G3) (fun b _ b2 => hG3 b (by omega))) (by omega) (by omega)) ?_
          rw [show nup s 6 c2 2 = s 2 from rfl, nxC_cong (G := G) (hG3 10 (by decide)) (hG3 12 (by decide)) (hG3 17 (by decide))]
          refine Zn_istore_n [some (.ref 123), some (.int (mI a)), some (.int (oI (nxC G a (G 12 v) (s 2)) (-1)))] d_mo_orderChildren_57 (by decide) rfl ?_
          refine Z_goto (tgt := 7) d_mo_orderChildren_58 (by decide) ?_
          have hst := ord_step h ha hi nx hoE
          exact ih c2 (G 12 v) _ G3 (by have := hoE.1; omega) hF hG3 hst hod3 Q hQ
        · skip
          refine Z_aload_n d_mo_orderChildren_41 rfl ?_
          refine Z_iload_n d_mo_orderChildren_42 rfl ?_
          refine zV (As := [.int (nI v)]) (by omega) d_mo_orderChildren_43 lm_mo_172 hF.1 rfl rfl (Nat.le_of_ble_eq_true rfl) (hrec v (c1 + 1) hF hG2 nx.1 nx.2.1 (by rw [hlv]; omega) (by have := dv.2.1; omega) (ord_in h dv.1 hcn nx.2.2.2.2.2.1) hod2) (fun M1 q hq hlen => ?_)
          obtain ⟨rfl, G3, c2, hF, hG3, hoE, hod3⟩ := hq
          rw [nup_nup] at hF
          refine Z_aload_n d_mo_orderChildren_46 rfl ?_
          refine Z_iload_n d_mo_orderChildren_47 rfl ?_
          refine Z_aload_n d_mo_orderChildren_48 rfl ?_
          refine Z_get (v := .ref 136) d_mo_orderChildren_49 lf_mo_46 hF.1 rfl ?_
          refine Z_iload_n d_mo_orderChildren_52 rfl ?_
          refine Zn_iald d_mo_orderChildren_53 hF.a12 (by omega) (by omega) ?_
          rw [hG3 12 (by decide)]
          refine zVe (As := [.int (mI a), .int (nI (G 12 v))]) (by omega) d_mo_orderChildren_54 lm_mo_165 hF.1 rfl rfl (Nat.le_of_ble_eq_true rfl) (mo_nextChild_ok (a := a) d hF (hB.cong (G1 := G3) (fun b _ b2 => hG3 b (by omega))) (by omega) (by omega)) ?_
          rw [show nup s 6 c2 2 = s 2 from rfl, nxC_cong (G := G) (hG3 10 (by decide)) (hG3 12 (by decide)) (hG3 17 (by decide))]
          refine Zn_istore_n [some (.ref 123), some (.int (mI a)), some (.int (oI (nxC G a (G 12 v) (s 2)) (-1)))] d_mo_orderChildren_57 (by decide) rfl ?_
          refine Z_goto (tgt := 7) d_mo_orderChildren_58 (by decide) ?_
          have hst := ord_step h ha hi nx hoE
          exact ih c2 (G 12 v) _ G3 (by have := hoE.1; omega) hF hG3 hst hod3 Q hQ
set_option maxHeartbeats 4000000 in
theorem mo_ord_one {Γ : zCtx} {M : List zE} (d : Nat) {M0 : List zE} {s : Nat → Nat} {G : Nat → Nat → Nat} {n n0 : Nat} {e : Nat → zEnt} {K : Nat → Nat} (h : VR n e (s 2) G K n0) (hB : nB (s 2) G) {a c : Nat} (ha : a = 0 ∨ (a - 1 < s 2 ∧ G 17 (a - 1) ≠ 0)) (ha9 : a ≤ 160) (hrec : ∀ {M : List zE} {G1 : Nat → Nat → Nat} (v c1 : Nat), FW M0 M (nup s 6 c1) G1 → (∀ b, b ≠ 18 → G1 b = G b) → v < s 2 → G 17 v ≠ 0 → lev (KA K a) < lev (K v) → lev (K v) ≤ 2 → orI n e (K v) c1 c1 0 → od n e (s 2) G1 K c1 → ZM Γ (d + 1) m_mo_orderChildren [.ref 123, .int (nI v)] M (orQ M0 n e K (nup s 6 c1) G (K v) c1)) {G1 : Nat → Nat → Nat} (hF : FW M0 M (nup s 6 c) G1) (hG : ∀ b, b ≠ 18 → G1 b = G b) (hi : orI n e (KA K a) c c 0) (hod : od n e (s 2) G1 K c)  : ZM Γ (d + 2) m_mo_orderChildren [.ref 123, .int (mI a)] M (orQ M0 n e K (nup s 6 c) G (KA K a) c) := by
  refine ZM.of mk_mo_orderChildren (Nat.le_of_ble_eq_true rfl) ?_
  rw [show zEn [.ref 123, .int (mI a)] = [some (.ref 123), some (.int (mI a))] from rfl]
  refine zPad 1 ?_
  show Z _ _ _ _ _ _ _ [some (.ref 123), some (.int (mI a)), none] _ _
  refine Z_aload_n d_mo_orderChildren_0 rfl ?_
  refine Z_iload_n d_mo_orderChildren_1 rfl ?_
  refine Zn_iconst (nI 0) d_mo_orderChildren_2 (by decide) ?_
  refine zVe (As := [.int (mI a), .int (nI 0)]) (by omega) d_mo_orderChildren_3 lm_mo_165 hF.1 rfl rfl (Nat.le_of_ble_eq_true rfl) (mo_nextChild_ok (a := a) d hF (hB.cong (G1 := G1) (fun b _ b2 => hG b (by omega))) (by omega) (by omega)) ?_
  rw [show nup s 6 c 2 = s 2 from rfl, nxC_cong (G := G) (hG 10 (by decide)) (hG 12 (by decide)) (hG 17 (by decide))]
  refine Zn_istore_n [some (.ref 123), some (.int (mI a)), some (.int (oI (nxC G a 0 (s 2)) (-1)))] d_mo_orderChildren_6 (by decide) rfl ?_
  exact mo_ord_loop d h hB ha ha9 hrec (n + 1) c 0 _ G1 (by omega) hF hG hi hod _ (fun M1 G2 c2 a1 a2 a3 a4 => ⟨rfl, G2, c2, by rw [nup_nup]; exact a1, a2, a3, a4⟩)
theorem mo_ord_all {Γ : zCtx} (d : Nat) {M0 : List zE} {s : Nat → Nat} {G : Nat → Nat → Nat} {n n0 : Nat} {e : Nat → zEnt} {K : Nat → Nat} (h : VR n e (s 2) G K n0) : ∀ (r : Nat) {M : List zE} {G1 : Nat → Nat → Nat} (v c1 : Nat), FW M0 M (nup s 6 c1) G1 → (∀ b, b ≠ 18 → G1 b = G b) → v < s 2 → G 17 v ≠ 0 → 3 ≤ lev (K v) + r → lev (K v) ≤ 2 → orI n e (K v) c1 c1 0 → od n e (s 2) G1 K c1 → ZM Γ (d + r + 1) m_mo_orderChildren [.ref 123, .int (nI v)] M (orQ M0 n e K (nup s 6 c1) G (K v) c1)
  | 0, M, G1, v, c1, hF, hG, hv, hp, h3, hl, hi, hod => by omega
  | r + 1, M, G1, v, c1, hF, hG, hv, hp, h3, hl, hi, hod => by
    have hB := h.1.2.2.2.2.2.1
    have := mo_ord_one (Γ := Γ) (M := M) (d + r) h hB (a := v + 1) (c := c1) (Or.inr ⟨hv, hp⟩) (by have := hB.1; omega) (fun u c2 b1 b2 b3 b4 b5 b6 b7 b8 => mo_ord_all d h r u c2 b1 b2 b3 b4 (by rw [KA_s] at b5; omega) b6 b7 b8) hF hG (by rw [KA_s]; exact hi) hod
    rw [KA_s] at this
    exact this
theorem mo_ord_root {Γ : zCtx} (d : Nat) {M0 : List zE} {s : Nat → Nat} {G : Nat → Nat → Nat} {n n0 : Nat} {e : Nat → zEnt} {K : Nat → Nat} (h : VR n e (s 2) G K n0) {M : List zE} (hF : FW M0 M (nup s 6 0) G) : ZM Γ (d + 4) m_mo_orderChildren [.ref 123, .int (-1)] M (orQ M0 n e K (nup s 6 0) G 0 0) := by
  have hB := h.1.2.2.2.2.2.1
  exact mo_ord_one (Γ := Γ) (M := M) (d + 2) h hB (a := 0) (c := 0) (Or.inl rfl) (by omega) (fun u c2 b1 b2 b3 b4 b5 b6 b7 b8 => mo_ord_all d h 2 u c2 b1 b2 b3 b4 (by rw [KA_0, lev_0] at b5; omega) b6 b7 b8) hF (fun _ _ => rfl) (ord_in0 h) (fun j hj => by omega)
set_option maxHeartbeats 4000000 in
theorem mo_orderVersion_ok {Γ : zCtx} {M : List zE} (d : Nat) {M0 : List zE} {s : Nat → Nat} {G : Nat → Nat → Nat} (hF : FW M0 M s G) {n n0 : Nat} {e : Nat → zEnt} {K : Nat → Nat} (h : VR n e (s 2) G K n0)  : ZM Γ (d + 5) m_mo_orderVersion [.ref 123] M (fun M1 v => v = none ∧ ∃ G', FW M0 M1 (nup s 6 n) G' ∧ (∀ b, b ≠ 18 → G' b = G b) ∧ od n e (s 2) G' K n) := by
  refine ZM.of mk_mo_orderVersion (Nat.le_of_ble_eq_true rfl) ?_
  refine Z_aload_n d_mo_orderVersion_0 rfl ?_
  refine Zn_iconst (nI 0) d_mo_orderVersion_1 (by decide) ?_
  refine Z_puti d_mo_orderVersion_2 lf_mo_169 hF.1 rfl rfl (Nat.le_of_ble_eq_true rfl) ?_
  replace hF := hF.u6 0
  refine Z_aload_n d_mo_orderVersion_5 rfl ?_
  refine Zn_iconst (-1) d_mo_orderVersion_6 (by decide) ?_
  refine zV (As := [.int (-1)]) (by omega) d_mo_orderVersion_7 lm_mo_172 hF.1 rfl rfl (Nat.le_of_ble_eq_true rfl) (mo_ord_root d h hF) (fun M1 q hq hlen => ?_)
  obtain ⟨rfl, G3, c2, hF, hG3, hoE, hod3⟩ := hq
  rw [nup_nup] at hF
  have hcn := ord_all h hoE
  subst hcn
  refine Z_vret d_mo_orderVersion_10 rfl ?_
  exact ⟨rfl, G3, hF, hG3, hod3⟩
