/-! computing a version -/
theorem RV.ord {S : vSt} {n0 : Nat} {s : Nat → Nat} {G G' : Nat → Nat → Nat} {K : Nat → Nat} (h1 : VR S.1 S.2.1 (s 2) G K n0) (h2 : s 3 = S.1) (h3 : s 4 = S.2.2.1) (h4 : ∀ j, j < S.2.2.1 → G 19 j = S.2.2.2.1 j ∧ G 20 j = S.2.2.2.2.1 j ∧ G 21 j = S.2.2.2.2.2 j) (hG : ∀ b, b ≠ 18 → G' b = G b) (ho : od S.1 S.2.1 (s 2) G' K S.1) : RO S n0 (nup s 6 S.1) G' := by
  refine ⟨K, ?_, ?_, ?_, ?_, ?_⟩
  · rw [nup_n (by decide)]; exact h1.same (fun b _ b2 v _ => by rw [hG b (by omega)]) (fun _ _ => rfl)
  · rw [nup_n (by decide)]; exact h2
  · rw [nup_n (by decide)]; exact h3
  · rw [hG 19 (by decide), hG 20 (by decide), hG 21 (by decide)]; exact h4
  · rw [nup_n (by decide)]; exact ho
theorem cF.ord {s s1 : Nat → Nat} {G G1 G2 : Nat → Nat → Nat} {n : Nat} (h : cF s s1 G G1) (hG : ∀ b, b ≠ 18 → G2 b = G1 b) : cF s (nup s1 6 n) G G2 := h.tr ⟨fun j _ _ _ j6 => nup_n j6, fun b hb _ => hG b (by omega)⟩
set_option maxHeartbeats 4000000 in
theorem mo_cmp_in {Γ : zCtx} (d : Nat) {M0 : List zE} {s : Nat → Nat} {G : Nat → Nat → Nat} {m : Nat} {dy sz kd pt gl : Nat → Nat} {tx : Nat → Int32} {n0 : Nat} (ham : amR m dy sz kd pt gl tx s G) {y : Nat} (hy : y ≤ 10000) {S1 : vSt} {q : Nat} (hqy : q < y)  : ∀ (f : Nat) (a : Nat) (M : List zE) (s1 : Nat → Nat) (G1 : Nat → Nat → Nat) (S : vSt) (R : List Nat), a ≤ m → m < a + f → FW M0 M s1 G1 → RV S n0 s1 G1 → cF s s1 G G1 → Rem (G 5) m y (fun b => q < G 5 b ∨ (G 5 b = q ∧ a ≤ b)) R → vLs sz kd pt gl tx R S S1 → s1 2 + 15 * R.length ≤ 150 → s1 4 + 15 * R.length ≤ 120 → ∀ Q : List zE → Option Value → Prop, (∀ M1 s2 G2 S2 R2, FW M0 M1 s2 G2 → RV S2 n0 s2 G2 → cF s s2 G G2 → Rem (G 5) m y (fun b => q < G 5 b ∨ (G 5 b = q ∧ m ≤ b)) R2 → vLs sz kd pt gl tx R2 S2 S1 → s2 2 + 15 * R2.length ≤ 150 → s2 4 + 15 * R2.length ≤ 120 → Z Γ (zRm (d + 7) m_mo_compute) m_mo_compute (zPh Γ m_mo_compute Q) 0 0 59 [some (.ref 123), some (.int (mI y)), some (.int (nI q)), some (.int (nI m))] [] M1) → Z Γ (zRm (d + 7) m_mo_compute) m_mo_compute (zPh Γ m_mo_compute Q) 0 0 30 [some (.ref 123), some (.int (mI y)), some (.int (nI q)), some (.int (nI a))] [] M := by
  intro f
  induction f with
  | zero => intro a M s1 G1 S R ha hf; exact absurd hf (by omega)
  | succ f ih =>
    intro a M s1 G1 S R ha hf hF hR hc hrem hvl hb2 hb4 Q hQ
    have e1 : s1 1 = m := (hc.1 1 (by decide) (by decide) (by decide) (by decide)).trans ham.1
    have e5 : G1 5 = G 5 := hc.2 5 (by decide) (by decide)
    have e6 : G1 6 = G 6 := hc.2 6 (by decide) (by decide)
    have hm8 := ham.2.1
    refine Z_iload_n d_mo_compute_30 rfl ?_
    refine Z_aload_n d_mo_compute_31 rfl ?_
    refine Z_get (v := .int (nI (s1 1))) d_mo_compute_32 lf_mo_209 hF.1 rfl ?_
    refine Zn_icmp_ge (tgt := 59) d_mo_compute_35 (by decide) (by omega) (by omega) (fun h35 => ?_) (fun h35 => ?_)
    · skip
      have eam : a = m := by omega
      subst eam
      exact hQ _ s1 G1 S R hF hR hc hrem hvl hb2 hb4
    · skip
      have haa := ham.2.2 a (by omega)
      refine Z_aload_n d_mo_compute_38 rfl ?_
      refine Z_get (v := .ref 129) d_mo_compute_39 lf_mo_25 hF.1 rfl ?_
      refine Z_iload_n d_mo_compute_42 rfl ?_
      refine Zn_iald d_mo_compute_43 hF.a5 (by omega) (by omega) ?_
      rw [e5]
      refine Z_iload_n d_mo_compute_44 rfl ?_
      refine Zn_icmp_ne (tgt := 53) d_mo_compute_45 (by decide) (by omega) (by omega) (fun h45 => ?_) (fun h45 => ?_)
      · skip
        have hrem2 := hrem.miss h45
        refine Zn_iinc [some (.ref 123), some (.int (mI y)), some (.int (nI q)), some (.int (nI (a + 1)))] (nI (a + 1)) d_mo_compute_53 rfl (by decide) (nI_add a 1) rfl ?_
        refine Z_goto (tgt := 30) d_mo_compute_56 (by decide) ?_
        exact ih (a + 1) _ s1 G1 S R (by omega) (by omega) hF hR hc hrem2 hvl hb2 hb4 Q hQ
      · skip
        obtain ⟨R2, rfl, hrem2⟩ := hrem.hit (by omega) h45 hqy
        obtain ⟨S2, hap, hvl2⟩ := hvl
        obtain ⟨c, c0, cz, hch⟩ := vAp_ch hap
        rw [List.length_cons] at hb2 hb4
        refine Z_aload_n d_mo_compute_48 rfl ?_
        refine Z_iload_n d_mo_compute_49 rfl ?_
        refine zV (As := [.int (nI a)]) (by omega) d_mo_compute_50 lm_mo_307 hF.1 rfl rfl (Nat.le_of_ble_eq_true rfl) (mo_apA_ok (n0 := n0) d (by omega) hch hF (by rw [e6]; exact haa.2.2.1) (fun i hi => (haa.2.2.2.2 i hi).cf hc) haa.2.2.2.1 (by omega) (by omega) (by rw [c0]; exact hR)) (fun M1 v hq hlen => ?_)
        obtain ⟨rfl, s2, G2, hF, hR2, hc2, hn2, hq2⟩ := hq
        rw [cz] at hR2
        refine Zn_iinc [some (.ref 123), some (.int (mI y)), some (.int (nI q)), some (.int (nI (a + 1)))] (nI (a + 1)) d_mo_compute_53 rfl (by decide) (nI_add a 1) rfl ?_
        refine Z_goto (tgt := 30) d_mo_compute_56 (by decide) ?_
        exact ih (a + 1) _ s2 G2 S2 R2 (by omega) (by omega) hF hR2 (hc.tr hc2) hrem2 hvl2 (by omega) (by omega) Q hQ
set_option maxHeartbeats 4000000 in
theorem mo_cmp_out {Γ : zCtx} (d : Nat) {M0 : List zE} {s : Nat → Nat} {G : Nat → Nat → Nat} {m : Nat} {dy sz kd pt gl : Nat → Nat} {tx : Nat → Int32} {n0 : Nat} (ham : amR m dy sz kd pt gl tx s G) {y : Nat} (hy : y ≤ 10000) {S1 : vSt}  : ∀ (f : Nat) (x : Nat) (y3 : Option Value) (M : List zE) (s1 : Nat → Nat) (G1 : Nat → Nat → Nat) (S : vSt) (R : List Nat), x ≤ y → y < x + f → FW M0 M s1 G1 → RV S n0 s1 G1 → cF s s1 G G1 → Rem (G 5) m y (fun b => x ≤ G 5 b) R → vLs sz kd pt gl tx R S S1 → s1 2 + 15 * R.length ≤ 150 → s1 4 + 15 * R.length ≤ 120 → ∀ Q : List zE → Option Value → Prop, (∀ M1 s2 G2, FW M0 M1 s2 G2 → RO S1 n0 s2 G2 → cF s s2 G G2 → Q M1 (some (.int (nI 1)))) → Z Γ (zRm (d + 7) m_mo_compute) m_mo_compute (zPh Γ m_mo_compute Q) 0 0 24 [some (.ref 123), some (.int (mI y)), some (.int (oI (ndF (G 5) x y m) (-1))), y3] [] M := by
  intro f
  induction f with
  | zero => intro x y3 M s1 G1 S R hxy hf; exact absurd hf (by omega)
  | succ f ih =>
    intro x y3 M s1 G1 S R hxy hf hF hR hc hrem hvl hb2 hb4 Q hQ
    have nd := hrem.nd
    have hm8 := ham.2.1
    rcases hx : ndF (G 5) x y m with _ | q
    · skip
      rw [hx] at nd
      have nd : R = [] := nd
      subst nd
      have hvl : S1 = S := hvl
      subst hvl
      obtain ⟨K, hV, h3, h4, hcf⟩ := hR
      refine Z_iload_n d_mo_compute_24 rfl ?_
      refine Z_if_lt (tgt := 69) d_mo_compute_25 (by decide) (fun h25 => ?_) (fun h25 => ?_)
      · skip
        skip
        refine Z_aload_n d_mo_compute_69 rfl ?_
        refine zV (As := []) (by omega) d_mo_compute_70 lm_mo_310 hF.1 rfl rfl (Nat.le_of_ble_eq_true rfl) (mo_orderVersion_ok (d + 1) hF hV) (fun M1 v hq hlen => ?_)
        obtain ⟨rfl, G2, hF, hG2, hod⟩ := hq
        refine Zn_iconst (nI 1) d_mo_compute_73 (by decide) ?_
        refine Z_zret d_mo_compute_74 rfl rfl ?_
        exact hQ _ _ G2 hF (RV.ord hV h3 h4 hcf hG2 hod) (hc.ord hG2)
      · skip
        exact absurd (by decide) h25 -- end
    · skip
      rw [hx] at nd
      obtain ⟨nd1, nd2, nd3⟩ := nd
      refine Z_iload_n d_mo_compute_24 rfl ?_
      refine Z_if_lt (tgt := 69) d_mo_compute_25 (by decide) (fun h25 => ?_) (fun h25 => ?_)
      · skip
        exact absurd h25 (nI_pos (by omega)) -- end
      · skip
        skip
        refine Zn_iconst (nI 0) d_mo_compute_28 (by decide) ?_
        refine Zn_istore_n [some (.ref 123), some (.int (mI y)), some (.int (nI q)), some (.int (nI 0))] d_mo_compute_29 (by decide) rfl ?_
        refine mo_cmp_in d ham hy nd2 (m + 1) 0 _ s1 G1 S R (by omega) (by omega) hF hR hc nd3 hvl hb2 hb4 Q (fun M1 s2 G2 S2 R2 hF hR2 hc hrem2 hvl2 hb22 hb42 => ?_)
        refine Z_aload_n d_mo_compute_59 rfl ?_
        refine Z_iload_n d_mo_compute_60 rfl ?_
        refine Z_iload_n d_mo_compute_61 rfl ?_
        have e1 : s2 1 = m := (hc.1 1 (by decide) (by decide) (by decide) (by decide)).trans ham.1
        have e5 : G2 5 = G 5 := hc.2 5 (by decide) (by decide)
        refine zVe (As := [.int (nI q), .int (mI y)]) (by omega) d_mo_compute_62 lm_mo_304 hF.1 rfl rfl (Nat.le_of_ble_eq_true rfl) (mo_nextDay_ok (x := q + 1) (y := y) d hF (by omega) (by omega) (by omega) (fun i hi => by rw [e5, (ham.2.2 i (by omega)).1]; exact (ham.2.2 i (by omega)).2.1)) ?_
        rw [e1, e5]
        refine Zn_istore_n [some (.ref 123), some (.int (mI y)), some (.int (oI (ndF (G 5) (q + 1) y m) (-1))), some (.int (nI m))] d_mo_compute_65 (by decide) rfl ?_
        refine Z_goto (tgt := 24) d_mo_compute_66 (by decide) ?_
        exact ih (q + 1) _ _ s2 G2 S2 R2 (by omega) (by omega) hF hR2 hc hrem2.done hvl2 hb22 hb42 Q hQ
theorem dOk_t {x : Int32} (h : dOk x = true) : ∃ y, y ≤ 10000 ∧ x = mI y := by
  have h := of_decide_eq_true h
  by_cases hx : x < 0
  · refine ⟨0, by omega, ?_⟩
    rw [mI_0]
    have h1 := h.1
    rw [Int32.lt_iff_toInt_lt] at h1 hx
    have e1 : (-1 : Int32).toInt = -1 := by decide
    have e0 : (0 : Int32).toInt = 0 := by decide
    apply Int32.toInt_inj.mp
    omega
  · obtain ⟨j, j1, j2⟩ := tOk_t (x := x) (decide_eq_true ⟨hx, h.2⟩)
    exact ⟨j + 1, by omega, by rw [mI_s, j2]⟩
theorem dOk_mI {y : Nat} (hy : y ≤ 10000) : dOk (mI y) = true := by
  refine decide_eq_true ?_
  rcases y with _ | y
  · rw [mI_0]; decide
  · rw [mI_s]
    refine ⟨fun z => ?_, ?_⟩
    · have h := neg_lt (a := y) (by omega)
      rw [Int32.lt_iff_toInt_lt] at z h
      omega
    · exact (zn_le (a := y) (b := 9999) (by omega) (by omega)).mpr (by omega)
set_option maxHeartbeats 4000000 in
theorem mo_compute_ok {Γ : zCtx} {M : List zE} (d : Nat) {M0 : List zE} {s : Nat → Nat} {G : Nat → Nat → Nat} (hF : FW M0 M s G) {m : Nat} {dy sz kd pt gl : Nat → Nat} {tx : Nat → Int32} (ham : amR m dy sz kd pt gl tx s G) {y : Nat} (hy : y ≤ 10000) {S1 : vSt} {n : Nat} {e : Nat → zEnt} {K : Nat → Nat} (hO : OR n e G K) (hs0 : s 0 = n) (hn : n ≤ 30) {S0 : vSt} (hv : vLs sz kd pt gl tx (aplL dy m (mI y) 8 (nxA dy none m)) (vBeg S0 n e) S1)  : ZM Γ (d + 7) m_mo_compute [.ref 123, .int (mI y)] M (fun M1 v => v = some (.int (nI 1)) ∧ ∃ s' G', FW M0 M1 s' G' ∧ RO S1 n s' G' ∧ cF s s' G G') := by
  refine ZM.of mk_mo_compute (Nat.le_of_ble_eq_true rfl) ?_
  rw [show zEn [.ref 123, .int (mI y)] = [some (.ref 123), some (.int (mI y))] from rfl]
  refine zPad 2 ?_
  show Z _ _ _ _ _ _ _ [some (.ref 123), some (.int (mI y)), none, none] _ _
  refine Z_iload_n d_mo_compute_0 rfl ?_
  refine Zn_iconst (-1) d_mo_compute_1 (by decide) ?_
  refine Zn_sipush (nI 9999) d_mo_compute_2 (by decide) ?_
  refine zTe (As := [.int (mI y), .int (-1), .int (nI 9999)]) (by omega) d_mo_compute_5 lm_mo_189 rfl (Nat.le_of_ble_eq_true rfl) (mo_in_ok d _ _ _) ?_
  rw [inI_d, dOk_mI hy, if_pos rfl]
  refine Zn_if_ne (a := 1) (tgt := 13) d_mo_compute_8 (by decide) (by decide) (fun _ => ?_) (fun h => absurd h (by decide))
  refine Z_aload_n d_mo_compute_13 rfl ?_
  refine zV (As := []) (by omega) d_mo_compute_14 lm_mo_196 hF.1 rfl rfl (Nat.le_of_ble_eq_true rfl) (mo_begin_ok d hF (by omega) (by rw [hs0]; exact hO.lv)) (fun M1 v hq hlen => ?_)
  obtain ⟨rfl, s1, G1, hF, hb1, hb2⟩ := hq
  rw [hs0] at hb1 hb2
  obtain ⟨hR, hc, hs2, hs4⟩ := hO.beg hb1 hb2 S0
  have e1 : s1 1 = m := (hc.1 1 (by decide) (by decide) (by decide) (by decide)).trans ham.1
  have e5 : G1 5 = G 5 := hc.2 5 (by decide) (by decide)
  have hm8 := ham.2.1
  refine Z_aload_n d_mo_compute_17 rfl ?_
  refine Zn_iconst (-1) d_mo_compute_18 (by decide) ?_
  refine Z_iload_n d_mo_compute_19 rfl ?_
  refine zVe (As := [.int (-1), .int (mI y)]) (by omega) d_mo_compute_20 lm_mo_304 hF.1 rfl rfl (Nat.le_of_ble_eq_true rfl) (mo_nextDay_ok (x := 0) (y := y) d hF (by omega) (by omega) (by omega) (fun i hi => by rw [e5, (ham.2.2 i (by omega)).1]; exact (ham.2.2 i (by omega)).2.1)) ?_
  rw [e1, e5]
  refine Zn_istore_n [some (.ref 123), some (.int (mI y)), some (.int (oI (ndF (G 5) 0 y m) (-1))), none] d_mo_compute_23 (by decide) rfl ?_
  have hst := Rem.start (dy := dy) (dy' := G 5) (m := m) (y := y) (fun a ha => (ham.2.2 a ha).2.1) (by omega) hm8 (fun a ha => (ham.2.2 a ha).1)
  exact mo_cmp_out d ham hy (y + 1) 0 _ _ s1 G1 _ _ (by omega) (by omega) hF hR hc hst.1 hv (by have := hst.2; omega) (by have := hst.2; omega) _ (fun M1 s2 G2 a1 a2 a3 => ⟨rfl, s2, G2, a1, a2, a3⟩)
set_option maxHeartbeats 4000000 in
theorem mo_compute_no {Γ : zCtx} {M : List zE} (d : Nat) {M0 : List zE} {s : Nat → Nat} {G : Nat → Nat → Nat} (hF : FW M0 M s G) {x : Int32} (hno : dOk x = false)  : ZM Γ (d + 7) m_mo_compute [.ref 123, .int x] M (zEq M (some (.int (nI 0)))) := by
  refine ZM.of mk_mo_compute (Nat.le_of_ble_eq_true rfl) ?_
  rw [show zEn [.ref 123, .int x] = [some (.ref 123), some (.int x)] from rfl]
  refine zPad 2 ?_
  show Z _ _ _ _ _ _ _ [some (.ref 123), some (.int x), none, none] _ _
  refine Z_iload_n d_mo_compute_0 rfl ?_
  refine Zn_iconst (-1) d_mo_compute_1 (by decide) ?_
  refine Zn_sipush (nI 9999) d_mo_compute_2 (by decide) ?_
  refine zTe (As := [.int x, .int (-1), .int (nI 9999)]) (by omega) d_mo_compute_5 lm_mo_189 rfl (Nat.le_of_ble_eq_true rfl) (mo_in_ok d _ _ _) ?_
  rw [inI_d, hno, if_neg (by decide)]
  refine Zn_if_ne (a := 0) (tgt := 13) d_mo_compute_8 (by decide) (by decide) (fun h => absurd h (by decide)) (fun _ => ?_)
  refine Zn_iconst (nI 0) d_mo_compute_11 (by decide) ?_
  refine Z_zret d_mo_compute_12 rfl rfl ?_
  exact ⟨rfl, rfl⟩
