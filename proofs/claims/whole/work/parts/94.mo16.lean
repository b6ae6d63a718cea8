/-! comparing versions -/
theorem lab_above {k l : Nat} (h : gk k) (h1 : lev k < l) (h3 : l ≤ 3) : lab k l = 0 := by
  obtain ⟨a, b, c, q1, q2, q3, q4, hk, qa, hh⟩ := gk_ex h
  have e2 : lab k 2 = b := by rw [hk]; exact lab_kk2 q1 q2 q3
  have e3 : lab k 3 = c := by rw [hk]; exact lab_kk3 q1 q2 q3
  clear hk
  rcases hh with y | y | y
  · rcases (show l = 2 ∨ l = 3 by omega) with rfl | rfl
    · rw [e2]; exact y.1
    · rw [e3]; exact y.2.1
  · obtain rfl : l = 3 := by omega
    rw [e3]; exact y.2.1
  · omega
theorem gk_same {x y : Nat} (hx : gk x) (hy : gk y) (h1 : lab x 1 = lab y 1) (h2 : lab x 2 = lab y 2) (h3 : lab x 3 = lab y 3) : x = y := by
  obtain ⟨a, b, c, q1, q2, q3, q4, hk, _⟩ := gk_ex hx
  obtain ⟨a', b', c', r1, r2, r3, r4, hk', _⟩ := gk_ex hy
  rw [hk, hk', lab_kk1 q1 q2 q3, lab_kk1 r1 r2 r3] at h1
  rw [hk, hk', lab_kk2 q1 q2 q3, lab_kk2 r1 r2 r3] at h2
  rw [hk, hk', lab_kk3 q1 q2 q3, lab_kk3 r1 r2 r3] at h3
  rw [hk, hk', h1, h2, h3]
theorem nI01 {a : Nat} (h : a ≤ 1) : nI a = 0 ∨ nI a = 1 := by
  rcases (show a = 0 ∨ a = 1 by omega) with rfl | rfl
  · exact Or.inl rfl
  · exact Or.inr rfl
set_option maxHeartbeats 4000000 in
theorem mo_labelAt_loop {Γ : zCtx} (d : Nat) {M : List zE} {M0 : List zE} {s : Nat → Nat} {G : Nat → Nat → Nat} (hF : FW M0 M s G) {N : Nat} {G0 : Nat → Nat → Nat} {K : Nat → Nat} (hN : nodes N G0 K) (hN9 : N ≤ 160) (h10 : G 10 = G0 10) (h11 : G 11 = G0 11) (h12 : G 12 = G0 12) {l : Nat} (hl1 : 1 ≤ l) (hl3 : l ≤ 3) {v r : Nat}  : ∀ (f : Nat) (u : Nat), u < N → G0 17 u ≠ 0 → lev (K u) < f → lab (K u) l = r → ∀ Q : List zE → Option Value → Prop, Q M (some (.int (nI r))) → Z Γ (zRm (d + 1) m_mo_labelAt) m_mo_labelAt (zPh Γ m_mo_labelAt Q) 0 0 2 [some (.ref 123), some (.int (nI v)), some (.int (nI l)), some (.int (nI u))] [] M := by
  intro f
  induction f with
  | zero => intro u hu hp hf; exact absurd hf (by omega)
  | succ f ih =>
    intro u hu hp hf hR Q hQ
    refine Z_iload_n d_mo_labelAt_2 rfl ?_
    refine Zn_if_lt (tgt := 26) d_mo_labelAt_3 (by decide) (by omega) ?_
    obtain ⟨d1, d2, d3, d4⟩ := hN.1 u hu hp
    have hlv := gk_lev d1
    have hlb := (gk_lab d1).r
    refine Z_aload_n d_mo_labelAt_6 rfl ?_
    refine Z_get (v := .ref 135) d_mo_labelAt_7 lf_mo_43 hF.1 rfl ?_
    refine Z_iload_n d_mo_labelAt_10 rfl ?_
    refine Zn_iald d_mo_labelAt_11 hF.a11 (by omega) (by omega) ?_
    rw [h11]
    refine Z_iload_n d_mo_labelAt_12 rfl ?_
    refine Zn_icmp_le (tgt := 26) d_mo_labelAt_13 (by decide) (by omega) (by omega) (fun h13 => ?_) (fun h13 => ?_)
    · skip
      refine Z_aload_n d_mo_labelAt_26 rfl ?_
      refine Z_get (v := .ref 135) d_mo_labelAt_27 lf_mo_43 hF.1 rfl ?_
      refine Z_iload_n d_mo_labelAt_30 rfl ?_
      refine Zn_iald d_mo_labelAt_31 hF.a11 (by omega) (by omega) ?_
      rw [h11]
      refine Z_iload_n d_mo_labelAt_32 rfl ?_
      refine Zn_icmp_ne (tgt := 45) d_mo_labelAt_33 (by decide) (by omega) (by omega) (fun h33 => ?_) (fun h33 => ?_)
      · skip
        refine Zn_iconst (nI 0) d_mo_labelAt_45 (by decide) ?_
        refine Z_iret d_mo_labelAt_46 rfl ?_
        have er : r = 0 := by rw [← hR]; exact lab_above d1 (by omega) hl3
        rw [er] at hQ
        exact hQ
      · skip
        refine Z_aload_n d_mo_labelAt_36 rfl ?_
        refine Z_get (v := .ref 136) d_mo_labelAt_37 lf_mo_46 hF.1 rfl ?_
        refine Z_iload_n d_mo_labelAt_40 rfl ?_
        refine Zn_iald d_mo_labelAt_41 hF.a12 (by omega) (by omega) ?_
        rw [h12]
        refine Z_goto (tgt := 46) d_mo_labelAt_42 (by decide) ?_
        refine Z_iret d_mo_labelAt_46 rfl ?_
        have er : G0 12 u = r := by rw [d3, ← hR, ← h33, d2]
        rw [er]
        exact hQ
    · skip
      obtain ⟨t, q1, q2, q3, q4, q5⟩ : ∃ t, G0 10 u = t + 1 ∧ t < N ∧ G0 17 t ≠ 0 ∧ K t = par (K u) ∧ 2 ≤ lev (K u) := by
        rcases d4 with z | z
        · omega
        · exact z
      refine Z_aload_n d_mo_labelAt_16 rfl ?_
      refine Z_get (v := .ref 134) d_mo_labelAt_17 lf_mo_40 hF.1 rfl ?_
      refine Z_iload_n d_mo_labelAt_20 rfl ?_
      refine Zn_iald d_mo_labelAt_21 hF.a10 (by omega) (by omega) ?_
      rw [h10, q1, mI_s]
      refine Zn_istore_n [some (.ref 123), some (.int (nI v)), some (.int (nI l)), some (.int (nI t))] d_mo_labelAt_22 (by decide) rfl ?_
      refine Z_goto (tgt := 2) d_mo_labelAt_23 (by decide) ?_
      have hlt : lev (K t) + 1 = lev (K u) := by
        rcases gk_par d1 with z | z
        · omega
        · rw [q4]; exact z.2.2
      exact ih t q2 q3 (by omega) (by rw [q4, lab_par d1 hl1 (by omega)]; exact hR) Q hQ
set_option maxHeartbeats 4000000 in
theorem mo_labelAt_ok {Γ : zCtx} {M : List zE} (d : Nat) {M0 : List zE} {s : Nat → Nat} {G : Nat → Nat → Nat} (hF : FW M0 M s G) {N : Nat} {G0 : Nat → Nat → Nat} {K : Nat → Nat} (hN : nodes N G0 K) (hN9 : N ≤ 160) (h10 : G 10 = G0 10) (h11 : G 11 = G0 11) (h12 : G 12 = G0 12) {l : Nat} (hl1 : 1 ≤ l) (hl3 : l ≤ 3) {v : Nat} (hv : v < N) (hp : G0 17 v ≠ 0)  : ZM Γ (d + 1) m_mo_labelAt [.ref 123, .int (nI v), .int (nI l)] M (zEq M (some (.int (nI (lab (K v) l))))) := by
  refine ZM.of mk_mo_labelAt (Nat.le_of_ble_eq_true rfl) ?_
  rw [show zEn [.ref 123, .int (nI v), .int (nI l)] = [some (.ref 123), some (.int (nI v)), some (.int (nI l))] from rfl]
  refine zPad 1 ?_
  show Z _ _ _ _ _ _ _ [some (.ref 123), some (.int (nI v)), some (.int (nI l)), none] _ _
  refine Z_iload_n d_mo_labelAt_0 rfl ?_
  refine Zn_istore_n [some (.ref 123), some (.int (nI v)), some (.int (nI l)), some (.int (nI v))] d_mo_labelAt_1 (by decide) rfl ?_
  exact mo_labelAt_loop d hF hN hN9 h10 h11 h12 hl1 hl3 4 v hv hp (by have := gk_lev (hN.1 v hv hp).1; omega) rfl _ ⟨rfl, rfl⟩
def kpt (S : vSt) (G : Nat → Nat → Nat) (c : Nat) : Prop := ∀ i, i < c → G 26 (3 * i) = lab (ek (S.2.1 i)) 1 ∧ G 26 (3 * i + 1) = lab (ek (S.2.1 i)) 2 ∧ G 26 (3 * i + 2) = lab (ek (S.2.1 i)) 3 ∧ nI (G 27 i) = et (S.2.1 i) ∧ kI (G 28 i) = eo (S.2.1 i) ∧ G 29 i = if er (S.2.1 i) = true then 1 else 0
theorem kpt.step {S : vSt} {G : Nat → Nat → Nat} {i a b c t o r : Nat} (h : kpt S G i) (ha : a = lab (ek (S.2.1 i)) 1) (hb : b = lab (ek (S.2.1 i)) 2) (hc : c = lab (ek (S.2.1 i)) 3) (ht : nI t = et (S.2.1 i)) (ho : kI o = eo (S.2.1 i)) (hr : r = if er (S.2.1 i) = true then 1 else 0) : kpt S (gup (gup (gup (gup (gup (gup G 26 (3 * i + 1 - 1) a) 26 (3 * i + 2 - 1) b) 26 (3 * i + 3 - 1) c) 27 i t) 28 i o) 29 i r) (i + 1) := by
  intro j hj
  rw [gup_n (b := 26) (a := 29) (by decide), gup_n (b := 26) (a := 28) (by decide), gup_n (b := 26) (a := 27) (by decide), gup_s, gup_s, gup_s, gup_n (b := 27) (a := 29) (by decide), gup_n (b := 27) (a := 28) (by decide), gup_s, gup_n (b := 27) (a := 26) (by decide), gup_n (b := 27) (a := 26) (by decide), gup_n (b := 27) (a := 26) (by decide), gup_n (b := 28) (a := 29) (by decide), gup_s, gup_n (b := 28) (a := 27) (by decide), gup_n (b := 28) (a := 26) (by decide), gup_n (b := 28) (a := 26) (by decide), gup_n (b := 28) (a := 26) (by decide), gup_s, gup_n (b := 29) (a := 28) (by decide), gup_n (b := 29) (a := 27) (by decide), gup_n (b := 29) (a := 26) (by decide), gup_n (b := 29) (a := 26) (by decide), gup_n (b := 29) (a := 26) (by decide)]
  rw [show 3 * i + 1 - 1 = 3 * i by omega, show 3 * i + 2 - 1 = 3 * i + 1 by omega, show 3 * i + 3 - 1 = 3 * i + 2 by omega]
  by_cases e : j = i
  · subst e
    rw [nup_s (k := 3 * j + 2), nup_n (j := 3 * j + 1) (k := 3 * j + 2) (by omega), nup_s (k := 3 * j + 1), nup_n (j := 3 * j) (k := 3 * j + 2) (by omega), nup_n (j := 3 * j) (k := 3 * j + 1) (by omega), nup_s (k := 3 * j), nup_s, nup_s, nup_s]
    exact ⟨ha, hb, hc, ht, ho, hr⟩
  · have hh := h j (by omega)
    rw [nup_n (j := 3 * j) (by omega), nup_n (j := 3 * j) (by omega), nup_n (j := 3 * j) (by omega), nup_n (j := 3 * j + 1) (by omega), nup_n (j := 3 * j + 1) (by omega), nup_n (j := 3 * j + 1) (by omega), nup_n (j := 3 * j + 2) (by omega), nup_n (j := 3 * j + 2) (by omega), nup_n (j := 3 * j + 2) (by omega), nup_n e, nup_n e, nup_n e]
    exact hh
def kF (s s' : Nat → Nat) (G G' : Nat → Nat → Nat) : Prop := (∀ j, j ≠ 10 → s' j = s j) ∧ ∀ b, (b < 26 ∨ 29 < b) → G' b = G b
theorem kF.p {s s' : Nat → Nat} {G G' : Nat → Nat → Nat} (h : kF s s' G G') : pF s s' G G' := ⟨fun j hj => h.1 j (by omega), fun b hb => h.2 b (by omega)⟩
theorem RO.kf {S : vSt} {n0 : Nat} {s s' : Nat → Nat} {G G' : Nat → Nat → Nat} (h : RO S n0 s G) (hk : kF s s' G G') : RO S n0 s' G' := by
  obtain ⟨K, h1, h2, h3, h4, h5⟩ := h
  have e2 := hk.1 2 (by decide)
  refine ⟨K, ?_, ?_, ?_, ?_, ?_⟩
  · rw [e2]; exact h1.same (fun b _ b2 v _ => by rw [hk.2 b (by omega)]) (fun _ _ => rfl)
  · rw [hk.1 3 (by decide)]; exact h2
  · rw [hk.1 4 (by decide)]; exact h3
  · rw [hk.2 19 (by decide), hk.2 20 (by decide), hk.2 21 (by decide)]; exact h4
  · unfold od at h5 ⊢
    rw [e2, hk.2 18 (by decide), hk.2 17 (by decide)]; exact h5
theorem r01 {a : Nat} (h : a ≤ 1) : a = if decide (a ≠ 0) = true then 1 else 0 := by
  rcases (show a = 0 ∨ a = 1 by omega) with rfl | rfl <;> rfl
set_option maxHeartbeats 4000000 in
theorem mo_keep_loop {Γ : zCtx} (d : Nat) {M0 : List zE} {s : Nat → Nat} {G : Nat → Nat → Nat} {S : vSt} {n0 : Nat} {K : Nat → Nat} (hRO : RO S n0 s G) (hND : nodes (s 2) G K) (hod : od S.1 S.2.1 (s 2) G K S.1)  : ∀ (f : Nat) (i : Nat) (M : List zE) (G1 : Nat → Nat → Nat) (y2 y3 : Option Value), i ≤ S.1 → S.1 < i + f → FW M0 M (nup s 10 S.1) G1 → kpt S G1 i → (∀ b, (b < 26 ∨ 29 < b) → G1 b = G b) → ∀ Q : List zE → Option Value → Prop, (∀ M1 G2, FW M0 M1 (nup s 10 S.1) G2 → kpt S G2 S.1 → (∀ b, (b < 26 ∨ 29 < b) → G2 b = G b) → Q M1 none) → Z Γ (zRm (d + 2) m_mo_keep) m_mo_keep (zPh Γ m_mo_keep Q) 0 0 10 [some (.ref 123), some (.int (nI i)), y2, y3] [] M := by
  intro f
  induction f with
  | zero => intro i M G1 y2 y3 hi hf; exact absurd hf (by omega)
  | succ f ih =>
    intro i M G1 y2 y3 hi hf hF hk hG Q hQ
    have hnn := hRO.nn
    refine Z_iload_n d_mo_keep_10 rfl ?_
    refine Z_aload_n d_mo_keep_11 rfl ?_
    refine Z_get (v := .int (nI (s 3))) d_mo_keep_12 lf_mo_148 hF.1 rfl ?_
    refine Zn_icmp_ge (tgt := 98) d_mo_keep_15 (by decide) (by omega) (by omega) (fun h15 => ?_) (fun h15 => ?_)
    · skip
      obtain rfl : i = S.1 := by omega
      refine Z_vret d_mo_keep_98 rfl ?_
      exact hQ _ G1 hF hk hG
    · skip
      have hat := hRO.at (show i < S.1 by omega)
      refine Z_aload_n d_mo_keep_18 rfl ?_
      refine Z_get (v := .ref 142) d_mo_keep_19 lf_mo_65 hF.1 rfl ?_
      refine Z_iload_n d_mo_keep_22 rfl ?_
      refine Zn_iald d_mo_keep_23 hF.a18 (by omega) (by omega) ?_
      rw [hG 18 (by decide)]
      refine Zn_istore_n [some (.ref 123), some (.int (nI i)), some (.int (nI (G 18 i))), y3] d_mo_keep_24 (by decide) rfl ?_
      refine Zn_iconst (nI 1) d_mo_keep_25 (by decide) ?_
      refine Zn_istore_n [some (.ref 123), some (.int (nI i)), some (.int (nI (G 18 i))), some (.int (nI 1))] d_mo_keep_26 (by decide) rfl ?_
      refine Z_iload_n d_mo_keep_27 rfl ?_
      refine Zn_iconst (nI 3) d_mo_keep_28 (by decide) ?_
      refine Zn_icmp_gt (a := 1) (b := 3) (tgt := 56) d_mo_keep_29 (by decide) (by decide) (by decide) (fun h => absurd h (by decide)) (fun _ => ?_)
      refine Z_aload_n d_mo_keep_32 rfl ?_
      refine Z_get (v := .ref 150) d_mo_keep_33 lf_mo_89 hF.1 rfl ?_
      refine Zn_iconst (nI 3) d_mo_keep_36 (by decide) ?_
      refine Z_iload_n d_mo_keep_37 rfl ?_
      refine Zn_imul d_mo_keep_38 ?_
      refine Z_iload_n d_mo_keep_39 rfl ?_
      refine Zn_iadd d_mo_keep_40 ?_
      refine Zn_iconst (nI 1) d_mo_keep_41 (by decide) ?_
      refine Zn_isub d_mo_keep_42 (by omega) ?_
      refine Z_aload_n d_mo_keep_43 rfl ?_
      refine Z_iload_n d_mo_keep_44 rfl ?_
      refine Z_iload_n d_mo_keep_45 rfl ?_
      refine zVe (As := [.int (nI (G 18 i)), .int (nI 1)]) (by omega) d_mo_keep_46 lm_mo_337 hF.1 rfl rfl (Nat.le_of_ble_eq_true rfl) (mo_labelAt_ok d hF hND hnn.2.2.2.1 (by rw [hG 10 (by decide)]) (by rw [hG 11 (by decide)]) (by rw [hG 12 (by decide)]) (by omega) (by omega) (hod i (by omega)).1 (hod i (by omega)).2.1) ?_
      rw [(hod i (by omega)).2.2]
      refine Zn_iast d_mo_keep_49 hF.a26 (by omega) (by omega) ?_
      replace hF := hF.p26 (((3 * i) + 1) - 1) (lab (ek (S.2.1 i)) 1)
      refine Zn_iinc [some (.ref 123), some (.int (nI i)), some (.int (nI (G 18 i))), some (.int (nI 2))] (nI 2) d_mo_keep_50 rfl (by decide) (nI_add 1 1) rfl ?_
      refine Z_goto (tgt := 27) d_mo_keep_53 (by decide) ?_
      refine Z_iload_n d_mo_keep_27 rfl ?_
      refine Zn_iconst (nI 3) d_mo_keep_28 (by decide) ?_
      refine Zn_icmp_gt (a := 2) (b := 3) (tgt := 56) d_mo_keep_29 (by decide) (by decide) (by decide) (fun h => absurd h (by decide)) (fun _ => ?_)
      refine Z_aload_n d_mo_keep_32 rfl ?_
      refine Z_get (v := .ref 150) d_mo_keep_33 lf_mo_89 hF.1 rfl ?_
      refine Zn_iconst (nI 3) d_mo_keep_36 (by decide) ?_
      refine Z_iload_n d_mo_keep_37 rfl ?_
      refine Zn_imul d_mo_keep_38 ?_
      refine Z_iload_n d_mo_keep_39 rfl ?_
      refine Zn_iadd d_mo_keep_40 ?_
      refine Zn_iconst (nI 1) d_mo_keep_41 (by decide) ?_
      refine Zn_isub d_mo_keep_42 (by omega) ?_
      refine Z_aload_n d_mo_keep_43 rfl ?_
      refine Z_iload_n d_mo_keep_44 rfl ?_
      refine Z_iload_n d_mo_keep_45 rfl ?_
      refine zVe (As := [.int (nI (G 18 i)), .int (nI 2)]) (by omega) d_mo_keep_46 lm_mo_337 hF.1 rfl rfl (Nat.le_of_ble_eq_true rfl) (mo_labelAt_ok d hF hND hnn.2.2.2.1 (by rw [gup_n (by decide), hG 10 (by decide)]) (by rw [gup_n (by decide), hG 11 (by decide)]) (by rw [gup_n (by decide), hG 12 (by decide)]) (by omega) (by omega) (hod i (by omega)).1 (hod i (by omega)).2.1) ?_
      rw [(hod i (by omega)).2.2]
      refine Zn_iast d_mo_keep_49 hF.a26 (by omega) (by omega) ?_
      replace hF := hF.p26 (((3 * i) + 2) - 1) (lab (ek (S.2.1 i)) 2)
      refine Zn_iinc [some (.ref 123), some (.int (nI i)), some (.int (nI (G 18 i))), some (.int (nI 3))] (nI 3) d_mo_keep_50 rfl (by decide) (nI_add 2 1) rfl ?_
      refine Z_goto (tgt := 27) d_mo_keep_53 (by decide) ?_
      refine Z_iload_n d_mo_keep_27 rfl ?_
      refine Zn_iconst (nI 3) d_mo_keep_28 (by decide) ?_
      refine Zn_icmp_gt (a := 3) (b := 3) (tgt := 56) d_mo_keep_29 (by decide) (by decide) (by decide) (fun h => absurd h (by decide)) (fun _ => ?_)
      refine Z_aload_n d_mo_keep_32 rfl ?_
      refine Z_get (v := .ref 150) d_mo_keep_33 lf_mo_89 hF.1 rfl ?_
      refine Zn_iconst (nI 3) d_mo_keep_36 (by decide) ?_
      refine Z_iload_n d_mo_keep_37 rfl ?_
      refine Zn_imul d_mo_keep_38 ?_
      refine Z_iload_n d_mo_keep_39 rfl ?_
      refine Zn_iadd d_mo_keep_40 ?_
      refine Zn_iconst (nI 1) d_mo_keep_41 (by decide) ?_
      refine Zn_isub d_mo_keep_42 (by omega) ?_
      refine Z_aload_n d_mo_keep_43 rfl ?_
      refine Z_iload_n d_mo_keep_44 rfl ?_
      refine Z_iload_n d_mo_keep_45 rfl ?_
      refine zVe (As := [.int (nI (G 18 i)), .int (nI 3)]) (by omega) d_mo_keep_46 lm_mo_337 hF.1 rfl rfl (Nat.le_of_ble_eq_true rfl) (mo_labelAt_ok d hF hND hnn.2.2.2.1 (by rw [gup_n (by decide), gup_n (by decide), hG 10 (by decide)]) (by rw [gup_n (by decide), gup_n (by decide), hG 11 (by decide)]) (by rw [gup_n (by decide), gup_n (by decide), hG 12 (by decide)]) (by omega) (by omega) (hod i (by omega)).1 (hod i (by omega)).2.1) ?_
      rw [(hod i (by omega)).2.2]
      refine Zn_iast d_mo_keep_49 hF.a26 (by omega) (by omega) ?_
      replace hF := hF.p26 (((3 * i) + 3) - 1) (lab (ek (S.2.1 i)) 3)
      refine Zn_iinc [some (.ref 123), some (.int (nI i)), some (.int (nI (G 18 i))), some (.int (nI 4))] (nI 4) d_mo_keep_50 rfl (by decide) (nI_add 3 1) rfl ?_
      refine Z_goto (tgt := 27) d_mo_keep_53 (by decide) ?_
      refine Z_iload_n d_mo_keep_27 rfl ?_
      refine Zn_iconst (nI 3) d_mo_keep_28 (by decide) ?_
      refine Zn_icmp_gt (a := 4) (b := 3) (tgt := 56) d_mo_keep_29 (by decide) (by decide) (by decide) (fun _ => ?_) (fun h => absurd h (by decide))
      refine Z_aload_n d_mo_keep_56 rfl ?_
      refine Z_get (v := .ref 151) d_mo_keep_57 lf_mo_92 hF.1 rfl ?_
      refine Z_iload_n d_mo_keep_60 rfl ?_
      refine Z_aload_n d_mo_keep_61 rfl ?_
      refine Z_get (v := .ref 137) d_mo_keep_62 lf_mo_49 hF.1 rfl ?_
      refine Z_iload_n d_mo_keep_65 rfl ?_
      refine Zn_iald d_mo_keep_66 hF.a13 (by omega) (by omega) ?_
      rw [gup_n (by decide), gup_n (by decide), gup_n (by decide), hG 13 (by decide)]
      refine Zn_iast d_mo_keep_67 hF.a27 (by omega) (by omega) ?_
      replace hF := hF.p27 i (G 13 (G 18 i))
      refine Z_aload_n d_mo_keep_68 rfl ?_
      refine Z_get (v := .ref 152) d_mo_keep_69 lf_mo_95 hF.1 rfl ?_
      refine Z_iload_n d_mo_keep_72 rfl ?_
      refine Z_aload_n d_mo_keep_73 rfl ?_
      refine Z_get (v := .ref 138) d_mo_keep_74 lf_mo_52 hF.1 rfl ?_
      refine Z_iload_n d_mo_keep_77 rfl ?_
      refine Zn_iald d_mo_keep_78 hF.a14 (by omega) (by omega) ?_
      rw [gup_n (by decide), gup_n (by decide), gup_n (by decide), gup_n (by decide), hG 14 (by decide)]
      refine Zn_iast d_mo_keep_79 hF.a28 (by omega) (by omega) ?_
      replace hF := hF.p28 i (G 14 (G 18 i))
      refine Z_aload_n d_mo_keep_80 rfl ?_
      refine Z_get (v := .ref 153) d_mo_keep_81 lf_mo_98 hF.1 rfl ?_
      refine Z_iload_n d_mo_keep_84 rfl ?_
      refine Z_aload_n d_mo_keep_85 rfl ?_
      refine Z_get (v := .ref 140) d_mo_keep_86 lf_mo_58 hF.1 rfl ?_
      refine Z_iload_n d_mo_keep_89 rfl ?_
      refine Zn_zald d_mo_keep_90 hF.a16 (by omega) (by omega) ?_
      rw [gup_n (by decide), gup_n (by decide), gup_n (by decide), gup_n (by decide), gup_n (by decide), hG 16 (by decide)]
      refine Zn_zast (x := nI (G 16 (G 18 i))) d_mo_keep_91 hF.a29 (by omega) (by omega) (nI01 hat.2.2.2.2.2.2.2.1) ?_
      replace hF := hF.p29 i (G 16 (G 18 i))
      refine Zn_iinc [some (.ref 123), some (.int (nI (i + 1))), some (.int (nI (G 18 i))), some (.int (nI 4))] (nI (i + 1)) d_mo_keep_92 rfl (by decide) (nI_add i 1) rfl ?_
      refine Z_goto (tgt := 10) d_mo_keep_95 (by decide) ?_
      exact ih (i + 1) _ _ _ _ (by omega) (by omega) hF (hk.step rfl rfl rfl hat.2.2.2.1.symm hat.2.2.2.2.2.1.symm (by rw [hat.2.2.2.2.1]; have := hat.2.2.2.2.2.2.2.1; exact r01 this)) (fun b hb => by rw [gup_n (by omega), gup_n (by omega), gup_n (by omega), gup_n (by omega), gup_n (by omega), gup_n (by omega)]; exact hG b hb) Q hQ
set_option maxHeartbeats 4000000 in
theorem mo_keep_ok {Γ : zCtx} {M : List zE} (d : Nat) {M0 : List zE} {s : Nat → Nat} {G : Nat → Nat → Nat} (hF : FW M0 M s G) {S : vSt} {n0 : Nat} (hRO : RO S n0 s G)  : ZM Γ (d + 2) m_mo_keep [.ref 123] M (fun M1 v => v = none ∧ ∃ s' G', FW M0 M1 s' G' ∧ s' 10 = S.1 ∧ kpt S G' S.1 ∧ kF s s' G G') := by
  refine ZM.of mk_mo_keep (Nat.le_of_ble_eq_true rfl) ?_
  have hnn := hRO.nn
  obtain ⟨K, hND, hod⟩ : ∃ K, nodes (s 2) G K ∧ od S.1 S.2.1 (s 2) G K S.1 := by
    obtain ⟨K, h1, h2, h3, h4, h5⟩ := hRO
    exact ⟨K, h1.1.2.2.2.2.1, h5⟩
  rw [show zEn [.ref 123] = [some (.ref 123)] from rfl]
  refine zPad 3 ?_
  show Z _ _ _ _ _ _ _ [some (.ref 123), none, none, none] _ _
  refine Z_aload_n d_mo_keep_0 rfl ?_
  refine Z_aload_n d_mo_keep_1 rfl ?_
  refine Z_get (v := .int (nI (s 3))) d_mo_keep_2 lf_mo_148 hF.1 rfl ?_
  refine Z_puti d_mo_keep_5 lf_mo_334 hF.1 rfl rfl (Nat.le_of_ble_eq_true rfl) ?_
  replace hF := hF.u10 (s 3)
  refine Zn_iconst (nI 0) d_mo_keep_8 (by decide) ?_
  refine Zn_istore_n [some (.ref 123), some (.int (nI 0)), none, none] d_mo_keep_9 (by decide) rfl ?_
  rw [show nup s 10 (s 3) = nup s 10 S.1 from by rw [hnn.2.1]] at hF
  exact mo_keep_loop d hRO hND hod (S.1 + 1) 0 _ G _ _ (by omega) (by omega) hF (fun i hi => by omega) (fun _ _ => rfl) _ (fun M1 G2 a1 a2 a3 => ⟨rfl, _, G2, a1, nup_s, a2, ⟨fun j hj => nup_n hj, a3⟩⟩)
