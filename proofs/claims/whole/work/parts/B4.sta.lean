/-! calls that change the statute -/
theorem INVc.sta {M M1 : List zE} {sv : Bool} {s s' : Nat → Nat} {G G' : Nat → Nat → Nat} (h : INVc M sv s G) (hf : zFr M M1 1 46) (hT : STS M1 1 s' G') (hs : ∀ j, (j = 5 ∨ 11 ≤ j) → s' j = s j) (hg : ∀ b, (b = 22 ∨ 30 ≤ b) → G' b = G b) : INVc M1 sv s' G' := by
  obtain ⟨a, b, c, d, e, f⟩ := h
  exact ⟨a.ag (zAg.fr hf (by omega)), hT, (c.ag (zAg.fr hf (by omega))).to (fun j hj => hs j (by omega)) (fun b hb => hg b (by omega)), (d.ag (zAg.fr hf (by omega))).to (hs 5 (by omega)) (hg 22 (by omega)), (e.ag (zAg.fr hf (by omega))).to (hg 30 (by omega)) (hg 31 (by omega)) (hg 32 (by omega)), f.ag (zAg.fr hf (by omega))⟩
theorem setC_eq {m : Nat} {dy dy' : Nat → Nat} (h : ∀ a, a < m → dy' a = dy a) (x y : Int32) : setC m dy' x y = setC m dy x y := by
  unfold setC
  cases hh : hasP m x with
  | false => rfl
  | true =>
    obtain ⟨j, hj, hj2, rfl⟩ := hasP_t hh
    rw [zn_cl hj2, h j hj]
theorem setC_s {m : Nat} {dy : Nat → Nat} {x y : Int32} {q : Nat × Nat} (h : (setC m dy x y).2 = some q) : q.1 < m ∧ q.2 ≤ 9999 := by
  unfold setC at h
  cases hh : hasP m x with
  | false => rw [hh] at h; cases h
  | true =>
    rw [hh, if_pos rfl] at h
    cases hy : tOk y with
    | false => rw [hy] at h; cases h
    | true =>
      rw [hy, if_pos rfl] at h
      obtain ⟨j, hj, hj2, rfl⟩ := hasP_t hh
      obtain ⟨t, ht, rfl⟩ := tOk_t hy
      cases h
      rw [zn_cl hj2, zn_cl (by omega)]
      exact ⟨hj, ht⟩
theorem SR.day {n m : Nat} {e : Nat → zEnt} {rc : Nat → Nat} {tg : Nat → Nat → Nat} {dy sz kd pt gl : Nat → Nat} {tx : Nat → Int32} {s : Nat → Nat} {G : Nat → Nat → Nat} (h : SR n m e rc tg dy sz kd pt gl tx s G) {a t : Nat} (ha : a < m) (ht : t ≤ 9999) : SR n m e rc tg (nup dy a t) sz kd pt gl tx s (gup G 5 a t) := by
  obtain ⟨a0, a1, ⟨K, a2⟩, a3, a4, a5, a6, a7, a8⟩ := h
  have m8 := a4.2.1
  refine ⟨a0, a1, ⟨K, a2.to (fun _ _ => rfl) (fun b hb j _ => by rw [gup_n (by omega)])⟩, ?_, ⟨a4.1, a4.2.1, fun c hc => ?_⟩, fun j => by rw [gup_n (by decide)]; exact a5 j, a6, ⟨fun i hi => ?_, a7.2⟩, a8⟩
  · unfold rfR; rw [gup_n (by decide), gup_n (by decide)]; exact a3
  · obtain ⟨b1, b2, b3, b4, b5⟩ := a4.2.2 c hc
    rw [gup_s, gup_n (by decide)]
    refine ⟨?_, ?_, b3, b4, fun i hi => (b5 i hi).to (gup_n (by decide)) (gup_n (by decide)) (gup_n (by decide))⟩
    · unfold nup; split
      · rfl
      · exact b1
    · unfold nup; split
      · exact ht
      · exact b2
  · rw [nup_n (by omega)]; exact a7.1 i hi
theorem k_setCommencement {Γ : zCtx} {M : List zE} (d : Nat) (h : INV M) (x y : Int32) : ZM Γ (d + 10) m_sc_setCommencement [.ref 0, .int x, .int y] M (fun M1 v => ∃ a, v = some (.int a) ∧ INVr M1 ∧ ZM Γ (d + 10) m_mo_setCommencement [.ref 123, .int x, .int y] M1 (fun M2 v2 => v2 = some (.int a) ∧ INV M2)) := by
  obtain ⟨sv, s, G, hF, hC⟩ := h
  obtain ⟨h0, ⟨n, m, e, rc, tg, dy, sz, kd, pt, gl, tx, hS, hR⟩, hN, hP, hH, ⟨S0, hV⟩, U0, hW⟩ := id hC
  obtain ⟨e1, e2⟩ := hR.m
  refine ZM.weaken (sc_setCommencement_ok (d + 8) h0 hS hR.2.1 e2 x y) (fun M1 v hq => ?_)
  obtain ⟨rfl, hq⟩ := hq
  have ee : setC (s 1) (G 5) x y = setC m dy x y := by rw [e1]; exact setC_eq (fun a ha => (hR.2.2.2.2.1.2.2 a ha).1) x y
  rcases hr : (setC m dy x y).2 with _ | q
  · rw [hr] at hq
    have hq' : M1 = M := hq
    subst hq'
    refine ⟨_, rfl, hF.rr, ZM.weaken (mo_setCommencement_ok (d + 7) hF (by omega) x y) (fun M2 v2 hz => ?_)⟩
    obtain ⟨rfl, hz⟩ := hz
    rw [ee, hr] at hz
    have hz' : M2 = M1 := hz
    subst hz'
    exact ⟨by rw [ee], sv, s, G, hF, hC⟩
  · obtain ⟨k1, k2⟩ := setC_s hr
    rw [hr] at hq
    obtain ⟨q1, q2⟩ := hq
    have hF1 := hF.fr q2 (by omega)
    refine ⟨_, rfl, hF1.rr, ZM.weaken (mo_setCommencement_ok (d + 7) hF1 (by omega) x y) (fun M2 v2 hz => ?_)⟩
    obtain ⟨rfl, hz⟩ := hz
    rw [ee, hr] at hz
    exact ⟨by rw [ee], (hC.sta q2 (s' := s) (G' := gup G 5 q.1 q.2) ⟨_, _, _, _, _, _, _, _, _, _, _, q1, hR.day k1 k2⟩ (fun j _ => rfl) (fun b hb => gup_n (by omega))).fin hz⟩
theorem SR.less {n m : Nat} {e : Nat → zEnt} {rc : Nat → Nat} {tg : Nat → Nat → Nat} {dy sz kd pt gl : Nat → Nat} {tx : Nat → Int32} {s : Nat → Nat} {G : Nat → Nat → Nat} (h : SR n m e rc tg dy sz kd pt gl tx s G) : SR n (m - 1) e rc tg dy sz kd pt gl tx (nup s 1 (s 1 - 1)) G := by
  obtain ⟨a0, a1, a2, a3, a4, a5, a6, a7, a8⟩ := h
  have m8 := a4.2.1
  have m1 := a4.1
  exact ⟨by rw [nup_n (by decide)]; exact a0, a1, a2, a3, ⟨by rw [nup_s]; omega, by omega, fun c hc => a4.2.2 c (by omega)⟩, a5, a6, a7, fun a ha => a8 a (by omega)⟩
theorem k_removeLastAmendment {Γ : zCtx} {M : List zE} (d : Nat) (h : INV M) : ZM Γ (d + 10) m_sc_removeLastAmendment [.ref 0] M (fun M1 v => ∃ a, v = some (.int a) ∧ INVr M1 ∧ ZM Γ (d + 10) m_mo_removeLastAmendment [.ref 123] M1 (fun M2 v2 => v2 = some (.int a) ∧ INV M2)) := by
  obtain ⟨sv, s, G, hF, hC⟩ := h
  obtain ⟨h0, ⟨n, m, e, rc, tg, dy, sz, kd, pt, gl, tx, hS, hR⟩, hN, hP, hH, ⟨S0, hV⟩, U0, hW⟩ := id hC
  obtain ⟨e1, e2⟩ := hR.m
  refine ZM.weaken (sc_removeLastAmendment_ok (d + 9) h0 hS hR.2.1 e2) (fun M1 v hq => ?_)
  obtain ⟨rfl, hq⟩ := hq
  by_cases hm : m = 0
  · rw [if_pos hm] at hq
    subst hq
    refine ⟨_, rfl, hF.rr, ZM.weaken (mo_removeLastAmendment_ok (d + 9) hF (by omega)) (fun M2 v2 hz => ?_)⟩
    obtain ⟨rfl, hz⟩ := hz
    rw [if_pos (by omega)] at hz
    subst hz
    exact ⟨by rw [if_pos hm, if_pos (by omega)], sv, s, G, hF, hC⟩
  · rw [if_neg hm] at hq
    obtain ⟨q1, q2⟩ := hq
    have hF1 := hF.fr q2 (by omega)
    refine ⟨_, rfl, hF1.rr, ZM.weaken (mo_removeLastAmendment_ok (d + 9) hF1 (by omega)) (fun M2 v2 hz => ?_)⟩
    obtain ⟨rfl, hz⟩ := hz
    rw [if_neg (by omega)] at hz
    exact ⟨by rw [if_neg hm, if_neg (by omega), e1], (hC.sta q2 ⟨_, _, _, _, _, _, _, _, _, _, _, q1, hR.less⟩ (fun j _ => nup_n (by omega)) (fun b hb => rfl)).fin hz⟩
theorem OR.po {n : Nat} {e : Nat → zEnt} {G : Nat → Nat → Nat} {K : Nat → Nat} (h : OR n e G K) (x : Int32) : match poO n e x with
    | none => hasP n x = false
    | some i => ∃ j, j < n ∧ x = nI j ∧ i < n ∧ mt (orgG G K) K (e i) j := by
  have h1 := h.1.1
  unfold poO
  by_cases hx : x < 0
  · rw [if_pos hx]; exact hasP_neg hx
  · rw [if_neg hx]
    cases hh : frst (fun i => decide (eo (e i) = x)) n with
    | none =>
      show hasP n x = false
      cases hp : hasP n x with
      | false => rfl
      | true =>
        obtain ⟨j, hj, hj2, rfl⟩ := hasP_t hp
        obtain ⟨i, hi, hm⟩ := h.1.2.2.1 j hj (by show (1 : Nat) ≠ 0; decide)
        have e1 : eo (e i) = nI j := hm.2.2.2.1
        exact absurd e1 (of_decide_eq_false (frst_none.mp hh i hi))
    | some q =>
      obtain ⟨q1, q2, _⟩ := frst_some.mp hh
      obtain ⟨v, v1, _, v3⟩ := h.1.2.1 q q1
      have e2 : eo (e q) = nI v := v3.2.2.2.1
      exact ⟨v, v1, by rw [← e2]; exact (of_decide_eq_true q2).symm, q1, v3⟩
theorem OR.st {n : Nat} {e : Nat → zEnt} {G : Nat → Nat → Nat} {K : Nat → Nat} (h : OR n e G K) {i j t : Nat} (hi : i < n) (hj : j < n) (hm : mt (orgG G K) K (e i) j) : OR n (eup e i (sT (e i) (nI t))) (gup G 2 j t) K := by
  have hh := VR.text h (t := t) hi hj (by show (1 : Nat) ≠ 0; decide) hm
  have : orgG (gup G 2 j t) K = gup (orgG G K) 13 j t := by
    funext b v
    unfold orgG
    by_cases hb : b = 13
    · subst hb
      rw [gup_s]
      show gup G 2 j t 2 v = nup (orgG G K 13) j t v
      rw [gup_s]
      rfl
    · rw [gup_n hb, gup_n (by decide), gup_n (by decide), if_neg hb]
      simp only [if_neg hb]
  unfold OR
  rw [this]
  exact hh
theorem SR.txt {n m : Nat} {e : Nat → zEnt} {rc : Nat → Nat} {tg : Nat → Nat → Nat} {dy sz kd pt gl : Nat → Nat} {tx : Nat → Int32} {s : Nat → Nat} {G : Nat → Nat → Nat} (h : SR n m e rc tg dy sz kd pt gl tx s G) {e' : Nat → zEnt} {j t : Nat} (hO : ∃ K, OR n e' (gup G 2 j t) K) : SR n m e' rc tg dy sz kd pt gl tx s (gup G 2 j t) := by
  obtain ⟨a0, a1, _, a3, a4, a5, a6, a7, a8⟩ := h
  refine ⟨a0, a1, hO, ?_, ⟨a4.1, a4.2.1, fun c hc => ?_⟩, fun j => by rw [gup_n (by decide)]; exact a5 j, a6, a7, a8⟩
  · unfold rfR; rw [gup_n (by decide), gup_n (by decide)]; exact a3
  · obtain ⟨b1, b2, b3, b4, b5⟩ := a4.2.2 c hc
    rw [gup_n (by decide), gup_n (by decide)]
    exact ⟨b1, b2, b3, b4, fun i hi => (b5 i hi).to (gup_n (by decide)) (gup_n (by decide)) (gup_n (by decide))⟩
theorem k_setText {Γ : zCtx} {M : List zE} (d : Nat) (h : INV M) (x y : Int32) : ZM Γ (d + 10) m_sc_setText [.ref 0, .int x, .int y] M (fun M1 v => ∃ a, v = some (.int a) ∧ INVr M1 ∧ ZM Γ (d + 10) m_mo_setText [.ref 123, .int x, .int y] M1 (fun M2 v2 => v2 = some (.int a) ∧ INV M2)) := by
  obtain ⟨sv, s, G, hF, hC⟩ := h
  obtain ⟨h0, ⟨n, m, e, rc, tg, dy, sz, kd, pt, gl, tx, hS, hR⟩, hN, hP, hH, ⟨S0, hV⟩, U0, hW⟩ := id hC
  refine ZM.weaken (sc_setText_ok (d + 8) h0 hS hR.2.1 x y) (fun M1 v hq => ?_)
  obtain ⟨rfl, hq⟩ := hq
  obtain ⟨K, hO⟩ := hR.2.2.1
  have h30 : s 0 ≤ 30 := by have := hR.1; have := hR.2.1; omega
  have hpo := hO.po x
  have same : ∀ a, setT n e x y = (a, none) → rST (s 0) (G 2) x y = (a, none) → ∃ a, some (Value.int (setT n e x y).1) = some (.int a) ∧ INVr M1 ∧ ZM Γ (d + 10) m_mo_setText [.ref 123, .int x, .int y] M1 (fun M2 v2 => v2 = some (.int a) ∧ INV M2) := by
    intro a z1 z2
    rw [z1] at hq ⊢
    have hq' : M1 = M := hq
    subst hq'
    refine ⟨_, rfl, hF.rr, ZM.weaken (mo_setText_ok (d + 7) hF h30 x y) (fun M2 v2 hz => ?_)⟩
    obtain ⟨rfl, hz⟩ := hz
    rw [z2] at hz ⊢
    have hz' : M2 = M1 := hz
    subst hz'
    exact ⟨rfl, sv, s, G, hF, hC⟩
  cases hp : poO n e x with
  | none =>
    rw [hp] at hpo
    have hpo' : hasP n x = false := hpo
    refine same (-1) (by unfold setT; rw [hp]) (by unfold rST; rw [hR.1, hpo']; rfl)
  | some i =>
    rw [hp] at hpo
    obtain ⟨j, hj, rfl, hi, hm⟩ := hpo
    have hn := hR.2.1
    have hhj : hasP n (nI j) = true := by rw [hasP_nI (by omega)]; exact decide_eq_true hj
    cases hy : tOk y with
    | false => refine same (-5) (by unfold setT; rw [hp]; dsimp only; rw [hy]; rfl) (by unfold rST; rw [hR.1, hhj, hy]; rfl)
    | true =>
      obtain ⟨t, ht, rfl⟩ := tOk_t hy
      have z1 : setT n e (nI j) (nI t) = (et (e i), some i) := by unfold setT; rw [hp]; dsimp only; rw [hy]; rfl
      have z2 : rST (s 0) (G 2) (nI j) (nI t) = (nI (G 2 j), some (j, t)) := by unfold rST; rw [hR.1, hhj, hy, if_pos rfl, if_pos rfl, zn_cl (by omega), zn_cl (by omega)]
      rw [z1] at hq ⊢
      obtain ⟨q1, q2⟩ := hq
      have hF1 := hF.fr q2 (by omega)
      refine ⟨_, rfl, hF1.rr, ZM.weaken (mo_setText_ok (d + 7) hF1 h30 (nI j) (nI t)) (fun M2 v2 hz => ?_)⟩
      obtain ⟨rfl, hz⟩ := hz
      rw [z2] at hz ⊢
      exact ⟨by rw [hm.2.1]; rfl, (hC.sta q2 (s' := s) (G' := gup G 2 j t) ⟨_, _, _, _, _, _, _, _, _, _, _, q1, hR.txt ⟨K, hO.st hi hj hm⟩⟩ (fun j _ => rfl) (fun b hb => gup_n (by omega))).fin hz⟩
theorem adR_eq {n : Nat} {rc rc' : Nat → Nat} (h : ∀ a, a < n → rc' a = rc a) (x y : Int32) : adR n rc' x y = adR n rc x y := by
  unfold adR
  cases hh : hasP n x with
  | false => rfl
  | true =>
    obtain ⟨j, hj, hj2, rfl⟩ := hasP_t hh
    rw [zn_cl hj2, h j hj]
theorem adR_s {n : Nat} {rc : Nat → Nat} {x y : Int32} {q : Nat × Nat} (h : (adR n rc x y).2 = some q) : q.1 < n ∧ q.2 < n ∧ rc q.1 < 4 := by
  unfold adR at h
  cases hh : hasP n x with
  | false => rw [hh] at h; cases h
  | true =>
    rw [hh, if_pos rfl] at h
    cases hy : hasP n y with
    | false => rw [hy] at h; cases h
    | true =>
      rw [hy, if_pos rfl] at h
      obtain ⟨j, hj, hj2, rfl⟩ := hasP_t hh
      obtain ⟨t, ht, ht2, rfl⟩ := hasP_t hy
      rw [zn_cl hj2, zn_cl ht2] at h
      by_cases h4 : rc j < 4
      · rw [if_pos h4] at h
        cases h
        exact ⟨hj, ht, h4⟩
      · rw [if_neg h4] at h; cases h
theorem SR.ref {n m : Nat} {e : Nat → zEnt} {rc : Nat → Nat} {tg : Nat → Nat → Nat} {dy sz kd pt gl : Nat → Nat} {tx : Nat → Int32} {s : Nat → Nat} {G : Nat → Nat → Nat} (h : SR n m e rc tg dy sz kd pt gl tx s G) {j t : Nat} (hj : j < n) (ht : t < n) (h4 : rc j < 4) : SR n m e (nup rc j (rc j + 1)) (tup tg j (nup (tg j) (rc j) t)) dy sz kd pt gl tx s (gup (gup G 4 (4 * j + G 3 j) t) 3 j (G 3 j + 1)) := by
  obtain ⟨a0, a1, ⟨K, a2⟩, a3, a4, a5, a6, a7, a8⟩ := h
  have e3 := (a3 j hj).1
  rw [e3]
  refine ⟨a0, a1, ⟨K, a2.to (fun _ _ => rfl) (fun b hb v _ => by rw [gup_n (by omega), gup_n (by omega)])⟩, fun i hi => ?_, ⟨a4.1, a4.2.1, fun c hc => ?_⟩, fun v => by rw [gup_n (by decide), gup_n (by decide)]; exact a5 v, ⟨fun i hi => ?_, fun i v hv => ?_⟩, a7, a8⟩
  · obtain ⟨b1, b2, b3⟩ := a3 i hi
    rw [gup_s, gup_n (show (3 : Nat) ≠ 4 by decide), gup_n (show (4 : Nat) ≠ 3 by decide), gup_s]
    by_cases hij : i = j
    · subst hij
      rw [nup_s, nup_s]
      refine ⟨rfl, by omega, fun v hv => ?_⟩
      have et : tup tg i (nup (tg i) (rc i) t) i = nup (tg i) (rc i) t := if_pos rfl
      rw [et]
      by_cases hvr : v = rc i
      · rw [hvr, nup_s, nup_s]; exact ⟨rfl, ht⟩
      · rw [nup_n (by omega), nup_n hvr]; exact b3 v (by omega)
    · rw [nup_n hij, nup_n hij]
      have et : tup tg j (nup (tg j) (rc j) t) i = tg i := if_neg hij
      rw [et]
      refine ⟨b1, b2, fun v hv => ?_⟩
      rw [nup_n (by omega)]; exact b3 v hv
  · obtain ⟨b1, b2, b3, b4, b5⟩ := a4.2.2 c hc
    rw [gup_n (by decide), gup_n (by decide), gup_n (by decide), gup_n (by decide)]
    exact ⟨b1, b2, b3, b4, fun i hi => (b5 i hi).to (by rw [gup_n (by decide), gup_n (by decide)]) (by rw [gup_n (by decide), gup_n (by decide)]) (by rw [gup_n (by decide), gup_n (by decide)])⟩
  · rw [nup_n (by omega)]; exact a6.1 i hi
  · unfold tup
    split
    · rename_i hij
      subst hij
      rw [nup_n (by omega)]; exact a6.2 i v hv
    · exact a6.2 i v hv
theorem k_addReference {Γ : zCtx} {M : List zE} (d : Nat) (h : INV M) (x y : Int32) : ZM Γ (d + 10) m_sc_addReference [.ref 0, .int x, .int y] M (fun M1 v => ∃ a, v = some (.int a) ∧ INVr M1 ∧ ZM Γ (d + 10) m_mo_addReference [.ref 123, .int x, .int y] M1 (fun M2 v2 => v2 = some (.int a) ∧ INV M2)) := by
  obtain ⟨sv, s, G, hF, hC⟩ := h
  obtain ⟨h0, ⟨n, m, e, rc, tg, dy, sz, kd, pt, gl, tx, hS, hR⟩, hN, hP, hH, ⟨S0, hV⟩, U0, hW⟩ := id hC
  have hrc : ∀ i, i < n → rc i ≤ 4 := fun i hi => (hR.2.2.2.1 i hi).2.1
  refine ZM.weaken (sc_addReference_ok (d + 8) h0 hS hR.2.1 hrc x y) (fun M1 v hq => ?_)
  obtain ⟨rfl, hq⟩ := hq
  have h30 : s 0 ≤ 30 := by have := hR.1; have := hR.2.1; omega
  have hrc' : ∀ i, i < s 0 → G 3 i ≤ 4 := fun i hi => by rw [hR.1] at hi; rw [(hR.2.2.2.1 i hi).1]; exact hrc i hi
  have ee : adR (s 0) (G 3) x y = adR n rc x y := by rw [hR.1]; exact adR_eq (fun a ha => (hR.2.2.2.1 a ha).1) x y
  rcases hr : (adR n rc x y).2 with _ | q
  · rw [hr] at hq
    have hq' : M1 = M := hq
    subst hq'
    refine ⟨_, rfl, hF.rr, ZM.weaken (mo_addReference_ok (d + 7) hF h30 hrc' x y) (fun M2 v2 hz => ?_)⟩
    obtain ⟨rfl, hz⟩ := hz
    rw [ee, hr] at hz
    have hz' : M2 = M1 := hz
    subst hz'
    exact ⟨by rw [ee], sv, s, G, hF, hC⟩
  · obtain ⟨k1, k2, k3⟩ := adR_s hr
    rw [hr] at hq
    obtain ⟨q1, q2⟩ := hq
    have hF1 := hF.fr q2 (by omega)
    refine ⟨_, rfl, hF1.rr, ZM.weaken (mo_addReference_ok (d + 7) hF1 h30 hrc' x y) (fun M2 v2 hz => ?_)⟩
    obtain ⟨rfl, hz⟩ := hz
    rw [ee, hr] at hz
    exact ⟨by rw [ee], (hC.sta q2 (s' := s) ⟨_, _, _, _, _, _, _, _, _, _, _, q1, hR.ref k1 k2 k3⟩ (fun j _ => rfl) (fun b hb => by rw [gup_n (by omega), gup_n (by omega)])).fin hz⟩
