/-! shelves and snapshots -/
theorem INVc.shv {M M1 : List zE} {sv : Bool} {s : Nat → Nat} {G G' : Nat → Nat → Nat} (h : INVc M sv s G) (hf : zFr M M1 95 8) (hH : SHV M1 G') (hg : ∀ b, b ≠ 30 → b ≠ 31 → b ≠ 32 → G' b = G b) : INVc M1 sv s G' := by
  obtain ⟨a, b, c, d, e, f⟩ := h
  exact ⟨a.ag (zAg.fr hf (by omega)), (b.ag (zAg.fr hf (by omega))).p rfl rfl (fun b hb => hg b (by omega) (by omega) (by omega)), (c.ag (zAg.fr hf (by omega))).to (fun j hj => rfl) (fun b hb => hg b (by omega) (by omega) (by omega)), (d.ag (zAg.fr hf (by omega))).to rfl (hg 22 (by omega) (by omega) (by omega)), hH, f.ag (zAg.fr hf (by omega))⟩
theorem i32_le {x : Int32} {k : Nat} (hx : ¬ x < 0) (hk : ¬ nI k < x) (h : k < 2147483647) : x.toNatClampNeg ≤ k := by
  have h1 : x < nI (k + 1) := by
    obtain ⟨e1, e2⟩ := i32_nn hx
    generalize x.toNatClampNeg = j at e1 e2
    subst e1
    rw [zn_lt e2 (by omega)]
    rw [zn_lt (by omega) e2] at hk
    omega
  have := (lt_nI hx (by omega)).mp h1
  omega
theorem nwS_s {s t l : Int32} {q : Nat × Nat × Nat} (h : (nwS s t l).2 = some q) : q.1 < 3 ∧ q.2.1 ≤ 3 ∧ q.2.2 ≤ 10 := by
  unfold nwS at h
  cases hh : hasP 3 s with
  | false => rw [hh] at h; cases h
  | true =>
    rw [hh, if_pos rfl] at h
    by_cases c1 : t < 0
    · rw [if_pos c1] at h; cases h
    rw [if_neg c1] at h
    by_cases c2 : nI 3 < t
    · rw [if_pos c2] at h; cases h
    rw [if_neg c2] at h
    by_cases c3 : nI 10 < l
    · rw [if_pos c3] at h; cases h
    rw [if_neg c3] at h
    by_cases c4 : l < 0
    · rw [if_pos c4] at h; cases h
    rw [if_neg c4] at h
    obtain ⟨j, hj, hj2, rfl⟩ := hasP_t hh
    cases h
    rw [zn_cl hj2]
    exact ⟨hj, i32_le c1 c2 (by decide), i32_le c4 c3 (by decide)⟩
theorem eI_0 : eI 0 = -11 := rfl
theorem eI_s {x : Nat} : eI (x + 1) = nI x := rfl
theorem shR.new {fl : Nat → Bool} {ty ln : Nat → Nat} {el el2 : Nat → Nat → Int32} {G G' : Nat → Nat → Nat} (h : shR fl ty ln el G) {j t l : Nat} (hj : j < 3) (ht : t ≤ 3) (hl : l ≤ 10) (h1 : ∀ i, el2 j i = if i < 10 then -11 else el j i) (h2 : ∀ a, a ≠ j → el2 a = el a) (hn : nsR j t l G G') : shR (bup fl j true) (nup ty j t) (nup ln j l) el2 G' := by
  obtain ⟨n1, n2, n3, n4⟩ := hn
  refine ⟨fun k hk => ?_, fun i => by rw [n3]; split; exact Nat.zero_le _; exact h.2 i⟩
  obtain ⟨a, b, c, d, e, f⟩ := h.1 k hk
  rw [n1, n2]
  by_cases hkj : k = j
  · subst hkj
    rw [nup_s, nup_s, nup_s, nup_s]
    have eb : bup fl k true k = true := if_pos rfl
    refine ⟨by rw [eb]; exact (decide_eq_true (by omega)).symm, fun _ => ⟨rfl, rfl, fun i hi => ?_⟩, ht, hl, by omega, hl⟩
    rw [h1 i, if_pos hi, n3, if_pos (by omega), eI_0]
  · rw [nup_n hkj, nup_n hkj, nup_n hkj, nup_n hkj, h2 k hkj]
    have eb : bup fl j true k = fl k := if_neg hkj
    refine ⟨by rw [eb]; exact a, fun z => ?_, c, d, e, f⟩
    obtain ⟨b1, b2, b3⟩ := b z
    exact ⟨b1, b2, fun i hi => by rw [n3, if_neg (by omega)]; exact b3 i hi⟩
theorem k_newShelf {Γ : zCtx} {M : List zE} (d : Nat) (h : INV M) (x y z : Int32) : ZM Γ (d + 10) m_sc_newShelf [.ref 0, .int x, .int y, .int z] M (fun M1 v => ∃ a, v = some (.int a) ∧ INVr M1 ∧ ZM Γ (d + 10) m_mo_newShelf [.ref 123, .int x, .int y, .int z] M1 (fun M2 v2 => v2 = some (.int a) ∧ INV M2)) := by
  obtain ⟨sv, s, G, hF, hC⟩ := h
  obtain ⟨h0, ⟨n, m, e, rc, tg, dy, sz, kd, pt, gl, tx, hS, hR⟩, hN, hP, hH, ⟨S0, hV⟩, U0, hW⟩ := id hC
  obtain ⟨fl, ty, ln, el, hH1, hH2⟩ := hH
  refine ZM.weaken (sc_newShelf_ok (d + 8) h0 hH1 x y z) (fun M1 v hq => ?_)
  obtain ⟨rfl, hq⟩ := hq
  rcases hr : (nwS x y z).2 with _ | q
  · rw [hr] at hq
    have hq' : M1 = M := hq
    subst hq'
    refine ⟨_, rfl, hF.rr, ZM.weaken (mo_newShelf_ok (d + 7) hF x y z) (fun M2 v2 hz => ?_)⟩
    obtain ⟨rfl, hz⟩ := hz
    rw [hr] at hz
    have hz' : M2 = M1 := hz
    subst hz'
    exact ⟨rfl, sv, s, G, hF, hC⟩
  · obtain ⟨k1, k2, k3⟩ := nwS_s hr
    rw [hr] at hq
    obtain ⟨el2, q1, q2, q3, q4⟩ := hq
    have hF1 := hF.fr q2 (by omega)
    refine ⟨_, rfl, hF1.rr, ZM.weaken (mo_newShelf_ok (d + 7) hF1 x y z) (fun M2 v2 hz => ?_)⟩
    obtain ⟨rfl, hz⟩ := hz
    rw [hr] at hz
    obtain ⟨G', hF2, hz⟩ := hz
    exact ⟨rfl, (hC.shv q2 ⟨_, _, _, _, q1, hH2.new k1 k2 k3 q3 q4 hz⟩ hz.2.2.2).fin hF2⟩
theorem shR.fl {fl : Nat → Bool} {ty ln : Nat → Nat} {el : Nat → Nat → Int32} {G : Nat → Nat → Nat} (h : shR fl ty ln el G) {j : Nat} (hj : j < 3) : (fl j = true ↔ G 30 j ≠ 0) := by
  rw [(h.1 j hj).1]; exact decide_eq_true_iff
theorem sh_pl {fl : Nat → Bool} {ty ln : Nat → Nat} {el : Nat → Nat → Int32} {G : Nat → Nat → Nat} (h : shR fl ty ln el G) {n : Nat} {e : Nat → zEnt} {K : Nat → Nat} (hO : OR n e G K) (hn : n ≤ 30) (a i x : Int32) : rPl n (fun j => lev (K j)) (G 30) (G 31) a i x = plC n e fl ty ln a i x := by
  unfold rPl plC
  cases h1 : hasP 3 a with
  | false => rfl
  | true =>
    rw [if_pos rfl, if_pos rfl]
    obtain ⟨j, hj, hj2, rfl⟩ := hasP_t h1
    rw [zn_cl hj2]
    cases h2 : hasP n x with
    | false => rfl
    | true =>
      rw [if_pos rfl, if_pos rfl]
      obtain ⟨v, hv, hv2, rfl⟩ := hasP_t h2
      rw [zn_cl hv2, hO.key hv]
      by_cases h3 : G 30 j ≠ 0
      · obtain ⟨b1, b2, b3⟩ := (h.1 j hj).2.1 h3
        rw [if_pos h3, if_pos ((h.fl hj).mpr h3), b2]
        cases h4 : hasP (ln j) i with
        | false => rfl
        | true =>
          rw [if_pos rfl, if_pos rfl, b1]
          by_cases h5 : ty j = 0
          · rw [if_pos (by omega), if_pos h5]
          · rw [if_neg (by omega), if_neg h5]
            dsimp only
            by_cases h6 : ty j = lev (K v)
            · rw [if_pos (by omega), if_pos h6]
            · rw [if_neg (by omega), if_neg h6]
      · rw [if_neg h3, if_neg (fun z => h3 ((h.fl hj).mp z))]
theorem plC_s {n : Nat} {e : Nat → zEnt} {fl : Nat → Bool} {ty ln : Nat → Nat} {a i x : Int32} {q : Nat × Nat} (h : (plC n e fl ty ln a i x).2 = some q) : q.1 < 3 ∧ q.2 < ln q.1 ∧ fl q.1 = true ∧ ∃ v, v < n ∧ v < 2147483648 ∧ x = nI v := by
  unfold plC at h
  cases h1 : hasP 3 a with
  | false => rw [h1] at h; cases h
  | true =>
    rw [h1, if_pos rfl] at h
    obtain ⟨j, hj, hj2, rfl⟩ := hasP_t h1
    rw [zn_cl hj2] at h
    cases h2 : hasP n x with
    | false => rw [h2] at h; cases h
    | true =>
      rw [h2, if_pos rfl] at h
      cases h3 : fl j with
      | false => rw [h3] at h; cases h
      | true =>
        rw [h3, if_pos rfl] at h
        cases h4 : hasP (ln j) i with
        | false => rw [h4] at h; cases h
        | true =>
          rw [h4, if_pos rfl] at h
          obtain ⟨w, hw, hw2, rfl⟩ := hasP_t h4
          rw [zn_cl hw2] at h
          have key : q = (j, w) := by
            split at h
            · cases h; rfl
            · split at h
              · cases h; rfl
              · cases h
          subst key
          exact ⟨hj, hw, h3, hasP_t h2⟩
theorem shR.put {fl : Nat → Bool} {ty ln : Nat → Nat} {el : Nat → Nat → Int32} {G : Nat → Nat → Nat} (h : shR fl ty ln el G) {j w v : Nat} (hj : j < 3) (hw : w < 10) (hv : v ≤ 60) : shR fl ty ln (rup el j (upd (el j) w (nI v))) (gup G 32 (10 * j + w) (v + 1)) := by
  refine ⟨fun k hk => ?_, fun i => ?_⟩
  · obtain ⟨a, b, c, d, e, f⟩ := h.1 k hk
    rw [gup_n (by decide), gup_n (by decide), gup_s]
    refine ⟨a, fun z => ?_, c, d, e, f⟩
    obtain ⟨b1, b2, b3⟩ := b z
    refine ⟨b1, b2, fun i hi => ?_⟩
    by_cases hkj : k = j
    · subst hkj
      have er : rup el k (upd (el k) w (nI v)) k = upd (el k) w (nI v) := if_pos rfl
      rw [er]
      by_cases hiw : i = w
      · subst hiw
        rw [nup_s, eI_s]
        exact if_pos rfl
      · rw [nup_n (by omega), ← b3 i hi]
        exact if_neg hiw
    · have er : rup el j (upd (el j) w (nI v)) k = el k := if_neg hkj
      rw [er, nup_n (by omega)]; exact b3 i hi
  · rw [gup_s]
    unfold nup
    split
    · omega
    · exact h.2 i
theorem k_place {Γ : zCtx} {M : List zE} (d : Nat) (h : INV M) (x y z : Int32) : ZM Γ (d + 10) m_sc_place [.ref 0, .int x, .int y, .int z] M (fun M1 v => ∃ a, v = some (.int a) ∧ INVr M1 ∧ ZM Γ (d + 10) m_mo_place [.ref 123, .int x, .int y, .int z] M1 (fun M2 v2 => v2 = some (.int a) ∧ INV M2)) := by
  obtain ⟨sv, s, G, hF, hC⟩ := h
  obtain ⟨h0, ⟨n, m, e, rc, tg, dy, sz, kd, pt, gl, tx, hS, hR⟩, hN, hP, hH, ⟨S0, hV⟩, U0, hW⟩ := id hC
  obtain ⟨fl, ty, ln, el, hH1, hH2⟩ := hH
  obtain ⟨K, hO⟩ := hR.2.2.1
  have hb30 : ∀ j, j < 3 → G 30 j ≤ 4 := fun j hj => (hH2.1 j hj).2.2.2.2.1
  have hb31 : ∀ j, j < 3 → G 31 j ≤ 10 := fun j hj => (hH2.1 j hj).2.2.2.2.2
  have h30 : s 0 ≤ 30 := by have := hR.1; have := hR.2.1; omega
  have hL : lvOK (s 0) (G 0) (fun j => lev (K j)) := by rw [hR.1]; exact hO.lv
  have ee : rPl (s 0) (fun j => lev (K j)) (G 30) (G 31) x y z = plC n e fl ty ln x y z := by rw [hR.1]; exact sh_pl hH2 hO hR.2.1 x y z
  refine ZM.weaken (sc_place_ok (d + 6) h0 hS hR.2.1 hR.v hH1 (fun j hj => (hH2.1 j hj).2.2.2.1) (fun j hj => (hH2.1 j hj).2.2.1) x y z) (fun M1 v hq => ?_)
  obtain ⟨rfl, hq⟩ := hq
  rcases hr : (plC n e fl ty ln x y z).2 with _ | q
  · rw [hr] at hq
    have hq' : M1 = M := hq
    subst hq'
    refine ⟨_, rfl, hF.rr, ZM.weaken (mo_place_ok (d + 7) hF hb30 hb31 h30 hL x y z) (fun M2 v2 hz => ?_)⟩
    obtain ⟨rfl, hz⟩ := hz
    rw [ee, hr] at hz
    have hz' : M2 = M1 := hz
    subst hz'
    exact ⟨by rw [ee], sv, s, G, hF, hC⟩
  · obtain ⟨k1, k2, k3, w, hw, hw2, rfl⟩ := plC_s hr
    rw [hr] at hq
    obtain ⟨q1, q2⟩ := hq
    have hF1 := hF.fr q2 (by omega)
    refine ⟨_, rfl, hF1.rr, ZM.weaken (mo_place_ok (d + 7) hF1 hb30 hb31 h30 hL x y (nI w)) (fun M2 v2 hz => ?_)⟩
    obtain ⟨rfl, hz⟩ := hz
    rw [ee, hr, zn_cl hw2] at hz
    have l10 := (hH2.1 q.1 k1).2.2.2.1
    have hn := hR.2.1
    exact ⟨by rw [ee], (hC.shv q2 ⟨_, _, _, _, q1, hH2.put k1 (by omega) (by omega)⟩ (fun b _ _ h => gup_n h)).fin hz⟩
theorem sh_sh {fl : Nat → Bool} {ty ln : Nat → Nat} {el : Nat → Nat → Int32} {G : Nat → Nat → Nat} (h : shR fl ty ln el G) (a i : Int32) : rSh (G 30) (G 31) (G 32) a i = shD fl ln el a i := by
  unfold rSh shD
  cases h1 : hasP 3 a with
  | false => rfl
  | true =>
    rw [if_pos rfl, if_pos rfl]
    obtain ⟨j, hj, hj2, rfl⟩ := hasP_t h1
    rw [zn_cl hj2]
    by_cases h3 : G 30 j ≠ 0
    · obtain ⟨b1, b2, b3⟩ := (h.1 j hj).2.1 h3
      rw [if_pos h3, if_pos ((h.fl hj).mpr h3), b2]
      cases h4 : hasP (ln j) i with
      | false => rfl
      | true =>
        rw [if_pos rfl, if_pos rfl]
        obtain ⟨w, hw, hw2, rfl⟩ := hasP_t h4
        have l10 := (h.1 j hj).2.2.2.1
        rw [zn_cl hw2, b3 w (by omega)]
    · rw [if_neg h3, if_neg (fun z => h3 ((h.fl hj).mp z))]
theorem k_shelved {Γ : zCtx} {M : List zE} (d : Nat) (h : INV M) (x y : Int32) : ZM Γ (d + 10) m_sc_shelved [.ref 0, .int x, .int y] M (fun M1 v => ∃ a, v = some (.int a) ∧ INVr M1 ∧ ZM Γ (d + 10) m_mo_shelved [.ref 123, .int x, .int y] M1 (fun M2 v2 => v2 = some (.int a) ∧ INV M2)) := by
  obtain ⟨sv, s, G, hF, hC⟩ := h
  obtain ⟨h0, ⟨n, m, e, rc, tg, dy, sz, kd, pt, gl, tx, hS, hR⟩, hN, hP, hH, ⟨S0, hV⟩, U0, hW⟩ := id hC
  obtain ⟨fl, ty, ln, el, hH1, hH2⟩ := hH
  have hb30 : ∀ j, j < 3 → G 30 j ≤ 4 := fun j hj => (hH2.1 j hj).2.2.2.2.1
  have hb31 : ∀ j, j < 3 → G 31 j ≤ 10 := fun j hj => (hH2.1 j hj).2.2.2.2.2
  refine ZM.weaken (sc_shelved_ok (d + 8) h0 hH1 (fun j hj => (hH2.1 j hj).2.2.2.1) x y) (fun M1 v hq => ?_)
  obtain ⟨rfl, rfl⟩ := hq
  refine ⟨_, rfl, hF.rr, ZM.weaken (mo_shelved_ok (d + 7) hF hb30 hb31 hH2.2 x y) (fun M2 v2 hz => ?_)⟩
  obtain ⟨rfl, rfl⟩ := hz
  exact ⟨by rw [sh_sh hH2], sv, s, G, hF, hC⟩
theorem sh_cp {fl : Nat → Bool} {ty ln : Nat → Nat} {el : Nat → Nat → Int32} {G : Nat → Nat → Nat} (h : shR fl ty ln el G) (a b : Int32) : rCp (G 30) (G 31) a b = cpS fl ln a b := by
  unfold rCp cpS
  cases h1 : hasP 3 a with
  | false => rfl
  | true =>
    rw [if_pos rfl, if_pos rfl]
    obtain ⟨j, hj, hj2, rfl⟩ := hasP_t h1
    rw [zn_cl hj2]
    cases h2 : hasP 3 b with
    | false => rfl
    | true =>
      rw [if_pos rfl, if_pos rfl]
      by_cases h3 : G 30 j ≠ 0
      · obtain ⟨b1, b2, b3⟩ := (h.1 j hj).2.1 h3
        rw [if_pos h3, if_pos ((h.fl hj).mpr h3), b2]
      · rw [if_neg h3, if_neg (fun z => h3 ((h.fl hj).mp z))]
theorem cpS_s {fl : Nat → Bool} {ln : Nat → Nat} {a b : Int32} {q : Nat × Nat} (h : (cpS fl ln a b).2 = some q) : q.1 < 3 ∧ q.2 < 3 ∧ fl q.1 = true := by
  unfold cpS at h
  cases h1 : hasP 3 a with
  | false => rw [h1] at h; cases h
  | true =>
    rw [h1, if_pos rfl] at h
    obtain ⟨j, hj, hj2, rfl⟩ := hasP_t h1
    rw [zn_cl hj2] at h
    cases h2 : hasP 3 b with
    | false => rw [h2] at h; cases h
    | true =>
      rw [h2, if_pos rfl] at h
      obtain ⟨k, hk, hk2, rfl⟩ := hasP_t h2
      rw [zn_cl hk2] at h
      cases h3 : fl j with
      | false => rw [h3] at h; cases h
      | true =>
        rw [h3, if_pos rfl] at h
        cases h
        exact ⟨hj, hk, h3⟩
theorem shR.cpy {fl : Nat → Bool} {ty ln : Nat → Nat} {el : Nat → Nat → Int32} {G : Nat → Nat → Nat} (h : shR fl ty ln el G) {j k : Nat} (hj : j < 3) (hk : k < 3) (hfl : fl j = true) : shR (bup fl k (fl j)) (nup ty k (ty j)) (nup ln k (ln j)) (rup el k (va_cpy (el j) (el k) 0 0 10)) (gset (gup (gup G 30 k (G 30 j)) 31 k (G 31 j)) 32 (cpN (G 32) (G 32) (10 * j) (10 * k) 10)) := by
  have e30 : (gset (gup (gup G 30 k (G 30 j)) 31 k (G 31 j)) 32 (cpN (G 32) (G 32) (10 * j) (10 * k) 10)) 30 = nup (G 30) k (G 30 j) := by rw [gset_n (by decide), gup_n (by decide), gup_s]
  have e31 : (gset (gup (gup G 30 k (G 30 j)) 31 k (G 31 j)) 32 (cpN (G 32) (G 32) (10 * j) (10 * k) 10)) 31 = nup (G 31) k (G 31 j) := by rw [gset_n (by decide), gup_s, gup_n (by decide)]
  have e32 : (gset (gup (gup G 30 k (G 30 j)) 31 k (G 31 j)) 32 (cpN (G 32) (G 32) (10 * j) (10 * k) 10)) 32 = cpN (G 32) (G 32) (10 * j) (10 * k) 10 := gset_s
  generalize gset (gup (gup G 30 k (G 30 j)) 31 k (G 31 j)) 32 (cpN (G 32) (G 32) (10 * j) (10 * k) 10) = G' at e30 e31 e32
  refine ⟨fun v hv => ?_, fun i => ?_⟩
  · rw [e30, e31, e32]
    obtain ⟨a, b, c, d, e, f⟩ := h.1 v hv
    by_cases hvk : v = k
    · subst hvk
      obtain ⟨a', b', c', d', e', f'⟩ := h.1 j hj
      rw [nup_s, nup_s, nup_s, nup_s]
      have eb : bup fl v (fl j) v = fl j := if_pos rfl
      have er : rup el v (va_cpy (el j) (el v) 0 0 10) v = va_cpy (el j) (el v) 0 0 10 := if_pos rfl
      rw [eb, er]
      refine ⟨a', fun z => ?_, c', d', e', f'⟩
      obtain ⟨b1, b2, b3⟩ := b' z
      refine ⟨b1, b2, fun i hi => ?_⟩
      have ev : va_cpy (el j) (el v) 0 0 10 i = el j i := by
        unfold va_cpy; rw [if_pos ⟨Nat.zero_le _, by omega⟩, Nat.zero_add, Nat.sub_zero]
      have ec : cpN (G 32) (G 32) (10 * j) (10 * v) 10 (10 * v + i) = G 32 (10 * j + i) := by
        unfold cpN; rw [if_pos ⟨by omega, by omega⟩, show 10 * j + (10 * v + i - 10 * v) = 10 * j + i by omega]
      rw [ev, ec]; exact b3 i hi
    · rw [nup_n hvk, nup_n hvk, nup_n hvk, nup_n hvk]
      have eb : bup fl k (fl j) v = fl v := if_neg hvk
      have er : rup el k (va_cpy (el j) (el k) 0 0 10) v = el v := if_neg hvk
      rw [eb, er]
      refine ⟨a, fun z => ?_, c, d, e, f⟩
      obtain ⟨b1, b2, b3⟩ := b z
      refine ⟨b1, b2, fun i hi => ?_⟩
      have ec : cpN (G 32) (G 32) (10 * j) (10 * k) 10 (10 * v + i) = G 32 (10 * v + i) := by
        unfold cpN; rw [if_neg (by omega)]
      rw [ec]; exact b3 i hi
  · rw [e32]
    unfold cpN
    split
    · exact h.2 _
    · exact h.2 _
theorem k_copyShelf {Γ : zCtx} {M : List zE} (d : Nat) (h : INV M) (x y : Int32) : ZM Γ (d + 10) m_sc_copyShelf [.ref 0, .int x, .int y] M (fun M1 v => ∃ a, v = some (.int a) ∧ INVr M1 ∧ ZM Γ (d + 10) m_mo_copyShelf [.ref 123, .int x, .int y] M1 (fun M2 v2 => v2 = some (.int a) ∧ INV M2)) := by
  obtain ⟨sv, s, G, hF, hC⟩ := h
  obtain ⟨h0, ⟨n, m, e, rc, tg, dy, sz, kd, pt, gl, tx, hS, hR⟩, hN, hP, hH, ⟨S0, hV⟩, U0, hW⟩ := id hC
  obtain ⟨fl, ty, ln, el, hH1, hH2⟩ := hH
  have hb30 : ∀ j, j < 3 → G 30 j ≤ 4 := fun j hj => (hH2.1 j hj).2.2.2.2.1
  have hb31 : ∀ j, j < 3 → G 31 j ≤ 10 := fun j hj => (hH2.1 j hj).2.2.2.2.2
  have ee := sh_cp hH2 x y
  refine ZM.weaken (sc_copyShelf_ok (d + 8) h0 hH1 x y) (fun M1 v hq => ?_)
  obtain ⟨rfl, hq⟩ := hq
  rcases hr : (cpS fl ln x y).2 with _ | q
  · rw [hr] at hq
    have hq' : M1 = M := hq
    subst hq'
    refine ⟨_, rfl, hF.rr, ZM.weaken (mo_copyShelf_ok (d + 7) hF hb30 hb31 x y) (fun M2 v2 hz => ?_)⟩
    obtain ⟨rfl, hz⟩ := hz
    rw [ee, hr] at hz
    have hz' : M2 = M1 := hz
    subst hz'
    exact ⟨by rw [ee], sv, s, G, hF, hC⟩
  · obtain ⟨k1, k2, k3⟩ := cpS_s hr
    rw [hr] at hq
    obtain ⟨q1, q2⟩ := hq
    have hF1 := hF.fr q2 (by omega)
    refine ⟨_, rfl, hF1.rr, ZM.weaken (mo_copyShelf_ok (d + 7) hF1 hb30 hb31 x y) (fun M2 v2 hz => ?_)⟩
    obtain ⟨rfl, hz⟩ := hz
    rw [ee, hr] at hz
    exact ⟨by rw [ee], (hC.shv q2 ⟨_, _, _, _, q1, hH2.cpy k1 k2 k3⟩ (fun b h1 h2 h3 => by rw [gset_n h3, gup_n h2, gup_n h1])).fin hz⟩
theorem cpN_lt {f g : Nat → Nat} {n j : Nat} (h : j < n) : cpN f g 0 0 n j = f j := by
  unfold cpN; rw [if_pos ⟨Nat.zero_le _, by omega⟩, Nat.zero_add, Nat.sub_zero]
theorem cpN_b {f g : Nat → Nat} {n B : Nat} (hf : ∀ j, f j < B) (hg : ∀ j, g j < B) (j : Nat) : cpN f g 0 0 n j < B := by
  unfold cpN; split
  · exact hf _
  · exact hg _
theorem stOut.mix {rc rc2 : Nat → Nat} {tg tg2 : Nat → Nat → Nat} (h : stOut rc tg) (h2 : stOut rc2 tg2) : stOut rc (fun i => if i < 30 then tg i else tg2 i) := by
  refine ⟨h.1, fun i j hj => ?_⟩
  dsimp only
  split
  · exact h.2 i j hj
  · exact h2.2 i j hj
theorem mixE_lt {e e2 : Nat → zEnt} {n i : Nat} (h : i < n) : mixE e2 e n i = e i := if_pos h
theorem k_saveSnapshot {Γ : zCtx} {M : List zE} (d : Nat) (h : INV M) : ZM Γ (d + 10) m_sc_saveSnapshot [.ref 0] M (fun M1 v => ∃ a, v = some (.int a) ∧ INVr M1 ∧ ZM Γ (d + 10) m_mo_saveSnapshot [.ref 123] M1 (fun M2 v2 => v2 = some (.int a) ∧ INV M2)) := by
  obtain ⟨sv, s, G, hF, hC⟩ := h
  obtain ⟨h0, ⟨n, m, e, rc, tg, dy, sz, kd, pt, gl, tx, hS, hR⟩, hN, hP, hH, ⟨S0, hV⟩, U0, hW⟩ := id hC
  obtain ⟨⟨n2, m2, e2, rc2, tg2, dy2, sz2, kd2, pt2, gl2, tx2, hB, b1, b2, b3, b4⟩, _, _, h42⟩ := hN
  have r6 := hR.2.2.2.2.2.2.1
  have r7 := hR.2.2.2.2.2.2.2.1
  refine ZM.weaken (sc_saveSnapshot_ok (d + 7) h0 hS hR.2.1 hB b1 hR.m.2 b2 r6 b3 r7 b4) (fun M1 v hq => ?_)
  obtain ⟨rfl, q1, q2, q3, q4⟩ := hq
  have hF1 : FW M1 M1 s G := hF.ag (zAg.f2 q4 (by omega) (by omega))
  refine ⟨_, rfl, hF1.rr, ZM.weaken (mo_saveSnapshot_ok (d + 7) hF1) (fun M2 v2 hz => ?_)⟩
  obtain ⟨rfl, G', hF2, x1, x2⟩ := hz
  have g9 : ∀ j, G' 42 j < 2097152 := fun j => by
    rw [show G' 42 = cpN (G 9) (G 42) 0 0 (moN 9) from x1 9 (by omega)]
    exact cpN_b hR.2.2.2.2.2.1 h42 j
  refine ⟨by rw [hR.1], INVc.fin (sv := true) ⟨q1, ⟨_, _, _, _, _, _, _, _, _, _, _, q2, hR.p (by rw [nup_n (by decide), nup_n (by decide), nup_n (by decide)]) (by rw [nup_n (by decide), nup_n (by decide), nup_n (by decide)]) (fun b hb => x2 b (by omega))⟩, ⟨⟨_, _, _, _, _, _, _, _, _, _, _, q3, hR.2.1, hR.m.2, r6.mix b3, r7⟩, fun _ => ⟨_, _, _, _, _, _, _, _, _, _, _, q3, hR.to (fun i hi => mixE_lt hi) (fun i hi => if_pos hi) (r6.mix b3) ?_ ?_ (fun b hb j hj => ?_) g9⟩, ?_, g9⟩, (hP.ag (zAg.f2 q4 (by omega) (by omega))).to (by rw [nup_n (by decide), nup_n (by decide), nup_n (by decide)]) (x2 22 (by omega)), (hH.ag (zAg.f2 q4 (by omega) (by omega))).to (x2 30 (by omega)) (x2 31 (by omega)) (x2 32 (by omega)), hC.2.2.2.2.2.ag (zAg.f2 q4 (by omega) (by omega))⟩ hF2⟩
  · show nup (nup (nup s 11 (s 0)) 12 (s 1)) 13 1 11 = s 0
    rw [nup_n (by decide), nup_n (by decide), nup_s]
  · show nup (nup (nup s 11 (s 0)) 12 (s 1)) 13 1 12 = s 1
    rw [nup_n (by decide), nup_s]
  · show G' (33 + b) j = G b j
    rw [x1 b hb, cpN_lt hj]
  · rw [nup_s]; rfl
theorem k_restoreSnapshot {Γ : zCtx} {M : List zE} (d : Nat) (h : INV M) : ZM Γ (d + 10) m_sc_restoreSnapshot [.ref 0] M (fun M1 v => ∃ a, v = some (.int a) ∧ INVr M1 ∧ ZM Γ (d + 10) m_mo_restoreSnapshot [.ref 123] M1 (fun M2 v2 => v2 = some (.int a) ∧ INV M2)) := by
  obtain ⟨sv, s, G, hF, hC⟩ := h
  obtain ⟨h0, ⟨n, m, e, rc, tg, dy, sz, kd, pt, gl, tx, hS, hR⟩, hN, hP, hH, ⟨S0, hV⟩, U0, hW⟩ := id hC
  obtain ⟨fl, ty, ln, el, hH1, hH2⟩ := id hH
  have r6 := hR.2.2.2.2.2.2.1
  have r7 := hR.2.2.2.2.2.2.2.1
  cases sv with
  | false =>
    obtain ⟨⟨n2, m2, e2, rc2, tg2, dy2, sz2, kd2, pt2, gl2, tx2, hB, b1, b2, b3, b4⟩, _, h13, h42⟩ := id hN
    refine ZM.weaken (sc_restoreSnapshot_ok (d + 7) h0 hS hR.2.1 hB b1 hR.m.2 b2 r6 b3 r7 b4 hH1) (fun M1 v hq => ?_)
    obtain ⟨rfl, rfl⟩ := hq
    refine ⟨_, rfl, hF.rr, ZM.weaken (mo_restoreSnapshot_no (d + 7) hF h13) (fun M2 v2 hz => ?_)⟩
    obtain ⟨rfl, rfl⟩ := hz
    exact ⟨rfl, false, s, G, hF, hC⟩
  | true =>
    obtain ⟨_, hT, h13, h42⟩ := id hN
    obtain ⟨n2, m2, e2, rc2, tg2, dy2, sz2, kd2, pt2, gl2, tx2, hB, hR2⟩ := hT rfl
    have b3 := hR2.2.2.2.2.2.2.1
    have b4 := hR2.2.2.2.2.2.2.2.1
    refine ZM.weaken (sc_restoreSnapshot_ok (d + 7) h0 hS hR.2.1 hB hR2.2.1 hR.m.2 hR2.m.2 r6 b3 r7 b4 hH1) (fun M1 v hq => ?_)
    obtain ⟨rfl, q1, q2, q4⟩ := hq
    have hF1 : FW M1 M1 s G := hF.ag (zAg.f2 q4 (by omega) (by omega))
    refine ⟨_, rfl, hF1.rr, ZM.weaken (mo_restoreSnapshot_ok (d + 7) hF1 h13) (fun M2 v2 hz => ?_)⟩
    obtain ⟨rfl, G', hF2, x1, x2⟩ := hz
    have e11 : s 11 = n2 := hR2.1
    refine ⟨by rw [e11], INVc.fin (sv := true) ⟨h0.ag (zAg.f2 q4 (by omega) (by omega)), ⟨_, _, _, _, _, _, _, _, _, _, _, q1, hR2.to (fun i hi => mixE_lt hi) (fun i hi => if_pos hi) (b3.mix r6) ?_ ?_ (fun b hb j hj => ?_) (fun j => ?_)⟩, (hN.ag (zAg.f2 q4 (by omega) (by omega))).to (fun j hj => by rw [nup_n (by omega), nup_n (by omega)]) (fun b hb => by rw [es_n (by omega)]; exact x2 b (by omega)), (hP.ag (zAg.f2 q4 (by omega) (by omega))).to (by rw [nup_n (by decide), nup_n (by decide)]) (by rw [es_n (by decide)]; exact x2 22 (by omega)), ⟨_, _, _, _, q2, hH2.emp es30 (by rw [es_n (by decide)]; exact x2 31 (by omega)) (by rw [es_n (by decide)]; exact x2 32 (by omega))⟩, hC.2.2.2.2.2.ag (zAg.f2 q4 (by omega) (by omega))⟩ hF2⟩
    · show nup (nup s 0 (s 11)) 1 (s 12) 0 = s 11
      rw [nup_n (by decide), nup_s]
    · show nup (nup s 0 (s 11)) 1 (s 12) 1 = s 12
      rw [nup_s]
    · show _ = G (33 + b) j
      rw [es_n (by omega), x1 b hb, cpN_lt hj]
    · rw [es_n (by decide), x1 9 (by omega)]
      exact cpN_b h42 hR.2.2.2.2.2.1 j
