/-! new provisions, new amendments, the empty statute -/
theorem SR.add {n m : Nat} {e : Nat → zEnt} {rc : Nat → Nat} {tg : Nat → Nat → Nat} {dy sz kd pt gl : Nat → Nat} {tx : Nat → Int32} {s : Nat → Nat} {G : Nat → Nat → Nat} (h : SR n m e rc tg dy sz kd pt gl tx s G) {K : Nat → Nat} (hO : OR n e G K) {s' : Nat → Nat} {G' : Nat → Nat → Nat} {t : Int32} {k : Nat} {e1 : Nat → zEnt} (hq : adQ n e K t s s' G G' (some k)) (hp : zPerm (n + 1) (eup e n (k, t, false, nI n, -9)) e1) (hs : srtd (n + 1) e1) : SR (n + 1) m e1 (nup rc n 0) tg dy sz kd pt gl tx s' G' := by
  have hO1 := hO.add hq hp hs
  obtain ⟨a, tt, -, -, hn, -, -, -, ks, k0, -, -, -, g3, gr⟩ := hq
  obtain ⟨a0, a1, -, a3, a4, a5, a6, a7, a8⟩ := h
  refine ⟨k0, by omega, ⟨_, hO1⟩, fun i hi => ?_, ⟨(ks 1 (by decide) (by decide) (by decide) (by decide) (by decide)).trans a4.1, a4.2.1, fun c hc => ?_⟩, fun j => by rw [gr 9 (by omega) (by decide)]; exact a5 j, ⟨fun i hi => ?_, a6.2⟩, a7, a8⟩
  · rw [g3, gr 4 (by omega) (by decide)]
    by_cases hin : i = n
    · rw [hin, nup_s, nup_s]
      exact ⟨rfl, by omega, fun j hj => absurd hj (by omega)⟩
    · obtain ⟨b1, b2, b3⟩ := a3 i (by omega)
      rw [nup_n hin, nup_n hin]
      exact ⟨b1, b2, fun j hj => ⟨(b3 j hj).1, by have := (b3 j hj).2; omega⟩⟩
  · obtain ⟨b1, b2, b3, b4, b5⟩ := a4.2.2 c hc
    rw [gr 5 (by omega) (by decide), gr 6 (by omega) (by decide)]
    exact ⟨b1, b2, b3, b4, fun i hi => (b5 i hi).to (gr 7 (by omega) (by decide)) (gr 8 (by omega) (by decide)) (gr 9 (by omega) (by decide))⟩
  · rw [nup_n (by omega)]; exact a6.1 i hi
theorem k_addProvision {Γ : zCtx} {M : List zE} (d : Nat) (h : INV M) (x y : Int32) : ZM Γ (d + 10) m_sc_addProvision [.ref 0, .int x, .int y] M (fun M1 v => ∃ a, v = some (.int a) ∧ INVr M1 ∧ ZM Γ (d + 10) m_mo_addProvision [.ref 123, .int x, .int y] M1 (fun M2 v2 => v2 = some (.int a) ∧ INV M2)) := by
  obtain ⟨sv, s, G, hF, hC⟩ := h
  obtain ⟨h0, ⟨n, m, e, rc, tg, dy, sz, kd, pt, gl, tx, hS, hR⟩, hN, hP, hH, ⟨S0, hV⟩, U0, hW⟩ := id hC
  obtain ⟨K, hO⟩ := hR.2.2.1
  refine ZM.weaken (sc_addProvision_ok (d + 5) h0 hS hR.2.1 hR.v x y) (fun M1 v hq => ?_)
  obtain ⟨rfl, hq⟩ := hq
  rcases hr : (addP n e x y).2 with _ | k
  · rw [hr] at hq
    have hq' : M1 = M := hq
    subst hq'
    refine ⟨_, rfl, hF.rr, ZM.weaken (mo_addProvision_ok (d + 7) hF hR.1 hR.2.1 hO x y) (fun M2 v2 hz => ?_)⟩
    obtain ⟨s', G', rfl, hF2, hz⟩ := hz
    rw [hr] at hz
    exact ⟨rfl, (hC.p (cF.p hz)).fin hF2⟩
  · rw [hr] at hq
    obtain ⟨e1, q1, q2, q3, q4⟩ := hq
    have hF1 := hF.fr q2 (by omega)
    refine ⟨_, rfl, hF1.rr, ZM.weaken (mo_addProvision_ok (d + 7) hF1 hR.1 hR.2.1 hO x y) (fun M2 v2 hz => ?_)⟩
    obtain ⟨s', G', rfl, hF2, hz⟩ := hz
    rw [hr] at hz
    have hz' := hz
    obtain ⟨a, tt, -, -, hn, -, -, -, ks, k0, -, -, -, g3, gr⟩ := hz'
    exact ⟨rfl, (hC.sta q2 ⟨_, _, _, _, _, _, _, _, _, _, _, q1, hR.add hO hz q3 q4⟩ (fun j hj => ks j (by omega) (by omega) (by omega) (by omega) (by omega)) (fun b hb => gr b (by omega) (by omega))).fin hF2⟩
theorem k_insertProvision {Γ : zCtx} {M : List zE} (d : Nat) (h : INV M) (x y : Int32) : ZM Γ (d + 10) m_sc_insertProvision [.ref 0, .int x, .int y] M (fun M1 v => ∃ a, v = some (.int a) ∧ INVr M1 ∧ ZM Γ (d + 10) m_mo_insertProvision [.ref 123, .int x, .int y] M1 (fun M2 v2 => v2 = some (.int a) ∧ INV M2)) := by
  obtain ⟨sv, s, G, hF, hC⟩ := h
  obtain ⟨h0, ⟨n, m, e, rc, tg, dy, sz, kd, pt, gl, tx, hS, hR⟩, hN, hP, hH, ⟨S0, hV⟩, U0, hW⟩ := id hC
  obtain ⟨K, hO⟩ := hR.2.2.1
  refine ZM.weaken (sc_insertProvision_ok (d + 5) h0 hS hR.2.1 hR.v hR.o x y) (fun M1 v hq => ?_)
  obtain ⟨rfl, hq⟩ := hq
  rcases hr : (insP n e x y).2 with _ | k
  · rw [hr] at hq
    have hq' : M1 = M := hq
    subst hq'
    refine ⟨_, rfl, hF.rr, ZM.weaken (mo_insertProvision_ok (d + 6) hF hR.1 hR.2.1 hO x y) (fun M2 v2 hz => ?_)⟩
    obtain ⟨s', G', rfl, hF2, hz⟩ := hz
    rw [hr] at hz
    exact ⟨rfl, (hC.p (cF.p hz)).fin hF2⟩
  · rw [hr] at hq
    obtain ⟨e1, q1, q2, q3, q4⟩ := hq
    have hF1 := hF.fr q2 (by omega)
    refine ⟨_, rfl, hF1.rr, ZM.weaken (mo_insertProvision_ok (d + 6) hF1 hR.1 hR.2.1 hO x y) (fun M2 v2 hz => ?_)⟩
    obtain ⟨s', G', rfl, hF2, hz⟩ := hz
    rw [hr] at hz
    have hz' := hz
    obtain ⟨a, tt, -, -, hn, -, -, -, ks, k0, -, -, -, g3, gr⟩ := hz'
    exact ⟨rfl, (hC.sta q2 ⟨_, _, _, _, _, _, _, _, _, _, _, q1, hR.add hO hz q3 q4⟩ (fun j hj => ks j (by omega) (by omega) (by omega) (by omega) (by omega)) (fun b hb => gr b (by omega) (by omega))).fin hF2⟩
theorem OR.nil {e : Nat → zEnt} {G : Nat → Nat → Nat} {K : Nat → Nat} : OR 0 e G K :=
  ⟨⟨by omega, fun i hi => absurd hi (by omega), fun v hv => absurd hv (by omega), fun i j hi => absurd hi (by omega), ⟨fun v hv => absurd hv (by omega), fun v w hv => absurd hv (by omega)⟩, ⟨by omega, fun v hv => absurd hv (by omega)⟩, by omega, fun v hv => absurd hv (by omega)⟩, fun p q _ hq => absurd hq (by omega)⟩
theorem SR.nil {e : Nat → zEnt} {rc : Nat → Nat} {tg : Nat → Nat → Nat} {dy sz kd pt gl : Nat → Nat} {tx : Nat → Int32} {s : Nat → Nat} {G : Nat → Nat → Nat} (h0 : s 0 = 0) (h1 : s 1 = 0) (h9 : ∀ j, G 9 j < 2097152) (ho : stOut rc tg) (ha : amOut dy sz kd pt gl tx) : SR 0 0 e rc tg dy sz kd pt gl tx s G :=
  ⟨h0, by omega, ⟨fun _ => 0, OR.nil⟩, fun i hi => absurd hi (by omega), ⟨h1, by omega, fun a ha => absurd ha (by omega)⟩, h9, ho, ha, fun a ha => absurd ha (by omega)⟩
/-- all shelves emptied -/
theorem shR.emp {fl : Nat → Bool} {ty ln : Nat → Nat} {el : Nat → Nat → Int32} {G G' : Nat → Nat → Nat} (h : shR fl ty ln el G) (h30 : ∀ j, j < 3 → G' 30 j = 0) (h31 : G' 31 = G 31) (h32 : G' 32 = G 32) : shR (fun i => if i < 3 then false else fl i) ty ln el G' := by
  refine ⟨fun j hj => ?_, fun i => by rw [h32]; exact h.2 i⟩
  obtain ⟨a, b, c, d, e, f⟩ := h.1 j hj
  rw [h30 j hj, h31]
  exact ⟨by show (if j < 3 then false else fl j) = _; rw [if_pos hj]; rfl, fun z => absurd rfl z, c, d, by omega, f⟩
theorem es30 {G : Nat → Nat → Nat} : ∀ j, j < 3 → (gup (gup (gup G 30 0 0) 30 1 0) 30 2 0) 30 j = 0 := by
  intro j hj
  rw [gup_s, gup_s, gup_s]
  rcases (show j = 0 ∨ j = 1 ∨ j = 2 by omega) with rfl | rfl | rfl
  · rw [nup_n (by decide), nup_n (by decide), nup_s]
  · rw [nup_n (by decide), nup_s]
  · rw [nup_s]
theorem es_n {G : Nat → Nat → Nat} {b : Nat} (h : b ≠ 30) : (gup (gup (gup G 30 0 0) 30 1 0) 30 2 0) b = G b := by rw [gup_n h, gup_n h, gup_n h]
theorem k_clear {Γ : zCtx} {M : List zE} (d : Nat) (h : INV M) : ZM Γ (d + 10) m_sc_clear [.ref 0] M (fun M1 v => ∃ a, v = some (.int a) ∧ INVr M1 ∧ ZM Γ (d + 10) m_mo_clear [.ref 123] M1 (fun M2 v2 => v2 = some (.int a) ∧ INV M2)) := by
  obtain ⟨sv, s, G, hF, hC⟩ := h
  obtain ⟨h0, ⟨n, m, e, rc, tg, dy, sz, kd, pt, gl, tx, hS, hR⟩, hN, hP, hH, ⟨S0, hV⟩, U0, hW⟩ := id hC
  obtain ⟨fl, ty, ln, el, hH1, hH2⟩ := hH
  refine ZM.weaken (sc_clear_ok (d + 8) h0 hS hR.2.1 hH1) (fun M1 v hq => ?_)
  obtain ⟨rfl, q1, q2, q3⟩ := hq
  have hF1 : FW M1 M1 s G := hF.ag (zAg.f2 q3 (by omega) (by omega))
  refine ⟨_, rfl, hF1.rr, ZM.weaken (mo_clear_ok (d + 8) hF1) (fun M2 v2 hz => ?_)⟩
  obtain ⟨rfl, hz⟩ := hz
  refine ⟨by rw [hR.1], INVc.fin (sv := sv) ⟨h0.ag (zAg.f2 q3 (by omega) (by omega)), ⟨_, _, _, _, _, _, _, _, _, _, _, q1, SR.nil (by rw [nup_n (by decide), nup_s]) nup_s (fun j => by rw [es_n (by decide)]; exact hR.2.2.2.2.2.1 j) hR.2.2.2.2.2.2.1 hR.2.2.2.2.2.2.2.1⟩, (hN.ag (zAg.f2 q3 (by omega) (by omega))).to (fun j hj => by rw [nup_n (by omega), nup_n (by omega)]) (fun b hb => es_n (by omega)), (hP.ag (zAg.f2 q3 (by omega) (by omega))).to (by rw [nup_n (by decide), nup_n (by decide)]) (es_n (by decide)), ⟨_, _, _, _, q2, hH2.emp es30 (es_n (by decide)) (es_n (by decide))⟩, hC.2.2.2.2.2.ag (zAg.f2 q3 (by omega) (by omega))⟩ hz⟩
theorem pIns_lok {len : Nat} {ch : Nat → Nat} {p : Nat} (hp : p ≤ len) {i : zIns} (h : (pIns len ch p).1 = some i) : lok i.2.1.1 i.2.1.2.1 i.2.1.2.2 ∧ (i.1 = 4 → lok i.2.2.1.1 i.2.2.1.2.1 i.2.2.1.2.2) := by
  have h1 := pKw_ok (ch := ch) hp
  unfold pIns at h
  rcases e : pKw len ch p with ⟨o, q⟩
  rw [e] at h1 h
  rcases o with _ | k
  · cases h
  dsimp only at h1 h
  have h2 := pPth_ok (ch := ch) (p := q) (len := len) (by omega)
  have l1 := fun a b c => pPth_lok (len := len) (ch := ch) (p := q) (a := a) (b := b) (c := c) (by omega)
  rcases e2 : pPth len ch q with ⟨b, l, q2⟩
  rw [e2] at h2 h l1
  dsimp only at h2 h l1
  rcases b with _ | _
  · cases h
  dsimp only at h
  have l2 := l1 l.1 l.2.1 l.2.2 rfl rfl
  by_cases c1 : k = 3 ∨ k = 5
  · rw [if_pos c1] at h
    cases h
    exact ⟨l2, fun z => by dsimp only at z; omega⟩
  rw [if_neg c1] at h
  by_cases c2 : tk len ch q2 32 = true
  · have g := tk_iff.mp c2
    rw [if_pos c2] at h
    by_cases c3 : k = 4
    · rw [if_pos c3] at h
      have m1 := fun a b c => pPth_lok (len := len) (ch := ch) (p := q2 + 1) (a := a) (b := b) (c := c) (by omega)
      rcases e3 : pPth len ch (q2 + 1) with ⟨b, l', q3⟩
      rw [e3] at h m1
      dsimp only at h m1
      rcases b with _ | _
      · cases h
      cases h
      exact ⟨l2, fun _ => m1 l'.1 l'.2.1 l'.2.2 rfl rfl⟩
    · rw [if_neg c3] at h
      rcases e3 : pTx len ch (q2 + 1) with ⟨o, q3⟩
      rw [e3] at h
      rcases o with _ | t
      · cases h
      cases h
      exact ⟨l2, fun z => absurd z c3⟩
  · rw [if_neg c2] at h; cases h
/-- what an instruction read is good for -/
def insG (i : zIns) : Prop := i.1 < 6 ∧ (i.2.2.1.1 < 2097152 ∧ i.2.2.1.2.1 < 2097152 ∧ i.2.2.1.2.2 < 2097152) ∧ lok i.2.1.1 i.2.1.2.1 i.2.1.2.2 ∧ (i.1 = 4 → lok i.2.2.1.1 i.2.2.1.2.1 i.2.2.1.2.2)
theorem pAll_g {len : Nat} {ch : Nat → Nat} : ∀ (f p : Nat) (l : List zIns) (q : Nat), p ≤ len → pAll len ch f p = (some l, q) → ∀ i ∈ l, insG i
  | 0, p, l, q, hp, h => by simp [pAll] at h
  | f + 1, p, l, q, hp, h => by
    have ok := pIns_ok (ch := ch) hp
    have lk := fun i => pIns_lok (ch := ch) hp (i := i)
    rcases e : pIns len ch p with ⟨o, r⟩
    rcases o with _ | x
    · rw [pAll_n e] at h; cases h
    · rw [pAll_s e] at h
      rw [e] at ok lk
      have o1 := ok.2.2 x rfl
      have gx : insG x := ⟨o1.2.1, by omega, lk x rfl⟩
      by_cases c1 : len ≤ r
      · rw [if_pos c1] at h
        cases h
        intro i hi
        rw [List.mem_singleton.mp hi]; exact gx
      · rw [if_neg c1] at h
        by_cases c2 : tk len ch r 59 = true
        · rw [if_pos c2] at h
          rcases e2 : pAll len ch f (r + 1) with ⟨o2, r2⟩
          rw [e2] at h
          rcases o2 with _ | l2
          · cases h
          · have ih := pAll_g f (r + 1) l2 r2 (by omega) e2
            cases h
            intro i hi
            rcases List.mem_cons.mp hi with rfl | hi
            · exact gx
            · exact ih i hi
        · rw [if_neg c2] at h; cases h
theorem stA_g {m len : Nat} {ch : Nat → Nat} {x : Int32} {q : Nat × List zIns} (h : (stA m len ch x).2 = some q) : ∀ i ∈ q.2, insG i := by
  unfold stA at h
  split at h
  · split at h
    · rcases e : pAll len ch 15 0 with ⟨o, r⟩
      rw [e] at h
      rcases o with _ | l
      · cases h
      · cases h
        exact pAll_g 15 0 l r (Nat.zero_le _) e
    · cases h
  · cases h
theorem stA_8 {m len : Nat} {ch : Nat → Nat} {x : Int32} (h : ¬ m < 8) : (stA m len ch x).2 = none := by
  unfold stA
  by_cases c : tOk x = true
  · rw [if_pos c, if_neg h]
  · rw [if_neg c]
theorem slAI {kd pt gl : Nat → Nat} {tx : Nat → Int32} {G : Nat → Nat → Nat} {d r : Nat} {i : zIns} (h1 : slA kd pt gl tx d i) (h2 : slI G r i) (hg : insG i) (h9 : ∀ j, G 9 j < 2097152) : slB kd pt gl tx G d r ∧ insOk kd pt gl d := by
  obtain ⟨a1, a2, a3, a4⟩ := h1
  obtain ⟨b1, b2, b3, b4, b5, b6⟩ := h2
  obtain ⟨g1, g2, g3, g4⟩ := hg
  refine ⟨⟨i.2.2.2, i.2.1.1, i.2.1.2.1, i.2.1.2.2, G 9 (6 * r + 3 + 0), G 9 (6 * r + 3 + 1), G 9 (6 * r + 3 + 2), ⟨by rw [a1]; exact b1, b2, b3, b4, b5, rfl, rfl, rfl, ⟨g3.1.2, g3.2.1, g3.2.2.1⟩, h9 _, h9 _, h9 _⟩, by omega, a2, g3, fun z => ?_, a4⟩, by omega, ?_, ?_⟩
  · rw [a1] at z
    obtain ⟨c1, c2, c3⟩ := b6 z
    rw [c2, c3, show 6 * r + 3 + 0 = 6 * r + 3 from rfl, c1]
    exact ⟨a3, g4 z⟩
  · rw [a2]; exact kk_lt g3.1.2 g3.2.1 g3.2.2.1
  · rw [a3]; exact kk_lt g2.1 g2.2.1 g2.2.2
theorem slB.dv {kd pt gl kd1 pt1 gl1 : Nat → Nat} {tx tx1 : Nat → Int32} {G : Nat → Nat → Nat} {d r : Nat} (h : slB kd pt gl tx G d r) (hs : slS kd pt gl tx kd1 pt1 gl1 tx1 d) : slB kd1 pt1 gl1 tx1 G d r := by
  unfold slB at h ⊢
  rw [hs.1, hs.2.1, hs.2.2.1, hs.2.2.2]; exact h
/-- the amendments with one more, or the same ones -/
theorem SR.am0 {n m : Nat} {e : Nat → zEnt} {rc : Nat → Nat} {tg : Nat → Nat → Nat} {dy sz kd pt gl : Nat → Nat} {tx : Nat → Int32} {s : Nat → Nat} {G : Nat → Nat → Nat} (h : SR n m e rc tg dy sz kd pt gl tx s G) {kd1 pt1 gl1 : Nat → Nat} {tx1 : Nat → Int32} {s' : Nat → Nat} {G' : Nat → Nat → Nat} (hs : ∀ j, (j < m * 15 ∨ 120 ≤ j) → slS kd pt gl tx kd1 pt1 gl1 tx1 j) (h0 : s' 0 = s 0) (h1 : s' 1 = m) (hr : raF m 0 G G') : SR n m e rc tg dy sz kd1 pt1 gl1 tx1 s' G' := by
  obtain ⟨a0, a1, ⟨K, a2⟩, a3, a4, a5, a6, a7, a8⟩ := h
  obtain ⟨r1, r2, r3, r4⟩ := hr
  refine ⟨h0.trans a0, a1, ⟨K, a2.to (fun _ _ => rfl) (fun b hb j _ => by rw [r1 b (by omega) (by omega) (by omega)])⟩, ?_, ⟨h1, a4.2.1, fun c hc => ?_⟩, r4 a5, a6, ⟨a7.1, fun i hi => ?_⟩, fun a ha i hi => ?_⟩
  · unfold rfR; rw [r1 3 (by decide) (by decide) (by decide), r1 4 (by decide) (by decide) (by decide)]; exact a3
  · obtain ⟨b1, b2, b3, b4, b5⟩ := a4.2.2 c hc
    rw [r1 5 (by decide) (by decide) (by decide), r1 6 (by decide) (by decide) (by decide)]
    refine ⟨b1, b2, b3, b4, fun i hi => ((b5 i hi).dv (hs _ (by omega))).at (r2 _ (by omega)).1 (r2 _ (by omega)).2 (fun q hq => r3 _ (by omega))⟩
  · obtain ⟨c1, c2, c3, c4⟩ := hs i (by omega)
    rw [c1, c2, c3, c4]; exact a7.2 i hi
  · have b4 := (a4.2.2 a ha).2.2.2.1
    obtain ⟨c1, c2, c3, c4⟩ := hs (a * 15 + i) (by omega)
    unfold insOk
    rw [c1, c2, c3]; exact a8 a ha i hi
theorem SR.am1 {n m : Nat} {e : Nat → zEnt} {rc : Nat → Nat} {tg : Nat → Nat → Nat} {dy sz kd pt gl : Nat → Nat} {tx : Nat → Int32} {s : Nat → Nat} {G : Nat → Nat → Nat} (h : SR n m e rc tg dy sz kd pt gl tx s G) {kd1 pt1 gl1 : Nat → Nat} {tx1 : Nat → Int32} {s' : Nat → Nat} {G' : Nat → Nat → Nat} {q : Nat × List zIns} (hm : m < 8) (hs : ∀ j, (j < m * 15 ∨ 120 ≤ j) → slS kd pt gl tx kd1 pt1 gl1 tx1 j) (hl : q.2.length ≤ 15) (hq : q.1 ≤ 9999) (hsl : ∀ (i : Nat) (hi : i < q.2.length), slA kd1 pt1 gl1 tx1 (m * 15 + i) q.2[i]) (hg : ∀ i ∈ q.2, insG i) (h0 : s' 0 = s 0) (h1 : s' 1 = m + 1) (hr : raS m 0 G G' q.2 q.1) : SR n (m + 1) e rc tg (nup dy m q.1) (nup sz m q.2.length) kd1 pt1 gl1 tx1 s' G' := by
  obtain ⟨a0, a1, ⟨K, a2⟩, a3, a4, a5, a6, a7, a8⟩ := h
  obtain ⟨r1, r5, r6, r2, r3, r4, r7⟩ := hr
  have r9 := r4 a5
  have nw : ∀ (i : Nat) (hi : i < q.2.length), slB kd1 pt1 gl1 tx1 G' (m * 15 + i) (16 * m + i) ∧ insOk kd1 pt1 gl1 (m * 15 + i) := fun i hi => by
    have := r7 i hi
    rw [Nat.add_zero] at this
    exact slAI (hsl i hi) this (hg _ (List.getElem_mem hi)) r9
  refine ⟨h0.trans a0, a1, ⟨K, a2.to (fun _ _ => rfl) (fun b hb j _ => by rw [r1 b (by omega)])⟩, ?_, ⟨h1, by omega, fun c hc => ?_⟩, r9, a6, ⟨fun i hi => ?_, fun i hi => ?_⟩, fun a ha i hi => ?_⟩
  · unfold rfR; rw [r1 3 (by omega), r1 4 (by omega)]; exact a3
  · rw [r5, r6]
    by_cases hcm : c = m
    · subst hcm
      rw [nup_s, nup_s, nup_s, nup_s, Nat.zero_add]
      exact ⟨rfl, hq, rfl, hl, fun i hi => (nw i hi).1⟩
    · obtain ⟨b1, b2, b3, b4, b5⟩ := a4.2.2 c (by omega)
      rw [nup_n hcm, nup_n hcm, nup_n hcm, nup_n hcm]
      exact ⟨b1, b2, b3, b4, fun i hi => ((b5 i hi).dv (hs _ (by omega))).at (r2 _ (by omega)).1 (r2 _ (by omega)).2 (fun q hq => r3 _ (by omega))⟩
  · rw [nup_n (by omega), nup_n (by omega)]; exact a7.1 i hi
  · obtain ⟨c1, c2, c3, c4⟩ := hs i (by omega)
    rw [c1, c2, c3, c4]; exact a7.2 i hi
  · by_cases hcm : a = m
    · subst hcm
      rw [nup_s] at hi
      exact (nw i hi).2
    · rw [nup_n hcm] at hi
      have b4 := (a4.2.2 a (by omega)).2.2.2.1
      obtain ⟨c1, c2, c3, c4⟩ := hs (a * 15 + i) (by omega)
      unfold insOk
      rw [c1, c2, c3]; exact a8 a (by omega) i hi
theorem aaR.o {m : Nat} {s' : Nat → Nat} {G G' : Nat → Nat → Nat} {o : Option (Nat × List zIns)} (h : aaR m s' G G' o) : ∀ b, (b < 5 ∨ 9 < b) → G' b = G b := by
  rcases o with _ | q
  · exact fun b hb => h.2.1 b (by omega) (by omega) (by omega)
  · exact fun b hb => h.2.1 b hb
/-- an amendment stored -/
theorem INVc.am {M M1 : List zE} {sv : Bool} {s s' : Nat → Nat} {G G' : Nat → Nat → Nat} (h : INVc M sv s G) (hf : zFi M M1) (hT : STS M1 1 s' G') {p : Nat} (hI : InAt M1 0 p (G 22)) (h5 : s' 5 = 0) (hs : ∀ j, 11 ≤ j → s' j = s j) (hg : ∀ b, 9 < b → G' b = G b) : INVc M1 sv s' G' := by
  obtain ⟨a, b, c, d, e, f⟩ := h
  exact ⟨a.fi hf, hT, (c.ag (zAg.fi hf (by omega) (by omega))).to hs (fun b hb => hg b (by omega)), ⟨⟨p, by rw [h5, hg 22 (by omega)]; exact hI⟩, by omega, by rw [hg 22 (by omega)]; exact d.2.2⟩, (e.ag (zAg.fi hf (by omega) (by omega))).to (hg 30 (by omega)) (hg 31 (by omega)) (hg 32 (by omega)), f.ag (zAg.fi hf (by omega) (by omega))⟩
theorem k_addAmendment {Γ : zCtx} {M : List zE} (d : Nat) (h : INV M) (x : Int32) : ZM Γ (d + 10) m_sc_addAmendment [.ref 0, .int x] M (fun M1 v => ∃ a, v = some (.int a) ∧ INVr M1 ∧ ZM Γ (d + 10) m_mo_addAmendment [.ref 123, .int x] M1 (fun M2 v2 => v2 = some (.int a) ∧ INV M2)) := by
  obtain ⟨sv, s, G, hF, hC⟩ := h
  obtain ⟨h0, ⟨n, m, e, rc, tg, dy, sz, kd, pt, gl, tx, hS, hR⟩, hN, hP, hH, ⟨S0, hV⟩, U0, hW⟩ := id hC
  obtain ⟨⟨p, hI⟩, h120, hch⟩ := hP
  obtain ⟨e1, e2⟩ := hR.m
  by_cases hm : m < 8
  · refine ZM.weaken (sc_addAmendment_ok d h0 hS hR.2.1 e2 hI h120 hch x) (fun M1 v hq => ?_)
    obtain ⟨rfl, p1, kd1, pt1, gl1, tx1, q1, q2, q3, q4⟩ := hq
    have hF1 : FW M1 M1 s G := hF.ag (zAg.fi q3 (by omega) (by omega))
    have hs : ∀ j, (j < m * 15 ∨ 120 ≤ j) → slS kd pt gl tx kd1 pt1 gl1 tx1 j := fun j hj => q2 j (by omega)
    refine ⟨_, rfl, hF1.rr, ZM.weaken (mo_addAmendment_ok (d + 2) hF1 h120 hch (by omega) x) (fun M2 v2 hz => ?_)⟩
    obtain ⟨rfl, s', G', hF2, z5, zs, za⟩ := hz
    rw [e1] at za ⊢
    have zo := za.o
    refine ⟨rfl, INVc.fin (hC.am q3 ?_ q1 z5 (fun j hj => zs j (by omega)) (fun b hb => zo b (by omega))) hF2⟩
    rcases hr : (stA m (s 5) (G 22) x).2 with _ | q
    · rw [hr] at q4 za
      exact ⟨_, _, _, _, _, _, _, _, _, _, _, q4, hR.am0 hs (zs 0 (by omega)) za.1 za.2⟩
    · rw [hr] at q4 za
      exact ⟨_, _, _, _, _, _, _, _, _, _, _, q4.1, hR.am1 hm hs q4.2.2.1 q4.2.2.2.1 q4.2.2.2.2 (stA_g hr) (zs 0 (by omega)) za.1 za.2⟩
  · refine ZM.weaken (sc_addAmendment_8 d h0 hS hR.2.1 (by omega) hI h120 x) (fun M1 v hq => ?_)
    obtain ⟨rfl, q1, q2⟩ := hq
    have hF1 := hF.fr q2 (by omega)
    refine ⟨_, rfl, hF1.rr, ZM.weaken (mo_addAmendment_ok (d + 2) hF1 h120 hch (by omega) x) (fun M2 v2 hz => ?_)⟩
    obtain ⟨rfl, s', G', hF2, z5, zs, za⟩ := hz
    rw [e1] at za ⊢
    have zo := za.o
    rw [stA_8 hm] at za
    exact ⟨rfl, INVc.fin (hC.am q2.fi ⟨_, _, _, _, _, _, _, _, _, _, _, hS.fr q2 (by omega), hR.am0 (fun j _ => ⟨rfl, rfl, rfl, rfl⟩) (zs 0 (by omega)) za.1 za.2⟩ q1 z5 (fun j hj => zs j (by omega)) (fun b hb => zo b (by omega))) hF2⟩
