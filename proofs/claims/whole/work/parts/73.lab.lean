/-! labels, as both sides find them -/
theorem lim_min {e : Nat → zEnt} {k q : Nat} : ∀ (n i : Nat), i < n → (k < ek (e i) ∧ ek (e i) ≠ q ∧ par (ek (e i)) = par k) → lim e k q n ≤ lab (ek (e i)) (lev k)
  | 0, i, hi, _ => by omega
  | n + 1, i, hi, hc => by
    unfold lim
    by_cases hin : i = n
    · subst hin
      rw [if_pos hc]
      exact Nat.min_le_right _ _
    · have ih := lim_min n i (by omega) hc
      split
      · exact Nat.le_trans (Nat.min_le_left _ _) ih
      · exact ih
theorem lim_is {e : Nat → zEnt} {k q : Nat} : ∀ (n : Nat), lim e k q n = (lab k (lev k) / 19683 + 1) * 19683 ∨ ∃ i, i < n ∧ (k < ek (e i) ∧ ek (e i) ≠ q ∧ par (ek (e i)) = par k) ∧ lim e k q n = lab (ek (e i)) (lev k)
  | 0 => Or.inl rfl
  | n + 1 => by
    unfold lim
    have ih := lim_is (e := e) (k := k) (q := q) n
    split
    · rename_i hc
      rcases Nat.le_total (lim e k q n) (lab (ek (e n)) (lev k)) with z | z
      · rw [Nat.min_eq_left z]
        rcases ih with ih | ⟨i, a, b, c⟩
        · exact Or.inl ih
        · exact Or.inr ⟨i, by omega, b, c⟩
      · rw [Nat.min_eq_right z]
        exact Or.inr ⟨n, by omega, hc, rfl⟩
    · rcases ih with ih | ⟨i, a, b, c⟩
      · exact Or.inl ih
      · exact Or.inr ⟨i, by omega, b, c⟩
theorem VS.aft {n N n0 : Nat} {e : Nat → zEnt} {G G1 : Nat → Nat → Nat} {K : Nat → Nat} (h : VS n e N G K n0) (h10 : G1 10 = G 10) (h12 : G1 12 = G 12) {q : Nat} (h17 : ∀ w, w < N → (G1 17 w ≠ 0 ↔ G 17 w ≠ 0 ∧ K w ≠ q)) {v : Nat} (hv : v < N) (hp : G 17 v ≠ 0) : lbA G1 N v = aftl n e (K v) q := by
  have hN := h.2.2.2.2.1
  have hd := hN.1 v hv hp
  have hL := gk_lab hd.1
  rw [← hd.2.2.1] at hL
  -- who limits
  have lk : ∀ i, i < n → (K v < ek (e i) ∧ ek (e i) ≠ q ∧ par (ek (e i)) = par (K v)) → ∃ w, w < N ∧ G1 17 w ≠ 0 ∧ G1 10 w = G1 10 v ∧ G1 12 v < G1 12 w ∧ lab (ek (e i)) (lev (K v)) = G1 12 w := by
    intro i hi ⟨c1, c2, c3⟩
    obtain ⟨w, w1, w2, w3⟩ := h.2.1 i hi
    rw [w3.1] at c1 c2 c3 ⊢
    have hw := hN.1 w w1 w2
    refine ⟨w, w1, (h17 w w1).mpr ⟨w2, c2⟩, ?_, ?_, ?_⟩
    · rw [h10]; exact (hN.ch w1 w2 (hN.up hv hp)).mpr (by rw [c3, hN.pa hv hp])
    · rw [h12, hd.2.2.1, hw.2.2.1]
      exact (gk_lt hd.1 hw.1 c3.symm).mp c1
    · rw [h12, hw.2.2.1, gk_plev hw.1 hd.1 c3]
  have kl : ∀ w, w < N → G1 17 w ≠ 0 → G1 10 w = G1 10 v → G1 12 v < G1 12 w → ∃ i, i < n ∧ (K v < ek (e i) ∧ ek (e i) ≠ q ∧ par (ek (e i)) = par (K v)) ∧ lab (ek (e i)) (lev (K v)) = G1 12 w := by
    intro w w1 w2 w3 w4
    obtain ⟨w5, w6⟩ := (h17 w w1).mp w2
    obtain ⟨i, hi, hm⟩ := h.2.2.1 w w1 w5
    have hw := hN.1 w w1 w5
    rw [h10] at w3
    have c3 : par (K w) = par (K v) := by rw [hN.pa w1 w5, w3, hN.pa hv hp]
    refine ⟨i, hi, ?_, ?_⟩
    · rw [hm.1]
      refine ⟨(gk_lt hd.1 hw.1 c3.symm).mpr ?_, w6, c3⟩
      rw [← hd.2.2.1, ← hw.2.2.1]; rw [h12] at w4; exact w4
    · rw [hm.1, h12, hw.2.2.1, gk_plev hw.1 hd.1 c3]
  unfold lbA aftl
  have e0 : lab (K v) (lev (K v)) = G1 12 v := by rw [h12]; exact hd.2.2.1.symm
  have eL : G1 12 v = G1 12 v / 19683 * 19683 + G1 12 v % 19683 := by omega
  have ok : okS (G1 12 v % 19683) := by rw [h12]; exact hL.2.2
  have hlim : lim e (K v) q n = G1 12 v / 19683 * 19683 + lmA G1 N v ∧ G1 12 v % 19683 < lmA G1 N v := by
    have i1 := lim_is (e := e) (k := K v) (q := q) n
    have i2 := lim_mono e (K v) q n
    rw [e0] at i1 i2
    unfold lmA
    cases hx : nxC G1 (G1 10 v) (G1 12 v) N with
    | none =>
      have no := nxC_none hx
      rcases i1 with i1 | ⟨i, a, b, c⟩
      · exact ⟨by show _ = _ + 19683; omega, by show _ < 19683; omega⟩
      · obtain ⟨w, w1, w2, w3, w4, w5⟩ := lk i a b
        exact absurd w4 (no w w1 w2 w3)
    | some w =>
      obtain ⟨w1, w2, w3, w4, w5⟩ := nxC_some hx
      obtain ⟨i, a, b, c⟩ := kl w w1 w2 w3 w4
      have hm := lim_min n i a b
      rw [c] at hm
      dsimp only
      have lo : lim e (K v) q n = (G1 12 v / 19683 + 1) * 19683 ∨ G1 12 w ≤ lim e (K v) q n := by
        rcases i1 with i1 | ⟨j, a', b', c'⟩
        · exact Or.inl i1
        · obtain ⟨u, u1, u2, u3, u4, u5⟩ := lk j a' b'
          rw [c', u5]
          exact Or.inr (w5 u u1 u2 u3 u4)
      by_cases hq : G1 12 w / 19683 = G1 12 v / 19683
      · rw [if_pos hq]; omega
      · rw [if_neg hq]; omega
  have hbe := betw_eq (u := G1 12 v / 19683) ok lmA_le hlim.2
  rw [← eL] at hbe
  rw [hlim.1, e0, hbe]
theorem gm_is {e : Nat → zEnt} {k : Nat} : ∀ (n : Nat), (gm e k n = 0 ∨ ∃ i, i < n ∧ par (ek (e i)) = k ∧ gm e k n = lab (ek (e i)) (lev k + 1) / 19683) ∧ ∀ i, i < n → par (ek (e i)) = k → lab (ek (e i)) (lev k + 1) / 19683 ≤ gm e k n
  | 0 => ⟨Or.inl rfl, fun i hi => by omega⟩
  | n + 1 => by
    obtain ⟨h1, h2⟩ := gm_is (e := e) (k := k) n
    unfold gm
    split
    · rename_i hc
      refine ⟨?_, fun i hi hp => ?_⟩
      · rcases Nat.le_total (gm e k n) (lab (ek (e n)) (lev k + 1) / 19683) with z | z
        · rw [Nat.max_eq_right z]; exact Or.inr ⟨n, by omega, hc, rfl⟩
        · rw [Nat.max_eq_left z]
          rcases h1 with h1 | ⟨i, a, b, c⟩
          · exact Or.inl h1
          · exact Or.inr ⟨i, by omega, b, c⟩
      · by_cases hin : i = n
        · rw [hin]; exact Nat.le_max_right _ _
        · exact Nat.le_trans (h2 i (by omega) hp) (Nat.le_max_left _ _)
    · rename_i hc
      refine ⟨?_, fun i hi hp => ?_⟩
      · rcases h1 with h1 | ⟨i, a, b, c⟩
        · exact Or.inl h1
        · exact Or.inr ⟨i, by omega, b, c⟩
      · by_cases hin : i = n
        · rw [hin] at hp; exact absurd hp hc
        · exact h2 i (by omega) hp
theorem VS.fin {n N n0 : Nat} {e : Nat → zEnt} {G : Nat → Nat → Nat} {K : Nat → Nat} (h : VS n e N G K n0) {a : Nat} (ha : a = 0 ∨ (a - 1 < N ∧ G 17 (a - 1) ≠ 0)) : lbE G N a = newl n e (KA K a) := by
  have hN := h.2.2.2.2.1
  have lvc : ∀ w, w < N → G 17 w ≠ 0 → par (K w) = KA K a → lev (KA K a) + 1 = lev (K w) := by
    intro w w1 w2 w3
    have g := (hN.1 w w1 w2).1
    rw [← w3]
    rcases gk_par g with y | y
    · rw [y.2, y.1]; decide
    · exact y.2.2
  have gs := gm_is (e := e) (k := KA K a) n
  have key : lbE G N a = if gm e (KA K a) n < 99 then some ((gm e (KA K a) n + 1) * 19683) else none := by
    unfold lbE
    cases hx : lsC G a N with
    | none =>
      have no := lsC_none hx
      have : gm e (KA K a) n = 0 := by
        rcases gs.1 with z | ⟨i, i1, i2, i3⟩
        · exact z
        · obtain ⟨w, w1, w2, w3⟩ := h.2.1 i i1
          rw [w3.1] at i2
          exact absurd ((hN.ch w1 w2 ha).mpr i2) (no w w1 w2)
      rw [this, if_pos (by decide)]
    | some w =>
      obtain ⟨w1, w2, w3, w4⟩ := lsC_some hx
      have hp := (hN.ch w1 w2 ha).mp w3
      obtain ⟨i, i1, i2⟩ := h.2.2.1 w w1 w2
      have lo := gs.2 i i1 (by rw [i2.1]; exact hp)
      rw [i2.1, lvc w w1 w2 hp, ← (hN.1 w w1 w2).2.2.1] at lo
      have up : gm e (KA K a) n ≤ G 12 w / 19683 := by
        rcases gs.1 with z | ⟨j, j1, j2, j3⟩
        · omega
        · obtain ⟨u, u1, u2, u3⟩ := h.2.1 j j1
          rw [u3.1] at j2 j3
          rw [lvc u u1 u2 j2, ← (hN.1 u u1 u2).2.2.1] at j3
          have := w4 u u1 u2 ((hN.ch u1 u2 ha).mpr j2)
          omega
      have e1 : gm e (KA K a) n = G 12 w / 19683 := by omega
      rw [e1]
      dsimp only
      by_cases c : G 12 w / 19683 + 1 ≤ 99
      · rw [if_pos c, if_pos (by omega)]
      · rw [if_neg c, if_neg (by omega)]
  rw [key]
  rfl
/-- the label found is good and new -/
theorem VS.aftNew {n N n0 : Nat} {e : Nat → zEnt} {G : Nat → Nat → Nat} {K : Nat → Nat} (h : VS n e N G K n0) {v q b : Nat} (hv : v < N) (hp : G 17 v ≠ 0) (hb : aftl n e (K v) q = some b) : okL b ∧ ∀ i, i < n → ek (e i) ≠ q → ek (e i) ≠ putl (K v) (lev (K v)) b := by
  have hN := h.2.2.2.2.1
  have hd := hN.1 v hv hp
  have hL := gk_lab hd.1
  unfold aftl at hb
  have b1 := betw_gt hb
  have b2 := betw_lt hb
  have b3 := lim_mono e (K v) q n
  have ok : okL b := by
    -- by the reference's own way of finding it
    have hlb : ∃ a c, okS a ∧ c ≤ 19683 ∧ a < c ∧ lab (K v) (lev (K v)) = lab (K v) (lev (K v)) / 19683 * 19683 + a ∧ lim e (K v) q n = lab (K v) (lev (K v)) / 19683 * 19683 + c := by
      refine ⟨lab (K v) (lev (K v)) % 19683, lim e (K v) q n - lab (K v) (lev (K v)) / 19683 * 19683, hL.2.2, by omega, by omega, by omega, by omega⟩
    obtain ⟨a, c, h1, h2, h3, h4, h5⟩ := hlb
    have hbe := betw_eq (u := lab (K v) (lev (K v)) / 19683) h1 h2 h3
    rw [← h4] at hbe
    rw [h5, hbe] at hb
    cases hs : sfB a c with
    | none => rw [hs] at hb; cases hb
    | some x =>
      rw [hs] at hb
      cases hb
      have := sfB_ok h1 h2 h3 hs
      have e1 := this.1.1
      have hL1 := hL.1
      have hL2 := hL.2.1
      refine ⟨by show 19683 ≤ _; omega, by show _ < 1968300; omega, ?_⟩
      have e2 : (lab (K v) (lev (K v)) / 19683 * 19683 + x) % 19683 = x := by omega
      show okS ((lab (K v) (lev (K v)) / 19683 * 19683 + x) % 19683)
      rw [e2]
      exact this.1
  refine ⟨ok, fun i hi hq he => ?_⟩
  have hs := gk_sib hd.1 ok
  have hm := lim_min (q := q) (k := K v) n i hi ⟨?_, hq, by rw [he]; exact hs.2.1⟩
  · rw [he] at hm
    rw [hs.2.2.2] at hm
    omega
  · rw [he]
    refine (gk_lt hd.1 hs.1 hs.2.1.symm).mpr ?_
    rw [hs.2.2.1, hs.2.2.2]
    exact b1
theorem VS.finNew {n N n0 : Nat} {e : Nat → zEnt} {G : Nat → Nat → Nat} {K : Nat → Nat} (h : VS n e N G K n0) {k b : Nat} (hk : k = 0 ∨ (gk k ∧ lev k ≤ 2)) (hb : newl n e k = some b) : okL b ∧ ∀ i, i < n → ek (e i) ≠ putl k (lev k + 1) b := by
  have g := newl_ge hb
  unfold newl at hb
  have gs := gm_is (e := e) (k := k) n
  by_cases c : gm e k n < 99
  · rw [if_pos c] at hb
    cases hb
    have ok : okL ((gm e k n + 1) * 19683) := ⟨g.1, g.2, by rw [show (gm e k n + 1) * 19683 % 19683 = 0 by omega]; exact ⟨by decide, Or.inl rfl⟩⟩
    refine ⟨ok, fun i hi he => ?_⟩
    have hs := gk_child hk ok
    have := gs.2 i hi (by rw [he]; exact hs.2.1)
    rw [he, hs.2.2.2] at this
    omega
  · rw [if_neg c] at hb; cases hb
