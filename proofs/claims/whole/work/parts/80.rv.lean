/-! a version on both sides, with its conflicts -/
def RV (S : vSt) (n0 : Nat) (s : Nat → Nat) (G : Nat → Nat → Nat) : Prop := ∃ K, VR S.1 S.2.1 (s 2) G K n0 ∧ s 3 = S.1 ∧ s 4 = S.2.2.1 ∧ ∀ j, j < S.2.2.1 → G 19 j = S.2.2.2.1 j ∧ G 20 j = S.2.2.2.2.1 j ∧ G 21 j = S.2.2.2.2.2 j
/-- what the computing of a version leaves alone -/
def cF (s s' : Nat → Nat) (G G' : Nat → Nat → Nat) : Prop := (∀ j, j ≠ 2 → j ≠ 3 → j ≠ 4 → j ≠ 6 → s' j = s j) ∧ ∀ b, (b < 10 ∨ 21 < b) → b ≠ 23 → G' b = G b
theorem cF.rf {s : Nat → Nat} {G : Nat → Nat → Nat} : cF s s G G := ⟨fun _ _ _ _ _ => rfl, fun _ _ _ => rfl⟩
theorem cF.tr {s s1 s2 : Nat → Nat} {G G1 G2 : Nat → Nat → Nat} (h : cF s s1 G G1) (h' : cF s1 s2 G1 G2) : cF s s2 G G2 := ⟨fun j a b c d => (h'.1 j a b c d).trans (h.1 j a b c d), fun b x y => (h'.2 b x y).trans (h.2 b x y)⟩
theorem stF.c {s s' : Nat → Nat} {G G' : Nat → Nat → Nat} (h : stF s s' G G') : cF s s' G G' := ⟨fun j a b _ _ => h.1 j a b, fun b x y => h.2 b (by omega) y⟩
def slB (kd pt gl : Nat → Nat) (tx : Nat → Int32) (G : Nat → Nat → Nat) (d r : Nat) : Prop := ∃ t a b c a2 b2 c2, slR G r (kd d) t a b c a2 b2 c2 ∧ kd d ≤ 5 ∧ pt d = kk a b c ∧ lok a b c ∧ (kd d = 4 → gl d = kk a2 b2 c2 ∧ lok a2 b2 c2) ∧ tx d = nI t
theorem slB.to {kd pt gl : Nat → Nat} {tx : Nat → Int32} {G G' : Nat → Nat → Nat} {d r : Nat} (h : slB kd pt gl tx G d r) (h7 : G' 7 = G 7) (h8 : G' 8 = G 8) (h9 : G' 9 = G 9) : slB kd pt gl tx G' d r := by
  unfold slB slR at h ⊢
  rw [h7, h8, h9]
  exact h
theorem slB.cf {kd pt gl : Nat → Nat} {tx : Nat → Int32} {s s' : Nat → Nat} {G G' : Nat → Nat → Nat} {d r : Nat} (h : slB kd pt gl tx G d r) (hc : cF s s' G G') : slB kd pt gl tx G' d r := h.to (hc.2 7 (by decide) (by decide)) (hc.2 8 (by decide) (by decide)) (hc.2 9 (by decide) (by decide))
theorem RV.B {S : vSt} {n0 : Nat} {s : Nat → Nat} {G : Nat → Nat → Nat} (h : RV S n0 s G) : nB (s 2) G ∧ (∀ v, v < s 2 → G 17 v ≠ 0 → chk (G 10) (s 2) 3 (v + 1)) ∧ s 3 = cnt (G 17) (s 2) := by
  obtain ⟨K, h1, h2, _⟩ := h
  exact ⟨h1.1.2.2.2.2.2.1, h1.1.2.2.2.2.1.ck3, by rw [h2, h1.1.ct]⟩
def cfG (G : Nat → Nat → Nat) (q a i r : Nat) : Nat → Nat → Nat := gup (gup (gup G 19 q a) 20 q i) 21 q r
theorem cfG_n {G : Nat → Nat → Nat} {q a i r b : Nat} (h : b < 19 ∨ 21 < b) : cfG G q a i r b = G b := by
  unfold cfG
  rw [gup_n (by omega), gup_n (by omega), gup_n (by omega)]
theorem VR.same {n N n0 : Nat} {e e' : Nat → zEnt} {G G' : Nat → Nat → Nat} {K : Nat → Nat} (h : VR n e N G K n0) (hg : ∀ b, 10 ≤ b → b ≤ 17 → ∀ v, v < N → G' b v = G b v) (he : ∀ i, i < n → e' i = e i) : VR n e' N G' K n0 := by
  obtain ⟨⟨h1, h2, h3, h4, h5, h6, h7, h8⟩, h9⟩ := h
  have mm : ∀ i v, i < n → v < N → mt G K (e i) v → mt G' K (e' i) v := by
    intro i v hi hv hm
    unfold mt
    rw [he i hi, hg 13 (by decide) (by decide) v hv, hg 14 (by decide) (by decide) v hv, hg 15 (by decide) (by decide) v hv, hg 16 (by decide) (by decide) v hv]
    exact hm
  have g17 : ∀ v, v < N → G' 17 v = G 17 v := hg 17 (by decide) (by decide)
  refine ⟨⟨h1, fun i hi => ?_, fun v hv hp => ?_, fun i j hi hj hk => ?_, ⟨fun v hv hp => ?_, fun v w hv hw hpv hpw hk => ?_⟩, ⟨h6.1, fun v hv => ?_⟩, h7, fun v hv => ?_⟩, fun p q hpq hq => ?_⟩
  · obtain ⟨v, v1, v2, v3⟩ := h2 i hi
    exact ⟨v, v1, by rw [g17 v v1]; exact v2, mm i v hi v1 v3⟩
  · rw [g17 v hv] at hp
    obtain ⟨i, i1, i2⟩ := h3 v hv hp
    exact ⟨i, i1, mm i v i1 hv i2⟩
  · rw [he i hi, he j hj] at hk; exact h4 i j hi hj hk
  · rw [g17 v hv] at hp
    obtain ⟨d1, d2, d3, d4⟩ := h5.1 v hv hp
    unfold nd
    rw [hg 10 (by decide) (by decide) v hv, hg 11 (by decide) (by decide) v hv, hg 12 (by decide) (by decide) v hv]
    refine ⟨d1, d2, d3, ?_⟩
    rcases d4 with z | ⟨u, q1, q2, q3, q4, q5⟩
    · exact Or.inl z
    · exact Or.inr ⟨u, q1, q2, by rw [g17 u q2]; exact q3, q4, q5⟩
  · rw [g17 v hv] at hpv
    rw [g17 w hw] at hpw
    exact h5.2 v w hv hw hpv hpw hk
  · rw [hg 12 (by decide) (by decide) v hv, hg 10 (by decide) (by decide) v hv, hg 11 (by decide) (by decide) v hv, hg 16 (by decide) (by decide) v hv, g17 v hv]
    exact h6.2 v hv
  · rw [hg 14 (by decide) (by decide) v hv]; exact h8 v hv
  · rw [he p (by omega), he q hq]; exact h9 p q hpq hq
theorem RV.step {kd pt gl : Nat → Nat} {tx : Nat → Int32} {a i d n0 : Nat} {S S' : vSt} {s s' : Nat → Nat} {G G' : Nat → Nat → Nat} (h : RV S n0 s G) (hN : s 2 < 160) (hv : vIn kd pt gl tx a i d S S') {t l1 l2 l3 g1 g2 g3 r : Nat} (hk5 : kd d ≤ 5) (hpt : pt d = kk l1 l2 l3) (hl : lok l1 l2 l3) (hg : kd d = 4 → gl d = kk g1 g2 g3 ∧ lok g1 g2 g3) (ht : tx d = nI t) (hr : rAp s G (kd d) (lkU G (s 2) l1 l2 l3) (if kd d = 4 then lkU G (s 2) g1 g2 g3 else lkU G (s 2) l1 l2 l3) t a r s' G') : r ≤ 5 ∧ (r = 0 → RV S' n0 s' G') ∧ (0 < r → RV S' n0 (nup s' 4 (s' 4 + 1)) (cfG G' (s' 4) a i r)) ∧ cF s s' G G' ∧ s' 2 ≤ s 2 + 1 ∧ s' 4 = s 4 := by
  obtain ⟨K, h1, h2, h3, h4⟩ := h
  obtain ⟨r', hr5, hcore, hs'⟩ := hv
  rw [ht] at hcore
  obtain ⟨e1, N', K', n1, n2, n3, n4, n5⟩ := h1.ins rfl hN h2 hk5 hpt hl hg hcore hr
  subst e1
  have s4 : s' 4 = s 4 := n5.1 4 (by decide) (by decide)
  have g19 := n5.2 19 (by decide) (by decide)
  have g20 := n5.2 20 (by decide) (by decide)
  have g21 := n5.2 21 (by decide) (by decide)
  subst n1
  refine ⟨hr5, fun z => ?_, fun z => ?_, n5.c, n2, s4⟩
  · rw [if_pos z] at hs'
    exact ⟨K', n4, n3, by rw [s4, h3, hs'], by rw [hs', g19, g20, g21]; exact h4⟩
  · rw [if_neg (by omega)] at hs'
    refine ⟨K', ?_, ?_, ?_, ?_⟩
    · rw [nup_n (by decide)]
      exact n4.same (fun b b1 b2 v _ => by rw [cfG_n (by omega)]) (fun _ _ => rfl)
    · rw [nup_n (by decide)]; exact n3
    · rw [nup_s, hs', s4, h3]
    · rw [hs']
      dsimp only
      intro j hj
      have sq : s' 4 = S.2.2.1 := by rw [s4, h3]
      unfold cfG
      rw [gup_n (b := 19) (a := 21) (by decide), gup_n (b := 19) (a := 20) (by decide), gup_s, gup_n (b := 20) (a := 21) (by decide), gup_s, gup_n (b := 20) (a := 19) (by decide), gup_s, gup_n (b := 21) (a := 20) (by decide), gup_n (b := 21) (a := 19) (by decide), g19, g20, g21, sq]
      by_cases hje : j = S.2.2.1
      · rw [hje, nup_s, nup_s, nup_s, nup_s, nup_s, nup_s]; exact ⟨rfl, rfl, rfl⟩
      · rw [nup_n hje, nup_n hje, nup_n hje, nup_n hje, nup_n hje, nup_n hje]
        exact h4 j (by omega)
/-- the states on the way through an amendment -/
theorem vAp_ch {kd pt gl : Nat → Nat} {tx : Nat → Int32} {a : Nat} {S : vSt} : ∀ {z : Nat} {S' : vSt}, vAp kd pt gl tx a S z S' → ∃ c : Nat → vSt, c 0 = S ∧ c z = S' ∧ ∀ i, i < z → vIn kd pt gl tx a i (a * 15 + i) (c i) (c (i + 1))
  | 0, S', h => ⟨fun _ => S, rfl, (by have h : S' = S := h; rw [h]), fun i hi => by omega⟩
  | z + 1, S', ⟨S1, h1, h2⟩ => by
    obtain ⟨c, c1, c2, c3⟩ := vAp_ch h1
    refine ⟨fun j => if j = z + 1 then S' else c j, (if_neg (by omega)).trans c1, if_pos rfl, fun i hi => ?_⟩
    by_cases hiz : i = z
    · subst hiz
      dsimp only
      rw [if_neg (by omega), if_pos rfl, c2]
      exact h2
    · dsimp only
      rw [if_neg (by omega), if_neg (by omega)]
      exact c3 i (by omega)
/-- the next day -/
def ndF (dy : Nat → Nat) (x y : Nat) : Nat → Option Nat
  | 0 => none
  | i + 1 => if x ≤ dy i ∧ dy i < y ∧ oB (ndF dy x y i) (fun b => decide (dy i < b)) = true then some (dy i) else ndF dy x y i
theorem ndF_none {dy : Nat → Nat} {x y : Nat} : ∀ {i : Nat}, ndF dy x y i = none → ∀ a, a < i → x ≤ dy a → ¬ dy a < y
  | 0, _, a, ha, _ => by omega
  | i + 1, h, a, ha, hx => by
    unfold ndF at h
    split at h
    · cases h
    · rename_i c
      intro hy
      by_cases hai : a = i
      · subst hai
        exact c ⟨hx, hy, by rw [h]; rfl⟩
      · exact ndF_none h a (by omega) hx hy
theorem ndF_some {dy : Nat → Nat} {x y : Nat} : ∀ {i q : Nat}, ndF dy x y i = some q → (∃ a, a < i ∧ dy a = q) ∧ x ≤ q ∧ q < y ∧ ∀ a, a < i → x ≤ dy a → dy a < y → q ≤ dy a
  | 0, q, h => by cases h
  | i + 1, q, h => by
    unfold ndF at h
    split at h
    · rename_i c
      cases h
      refine ⟨⟨i, by omega, rfl⟩, c.1, c.2.1, fun a ha h1 h2 => ?_⟩
      by_cases hai : a = i
      · rw [hai]; omega
      · cases ho : ndF dy x y i with
        | none => exact absurd h2 (ndF_none ho a (by omega) h1)
        | some b =>
          have c3 := c.2.2
          rw [ho] at c3
          have := of_decide_eq_true c3
          have := (ndF_some ho).2.2.2 a (by omega) h1 h2
          omega
    · rename_i c
      obtain ⟨⟨a, a1, a2⟩, h2, h3, h4⟩ := ndF_some h
      refine ⟨⟨a, by omega, a2⟩, h2, h3, fun b hb h5 h6 => ?_⟩
      by_cases hbi : b = i
      · subst hbi
        rcases Nat.lt_or_ge (dy b) q with z | z
        · exact absurd ⟨h5, h6, by rw [h]; exact decide_eq_true z⟩ c
        · exact z
      · exact h4 b (by omega) h5 h6
theorem mI_le {a x : Nat} (ha : a < 2147483647) (hx : x < 2147483647) : nI a ≤ mI x ↔ a < x := by
  rcases x with _ | x
  · rw [mI_0]
    constructor
    · intro h
      have := neg_lt (a := a) (by omega)
      exact absurd h (Int32.not_le.mpr this)
    · intro h; omega
  · rw [mI_s, zn_le (by omega) (by omega)]; omega
theorem ndF_s {dy : Nat → Nat} {x y i : Nat} : ndF dy x y (i + 1) = if x ≤ dy i ∧ dy i < y ∧ oB (ndF dy x y i) (fun b => decide (dy i < b)) = true then some (dy i) else ndF dy x y i := rfl
