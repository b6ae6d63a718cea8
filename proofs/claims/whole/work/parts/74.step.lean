/-! the steps, on both sides -/
theorem gup_o {G : Nat → Nat → Nat} {a k v b j : Nat} (h : j ≠ k) : gup G a k v b j = G b j := by
  unfold gup
  split
  · exact nup_n h
  · rfl
theorem nwG_n {G : Nat → Nat → Nat} {v a l b t o c k w : Nat} (h : w ≠ v) : nwG G v a l b t o c k w = G k w := by
  unfold nwG
  rw [gup_o h, gup_o h, gup_o h, gup_o h, gup_o h, gup_o h, gup_o h, gup_o h]
theorem nwG_s {G : Nat → Nat → Nat} {v a l b t o c : Nat} : nwG G v a l b t o c 10 v = a ∧ nwG G v a l b t o c 11 v = l ∧ nwG G v a l b t o c 12 v = b ∧ nwG G v a l b t o c 13 v = t ∧ nwG G v a l b t o c 14 v = o ∧ nwG G v a l b t o c 15 v = c ∧ nwG G v a l b t o c 16 v = 0 ∧ nwG G v a l b t o c 17 v = 1 := by
  simp [nwG, gup, nup]
theorem VS.add {n N n0 : Nat} {e : Nat → zEnt} {G : Nat → Nat → Nat} {K : Nat → Nat} (h : VS n e N G K n0) (hn : n < 60) (hN : N < 160) {a l b kn t am : Nat} (hkn : gk kn) (hf : ∀ i, i < n → ek (e i) ≠ kn) (ha : (a = 0 ∧ lev kn = 1) ∨ ∃ u, a = u + 1 ∧ u < N ∧ G 17 u ≠ 0 ∧ K u = par kn ∧ 2 ≤ lev kn) (hb : b = lab kn (lev kn)) (hl : l = lev kn) : VS (n + 1) (eup e n (kn, nI t, false, -9, nI am)) (N + 1) (nwG G N a l b t 0 (am + 1)) (nup K N kn) n0 := by
  obtain ⟨h1, h2, h3, h4, h5, h6, h7, h8⟩ := h
  have sv := nwG_s (G := G) (v := N) (a := a) (l := l) (b := b) (t := t) (o := 0) (c := am + 1)
  have nv : ∀ k w, w < N → nwG G N a l b t 0 (am + 1) k w = G k w := fun k w hw => nwG_n (by omega)
  have kv : ∀ w, w < N → nup K N kn w = K w := fun w hw => nup_n (by omega)
  have mo : ∀ x w, w < N → mt G K x w → mt (nwG G N a l b t 0 (am + 1)) (nup K N kn) x w := by
    intro x w hw hm
    unfold mt
    rw [nv _ w hw, nv _ w hw, nv _ w hw, nv _ w hw, kv w hw]
    exact hm
  have mn : mt (nwG G N a l b t 0 (am + 1)) (nup K N kn) (kn, nI t, false, -9, nI am) N := by
    unfold mt
    rw [sv.2.2.2.1, sv.2.2.2.2.1, sv.2.2.2.2.2.1, sv.2.2.2.2.2.2.1, nup_s]
    exact ⟨rfl, rfl, rfl, rfl, rfl⟩
  have fresh : ∀ w, w < N → G 17 w ≠ 0 → K w ≠ kn := by
    intro w hw hp e1
    obtain ⟨i, hi, hm⟩ := h3 w hw hp
    exact hf i hi (by rw [hm.1, e1])
  refine ⟨by omega, fun i hi => ?_, fun v hv hp => ?_, fun i j hi hj he => ?_, ⟨fun v hv hp => ?_, fun v w hv hw hpv hpw he => ?_⟩, ⟨by omega, fun v hv => ?_⟩, by omega, fun v hv => ?_⟩
  · by_cases hin : i = n
    · refine ⟨N, by omega, by rw [sv.2.2.2.2.2.2.2]; decide, ?_⟩
      rw [hin, eup_s]; exact mn
    · obtain ⟨w, w1, w2, w3⟩ := h2 i (by omega)
      refine ⟨w, by omega, by rw [nv _ w w1]; exact w2, ?_⟩
      rw [eup_n hin]; exact mo _ w w1 w3
  · by_cases hvN : v = N
    · exact ⟨n, by omega, by rw [hvN, eup_s]; exact mn⟩
    · have hv' : v < N := by omega
      rw [nv _ v hv'] at hp
      obtain ⟨i, hi, hm⟩ := h3 v hv' hp
      exact ⟨i, by omega, by rw [eup_n (by omega)]; exact mo _ v hv' hm⟩
  · by_cases hin : i = n
    · by_cases hjn : j = n
      · omega
      · rw [hin, eup_s, eup_n hjn] at he
        exact absurd he.symm (hf j (by omega))
    · by_cases hjn : j = n
      · rw [hjn, eup_s, eup_n hin] at he
        exact absurd he (hf i (by omega))
      · rw [eup_n hin, eup_n hjn] at he
        exact h4 i j (by omega) (by omega) he
  · unfold nd
    by_cases hvN : v = N
    · rw [hvN, sv.1, sv.2.1, sv.2.2.1, nup_s]
      refine ⟨hkn, hl, hb, ?_⟩
      rcases ha with ha | ⟨u, u1, u2, u3, u4, u5⟩
      · exact Or.inl ha
      · exact Or.inr ⟨u, u1, by omega, by rw [nv _ u u2]; exact u3, by rw [kv u u2]; exact u4, u5⟩
    · have hv' : v < N := by omega
      rw [nv _ v hv'] at hp
      rw [nv _ v hv', nv _ v hv', nv _ v hv', kv v hv']
      obtain ⟨d1, d2, d3, d4⟩ := h5.1 v hv' hp
      refine ⟨d1, d2, d3, ?_⟩
      rcases d4 with d4 | ⟨u, u1, u2, u3, u4, u5⟩
      · exact Or.inl d4
      · exact Or.inr ⟨u, u1, by omega, by rw [nv _ u u2]; exact u3, by rw [kv u u2]; exact u4, u5⟩
  · by_cases hvN : v = N
    · by_cases hwN : w = N
      · omega
      · have hw' : w < N := by omega
        rw [hvN, nup_s, kv w hw'] at he
        rw [nv _ w hw'] at hpw
        exact absurd he.symm (fresh w hw' hpw)
    · have hv' : v < N := by omega
      rw [nv _ v hv'] at hpv
      by_cases hwN : w = N
      · rw [hwN, nup_s, kv v hv'] at he
        exact absurd he (fresh v hv' hpv)
      · have hw' : w < N := by omega
        rw [kv v hv', kv w hw'] at he
        rw [nv _ w hw'] at hpw
        exact h5.2 v w hv' hw' hpv hpw he
  · by_cases hvN : v = N
    · rw [hvN, sv.1, sv.2.1, sv.2.2.1, sv.2.2.2.2.2.2.1, sv.2.2.2.2.2.2.2, hb, hl]
      have := gk_lev hkn
      have := (gk_lab hkn).r
      refine ⟨by omega, ?_, by omega, by omega, by omega⟩
      rcases ha with ha | ⟨u, u1, u2, _⟩ <;> omega
    · have hv' : v < N := by omega
      rw [nv _ v hv', nv _ v hv', nv _ v hv', nv _ v hv', nv _ v hv']
      exact h6.2 v hv'
  · by_cases hvN : v = N
    · rw [hvN, sv.2.2.2.2.1, if_neg (by omega)]
    · have hv' : v < N := by omega
      rw [nv _ v hv']; exact h8 v hv'
theorem nodes.cong {N : Nat} {G G' : Nat → Nat → Nat} {K : Nat → Nat} (h : nodes N G K) (h10 : G' 10 = G 10) (h11 : G' 11 = G 11) (h12 : G' 12 = G 12) (h17 : G' 17 = G 17) : nodes N G' K := by
  unfold nodes nd at h ⊢
  rw [h10, h11, h12, h17]
  exact h
theorem VS.text {n N n0 : Nat} {e : Nat → zEnt} {G : Nat → Nat → Nat} {K : Nat → Nat} (h : VS n e N G K n0) {i v t : Nat} (hi : i < n) (hv : v < N) (hp : G 17 v ≠ 0) (hm : mt G K (e i) v) : VS n (eup e i (sT (e i) (nI t))) N (gup G 13 v t) K n0 := by
  have keep : ∀ b, b ≠ 13 → gup G 13 v t b = G b := fun b hb => gup_n hb
  obtain ⟨h1, h2, h3, h4, h5, h6, h7, h8⟩ := h
  have ek' : ∀ j, ek (eup e i (sT (e i) (nI t)) j) = ek (e j) := by
    intro j
    by_cases hj : j = i
    · rw [hj, eup_s]; rfl
    · rw [eup_n hj]
  have step : ∀ j w, j < n → w < N → G 17 w ≠ 0 → mt G K (e j) w → mt (gup G 13 v t) K (eup e i (sT (e i) (nI t)) j) w := by
    intro j w hj hw hpw hmw
    unfold mt
    rw [keep 16 (by decide), keep 14 (by decide), keep 15 (by decide), ek', gup_s]
    by_cases hji : j = i
    · have hvw : w = v := by
        refine h5.2 w v hw hv hpw hp ?_
        rw [← hmw.1, hji, hm.1]
      rw [hji, eup_s, hvw, nup_s]
      exact ⟨hm.1, rfl, hm.2.2⟩
    · have hvw : w ≠ v := by
        intro z
        refine hji (h4 j i hj hi ?_)
        rw [hmw.1, hm.1, z]
      rw [eup_n hji, nup_n hvw]
      exact hmw
  refine ⟨h1, fun j hj => ?_, fun w hw hpw => ?_, fun j k hj hk he => h4 j k hj hk (by rw [← ek' j, ← ek' k]; exact he), h5.cong (keep 10 (by decide)) (keep 11 (by decide)) (keep 12 (by decide)) (keep 17 (by decide)), ?_, h7, ?_⟩
  · obtain ⟨w, w1, w2, w3⟩ := h2 j hj
    exact ⟨w, w1, by rw [keep 17 (by decide)]; exact w2, step j w hj w1 w2 w3⟩
  · rw [keep 17 (by decide)] at hpw
    obtain ⟨j, j1, j2⟩ := h3 w hw hpw
    exact ⟨j, j1, step j w j1 hw hpw j2⟩
  · unfold nB at h6 ⊢
    rw [keep 12 (by decide), keep 10 (by decide), keep 11 (by decide), keep 16 (by decide), keep 17 (by decide)]
    exact h6
  · rw [keep 14 (by decide)]; exact h8
theorem VR.text {n N n0 : Nat} {e : Nat → zEnt} {G : Nat → Nat → Nat} {K : Nat → Nat} (h : VR n e N G K n0) {i v t : Nat} (hi : i < n) (hv : v < N) (hp : G 17 v ≠ 0) (hm : mt G K (e i) v) : VR n (eup e i (sT (e i) (nI t))) N (gup G 13 v t) K n0 := by
  refine ⟨h.1.text hi hv hp hm, fun p q hpq hq => ?_⟩
  have ek' : ∀ j, ek (eup e i (sT (e i) (nI t)) j) = ek (e j) := by
    intro j
    by_cases hj : j = i
    · rw [hj, eup_s]; rfl
    · rw [eup_n hj]
  rw [ek', ek']
  exact h.2 p q hpq hq
theorem VR.rep {n N n0 : Nat} {e : Nat → zEnt} {G G' : Nat → Nat → Nat} {K : Nat → Nat} (h : VR n e N G K n0) {v : Nat} (hv : v < N) (hp : G 17 v ≠ 0) (hr : rpI G G' v N) : VR n (rpE e (K v) n) N G' K n0 := by
  obtain ⟨⟨h1, h2, h3, h4, h5, h6, h7, h8⟩, hs⟩ := h
  obtain ⟨r1, r2, r3⟩ := hr
  have ek' : ∀ j, ek (rpE e (K v) n j) = ek (e j) := by
    intro j
    unfold rpE
    split <;> rfl
  have step : ∀ j w, j < n → w < N → G 17 w ≠ 0 → mt G K (e j) w → mt G' K (rpE e (K v) n j) w := by
    intro j w hj hw hpw hmw
    have e16 : decide (G' 16 w ≠ 0) = (er (e j) || decide (wi (K w) (K v))) := by
      rw [r2 w hw, hmw.2.2.1]
      unfold rpV
      by_cases c1 : G 16 w ≠ 0
      · rw [if_pos c1, decide_eq_true c1]; simp
      · rw [if_neg c1, if_pos hpw, decide_eq_false c1]
        by_cases c2 : blw (G 10) v 3 (w + 1) = true
        · rw [if_pos c2, decide_eq_true ((h5.bw3 hv hp hw hpw).mp c2)]; simp
        · rw [if_neg c2, decide_eq_false (fun z => c2 ((h5.bw3 hv hp hw hpw).mpr z))]; simp
    unfold mt
    rw [r1 13 (by decide), r1 14 (by decide), r1 15 (by decide), ek', e16]
    refine ⟨hmw.1, ?_, ?_, ?_, ?_⟩
    · rw [← hmw.2.1]; unfold rpE; split <;> rfl
    · unfold rpE
      have hw2 : ek (e j) = K w := hmw.1
      by_cases c : wi (K w) (K v)
      · rw [if_pos ⟨hj, by rw [hw2]; exact c⟩, decide_eq_true c]
        show true = _
        simp
      · rw [if_neg (fun z => c (by rw [← hw2]; exact z.2)), decide_eq_false c]
        simp
    · rw [← hmw.2.2.2.1]; unfold rpE; split <;> rfl
    · rw [← hmw.2.2.2.2]; unfold rpE; split <;> rfl
  refine ⟨⟨h1, fun j hj => ?_, fun w hw hpw => ?_, fun j k hj hk he => h4 j k hj hk (by rw [← ek' j, ← ek' k]; exact he), h5.cong (r1 10 (by decide)) (r1 11 (by decide)) (r1 12 (by decide)) (r1 17 (by decide)), ?_, h7, ?_⟩, fun p q hpq hq => by rw [ek', ek']; exact hs p q hpq hq⟩
  · obtain ⟨w, w1, w2, w3⟩ := h2 j hj
    exact ⟨w, w1, by rw [r1 17 (by decide)]; exact w2, step j w hj w1 w2 w3⟩
  · rw [r1 17 (by decide)] at hpw
    obtain ⟨j, j1, j2⟩ := h3 w hw hpw
    exact ⟨j, j1, step j w j1 hw hpw j2⟩
  · refine ⟨h6.1, fun w hw => ?_⟩
    obtain ⟨a, b, c, d, f⟩ := h6.2 w hw
    rw [r1 12 (by decide), r1 10 (by decide), r1 11 (by decide), r1 17 (by decide), r2 w hw]
    refine ⟨a, b, c, ?_, f⟩
    unfold rpV
    split
    · omega
    · split
      · split <;> omega
      · omega
  · rw [r1 14 (by decide)]; exact h8
/-- a present key's path up to a level is present -/
theorem nodes.anc {N : Nat} {G : Nat → Nat → Nat} {K : Nat → Nat} (h : nodes N G K) {k : Nat} (hk : gk k) : ∀ (f v : Nat), v < N → G 17 v ≠ 0 → lev (K v) ≤ f → wi (K v) k → ∃ u, u < N ∧ G 17 u ≠ 0 ∧ K u = k
  | 0, v, hv, hp, hl, hw => by have := gk_lev (h.1 v hv hp).1; omega
  | f + 1, v, hv, hp, hl, hw => by
    obtain ⟨h1, h2, h3, h4⟩ := h.1 v hv hp
    rcases (wi_iff h1 hk).mp hw with z | ⟨z1, z2⟩
    · exact ⟨v, hv, hp, z⟩
    · rcases h4 with ⟨q1, q2⟩ | ⟨u, q1, q2, q3, q4, q5⟩
      · omega
      · rcases gk_par h1 with y | y
        · omega
        · exact h.anc hk f u q2 q3 (by rw [q4]; omega) (by rw [q4]; exact z2)
/-- the key of what is moved -/
def mvK (x k q : Nat) : Nat := q + x % un (lev k)
theorem mvK_ok {x k q : Nat} (hx : gk x) (hk : gk k) (hq : gk q) (hl : lev q = lev k) (hw : wi x k) : gk (mvK x k q) ∧ lev (mvK x k q) = lev x ∧ wi (mvK x k q) q ∧ (x = k → mvK x k q = q) ∧ (x ≠ k → par (mvK x k q) = mvK (par x) k q ∧ wi (par x) k ∧ lab (mvK x k q) (lev x) = lab x (lev x) ∧ 2 ≤ lev x) := by
  have hwl := wi_lev2 hx hk hw
  obtain ⟨a, b, c, h1, h2, h3, h4, rfl, ha, hh⟩ := gk_ex hx
  obtain ⟨a', b', c', g1, g2, g3, g4, rfl, ga, gg⟩ := gk_ex hk
  obtain ⟨a2, b2, c2, f1, f2, f3, f4, rfl, fa, ff⟩ := gk_ex hq
  unfold mvK
  unfold wi at hw ⊢
  rcases gg with ⟨rfl, rfl, d3, d4, d5⟩ | ⟨d1, rfl, gb, d3, d4, d5⟩ | ⟨d1, d2, gb, gc, d3, d4, d5⟩
  · rw [d3] at hw hl ⊢
    rcases ff with ⟨rfl, rfl, e3, e4, e5⟩ | ⟨_, _, _, e3, _, _⟩ | ⟨_, _, _, _, e3, _, _⟩
    · rw [e3]
      have hm : kk a2 0 0 + kk a b c % un 1 = kk a2 b c := by rw [un_1]; unfold kk; omega
      rw [hm]
      have ea : a = a' := by rw [un_1] at hw; unfold kk at hw; omega
      rcases hh with ⟨rfl, rfl, c3, c4, c5⟩ | ⟨c1, rfl, hb, c3, c4, c5⟩ | ⟨c1, c2', hb, hc, c3, c4, c5⟩
      · refine ⟨Or.inl ⟨a2, fa, rfl⟩, by rw [lv1 fa.r, c3], rfl, fun _ => rfl, fun z => absurd (by rw [ea]) z⟩
      · refine ⟨Or.inr (Or.inl ⟨a2, b, fa, hb, rfl⟩), by rw [lv2 f1 hb.r, c3], by rw [un_1]; unfold kk; omega, fun z => by unfold kk at z; omega, fun z => ⟨?_, ?_, ?_, by omega⟩⟩
        · rw [pr2 f1 hb.r, c4, un_1]; unfold kk; omega
        · rw [c4, un_1]; unfold kk; omega
        · rw [c3, lab_kk2 f1 h2 h3, lab_kk2 h1 h2 h3]
      · refine ⟨Or.inr (Or.inr ⟨a2, b, c, fa, hb, hc, rfl⟩), by rw [lv3 f1 h2 hc.r, c3], by rw [un_1]; unfold kk; omega, fun z => by unfold kk at z; omega, fun z => ⟨?_, ?_, ?_, by omega⟩⟩
        · rw [pr3 f1 h2 hc.r, c4, un_1]; unfold kk; omega
        · rw [c4, un_1]; unfold kk; omega
        · rw [c3, lab_kk3 f1 h2 h3, lab_kk3 h1 h2 h3]
    · omega
    · omega
  · rw [d3] at hw hl hwl ⊢
    rcases ff with ⟨_, _, e3, _, _⟩ | ⟨e1, rfl, fb, e3, e4, e5⟩ | ⟨_, _, _, _, e3, _, _⟩
    · omega
    · rw [e3]
      have hm : kk a2 b2 0 + kk a b c % un 2 = kk a2 b2 c := by rw [un_2]; unfold kk; omega
      rw [hm]
      have ea : a = a' ∧ b = b' := by rw [un_2] at hw; unfold kk at hw; omega
      rcases hh with ⟨rfl, rfl, c3, c4, c5⟩ | ⟨c1, rfl, hb, c3, c4, c5⟩ | ⟨c1, c2', hb, hc, c3, c4, c5⟩
      · omega
      · refine ⟨Or.inr (Or.inl ⟨a2, b2, fa, fb, rfl⟩), by rw [lv2 f1 fb.r, c3], rfl, fun _ => rfl, fun z => absurd (by rw [ea.1, ea.2]) z⟩
      · refine ⟨Or.inr (Or.inr ⟨a2, b2, c, fa, fb, hc, rfl⟩), by rw [lv3 f1 f2 hc.r, c3], by rw [un_2]; unfold kk; omega, fun z => by unfold kk at z; omega, fun z => ⟨?_, ?_, ?_, by omega⟩⟩
        · rw [pr3 f1 f2 hc.r, c4, un_2]; unfold kk; omega
        · rw [c4, un_2]; unfold kk; omega
        · rw [c3, lab_kk3 f1 f2 h3, lab_kk3 h1 h2 h3]
    · omega
  · rw [d3] at hw hl hwl ⊢
    rcases ff with ⟨_, _, e3, _, _⟩ | ⟨_, _, _, e3, _, _⟩ | ⟨e1, e2, fb, fc, e3, e4, e5⟩
    · omega
    · omega
    · rw [e3]
      have hm : kk a2 b2 c2 + kk a b c % un 3 = kk a2 b2 c2 := by rw [un_3]; omega
      rw [hm]
      have ea : kk a b c = kk a' b' c' := by rw [un_3] at hw; omega
      rcases hh with ⟨rfl, rfl, c3, c4, c5⟩ | ⟨c1, rfl, hb, c3, c4, c5⟩ | ⟨c1, c2', hb, hc, c3, c4, c5⟩
      · omega
      · omega
      · exact ⟨Or.inr (Or.inr ⟨a2, b2, c2, fa, fb, fc, rfl⟩), by rw [lv3 f1 f2 fc.r, c3], rfl, fun _ => rfl, fun z => absurd ea z⟩
theorem mvK_inj {x y k q : Nat} (hx : wi x k) (hy : wi y k) (h : mvK x k q = mvK y k q) : x = y := by
  unfold mvK at h
  unfold wi at hx hy
  have a1 := Nat.div_add_mod x (un (lev k))
  have a2 := Nat.div_add_mod y (un (lev k))
  rw [hx] at a1
  rw [hy] at a2
  omega
theorem VS.mv {n N n0 : Nat} {e : Nat → zEnt} {G G' : Nat → Nat → Nat} {K : Nat → Nat} (h : VS n e N G K n0) {p q b : Nat} (hp : p < N) (hpp : G 17 p ≠ 0) (hq : q < N) (hqp : G 17 q ≠ 0) (hl : lev (K q) = lev (K p)) (hb : aftl n e (K q) (K p) = some b) (g10 : G' 10 = nup (G 10) p (G 10 q)) (g12 : G' 12 = nup (G 12) p b) (go : ∀ k, k ≠ 10 → k ≠ 12 → G' k = G k) : VS n (cpE e (K p) (putl (K q) (lev (K q)) b) n) N G' (fun w => if wi (K w) (K p) then mvK (K w) (K p) (putl (K q) (lev (K q)) b) else K w) n0 := by
  have nw := h.aftNew hq hqp hb
  obtain ⟨h1, h2, h3, h4, h5, h6, h7, h8⟩ := h
  have gp := (h5.1 p hp hpp).1
  have dq := h5.1 q hq hqp
  have hs := gk_sib dq.1 nw.1
  generalize hQ : putl (K q) (lev (K q)) b = Q at hs nw ⊢
  rw [hl] at hs
  obtain ⟨K', hK⟩ : ∃ K' : Nat → Nat, K' = fun w => if wi (K w) (K p) then mvK (K w) (K p) Q else K w := ⟨_, rfl⟩
  rw [← hK]
  have k1 : ∀ w, wi (K w) (K p) → K' w = mvK (K w) (K p) Q := fun w hw => by rw [hK]; exact if_pos hw
  have k2 : ∀ w, ¬ wi (K w) (K p) → K' w = K w := fun w hw => by rw [hK]; exact if_neg hw
  -- what isn't moved doesn't lie where the moved goes
  have off : ∀ u, u < N → G 17 u ≠ 0 → ¬ wi (K u) (K p) → ¬ wi (K u) Q := by
    intro u hu hpu hnw hwq
    obtain ⟨x, x1, x2, x3⟩ := h5.anc hs.1 3 u hu hpu (gk_lev (h5.1 u hu hpu).1).2 hwq
    obtain ⟨i, hi, hm⟩ := h3 x x1 x2
    by_cases c : ek (e i) = K p
    · rw [hm.1, x3] at c; rw [c] at hwq; exact hnw hwq
    · exact nw.2 i hi c (by rw [hm.1, x3])
  have inj : ∀ v w, v < N → w < N → G 17 v ≠ 0 → G 17 w ≠ 0 → K' v = K' w → v = w := by
    intro v w hv hw hpv hpw he
    by_cases c1 : wi (K v) (K p)
    · by_cases c2 : wi (K w) (K p)
      · rw [k1 v c1, k1 w c2] at he
        exact h5.2 v w hv hw hpv hpw (mvK_inj c1 c2 he)
      · rw [k1 v c1, k2 w c2] at he
        have := (mvK_ok (h5.1 v hv hpv).1 gp hs.1 hs.2.2.1 c1).2.2.1
        rw [he] at this
        exact absurd this (off w hw hpw c2)
    · by_cases c2 : wi (K w) (K p)
      · rw [k2 v c1, k1 w c2] at he
        have := (mvK_ok (h5.1 w hw hpw).1 gp hs.1 hs.2.2.1 c2).2.2.1
        rw [← he] at this
        exact absurd this (off v hv hpv c1)
      · rw [k2 v c1, k2 w c2] at he
        exact h5.2 v w hv hw hpv hpw he
  have step : ∀ j w, j < n → w < N → G 17 w ≠ 0 → mt G K (e j) w → mt G' K' (cpE e (K p) Q n j) w := by
    intro j w hj hw hpw hm
    unfold mt
    rw [go 13 (by decide) (by decide), go 14 (by decide) (by decide), go 15 (by decide) (by decide), go 16 (by decide) (by decide)]
    unfold cpE
    by_cases c : wi (K w) (K p)
    · rw [if_pos ⟨hj, by rw [hm.1]; exact c⟩, k1 w c]
      exact ⟨by show Q + ek (e j) % _ = _; rw [hm.1]; rfl, hm.2⟩
    · rw [if_neg (fun z => c (by have := z.2; rw [hm.1] at this; exact this)), k2 w c]
      exact hm
  have e17 := go 17 (by decide) (by decide)
  refine ⟨h1, fun i hi => ?_, fun v hv hpv => ?_, fun i j hi hj he => ?_, ⟨fun w hw hpw => ?_, fun v w hv hw hpv hpw he => ?_⟩, ⟨h6.1, fun w hw => ?_⟩, h7, ?_⟩
  · obtain ⟨w, w1, w2, w3⟩ := h2 i hi
    exact ⟨w, w1, by rw [e17]; exact w2, step i w hi w1 w2 w3⟩
  · rw [e17] at hpv
    obtain ⟨j, j1, j2⟩ := h3 v hv hpv
    exact ⟨j, j1, step j v j1 hv hpv j2⟩
  · obtain ⟨w, w1, w2, w3⟩ := h2 i hi
    obtain ⟨u, u1, u2, u3⟩ := h2 j hj
    have a1 := (step i w hi w1 w2 w3).1
    have a2 := (step j u hj u1 u2 u3).1
    rw [a1, a2] at he
    have := inj w u w1 u1 w2 u2 he
    exact h4 i j hi hj (by rw [w3.1, u3.1, this])
  · rw [e17] at hpw
    obtain ⟨d1, d2, d3, d4⟩ := h5.1 w hw hpw
    unfold nd
    rw [g10, g12, go 11 (by decide) (by decide), e17]
    by_cases c : wi (K w) (K p)
    · have m := mvK_ok (h5.1 w hw hpw).1 gp hs.1 hs.2.2.1 c
      rw [k1 w c]
      by_cases hwp : w = p
      · rw [hwp, nup_s, nup_s]
        rw [hwp] at m d2
        rw [m.2.2.2.1 rfl]
        refine ⟨hs.1, by rw [d2, hs.2.2.1], by rw [hs.2.2.1, hs.2.2.2], ?_⟩
        rcases dq.2.2.2 with ⟨q1, q2⟩ | ⟨u, q1, q2, q3, q4, q5⟩
        · exact Or.inl ⟨q1, by rw [hs.2.2.1]; omega⟩
        · refine Or.inr ⟨u, q1, q2, q3, ?_, by rw [hs.2.2.1]; omega⟩
          rw [k2 u ?_, q4, hs.2.1]
          intro z
          have g := (h5.1 u q2 q3).1
          have := wi_lev2 g gp z
          rcases gk_par dq.1 with y | y
          · omega
          · rw [q4] at this; omega
      · have hkne : K w ≠ K p := fun z => hwp (h5.2 w p hw hp hpw hpp z)
        rw [nup_n hwp, nup_n hwp]
        have m5 := m.2.2.2.2 hkne
        refine ⟨m.1, by rw [d2, m.2.1], by rw [d3, m.2.1, m5.2.2.1], ?_⟩
        rcases d4 with ⟨q1, q2⟩ | ⟨u, q1, q2, q3, q4, q5⟩
        · omega
        · refine Or.inr ⟨u, q1, q2, q3, ?_, by rw [m.2.1]; omega⟩
          rw [k1 u (by rw [q4]; exact m5.2.1), m5.1, q4]
    · have hwp : w ≠ p := fun z => c (by rw [z])
      rw [nup_n hwp, nup_n hwp, k2 w c]
      refine ⟨d1, d2, d3, ?_⟩
      rcases d4 with d4 | ⟨u, q1, q2, q3, q4, q5⟩
      · exact Or.inl d4
      · refine Or.inr ⟨u, q1, q2, q3, ?_, q5⟩
        rw [k2 u ?_, q4]
        intro z
        exact c ((wi_iff d1 gp).mpr (Or.inr ⟨q5, by rw [← q4]; exact z⟩))
  · rw [e17] at hpv hpw
    exact inj v w hv hw hpv hpw he
  · obtain ⟨a, b', c, d, f⟩ := h6.2 w hw
    rw [g10, g12, go 11 (by decide) (by decide), go 16 (by decide) (by decide), e17]
    refine ⟨?_, ?_, c, d, f⟩
    · by_cases z : w = p
      · rw [z, nup_s]; exact nw.1.r.2
      · rw [nup_n z]; exact a
    · by_cases z : w = p
      · rw [z, nup_s]; exact (h6.2 q hq).2.1
      · rw [nup_n z]; exact b'
  · rw [go 14 (by decide) (by decide)]; exact h8
