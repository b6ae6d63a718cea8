/-! the reference's order is the class's -/
abbrev sb (ka x : Nat) : Prop := ka = 0 ∨ (x ≠ ka ∧ wi x ka)
theorem lab_par {x l : Nat} (hx : gk x) (h1 : 1 ≤ l) (h2 : l < lev x) : lab (par x) l = lab x l := by
  obtain ⟨a, b, c, q1, q2, q3, q4, rfl, qa, hh⟩ := gk_ex hx
  rcases hh with ⟨rfl, rfl, c3, c4, c5⟩ | ⟨c1, rfl, hb, c3, c4, c5⟩ | ⟨c1, c2, hb, hc, c3, c4, c5⟩
  · omega
  · obtain rfl : l = 1 := by omega
    rw [c4, lab_kk1 q1 (by decide) (by decide), lab_kk1 q1 q2 (by decide)]
  · rw [c4]
    rcases (show l = 1 ∨ l = 2 by omega) with rfl | rfl
    · rw [lab_kk1 q1 q2 (by decide), lab_kk1 q1 q2 q3]
    · rw [lab_kk2 q1 q2 (by decide), lab_kk2 q1 q2 q3]
theorem lev_0 : lev 0 = 0 := by decide
/-- the child of a place that a node lies below -/
theorem nodes.chA {N : Nat} {G : Nat → Nat → Nat} {K : Nat → Nat} (h : nodes N G K) {a : Nat} (ha : a = 0 ∨ (a - 1 < N ∧ G 17 (a - 1) ≠ 0)) : ∀ (f v : Nat), v < N → G 17 v ≠ 0 → lev (K v) ≤ f → sb (KA K a) (K v) → ∃ w, w < N ∧ G 17 w ≠ 0 ∧ G 10 w = a ∧ wi (K v) (K w) ∧ G 12 w = lab (K v) (lev (KA K a) + 1)
  | 0, v, hv, hp, hl, _ => by have := gk_lev (h.1 v hv hp).1; omega
  | f + 1, v, hv, hp, hl, hs => by
    obtain ⟨d1, d2, d3, d4⟩ := h.1 v hv hp
    by_cases c : par (K v) = KA K a
    · refine ⟨v, hv, hp, (h.ch hv hp ha).mpr c, wi_rf, ?_⟩
      rw [d3, ← c]
      rcases gk_par d1 with y | y
      · rw [y.2, lev_0, y.1]
      · rw [y.2.2]
    · rcases d4 with ⟨q1, q2⟩ | ⟨u, q1, q2, q3, q4, q5⟩
      · exfalso
        rcases gk_par d1 with y | y
        · rw [y.2] at c
          rcases Nat.eq_zero_or_pos a with z | z
          · rw [z] at c; exact c rfl
          · obtain ⟨r1, r2⟩ := ha.resolve_left (by omega)
            have g := (h.1 _ r1 r2).1
            have e : KA K a = K (a - 1) := if_neg (by omega)
            rw [e] at hs
            rcases hs with z | ⟨z1, z2⟩
            · have := gk_pos g; omega
            · rcases (wi_iff d1 g).mp z2 with t | t
              · exact z1 t
              · omega
        · omega
      · have su : sb (KA K a) (K u) := by
          rcases hs with z | ⟨z1, z2⟩
          · exact Or.inl z
          · rcases Nat.eq_zero_or_pos a with z | z
            · rw [z]; exact Or.inl rfl
            · obtain ⟨r1, r2⟩ := ha.resolve_left (by omega)
              have g := (h.1 _ r1 r2).1
              have e : KA K a = K (a - 1) := if_neg (by omega)
              rw [e] at z1 z2 c ⊢
              rw [q4]
              rcases (wi_iff d1 g).mp z2 with t | t
              · exact absurd t z1
              · exact Or.inr ⟨c, t.2⟩
        have lu : lev (K u) + 1 = lev (K v) := by
          rcases gk_par d1 with y | y
          · omega
          · rw [q4]; exact y.2.2
        obtain ⟨w, w1, w2, w3, w4, w5⟩ := h.chA ha f u q2 q3 (by omega) su
        have gw := (h.1 w w1 w2).1
        refine ⟨w, w1, w2, w3, (wi_iff d1 gw).mpr (Or.inr ⟨q5, by rw [← q4]; exact w4⟩), ?_⟩
        rw [w5, q4]
        refine lab_par d1 (by omega) ?_
        have l1 := wi_lev2 (h.1 u q2 q3).1 gw w4
        have l2 : lev (KA K a) + 1 = lev (K w) := by
          have pw := h.pa w1 w2
          rw [w3] at pw
          rw [← pw]
          rcases gk_par gw with y | y
          · rw [y.2, lev_0, y.1]
          · exact y.2.2
        omega
theorem ord_lab {x y ka : Nat} (hx : gk x) (hy : gk y) (hk : ka = 0 ∨ gk ka) (sx : sb ka x) (sy : sb ka y) (h : x < y) : lab x (lev ka + 1) ≤ lab y (lev ka + 1) := by
  rcases hk with rfl | hk
  · obtain ⟨a, b, c, q1, q2, q3, q4, rfl, qa, hh⟩ := gk_ex hx
    obtain ⟨a', b', c', g1, g2, g3, g4, rfl, ga, gg⟩ := gk_ex hy
    rw [lev_0]
    show lab _ 1 ≤ lab _ 1
    rw [lab_kk1 q1 q2 q3, lab_kk1 g1 g2 g3]
    unfold kk at h
    omega
  · have h0 := gk_pos hk
    obtain ⟨x1, x2⟩ := sx.resolve_left (by omega)
    obtain ⟨y1, y2⟩ := sy.resolve_left (by omega)
    exact (sw_le hx hy hk x1 x2 y1 y2 h).1
/-- what is ordered so far -/
def od (n : Nat) (e : Nat → zEnt) (N : Nat) (G : Nat → Nat → Nat) (K : Nat → Nat) (c : Nat) : Prop := ∀ j, j < c → G 18 j < N ∧ G 17 (G 18 j) ≠ 0 ∧ K (G 18 j) = ek (e j)
/-- the loop's invariant: children up to a label are done -/
def orI (n : Nat) (e : Nat → zEnt) (ka c c1 lb : Nat) : Prop := c ≤ c1 ∧ c1 ≤ n ∧ (∀ j, c ≤ j → j < c1 → sb ka (ek (e j))) ∧ (∀ j, j < n → sb ka (ek (e j)) → (j < c1 ↔ lab (ek (e j)) (lev ka + 1) ≤ lb)) ∧ (ka = 0 ∨ ∀ j, c ≤ j → j < n → ka < ek (e j))
def orE (n : Nat) (e : Nat → zEnt) (ka c c1 : Nat) : Prop := c ≤ c1 ∧ c1 ≤ n ∧ ∀ j, c ≤ j → j < n → (j < c1 ↔ sb ka (ek (e j)))
theorem KA_gk {n N n0 : Nat} {e : Nat → zEnt} {G : Nat → Nat → Nat} {K : Nat → Nat} (h : VR n e N G K n0) {a : Nat} (ha : a = 0 ∨ (a - 1 < N ∧ G 17 (a - 1) ≠ 0)) : KA K a = 0 ∨ gk (KA K a) := by
  rcases Nat.eq_zero_or_pos a with z | z
  · left; rw [z]; rfl
  · right
    obtain ⟨r1, r2⟩ := ha.resolve_left (by omega)
    have e : KA K a = K (a - 1) := if_neg (by omega)
    rw [e]; exact (h.1.2.2.2.2.1.1 _ r1 r2).1
theorem ord_next {n N n0 : Nat} {e : Nat → zEnt} {G : Nat → Nat → Nat} {K : Nat → Nat} (h : VR n e N G K n0) {a : Nat} (ha : a = 0 ∨ (a - 1 < N ∧ G 17 (a - 1) ≠ 0)) {c c1 lb : Nat} (hi : orI n e (KA K a) c c1 lb) : match nxC G a lb N with
    | none => orE n e (KA K a) c c1
    | some v => v < N ∧ G 17 v ≠ 0 ∧ G 10 v = a ∧ lb < G 12 v ∧ c1 < n ∧ ek (e c1) = K v ∧ ∀ w, w < N → G 17 w ≠ 0 → G 10 w = a → lb < G 12 w → G 12 v ≤ G 12 w := by
  obtain ⟨i0, i1, i2, i3, i4⟩ := hi
  have h5 := h.1.2.2.2.2.1
  have anc : ∀ j, j < n → sb (KA K a) (ek (e j)) → ∃ w, w < N ∧ G 17 w ≠ 0 ∧ G 10 w = a ∧ wi (ek (e j)) (K w) ∧ G 12 w = lab (ek (e j)) (lev (KA K a) + 1) := by
    intro j hj hs
    obtain ⟨v, v1, v2, v3⟩ := h.1.2.1 j hj
    rw [v3.1] at hs ⊢
    exact h5.chA ha 3 v v1 v2 (gk_lev (h5.1 v v1 v2).1).2 hs
  cases hx : nxC G a lb N with
  | none =>
    have no := nxC_none hx
    refine ⟨i0, i1, fun j j1 j2 => ⟨fun z => i2 j j1 z, fun z => (i3 j j2 z).mpr ?_⟩⟩
    obtain ⟨w, w1, w2, w3, w4, w5⟩ := anc j j2 z
    have := no w w1 w2 w3
    omega
  | some v =>
    obtain ⟨v1, v2, v3, v4, v5⟩ := nxC_some hx
    obtain ⟨jv, k1, k2⟩ := h.1.2.2.1 v v1 v2
    have dv := h5.1 v v1 v2
    have pv : par (K v) = KA K a := (h5.ch v1 v2 ha).mp v3
    have sv : sb (KA K a) (K v) := by
      rcases KA_gk h ha with z | z
      · exact Or.inl z
      · have := par_wi dv.1 z pv; exact Or.inr ⟨this.1, this.2.1⟩
    have lv : lev (KA K a) + 1 = lev (K v) := by
      rw [← pv]
      rcases gk_par dv.1 with y | y
      · rw [y.2, lev_0, y.1]
      · exact y.2.2
    have ge : c1 ≤ jv := by
      rcases Nat.lt_or_ge jv c1 with z | z
      · have := (i3 jv k1 (by rw [k2.1]; exact sv)).mp z
        rw [k2.1, lv, ← dv.2.2.1] at this
        omega
      · exact z
    have eq : jv = c1 := by
      rcases Nat.lt_or_ge c1 jv with z | z
      · exfalso
        have lt := h.2 c1 jv z k1
        rw [k2.1] at lt
        have gc := h.1.gd (i := c1) (by omega)
        have sc : sb (KA K a) (ek (e c1)) := by
          rcases i4 with y | y
          · exact Or.inl y
          · have := y c1 i0 (by omega)
            rcases KA_gk h ha with t | t
            · exact Or.inl t
            · have sv2 := sv.resolve_left (by have := gk_pos t; omega)
              have := (wi_int t).mp sv2.2
              exact Or.inr ⟨by omega, (wi_int t).mpr ⟨by omega, by omega⟩⟩
        obtain ⟨w, w1, w2, w3, w4, w5⟩ := anc c1 (by omega) sc
        have nl : ¬ lab (ek (e c1)) (lev (KA K a) + 1) ≤ lb := fun y => by have := (i3 c1 (by omega) sc).mpr y; omega
        have m := v5 w w1 w2 w3 (by omega)
        have l := ord_lab gc dv.1 (KA_gk h ha) sc sv lt
        rw [lv, ← dv.2.2.1] at l
        rw [lv] at w5
        have := h5.sib w1 w2 v1 v2 (by rw [w3, v3]) (by omega)
        subst this
        have := ((wi_int dv.1).mp w4).1
        omega
      · omega
    subst eq
    exact ⟨v1, v2, v3, v4, k1, k2.1, v5⟩
theorem ord_step {n N n0 : Nat} {e : Nat → zEnt} {G : Nat → Nat → Nat} {K : Nat → Nat} (h : VR n e N G K n0) {a : Nat} (ha : a = 0 ∨ (a - 1 < N ∧ G 17 (a - 1) ≠ 0)) {c c1 c2 lb v : Nat} (hi : orI n e (KA K a) c c1 lb) (hv : v < N ∧ G 17 v ≠ 0 ∧ G 10 v = a ∧ lb < G 12 v ∧ c1 < n ∧ ek (e c1) = K v ∧ ∀ w, w < N → G 17 w ≠ 0 → G 10 w = a → lb < G 12 w → G 12 v ≤ G 12 w) (h2 : orE n e (K v) (c1 + 1) c2) : orI n e (KA K a) c c2 (G 12 v) := by
  obtain ⟨i0, i1, i2, i3, i4⟩ := hi
  obtain ⟨v1, v2, v3, v4, k1, k2, v5⟩ := hv
  obtain ⟨o1, o2, o3⟩ := h2
  have h5 := h.1.2.2.2.2.1
  have dv := h5.1 v v1 v2
  have pv : par (K v) = KA K a := (h5.ch v1 v2 ha).mp v3
  have lv : lev (KA K a) + 1 = lev (K v) := by
    rw [← pv]
    rcases gk_par dv.1 with y | y
    · rw [y.2, lev_0, y.1]
    · exact y.2.2
  have sv : sb (KA K a) (K v) := by
    rcases KA_gk h ha with z | z
    · exact Or.inl z
    · have := par_wi dv.1 z pv; exact Or.inr ⟨this.1, this.2.1⟩
  have h0 := gk_pos dv.1
  have inv : ∀ j, c1 + 1 ≤ j → j < c2 → sb (KA K a) (ek (e j)) ∧ lab (ek (e j)) (lev (KA K a) + 1) = G 12 v := by
    intro j j1 j2
    have gj := h.1.gd (i := j) (by omega)
    obtain ⟨s1, s2⟩ := ((o3 j j1 (by omega)).mp j2).resolve_left (by omega)
    have sj : sb (KA K a) (ek (e j)) := by
      rcases KA_gk h ha with z | z
      · exact Or.inl z
      · have := wi_tr gj dv.1 pv s2 z; exact Or.inr ⟨this.2, this.1⟩
    refine ⟨sj, ?_⟩
    obtain ⟨u, u1, u2, u3⟩ := h.1.2.1 j (by omega)
    rw [u3.1] at sj s2 s1 ⊢
    obtain ⟨w, w1, w2, w3, w4, w5⟩ := h5.chA ha 3 u u1 u2 (gk_lev (h5.1 u u1 u2).1).2 sj
    rw [← w5]
    have gw := (h5.1 w w1 w2).1
    have gu := (h5.1 u u1 u2).1
    have pw : par (K w) = KA K a := (h5.ch w1 w2 ha).mp w3
    -- both lie above the same node, at the same level
    have := (wi_int gw).mp w4
    have := (wi_int dv.1).mp s2
    have eu : un (lev (K w)) = un (lev (K v)) := by rw [gk_plev gw dv.1 (by rw [pw, pv])]
    have kw : K w = K v := by
      have a1 : K u / un (lev (K w)) = K w / un (lev (K w)) := w4
      have a2 : K u / un (lev (K v)) = K v / un (lev (K v)) := s2
      rw [eu] at a1
      exact wi_same gw dv.1 (show K w / un (lev (K v)) = K v / un (lev (K v)) by rw [← a1, a2]) (gk_plev gw dv.1 (by rw [pw, pv]))
    rw [h5.2 w v w1 v1 w2 v2 kw]
  refine ⟨by omega, o2, fun j j1 j2 => ?_, fun j j1 js => ?_, i4⟩
  · rcases Nat.lt_or_ge j c1 with z | z
    · exact i2 j j1 z
    · by_cases hj : j = c1
      · rw [hj, k2]; exact sv
      · exact (inv j (by omega) j2).1
  · constructor
    · intro z
      rcases Nat.lt_or_ge j c1 with y | y
      · have := (i3 j j1 js).mp y; omega
      · by_cases hj : j = c1
        · rw [hj, k2, lv, ← dv.2.2.1]; omega
        · rw [(inv j (by omega) z).2]; omega
    · intro z
      rcases Nat.lt_or_ge lb (lab (ek (e j)) (lev (KA K a) + 1)) with y | y
      · obtain ⟨u, u1, u2, u3⟩ := h.1.2.1 j j1
        have js' := js
        rw [u3.1] at js' y z
        obtain ⟨w, w1, w2, w3, w4, w5⟩ := h5.chA ha 3 u u1 u2 (gk_lev (h5.1 u u1 u2).1).2 js'
        have m := v5 w w1 w2 w3 (by omega)
        have := h5.sib w1 w2 v1 v2 (by rw [w3, v3]) (by omega)
        subst this
        have ge := ((wi_int dv.1).mp w4).1
        by_cases hj : j ≤ c1
        · omega
        · refine (o3 j (by omega) j1).mpr (Or.inr ⟨?_, by rw [u3.1]; exact w4⟩)
          have := h.2 c1 j (by omega) j1
          omega
      · have := (i3 j j1 js).mpr y; omega
theorem ord_leaf {n N n0 : Nat} {e : Nat → zEnt} {G : Nat → Nat → Nat} {K : Nat → Nat} (h : VR n e N G K n0) {k c1 : Nat} (hk : gk k) (h3 : lev k = 3) (hc : c1 < n) : orE n e k (c1 + 1) (c1 + 1) := by
  refine ⟨by omega, by omega, fun j j1 j2 => ⟨fun z => by omega, fun z => ?_⟩⟩
  exfalso
  have g := h.1.gd j2
  obtain ⟨z1, z2⟩ := z.resolve_left (by have := gk_pos hk; omega)
  have := wi_lev2 g hk z2
  have := gk_lev g
  exact z1 (wi_same g hk z2 (by omega))
theorem ord_in {n N n0 : Nat} {e : Nat → zEnt} {G : Nat → Nat → Nat} {K : Nat → Nat} (h : VR n e N G K n0) {k c1 : Nat} (hk : gk k) (hc : c1 < n) (he : ek (e c1) = k) : orI n e k (c1 + 1) (c1 + 1) 0 := by
  refine ⟨by omega, by omega, fun j j1 j2 => by omega, fun j j1 js => ⟨fun z => ?_, fun z => ?_⟩, Or.inr (fun j j1 j2 => ?_)⟩
  · exfalso
    obtain ⟨z1, z2⟩ := js.resolve_left (by have := gk_pos hk; omega)
    have := ((wi_int hk).mp z2).1
    by_cases hj : j = c1
    · rw [hj] at z1; exact z1 he
    · have := h.2 j c1 (by omega) hc; omega
  · exfalso
    have g := h.1.gd j1
    obtain ⟨z1, z2⟩ := js.resolve_left (by have := gk_pos hk; omega)
    rcases sw_form g hk z1 z2 with ⟨a, b, c, q1, q2, q3, q4, q5, q6, q7, q8, q9⟩ | ⟨a, b, c, q1, q2, q3, q4, q5, q6, q7, q8, q9⟩ <;> omega
  · have := h.2 c1 j (by omega) j2; omega
theorem ord_in0 {n N n0 : Nat} {e : Nat → zEnt} {G : Nat → Nat → Nat} {K : Nat → Nat} (h : VR n e N G K n0) : orI n e 0 0 0 0 := by
  refine ⟨by omega, by omega, fun j j1 j2 => by omega, fun j j1 js => ⟨fun z => by omega, fun z => ?_⟩, Or.inl rfl⟩
  exfalso
  have g := h.1.gd j1
  obtain ⟨a, b, c, q1, q2, q3, q4, hk, qa, hh⟩ := gk_ex g
  rw [lev_0, hk] at z
  have : lab (kk a b c) 1 = a := lab_kk1 q1 q2 q3
  have z : lab (kk a b c) 1 ≤ 0 := z
  omega
theorem ord_all {n N n0 : Nat} {e : Nat → zEnt} {G : Nat → Nat → Nat} {K : Nat → Nat} (h : VR n e N G K n0) {c : Nat} (ho : orE n e 0 0 c) : c = n := by
  obtain ⟨o1, o2, o3⟩ := ho
  rcases Nat.lt_or_ge c n with z | z
  · have := (o3 c (by omega) z).mpr (Or.inl rfl); omega
  · omega
