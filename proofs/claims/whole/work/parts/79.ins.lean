/-! an instruction on both sides -/
def lok (a b c : Nat) : Prop := (0 < a ∧ a < 2097152) ∧ b < 2097152 ∧ c < 2097152 ∧ (b = 0 → c = 0)
theorem VS.look {n N n0 : Nat} {e : Nat → zEnt} {G : Nat → Nat → Nat} {K : Nat → Nat} (h : VS n e N G K n0) {a b c : Nat} (hl : lok a b c) : (posK n e (kk a b c) = none ∧ lkU G N a b c = none) ∨ ∃ i v, posK n e (kk a b c) = some i ∧ lkU G N a b c = some v ∧ i < n ∧ v < N ∧ G 17 v ≠ 0 ∧ mt G K (e i) v ∧ K v = kk a b c := by
  have h5 := h.2.2.2.2.1
  have lu := fun v => h5.lu (v := v) hl.1 hl.2.1 hl.2.2.1 hl.2.2.2
  cases x : lkU G N a b c with
  | none =>
    left
    refine ⟨?_, rfl⟩
    cases y : posK n e (kk a b c) with
    | none => rfl
    | some i =>
      have k1 := posK_key y
      obtain ⟨v, v1, v2, v3⟩ := h.2.1 i k1.1
      have := (lu v).mpr ⟨v1, v2, by rw [← v3.1, k1.2]⟩
      rw [x] at this
      cases this
  | some v =>
    right
    obtain ⟨v1, v2, v3⟩ := (lu v).mp x
    obtain ⟨i, i1, i2⟩ := h.2.2.1 v v1 v2
    refine ⟨i, v, ?_, rfl, i1, v1, v2, i2, v3⟩
    cases y : posK n e (kk a b c) with
    | none =>
      have := frst_none.mp y i i1
      exact absurd (by rw [i2.1, v3]) (of_decide_eq_false this)
    | some j =>
      have k1 := posK_key y
      rw [h.2.2.2.1 j i k1.1 i1 (by rw [k1.2, i2.1, v3])]
def stF (s s' : Nat → Nat) (G G' : Nat → Nat → Nat) : Prop := (∀ j, j ≠ 2 → j ≠ 3 → s' j = s j) ∧ ∀ b, (b < 10 ∨ 17 < b) → b ≠ 23 → G' b = G b
theorem stF.rf {s : Nat → Nat} {G : Nat → Nat → Nat} : stF s s G G := ⟨fun _ _ _ => rfl, fun _ _ _ => rfl⟩
theorem stF.nw {s : Nat → Nat} {G : Nat → Nat → Nat} {v a l b t o c : Nat} : stF s (nwN s) G (nwG G v a l b t o c) := by
  refine ⟨fun j h1 h2 => ?_, fun k hk _ => ?_⟩
  · unfold nwN; rw [nup_n h2, nup_n h1]
  · unfold nwG
    rw [gup_n (by omega), gup_n (by omega), gup_n (by omega), gup_n (by omega), gup_n (by omega), gup_n (by omega), gup_n (by omega), gup_n (by omega)]
/-- what stands behind an instruction -/
def inE (n' : Nat) (e' : Nat → zEnt) (n0 N : Nat) (s s' : Nat → Nat) (G G' : Nat → Nat → Nat) : Prop := ∃ N' K', s' 2 = N' ∧ N' ≤ N + 1 ∧ s' 3 = n' ∧ VR n' e' N' G' K' n0 ∧ stF s s' G G'
theorem VR.perm {n N n0 : Nat} {e e' : Nat → zEnt} {G : Nat → Nat → Nat} {K : Nat → Nat} (h : VS n e N G K n0) (hp : zPerm n e e') (hs : srtd n e') : VR n e' N G K n0 := h.sort hp hs
theorem VR.ins {n N n0 : Nat} {e : Nat → zEnt} {G : Nat → Nat → Nat} {K : Nat → Nat} {s : Nat → Nat} (h : VR n e N G K n0) (hN : s 2 = N) (hN9 : N < 160) (h3 : s 3 = n) {kd k g t am a b c a2 b2 c2 : Nat} (hkd : kd ≤ 5) (hk : k = kk a b c) (hl : lok a b c) (hg : kd = 4 → g = kk a2 b2 c2 ∧ lok a2 b2 c2) {n' r r' : Nat} {e' : Nat → zEnt} {s' : Nat → Nat} {G' : Nat → Nat → Nat}
    (hd : (rsn n e kd k (if kd = 4 then g else k) ≠ 0 ∧ r' = rsn n e kd k (if kd = 4 then g else k) ∧ n' = n ∧ e' = e) ∨ (rsn n e kd k (if kd = 4 then g else k) = 0 ∧ vC kd k g (nI t) am n e n' e' r'))
    (hr : rAp s G kd (lkU G N a b c) (if kd = 4 then lkU G N a2 b2 c2 else lkU G N a b c) t am r s' G') : r = r' ∧ inE n' e' n0 N s s' G G' := by
  have h5 := h.1.2.2.2.2.1
  have stay : ∀ x, n' = n → e' = e → s' = s → G' = G → r = x → r' = x → r = r' ∧ inE n' e' n0 N s s' G G' := by
    intro x q1 q2 q3 q4 q5 q6
    subst q1 q2 q3 q4
    exact ⟨by omega, N, K, hN, by omega, h3, h, stF.rf⟩
  -- the goal's key and node
  obtain ⟨gk2, o2, hgk, ho2, hlk2⟩ : ∃ gk2 o2, (if kd = 4 then g else k) = gk2 ∧ (if kd = 4 then lkU G N a2 b2 c2 else lkU G N a b c) = o2 ∧ ((posK n e gk2 = none ∧ o2 = none) ∨ ∃ i v, posK n e gk2 = some i ∧ o2 = some v ∧ i < n ∧ v < N ∧ G 17 v ≠ 0 ∧ mt G K (e i) v ∧ K v = gk2) := by
    by_cases c4 : kd = 4
    · rw [if_pos c4, if_pos c4]
      refine ⟨g, _, rfl, rfl, ?_⟩
      rw [(hg c4).1]
      exact h.1.look (hg c4).2
    · rw [if_neg c4, if_neg c4]
      refine ⟨k, _, rfl, rfl, ?_⟩
      rw [hk]
      exact h.1.look hl
  rw [hgk] at hd
  rw [ho2] at hr
  have lk1 := h.1.look hl
  rw [← hk] at lk1
  rcases lk1 with ⟨p1, p2⟩ | ⟨i, v, p1, p2, i1, v1, v2, v3, v4⟩
  · rw [rsn_n1 p1] at hd
    rw [p2] at hr
    rcases hd with ⟨_, d2, d3, d4⟩ | ⟨d1, _⟩
    · exact stay 1 d3 d4 hr.2.1 hr.2.2 hr.1 d2
    · cases d1
  rcases hlk2 with ⟨q1, q2⟩ | ⟨j, w, q1, q2, j1, w1, w2, w3, w4⟩
  · rw [rsn_n2 q1] at hd
    rw [p2, q2] at hr
    rcases hd with ⟨_, d2, d3, d4⟩ | ⟨d1, _⟩
    · exact stay 1 d3 d4 hr.2.1 hr.2.2 hr.1 d2
    · cases d1
  rw [rsn_eq p1 q1] at hd
  rw [p2, q2] at hr
  replace hr : if G 16 v ≠ 0 ∨ G 16 w ≠ 0 then r = 2 ∧ s' = s ∧ G' = G else if (kd = 1 ∧ G 11 v = 3) ∨ (kd = 4 ∧ (G 11 v ≠ G 11 w ∨ v = w)) then r = 3 ∧ s' = s ∧ G' = G else if kd ≤ 1 ∧ s 3 = 60 then r = 4 ∧ s' = s ∧ G' = G else rDo s G kd v w t am r s' G' := hr
  have dv := h5.1 v v1 v2
  have dw := h5.1 w w1 w2
  by_cases c1 : G 16 v ≠ 0 ∨ G 16 w ≠ 0
  · rw [if_pos c1] at hr
    have : (er (e i) || er (e j)) = true := by
      rw [v3.2.2.1, w3.2.2.1]
      rcases c1 with z | z
      · rw [decide_eq_true z]; rfl
      · rw [decide_eq_true z]; simp
    rw [if_pos this] at hd
    rcases hd with ⟨_, d2, d3, d4⟩ | ⟨d1, _⟩
    · exact stay 2 d3 d4 hr.2.1 hr.2.2 hr.1 d2
    · cases d1
  rw [if_neg c1] at hr
  have hne : ¬ (er (e i) || er (e j)) = true := by
    rw [v3.2.2.1, w3.2.2.1, decide_eq_false (fun z => c1 (Or.inl z)), decide_eq_false (fun z => c1 (Or.inr z))]
    decide
  rw [if_neg hne] at hd
  have e1 : G 11 v = lev k := by rw [dv.2.1, v4, hk]
  have e2 : G 11 w = lev gk2 := by rw [dw.2.1, w4]
  rw [e1, e2] at hr
  have kvw : v = w ↔ k = gk2 := by
    constructor
    · intro z; rw [← w4, ← z, v4, hk]
    · intro z; exact h5.2 v w v1 w1 v2 w2 (by rw [v4, w4, ← z, hk])
  by_cases c2 : kd = 1 ∧ lev k = 3
  · rw [if_pos c2] at hd
    rw [if_pos (Or.inl c2)] at hr
    rcases hd with ⟨_, d2, d3, d4⟩ | ⟨d1, _⟩
    · exact stay 3 d3 d4 hr.2.1 hr.2.2 hr.1 d2
    · cases d1
  rw [if_neg c2] at hd
  by_cases c3 : kd = 4 ∧ (lev k ≠ lev gk2 ∨ k = gk2)
  · rw [if_pos c3] at hd
    rw [if_pos (Or.inr ⟨c3.1, c3.2.imp id kvw.mpr⟩)] at hr
    rcases hd with ⟨_, d2, d3, d4⟩ | ⟨d1, _⟩
    · exact stay 3 d3 d4 hr.2.1 hr.2.2 hr.1 d2
    · cases d1
  rw [if_neg c3] at hd
  rw [if_neg (fun z => z.elim c2 (fun y => c3 ⟨y.1, y.2.imp id kvw.mp⟩)), h3] at hr
  have h60 := h.1.1
  by_cases c4 : kd ≤ 1 ∧ 60 ≤ n
  · rw [if_pos c4] at hd
    rw [if_pos ⟨c4.1, by omega⟩] at hr
    rcases hd with ⟨_, d2, d3, d4⟩ | ⟨d1, _⟩
    · exact stay 4 d3 d4 hr.2.1 hr.2.2 hr.1 d2
    · cases d1
  rw [if_neg c4] at hd
  rw [if_neg (fun z => c4 ⟨z.1, by omega⟩)] at hr
  rcases hd with ⟨d0, _⟩ | ⟨_, hd⟩
  · exact absurd rfl d0
  have kv : K v = k := by rw [v4, hk]
  have gkk : gk k := by rw [← kv]; exact dv.1
  obtain rfl | rfl | rfl | rfl | rfl | rfl : kd = 0 ∨ kd = 1 ∨ kd = 2 ∨ kd = 3 ∨ kd = 4 ∨ kd = 5 := by omega
  · replace hr : match lbA G (s 2) v with
      | none => r = 5 ∧ s' = s ∧ G' = G
      | some b => r = 0 ∧ s' = nwN s ∧ G' = nwG G (s 2) (G 10 v) (G 11 v) b t 0 (am + 1) := hr
    rw [hN, h.1.aft rfl rfl (q := 0) (fun u u1 => ⟨fun z => ⟨z, fun y => by have := gk_pos (h5.1 u u1 z).1; omega⟩, fun z => z.1⟩) v1 v2, kv] at hr
    rcases hd with ⟨x1, x2, x3, x4⟩ | ⟨lb, x1, x2, x3, x4, x5⟩
    · rw [x1] at hr
      exact stay 5 x3 x4 hr.2.1 hr.2.2 hr.1 x2
    · rw [x1] at hr
      obtain ⟨y1, y2, y3⟩ := hr
      have nw := h.1.aftNew v1 v2 (q := 0) (b := lb) (by rw [kv]; exact x1)
      rw [kv] at nw
      have sb := gk_sib gkk nw.1
      have up := dv.2.2.2
      rw [kv] at up
      have ad := h.1.add (by have := fun z => c4 ⟨(by omega), z⟩; omega) hN9 (a := G 10 v) (l := G 11 v) (b := lb) (t := t) (am := am) sb.1 (fun q hq => nw.2 q hq (fun z => by have := gk_pos (h.1.gd hq); omega)) (by
        rw [sb.2.2.1, sb.2.1]
        rcases up with z | ⟨u, z1, z2, z3, z4, z5⟩
        · exact Or.inl z
        · exact Or.inr ⟨u, z1, z2, z3, z4, z5⟩) (by rw [sb.2.2.1, sb.2.2.2]) (by rw [e1, sb.2.2.1])
      refine ⟨by omega, N + 1, nup K N (putl k (lev k) lb), ?_, by omega, ?_, ?_, ?_⟩
      · rw [y2]; simp [nwN, nup, hN]
      · rw [y2, x3]; simp [nwN, nup, h3]
      · rw [x3, y3]; exact ad.sort x4 x5
      · rw [y2, y3]; exact stF.nw
  · replace hr : match lbE G (s 2) (v + 1) with
      | none => r = 5 ∧ s' = s ∧ G' = G
      | some b => r = 0 ∧ s' = nwN s ∧ G' = nwG G (s 2) (v + 1) (G 11 v + 1) b t 0 (am + 1) := hr
    rw [hN, h.1.fin (a := v + 1) (Or.inr ⟨v1, v2⟩), KA_s, kv] at hr
    have l2 : lev k ≤ 2 := by have := gk_lev gkk; have : ¬ lev k = 3 := fun z => c2 ⟨rfl, z⟩; omega
    rcases hd with ⟨x1, x2, x3, x4⟩ | ⟨lb, x1, x2, x3, x4, x5⟩
    · rw [x1] at hr
      exact stay 5 x3 x4 hr.2.1 hr.2.2 hr.1 x2
    · rw [x1] at hr
      obtain ⟨y1, y2, y3⟩ := hr
      have nw := h.1.finNew (Or.inr ⟨gkk, l2⟩) x1
      have sb := gk_child (Or.inr ⟨gkk, l2⟩) nw.1
      have ad := h.1.add (by have := fun z => c4 ⟨(by omega), z⟩; omega) hN9 (a := v + 1) (l := G 11 v + 1) (b := lb) (t := t) (am := am) sb.1 nw.2 (Or.inr ⟨v, rfl, v1, v2, by rw [sb.2.1, kv], by rw [sb.2.2.1]; have := gk_lev gkk; omega⟩) (by rw [sb.2.2.1, sb.2.2.2]) (by rw [e1, sb.2.2.1])
      refine ⟨by omega, N + 1, nup K N (putl k (lev k + 1) lb), ?_, by omega, ?_, ?_, ?_⟩
      · rw [y2]; simp [nwN, nup, hN]
      · rw [y2, x3]; simp [nwN, nup, h3]
      · rw [x3, y3]; exact ad.sort x4 x5
      · rw [y2, y3]; exact stF.nw
  · obtain ⟨y1, y2, y3⟩ := hr
    obtain ⟨i', x1, x2, x3, x4⟩ := hd
    rw [p1] at x1
    cases x1
    refine ⟨by omega, N, K, by rw [y2]; exact hN, by omega, by rw [y2, x3]; exact h3, ?_, ?_⟩
    · rw [x3, x4, y3]; exact h.text i1 v1 v2 v3
    · rw [y2, y3]; exact ⟨fun _ _ _ => rfl, fun q hq _ => gup_n (by omega)⟩
  · obtain ⟨y1, y2, y3⟩ := hr
    obtain ⟨x2, x3, x4⟩ := hd
    rw [hN] at y3
    refine ⟨by omega, N, K, by rw [y2]; exact hN, by omega, by rw [y2, x3]; exact h3, ?_, ?_⟩
    · rw [x3, x4, ← kv]; exact h.rep v1 v2 y3
    · rw [y2]; exact ⟨fun _ _ _ => rfl, fun q hq _ => y3.1 q (by omega)⟩
  · obtain ⟨y2, y3, y4⟩ := hr
    have eg : gk2 = g := by rw [← hgk, if_pos rfl]
    subst eg
    rw [hN] at y4
    have a17 : ∀ u, u < N → (gup G 17 v 0 17 u ≠ 0 ↔ G 17 u ≠ 0 ∧ K u ≠ K v) := by
      intro u u1
      rw [gup_s]
      by_cases z : u = v
      · rw [z, nup_s]; exact ⟨fun y => absurd rfl y, fun y => absurd rfl y.2⟩
      · rw [nup_n z]; exact ⟨fun y => ⟨y, fun x => z (h5.2 u v u1 v1 y v2 x)⟩, fun y => y.1⟩
    rw [h.1.aft (G1 := gup G 17 v 0) (gup_n (by decide)) (gup_n (by decide)) a17 w1 w2, w4, kv] at y4
    rcases hd with ⟨x1, x2, x3, x4⟩ | ⟨lb, x1, x2, x3, x4, x5⟩
    · rw [x1] at y4
      obtain ⟨y5, y6, y7⟩ := y4
      refine stay 5 x3 x4 y2 ?_ y5 x2
      funext q
      by_cases z1 : q = 10
      · rw [z1]; exact y6
      · by_cases z2 : q = 12
        · rw [z2]; exact y7
        · exact y3 q z1 z2
    · rw [x1] at y4
      obtain ⟨y5, y6, y7⟩ := y4
      have lg : lev gk2 = lev k := by
        rcases Nat.decEq (lev k) (lev gk2) with z | z
        · exact absurd ⟨rfl, Or.inl z⟩ c3
        · exact z.symm
      have m := h.1.mv v1 v2 w1 w2 (by rw [w4, kv]; exact lg) (by rw [w4, kv]; exact x1) y6 y7 y3
      rw [w4, kv] at m
      refine ⟨by omega, N, fun w => if wi (K w) k then mvK (K w) k (putl gk2 (lev gk2) lb) else K w, by rw [y2]; exact hN, by omega, by rw [y2, x3]; exact h3, ?_, ?_⟩
      · rw [x3]; exact m.sort x4 x5
      · rw [y2]; exact ⟨fun _ _ _ => rfl, fun q hq _ => y3 q (by omega) (by omega)⟩
  · obtain ⟨y1, y2⟩ := hr
    obtain ⟨x2, x3, x4⟩ := hd
    rw [← kv] at x3 x4
    have vr := h.rnm hN v1 v2 y2 x4
    obtain ⟨_, _, r1, r2, r3, r4, r5⟩ := y2
    refine ⟨by omega, N, rnK K (G 10) (G' 12) (K v), by rw [r1 2 (by decide)]; exact hN, by omega, ?_, by rw [x3]; exact vr, fun j _ hj => r1 j hj, fun q hq h23 => r5 q (by omega) (by omega) h23⟩
    rw [r2, hN, x3, ← vr.1.ct, r4, hN]
