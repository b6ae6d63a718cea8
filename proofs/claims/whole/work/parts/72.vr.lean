/-! the class's provisions beside the reference's nodes -/
def mt (G : Nat → Nat → Nat) (K : Nat → Nat) (x : zEnt) (v : Nat) : Prop := ek x = K v ∧ et x = nI (G 13 v) ∧ er x = decide (G 16 v ≠ 0) ∧ eo x = kI (G 14 v) ∧ ec x = kI (G 15 v)
/-- a node: its key, its level, its label, its parent -/
def nd (N : Nat) (G : Nat → Nat → Nat) (K : Nat → Nat) (v : Nat) : Prop := gk (K v) ∧ G 11 v = lev (K v) ∧ G 12 v = lab (K v) (lev (K v)) ∧ ((G 10 v = 0 ∧ lev (K v) = 1) ∨ ∃ u, G 10 v = u + 1 ∧ u < N ∧ G 17 u ≠ 0 ∧ K u = par (K v) ∧ 2 ≤ lev (K v))
def nodes (N : Nat) (G : Nat → Nat → Nat) (K : Nat → Nat) : Prop := (∀ v, v < N → G 17 v ≠ 0 → nd N G K v) ∧ ∀ v w, v < N → w < N → G 17 v ≠ 0 → G 17 w ≠ 0 → K v = K w → v = w
/-- the same provisions on both sides, in no order -/
def VS (n : Nat) (e : Nat → zEnt) (N : Nat) (G : Nat → Nat → Nat) (K : Nat → Nat) (n0 : Nat) : Prop :=
  n ≤ 60 ∧ (∀ i, i < n → ∃ v, v < N ∧ G 17 v ≠ 0 ∧ mt G K (e i) v) ∧ (∀ v, v < N → G 17 v ≠ 0 → ∃ i, i < n ∧ mt G K (e i) v) ∧ (∀ i j, i < n → j < n → ek (e i) = ek (e j) → i = j) ∧ nodes N G K ∧ nB N G ∧ n0 ≤ N ∧ ∀ v, v < N → G 14 v = if v < n0 then v + 1 else 0
def VR (n : Nat) (e : Nat → zEnt) (N : Nat) (G : Nat → Nat → Nat) (K : Nat → Nat) (n0 : Nat) : Prop := VS n e N G K n0 ∧ ∀ p q, p < q → q < n → ek (e p) < ek (e q)
theorem VS.gd {n N n0 : Nat} {e : Nat → zEnt} {G : Nat → Nat → Nat} {K : Nat → Nat} (h : VS n e N G K n0) {i : Nat} (hi : i < n) : gk (ek (e i)) := by
  obtain ⟨v, hv, hp, hm⟩ := h.2.1 i hi
  rw [hm.1]
  exact (h.2.2.2.2.1.1 v hv hp).1
theorem VS.vi {n N n0 : Nat} {e : Nat → zEnt} {G : Nat → Nat → Nat} {K : Nat → Nat} (h : VS n e N G K n0) : vInv n e := ⟨h.1, fun i hi => gk_vkey (h.gd hi)⟩
theorem VS.ct {n N n0 : Nat} {e : Nat → zEnt} {G : Nat → Nat → Nat} {K : Nat → Nat} (h : VS n e N G K n0) : cnt (G 17) N = n := by
  have hc := h.2.1
  let f : Nat → Nat := fun i => if hi : i < n then Classical.choose (hc i hi) else 0
  have hf : ∀ i, i < n → f i < N ∧ G 17 (f i) ≠ 0 ∧ mt G K (e i) (f i) := by
    intro i hi
    have := Classical.choose_spec (hc i hi)
    simp only [f, hi, dif_pos]
    exact this
  refine cnt_bij n (G 17) f (fun i hi => ⟨(hf i hi).1, (hf i hi).2.1⟩) (fun i j hi hj he => ?_) (fun v hv hp => ?_)
  · refine h.2.2.2.1 i j hi hj ?_
    rw [(hf i hi).2.2.1, (hf j hj).2.2.1, he]
  · obtain ⟨i, hi, hm⟩ := h.2.2.1 v hv hp
    refine ⟨i, hi, h.2.2.2.2.1.2 _ _ (hf i hi).1 hv (hf i hi).2.1 hp ?_⟩
    rw [← hm.1, ← (hf i hi).2.2.1]
/-- a permutation of the class's row, sorted -/
theorem VS.sort {n N n0 : Nat} {e e' : Nat → zEnt} {G : Nat → Nat → Nat} {K : Nat → Nat} (h : VS n e N G K n0) (hp : zPerm n e e') (hs : srtd n e') : VR n e' N G K n0 := by
  obtain ⟨g, g', hg, he⟩ := hp
  have inj : ∀ i j, i < n → j < n → ek (e' i) = ek (e' j) → i = j := by
    intro i j hi hj hk
    rw [he i hi, he j hj] at hk
    have := h.2.2.2.1 _ _ (hg i hi).1 (hg j hj).1 hk
    have a := (hg i hi).2.2.2
    have b := (hg j hj).2.2.2
    rw [this] at a
    omega
  refine ⟨⟨h.1, fun i hi => ?_, fun v hv hpv => ?_, inj, h.2.2.2.2⟩, fun p q hpq hq => ?_⟩
  · rw [he i hi]; exact h.2.1 _ (hg i hi).1
  · obtain ⟨i, hi, hm⟩ := h.2.2.1 v hv hpv
    refine ⟨g' i, (hg i hi).2.1, ?_⟩
    rw [he _ (hg i hi).2.1, (hg i hi).2.2.1]
    exact hm
  · have h1 := hs p q hpq hq
    rcases Nat.lt_or_ge (ek (e' p)) (ek (e' q)) with z | z
    · exact z
    · have := inj p q (by omega) hq (by omega); omega
/-- the key above a node's place -/
def KA (K : Nat → Nat) (a : Nat) : Nat := if a = 0 then 0 else K (a - 1)
theorem KA_0 {K : Nat → Nat} : KA K 0 = 0 := rfl
theorem KA_s {K : Nat → Nat} {u : Nat} : KA K (u + 1) = K u := by simp [KA]
theorem nodes.pa {N : Nat} {G : Nat → Nat → Nat} {K : Nat → Nat} (h : nodes N G K) {v : Nat} (hv : v < N) (hp : G 17 v ≠ 0) : par (K v) = KA K (G 10 v) := by
  obtain ⟨h1, h2, h3, h4⟩ := h.1 v hv hp
  rcases h4 with ⟨a, b⟩ | ⟨u, a, b, c, d, f⟩
  · rcases gk_par h1 with q | q
    · rw [a, q.2, KA_0]
    · omega
  · rw [a, KA_s, d]
/-- the children of a place -/
theorem nodes.ch {N : Nat} {G : Nat → Nat → Nat} {K : Nat → Nat} (h : nodes N G K) {v a : Nat} (hv : v < N) (hp : G 17 v ≠ 0) (ha : a = 0 ∨ (a - 1 < N ∧ G 17 (a - 1) ≠ 0)) : G 10 v = a ↔ par (K v) = KA K a := by
  constructor
  · intro e; rw [← e]; exact h.pa hv hp
  · intro e
    obtain ⟨h1, h2, h3, h4⟩ := h.1 v hv hp
    rcases h4 with ⟨q1, q2⟩ | ⟨u, q1, q2, q3, q4, q5⟩
    · rcases Nat.eq_zero_or_pos a with z | z
      · rw [q1, z]
      · obtain ⟨r1, r2⟩ := ha.resolve_left (by omega)
        have g := (h.1 _ r1 r2).1
        unfold KA at e
        rw [if_neg (by omega)] at e
        rcases gk_par h1 with y | y
        · rw [y.2] at e; rw [← e] at g; exact absurd (gk_pos g).1 (by decide)
        · omega
    · rcases Nat.eq_zero_or_pos a with z | z
      · rw [z, KA_0] at e
        rcases gk_par h1 with y | y
        · omega
        · rw [e] at y; exact absurd (gk_pos y.2.1).1 (by decide)
      · obtain ⟨r1, r2⟩ := ha.resolve_left (by omega)
        unfold KA at e
        rw [if_neg (by omega), ← q4] at e
        have := h.2 _ _ q2 r1 q3 r2 e
        omega
theorem nodes.sib {N : Nat} {G : Nat → Nat → Nat} {K : Nat → Nat} (h : nodes N G K) {v w : Nat} (hv : v < N) (hp : G 17 v ≠ 0) (hw : w < N) (hq : G 17 w ≠ 0) (h10 : G 10 v = G 10 w) (h12 : G 12 v = G 12 w) : v = w := by
  refine h.2 v w hv hw hp hq (gk_eq (h.1 v hv hp).1 (h.1 w hw hq).1 ?_ ?_)
  · rw [h.pa hv hp, h.pa hw hq, h10]
  · rw [← (h.1 v hv hp).2.2.1, ← (h.1 w hw hq).2.2.1, h12]
/-- where a node's parent is -/
theorem nodes.up {N : Nat} {G : Nat → Nat → Nat} {K : Nat → Nat} (h : nodes N G K) {v : Nat} (hv : v < N) (hp : G 17 v ≠ 0) : G 10 v = 0 ∨ (G 10 v - 1 < N ∧ G 17 (G 10 v - 1) ≠ 0) := by
  obtain ⟨h1, h2, h3, h4⟩ := h.1 v hv hp
  rcases h4 with ⟨q1, q2⟩ | ⟨u, q1, q2, q3, q4, q5⟩
  · exact Or.inl q1
  · exact Or.inr ⟨by omega, by rw [q1]; exact q3⟩
theorem nodes.ck {N : Nat} {G : Nat → Nat → Nat} {K : Nat → Nat} (h : nodes N G K) : ∀ (f v : Nat), v < N → G 17 v ≠ 0 → lev (K v) ≤ f → chk (G 10) N f (v + 1)
  | 0, v, hv, hp, hl => by have := gk_lev (h.1 v hv hp).1; omega
  | f + 1, v, hv, hp, hl => by
    refine Or.inr ⟨hv, ?_⟩
    show chk (G 10) N f (G 10 v)
    obtain ⟨h1, h2, h3, h4⟩ := h.1 v hv hp
    rcases h4 with ⟨q1, q2⟩ | ⟨u, q1, q2, q3, q4, q5⟩
    · rw [q1]
      cases f with
      | zero => rfl
      | succ f => exact Or.inl rfl
    · rw [q1]
      refine h.ck f u q2 q3 ?_
      rcases gk_par h1 with y | y
      · omega
      · rw [q4]; omega
theorem nodes.ck3 {N : Nat} {G : Nat → Nat → Nat} {K : Nat → Nat} (h : nodes N G K) : ∀ v, v < N → G 17 v ≠ 0 → chk (G 10) N 3 (v + 1) := fun v hv hp => h.ck 3 v hv hp (gk_lev (h.1 v hv hp).1).2
/-- below, as keys tell it -/
theorem nodes.bw {N : Nat} {G : Nat → Nat → Nat} {K : Nat → Nat} (h : nodes N G K) {a : Nat} (ha : a < N) (hpa : G 17 a ≠ 0) : ∀ (f v : Nat), v < N → G 17 v ≠ 0 → lev (K v) ≤ f → (blw (G 10) a f (v + 1) = true ↔ wi (K v) (K a))
  | 0, v, hv, hp, hl => by have := gk_lev (h.1 v hv hp).1; omega
  | f + 1, v, hv, hp, hl => by
    obtain ⟨h1, h2, h3, h4⟩ := h.1 v hv hp
    have ga := (h.1 a ha hpa).1
    rw [wi_iff h1 ga]
    have e : blw (G 10) a (f + 1) (v + 1) = if v = a then true else blw (G 10) a f (G 10 v) := by
      show (if v + 1 = 0 then false else if v + 1 - 1 = a then true else blw (G 10) a f (G 10 (v + 1 - 1))) = _
      rw [if_neg (by omega), show v + 1 - 1 = v by omega]
    rw [e]
    by_cases hva : v = a
    · rw [if_pos hva]
      exact ⟨fun _ => Or.inl (by rw [hva]), fun _ => rfl⟩
    · rw [if_neg hva]
      have hne : K v ≠ K a := fun z => hva (h.2 _ _ hv ha hp hpa z)
      rcases h4 with ⟨q1, q2⟩ | ⟨u, q1, q2, q3, q4, q5⟩
      · rw [q1, blw_0]
        exact ⟨fun z => absurd z (by decide), fun z => by rcases z with z | z; exact absurd z hne; omega⟩
      · rw [q1]
        have hl2 : lev (K u) ≤ f := by
          rcases gk_par h1 with y | y
          · omega
          · rw [q4]; omega
        rw [h.bw ha hpa f u q2 q3 hl2, q4]
        exact ⟨fun z => Or.inr ⟨q5, z⟩, fun z => by rcases z with z | z; exact absurd z hne; exact z.2⟩
theorem nodes.bw3 {N : Nat} {G : Nat → Nat → Nat} {K : Nat → Nat} (h : nodes N G K) {a v : Nat} (ha : a < N) (hpa : G 17 a ≠ 0) (hv : v < N) (hp : G 17 v ≠ 0) : blw (G 10) a 3 (v + 1) = true ↔ wi (K v) (K a) := h.bw ha hpa 3 v hv hp (gk_lev (h.1 v hv hp).1).2
/-- looking up -/
theorem nodes.l1 {N : Nat} {G : Nat → Nat → Nat} {K : Nat → Nat} (h : nodes N G K) {a l q : Nat} (hl : 0 < l) : lk1 G N a l = some q ↔ q < N ∧ G 17 q ≠ 0 ∧ G 10 q = a ∧ G 12 q = l := by
  refine ⟨lk1_some, fun ⟨h1, h2, h3, h4⟩ => ?_⟩
  unfold lk1
  cases hx : nxC G a (l - 1) N with
  | none => exact absurd (by omega) (nxC_none hx q h1 h2 h3)
  | some r =>
    obtain ⟨r1, r2, r3, r4, r5⟩ := nxC_some hx
    have := r5 q h1 h2 h3 (by omega)
    have e : G 12 r = l := by omega
    show (if G 12 r = l then some r else none) = some q
    rw [if_pos e, h.sib r1 r2 h1 h2 (by omega) (by omega)]
theorem nodes.lu {N : Nat} {G : Nat → Nat → Nat} {K : Nat → Nat} (h : nodes N G K) {l1 l2 l3 v : Nat} (b1 : 0 < l1 ∧ l1 < 2097152) (b2 : l2 < 2097152) (b3 : l3 < 2097152) (h0 : l2 = 0 → l3 = 0) : lkU G N l1 l2 l3 = some v ↔ v < N ∧ G 17 v ≠ 0 ∧ K v = kk l1 l2 l3 := by
  have L1 : ∀ u, lk1 G N 0 l1 = some u ↔ u < N ∧ G 17 u ≠ 0 ∧ K u = kk l1 0 0 := by
    intro u
    rw [h.l1 b1.1]
    constructor
    · rintro ⟨a1, a2, a3, a4⟩
      refine ⟨a1, a2, ?_⟩
      have hn := h.1 u a1 a2
      obtain ⟨a, b, c, h1, h2, h3, h4, hk, ha, hh⟩ := gk_ex hn.1
      have hp := h.pa a1 a2
      rw [a3, KA_0] at hp
      rcases hh with ⟨rfl, rfl, c3, c4, c5⟩ | ⟨c1, c2, _, c3, c4, c5⟩ | ⟨c1, c2, _, _, c3, c4, c5⟩
      · rw [hn.2.2.1, c5] at a4; rw [hk, a4]
      · rw [c4] at hp; unfold kk at hp; omega
      · rw [c4] at hp; unfold kk at hp; omega
    · rintro ⟨a1, a2, a3⟩
      have hn := h.1 u a1 a2
      refine ⟨a1, a2, (h.ch a1 a2 (Or.inl rfl)).mpr (by rw [a3, pr1 b1.2, KA_0]), ?_⟩
      rw [hn.2.2.1, a3, lv1 b1, lab_kk1 b1.2 (by decide) (by decide)]
  have L2 : 0 < l2 → ∀ u w, u < N → G 17 u ≠ 0 → K u = kk l1 0 0 → (lk1 G N (u + 1) l2 = some w ↔ w < N ∧ G 17 w ≠ 0 ∧ K w = kk l1 l2 0) := by
    intro hl u w hu hpu hku
    rw [h.l1 hl]
    constructor
    · rintro ⟨a1, a2, a3, a4⟩
      refine ⟨a1, a2, ?_⟩
      have hn := h.1 w a1 a2
      obtain ⟨a, b, c, h1, h2, h3, h4, hk, ha, hh⟩ := gk_ex hn.1
      have hp := h.pa a1 a2
      rw [a3, KA_s, hku] at hp
      rcases hh with ⟨rfl, rfl, c3, c4, c5⟩ | ⟨c1, rfl, _, c3, c4, c5⟩ | ⟨c1, c2, _, _, c3, c4, c5⟩
      · rw [c4] at hp; unfold kk at hp; omega
      · rw [hn.2.2.1, c5] at a4; rw [c4] at hp; have ea : a = l1 := by unfold kk at hp; omega
        rw [hk, a4, ea]
      · rw [c4] at hp; unfold kk at hp; omega
    · rintro ⟨a1, a2, a3⟩
      have hn := h.1 w a1 a2
      refine ⟨a1, a2, (h.ch (a := u + 1) a1 a2 (Or.inr ⟨hu, hpu⟩)).mpr (by rw [a3, pr2 b1.2 ⟨hl, b2⟩, KA_s, hku]), ?_⟩
      rw [hn.2.2.1, a3, lv2 b1.2 ⟨hl, b2⟩, lab_kk2 b1.2 b2 (by decide)]
  have L3 : 0 < l2 → 0 < l3 → ∀ u w, u < N → G 17 u ≠ 0 → K u = kk l1 l2 0 → (lk1 G N (u + 1) l3 = some w ↔ w < N ∧ G 17 w ≠ 0 ∧ K w = kk l1 l2 l3) := by
    intro hl hl3 u w hu hpu hku
    rw [h.l1 hl3]
    constructor
    · rintro ⟨a1, a2, a3, a4⟩
      refine ⟨a1, a2, ?_⟩
      have hn := h.1 w a1 a2
      obtain ⟨a, b, c, h1, h2, h3, h4, hk, ha, hh⟩ := gk_ex hn.1
      have hp := h.pa a1 a2
      rw [a3, KA_s, hku] at hp
      rcases hh with ⟨rfl, rfl, c3, c4, c5⟩ | ⟨c1, rfl, _, c3, c4, c5⟩ | ⟨c1, c2, _, _, c3, c4, c5⟩
      · rw [c4] at hp; unfold kk at hp; omega
      · rw [c4] at hp; unfold kk at hp; omega
      · rw [hn.2.2.1, c5] at a4; rw [c4] at hp; have ea : a = l1 ∧ b = l2 := by unfold kk at hp; omega
        rw [hk, a4, ea.1, ea.2]
    · rintro ⟨a1, a2, a3⟩
      have hn := h.1 w a1 a2
      refine ⟨a1, a2, (h.ch (a := u + 1) a1 a2 (Or.inr ⟨hu, hpu⟩)).mpr (by rw [a3, pr3 b1.2 b2 ⟨hl3, b3⟩, KA_s, hku]), ?_⟩
      rw [hn.2.2.1, a3, lv3 b1.2 b2 ⟨hl3, b3⟩, lab_kk3 b1.2 b2 b3]
  unfold lkU
  rw [if_neg (by omega)]
  -- the parent of a node that is sought
  have up : ∀ w, w < N → G 17 w ≠ 0 → 2 ≤ lev (K w) → ∃ u, u < N ∧ G 17 u ≠ 0 ∧ K u = par (K w) := by
    intro w hw hpw hl
    rcases (h.1 w hw hpw).2.2.2 with ⟨q1, q2⟩ | ⟨u, q1, q2, q3, q4, q5⟩
    · omega
    · exact ⟨u, q2, q3, q4⟩
  cases x1 : lk1 G N 0 l1 with
  | none =>
    have no : ∀ u, u < N → G 17 u ≠ 0 → K u = kk l1 0 0 → False := fun u a b c => by have := (L1 u).mpr ⟨a, b, c⟩; rw [x1] at this; cases this
    refine ⟨(fun z => by cases z), fun ⟨a1, a2, a3⟩ => ?_⟩
    exfalso
    by_cases z2 : l2 = 0
    · rw [z2, h0 z2] at a3; exact no v a1 a2 a3
    · by_cases z3 : l3 = 0
      · rw [z3] at a3
        obtain ⟨u, u1, u2, u3⟩ := up v a1 a2 (by rw [a3, lv2 b1.2 ⟨by omega, b2⟩]; omega)
        rw [a3, pr2 b1.2 ⟨by omega, b2⟩] at u3
        exact no u u1 u2 u3
      · obtain ⟨u, u1, u2, u3⟩ := up v a1 a2 (by rw [a3, lv3 b1.2 b2 ⟨by omega, b3⟩]; omega)
        rw [a3, pr3 b1.2 b2 ⟨by omega, b3⟩] at u3
        obtain ⟨w, w1, w2, w3⟩ := up u u1 u2 (by rw [u3, lv2 b1.2 ⟨by omega, b2⟩]; omega)
        rw [u3, pr2 b1.2 ⟨by omega, b2⟩] at w3
        exact no w w1 w2 w3
  | some u =>
    obtain ⟨u1, u2, u3⟩ := (L1 u).mp x1
    dsimp only
    by_cases z2 : l2 = 0
    · rw [if_pos z2, z2, h0 z2]
      exact ⟨fun z => by (cases z; exact ⟨u1, u2, u3⟩), fun ⟨a1, a2, a3⟩ => by rw [h.2 u v u1 a1 u2 a2 (by rw [u3, a3])]⟩
    · rw [if_neg z2]
      cases x2 : lk1 G N (u + 1) l2 with
      | none =>
        refine ⟨(fun z => by cases z), fun ⟨a1, a2, a3⟩ => ?_⟩
        exfalso
        have no : ∀ w, w < N → G 17 w ≠ 0 → K w = kk l1 l2 0 → False := fun w a b c => by have := (L2 (by omega) u w u1 u2 u3).mpr ⟨a, b, c⟩; rw [x2] at this; cases this
        by_cases z3 : l3 = 0
        · rw [z3] at a3; exact no v a1 a2 a3
        · obtain ⟨w, w1, w2, w3⟩ := up v a1 a2 (by rw [a3, lv3 b1.2 b2 ⟨by omega, b3⟩]; omega)
          rw [a3, pr3 b1.2 b2 ⟨by omega, b3⟩] at w3
          exact no w w1 w2 w3
      | some w =>
        obtain ⟨w1, w2, w3⟩ := (L2 (by omega) u w u1 u2 u3).mp x2
        dsimp only
        by_cases z3 : l3 = 0
        · rw [if_pos z3, z3]
          exact ⟨fun z => by (cases z; exact ⟨w1, w2, w3⟩), fun ⟨a1, a2, a3⟩ => by rw [h.2 w v w1 a1 w2 a2 (by rw [w3, a3])]⟩
        · rw [if_neg z3]
          exact L3 (by omega) (by omega) w v w1 w2 w3
