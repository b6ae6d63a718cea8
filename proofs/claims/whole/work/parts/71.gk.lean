/-! good keys: labels as the program makes them -/
def okL (l : Nat) : Prop := 19683 ≤ l ∧ l < 1968300 ∧ okS (l % 19683)
def gk (k : Nat) : Prop := (∃ a, okL a ∧ k = kk a 0 0) ∨ (∃ a b, okL a ∧ okL b ∧ k = kk a b 0) ∨ ∃ a b c, okL a ∧ okL b ∧ okL c ∧ k = kk a b c
theorem okL.r {l : Nat} (h : okL l) : 0 < l ∧ l < 2097152 := ⟨by have := h.1; omega, by have := h.2.1; omega⟩
theorem lv1 {a : Nat} (ha : 0 < a ∧ a < 2097152) : lev (kk a 0 0) = 1 := by
  rw [lev_kk ha.2 (by decide) (by decide), if_neg (by decide), if_neg (by decide), if_pos (by omega)]
theorem lv2 {a b : Nat} (ha : a < 2097152) (hb : 0 < b ∧ b < 2097152) : lev (kk a b 0) = 2 := by
  rw [lev_kk ha hb.2 (by decide), if_neg (by decide), if_pos (by omega)]
theorem lv3 {a b c : Nat} (ha : a < 2097152) (hb : b < 2097152) (hc : 0 < c ∧ c < 2097152) : lev (kk a b c) = 3 := by
  rw [lev_kk ha hb hc.2, if_pos (by omega)]
theorem pr1 {a : Nat} (ha : a < 2097152) : par (kk a 0 0) = 0 := by rw [par_kk ha (by decide) (by decide), if_neg (by decide), if_neg (by decide)]
theorem pr2 {a b : Nat} (ha : a < 2097152) (hb : 0 < b ∧ b < 2097152) : par (kk a b 0) = kk a 0 0 := by rw [par_kk ha hb.2 (by decide), if_neg (by decide), if_pos (by omega)]
theorem pr3 {a b c : Nat} (ha : a < 2097152) (hb : b < 2097152) (hc : 0 < c ∧ c < 2097152) : par (kk a b c) = kk a b 0 := by rw [par_kk ha hb hc.2, if_pos (by omega)]
/-- what a good key is made of, with level, parent and label -/
theorem gk_ex {k : Nat} (h : gk k) : ∃ a b c, a < 2097152 ∧ b < 2097152 ∧ c < 2097152 ∧ 0 < a ∧ k = kk a b c ∧ okL a ∧ ((b = 0 ∧ c = 0 ∧ lev k = 1 ∧ par k = 0 ∧ lab k (lev k) = a) ∨ (0 < b ∧ c = 0 ∧ okL b ∧ lev k = 2 ∧ par k = kk a 0 0 ∧ lab k (lev k) = b) ∨ (0 < b ∧ 0 < c ∧ okL b ∧ okL c ∧ lev k = 3 ∧ par k = kk a b 0 ∧ lab k (lev k) = c)) := by
  rcases h with ⟨a, ha, rfl⟩ | ⟨a, b, ha, hb, rfl⟩ | ⟨a, b, c, ha, hb, hc, rfl⟩
  · have r := ha.r
    refine ⟨a, 0, 0, r.2, by decide, by decide, r.1, rfl, ha, Or.inl ⟨rfl, rfl, lv1 r, pr1 r.2, ?_⟩⟩
    rw [lv1 r, lab_kk1 r.2 (by decide) (by decide)]
  · have r := ha.r
    have q := hb.r
    refine ⟨a, b, 0, r.2, q.2, by decide, r.1, rfl, ha, Or.inr (Or.inl ⟨q.1, rfl, hb, lv2 r.2 q, pr2 r.2 q, ?_⟩)⟩
    rw [lv2 r.2 q, lab_kk2 r.2 q.2 (by decide)]
  · have r := ha.r
    have q := hb.r
    have z := hc.r
    refine ⟨a, b, c, r.2, q.2, z.2, r.1, rfl, ha, Or.inr (Or.inr ⟨q.1, z.1, hb, hc, lv3 r.2 q.2 z, pr3 r.2 q.2 z, ?_⟩)⟩
    rw [lv3 r.2 q.2 z, lab_kk3 r.2 q.2 z.2]
theorem gk_lev {k : Nat} (h : gk k) : 1 ≤ lev k ∧ lev k ≤ 3 := by
  obtain ⟨a, b, c, _, _, _, _, _, _, h⟩ := gk_ex h
  rcases h with h | h | h <;> omega
theorem gk_pos {k : Nat} (h : gk k) : 0 < k ∧ k < 2 ^ 63 := by
  obtain ⟨a, b, c, h1, h2, h3, h4, rfl, _⟩ := gk_ex h
  exact ⟨by unfold kk; omega, kk_lt h1 h2 h3⟩
theorem gk_vkey {k : Nat} (h : gk k) : vkey k := by
  obtain ⟨a, b, c, h1, h2, h3, h4, rfl, ha, h⟩ := gk_ex h
  refine (vkey_kk h1 h2 h3).mpr ⟨Or.inl (by omega), ha.2.1, ?_, ?_⟩
  · rcases h with h | h | h
    · omega
    · exact h.2.2.1.2.1
    · exact h.2.2.1.2.1
  · rcases h with h | h | h
    · omega
    · omega
    · exact h.2.2.2.1.2.1
theorem gk_lab {k : Nat} (h : gk k) : okL (lab k (lev k)) := by
  obtain ⟨a, b, c, h1, h2, h3, h4, rfl, ha, h⟩ := gk_ex h
  rcases h with h | h | h
  · rw [h.2.2.2.2]; exact ha
  · rw [h.2.2.2.2.2]; exact h.2.2.1
  · rw [h.2.2.2.2.2.2]; exact h.2.2.2.1
theorem gk_par {k : Nat} (h : gk k) : (lev k = 1 ∧ par k = 0) ∨ (2 ≤ lev k ∧ gk (par k) ∧ lev (par k) + 1 = lev k) := by
  obtain ⟨a, b, c, h1, h2, h3, h4, rfl, ha, h⟩ := gk_ex h
  rcases h with h | h | h
  · exact Or.inl ⟨h.2.2.1, h.2.2.2.1⟩
  · refine Or.inr ⟨by omega, ?_, ?_⟩
    · rw [h.2.2.2.2.1]; exact Or.inl ⟨a, ha, rfl⟩
    · rw [h.2.2.2.2.1, lv1 ha.r, h.2.2.2.1]
  · refine Or.inr ⟨by omega, ?_, ?_⟩
    · rw [h.2.2.2.2.2.1]; exact Or.inr (Or.inl ⟨a, b, ha, h.2.2.1, rfl⟩)
    · rw [h.2.2.2.2.2.1, lv2 h1 h.2.2.1.r, h.2.2.2.2.1]
theorem gk_plev {x y : Nat} (hx : gk x) (hy : gk y) (h : par x = par y) : lev x = lev y := by
  rcases gk_par hx with ⟨a1, a2⟩ | ⟨a1, a2, a3⟩ <;> rcases gk_par hy with ⟨b1, b2⟩ | ⟨b1, b2, b3⟩
  · omega
  · rw [← h, a2] at b2; exact absurd (gk_pos b2).1 (by decide)
  · rw [h, b2] at a2; exact absurd (gk_pos a2).1 (by decide)
  · rw [h] at a3; omega
theorem gk_lt {x y : Nat} (hx : gk x) (hy : gk y) (h : par x = par y) : x < y ↔ lab x (lev x) < lab y (lev y) := by
  have hl := gk_plev hx hy h
  obtain ⟨a, b, c, h1, h2, h3, h4, rfl, ha, hh⟩ := gk_ex hx
  obtain ⟨a', b', c', g1, g2, g3, g4, rfl, ga, gg⟩ := gk_ex hy
  rcases hh with ⟨c1, c2, c3, c4, c5⟩ | ⟨c1, c2, _, c3, c4, c5⟩ | ⟨c1, c2, _, _, c3, c4, c5⟩ <;> rcases gg with ⟨d1, d2, d3, d4, d5⟩ | ⟨d1, d2, _, d3, d4, d5⟩ | ⟨d1, d2, _, _, d3, d4, d5⟩ <;> first | omega | (rw [c5, d5]; rw [c4, d4] at h; unfold kk at *; omega)
theorem gk_eq {x y : Nat} (hx : gk x) (hy : gk y) (h : par x = par y) (hl : lab x (lev x) = lab y (lev y)) : x = y := by
  have h1 := gk_lt hx hy h
  have h2 := gk_lt hy hx h.symm
  omega
abbrev wi (x k : Nat) : Prop := x / un (lev k) = k / un (lev k)
theorem wi_rf {k : Nat} : wi k k := rfl
theorem wi_iff {x k : Nat} (hx : gk x) (hk : gk k) : wi x k ↔ x = k ∨ (2 ≤ lev x ∧ wi (par x) k) := by
  unfold wi
  obtain ⟨a, b, c, h1, h2, h3, h4, rfl, ha, hh⟩ := gk_ex hx
  obtain ⟨a', b', c', g1, g2, g3, g4, rfl, ga, gg⟩ := gk_ex hk
  rcases hh with ⟨c1, c2, c3, c4, c5⟩ | ⟨c1, c2, _, c3, c4, c5⟩ | ⟨c1, c2, _, _, c3, c4, c5⟩ <;> rcases gg with ⟨d1, d2, d3, d4, d5⟩ | ⟨d1, d2, _, d3, d4, d5⟩ | ⟨d1, d2, _, _, d3, d4, d5⟩ <;> (rw [c3, c4, d3]; simp only [un_1, un_2, un_3]; unfold kk; omega)
theorem wi_lev2 {x k : Nat} (hx : gk x) (hk : gk k) (h : wi x k) : lev k ≤ lev x := by
  unfold wi at h
  obtain ⟨a, b, c, h1, h2, h3, h4, rfl, ha, hh⟩ := gk_ex hx
  obtain ⟨a', b', c', g1, g2, g3, g4, rfl, ga, gg⟩ := gk_ex hk
  rcases hh with ⟨c1, c2, c3, c4, c5⟩ | ⟨c1, c2, _, c3, c4, c5⟩ | ⟨c1, c2, _, _, c3, c4, c5⟩ <;> rcases gg with ⟨d1, d2, d3, d4, d5⟩ | ⟨d1, d2, _, d3, d4, d5⟩ | ⟨d1, d2, _, _, d3, d4, d5⟩ <;> first | omega | (rw [d3] at h; simp only [un_1, un_2, un_3] at h; unfold kk at h; omega)
theorem wi_same {x k : Nat} (hx : gk x) (hk : gk k) (h : wi x k) (hl : lev x = lev k) : x = k := by
  rcases (wi_iff hx hk).mp h with h | ⟨h1, h2⟩
  · exact h
  · rcases gk_par hx with ⟨a1, a2⟩ | ⟨a1, a2, a3⟩
    · omega
    · have := wi_lev2 a2 hk h2; omega
/-- a child's key -/
theorem gk_child {k b : Nat} (hk : k = 0 ∨ (gk k ∧ lev k ≤ 2)) (hb : okL b) : gk (putl k (lev k + 1) b) ∧ par (putl k (lev k + 1) b) = k ∧ lev (putl k (lev k + 1) b) = lev k + 1 ∧ lab (putl k (lev k + 1) b) (lev k + 1) = b := by
  have q := hb.r
  rcases hk with rfl | ⟨hk, hl⟩
  · rw [putl_a]
    have h0 : lev 0 = 0 := by decide
    rw [h0]
    exact ⟨Or.inl ⟨b, hb, rfl⟩, pr1 q.2, lv1 q, lab_kk1 q.2 (by decide) (by decide)⟩
  · obtain ⟨a, b', c, h1, h2, h3, h4, rfl, ha, hh⟩ := gk_ex hk
    rcases hh with ⟨rfl, rfl, c3, c4, c5⟩ | ⟨c1, rfl, hb', c3, c4, c5⟩ | ⟨c1, c2, _, _, c3, c4, c5⟩
    · rw [putl_b (by omega) h1 q.2, c3]
      exact ⟨Or.inr (Or.inl ⟨a, b, ha, hb, rfl⟩), pr2 h1 q, lv2 h1 q, lab_kk2 h1 q.2 (by decide)⟩
    · rw [putl_c (by omega) h1 h2 q.2, c3]
      exact ⟨Or.inr (Or.inr ⟨a, b', b, ha, hb', hb, rfl⟩), pr3 h1 h2 q, lv3 h1 h2 q, lab_kk3 h1 h2 q.2⟩
    · omega
/-- a sibling's key -/
theorem gk_sib {k b : Nat} (hk : gk k) (hb : okL b) : gk (putl k (lev k) b) ∧ par (putl k (lev k) b) = par k ∧ lev (putl k (lev k) b) = lev k ∧ lab (putl k (lev k) b) (lev k) = b := by
  have q := hb.r
  obtain ⟨a, b', c, h1, h2, h3, h4, rfl, ha, hh⟩ := gk_ex hk
  rcases hh with ⟨rfl, rfl, c3, c4, c5⟩ | ⟨c1, rfl, hb', c3, c4, c5⟩ | ⟨c1, c2, hb', _, c3, c4, c5⟩
  · rw [c4, c3, putl_kk1 h1 h2 h3]
    exact ⟨Or.inl ⟨b, hb, rfl⟩, pr1 q.2, lv1 q, lab_kk1 q.2 (by decide) (by decide)⟩
  · rw [c4, c3, putl_kk2 h1 h2 h3]
    exact ⟨Or.inr (Or.inl ⟨a, b, ha, hb, rfl⟩), pr2 h1 q, lv2 h1 q, lab_kk2 h1 q.2 (by decide)⟩
  · rw [c4, c3, putl_kk3 h1 h2 h3]
    exact ⟨Or.inr (Or.inr ⟨a, b', b, ha, hb', hb, rfl⟩), pr3 h1 h2 q, lv3 h1 h2 q, lab_kk3 h1 h2 q.2⟩
/-- strictly ascending lists with the same members are the same -/
theorem srt_uni : ∀ {l l' : List Nat}, l.Pairwise (· < ·) → l'.Pairwise (· < ·) → (∀ x, x ∈ l ↔ x ∈ l') → l = l'
  | [], [], _, _, _ => rfl
  | [], y :: t, _, _, h => absurd ((h y).mpr List.mem_cons_self) (by simp)
  | x :: s, [], _, _, h => absurd ((h x).mp List.mem_cons_self) (by simp)
  | x :: s, y :: t, h1, h2, h => by
    obtain ⟨a1, a2⟩ := List.pairwise_cons.mp h1
    obtain ⟨b1, b2⟩ := List.pairwise_cons.mp h2
    have e : x = y := by
      rcases List.mem_cons.mp ((h x).mp List.mem_cons_self) with q | q
      · exact q
      · rcases List.mem_cons.mp ((h y).mpr List.mem_cons_self) with r | r
        · exact r.symm
        · have := b1 x q; have := a1 y r; omega
    subst e
    rw [srt_uni a2 b2 (fun z => ?_)]
    constructor
    · intro hz
      rcases List.mem_cons.mp ((h z).mp (List.mem_cons_of_mem _ hz)) with q | q
      · have := a1 z hz; omega
      · exact q
    · intro hz
      rcases List.mem_cons.mp ((h z).mpr (List.mem_cons_of_mem _ hz)) with q | q
      · have := b1 z hz; omega
      · exact q
theorem cnt_bij {N : Nat} : ∀ (n : Nat) (p f : Nat → Nat), (∀ i, i < n → f i < N ∧ p (f i) ≠ 0) → (∀ i j, i < n → j < n → f i = f j → i = j) → (∀ v, v < N → p v ≠ 0 → ∃ i, i < n ∧ f i = v) → cnt p N = n
  | 0, p, f, h1, h2, h3 => by
    have : ∀ m, m ≤ N → cnt p m = 0 := by
      intro m
      induction m with
      | zero => intro _; rfl
      | succ m ih =>
        intro hm
        unfold cnt
        rw [ih (by omega)]
        by_cases hp : p m ≠ 0
        · obtain ⟨i, hi, _⟩ := h3 m (by omega) hp
          omega
        · rw [if_neg hp]
    exact this N (Nat.le_refl _)
  | n + 1, p, f, h1, h2, h3 => by
    have hn := h1 n (by omega)
    have e := cnt_set (p := p) (k := f n) hn.2 N hn.1
    have ih := cnt_bij n (nup p (f n) 0) f (fun i hi => ⟨(h1 i (by omega)).1, by
      rw [nup_n (fun z => by have := h2 i n (by omega) (by omega) z; omega)]; exact (h1 i (by omega)).2⟩) (fun i j hi hj => h2 i j (by omega) (by omega)) (fun v hv hp => by
      by_cases hvn : v = f n
      · rw [hvn, nup_s] at hp; exact absurd rfl hp
      · rw [nup_n hvn] at hp
        obtain ⟨i, hi, e⟩ := h3 v hv hp
        refine ⟨i, ?_, e⟩
        rcases Nat.lt_or_ge i n with z | z
        · exact z
        · rw [show i = n by omega] at e; exact absurd e.symm hvn)
    omega
