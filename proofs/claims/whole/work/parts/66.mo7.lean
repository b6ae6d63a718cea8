/-! what the search for children finds -/
def nxQ (G : Nat → Nat → Nat) (a c i : Nat) (o : Option Nat) : Prop := match o with
  | none => ∀ v, v < i → G 17 v ≠ 0 → G 10 v = a → ¬ c < G 12 v
  | some q => q < i ∧ G 17 q ≠ 0 ∧ G 10 q = a ∧ c < G 12 q ∧ ∀ v, v < i → G 17 v ≠ 0 → G 10 v = a → c < G 12 v → G 12 q ≤ G 12 v
theorem nxC_spec {G : Nat → Nat → Nat} {a c : Nat} : ∀ (i : Nat), nxQ G a c i (nxC G a c i)
  | 0 => fun v hv => by omega
  | i + 1 => by
    have ih := nxC_spec (G := G) (a := a) (c := c) i
    unfold nxC
    cases ho : nxC G a c i with
    | none =>
      rw [ho] at ih
      unfold nxQ at ih ⊢
      dsimp only at ih
      by_cases h : isC G a c i none = true
      · rw [if_pos h]
        obtain ⟨h1, h2, h3, h4⟩ := isC_iff.mp h
        refine ⟨by omega, h1, h2, h3, fun v hv g1 g2 g3 => ?_⟩
        by_cases hvi : v = i
        · rw [hvi]; omega
        · exact absurd g3 (ih v (by omega) g1 g2)
      · rw [if_neg h]
        intro v hv g1 g2 g3
        by_cases hvi : v = i
        · subst hvi
          exact h (isC_iff.mpr ⟨g1, g2, g3, fun q hq => by cases hq⟩)
        · exact ih v (by omega) g1 g2 g3
    | some q =>
      rw [ho] at ih
      unfold nxQ at ih ⊢
      dsimp only at ih
      by_cases h : isC G a c i (some q) = true
      · rw [if_pos h]
        obtain ⟨h1, h2, h3, h4⟩ := isC_iff.mp h
        have h5 := h4 q rfl
        refine ⟨by omega, h1, h2, h3, fun v hv g1 g2 g3 => ?_⟩
        by_cases hvi : v = i
        · rw [hvi]; omega
        · have := ih.2.2.2.2 v (by omega) g1 g2 g3; omega
      · rw [if_neg h]
        refine ⟨by omega, ih.2.1, ih.2.2.1, ih.2.2.2.1, fun v hv g1 g2 g3 => ?_⟩
        by_cases hvi : v = i
        · subst hvi
          have : ¬ G 12 v < G 12 q := fun z => h (isC_iff.mpr ⟨g1, g2, g3, fun q' hq => by cases hq; exact z⟩)
          omega
        · exact ih.2.2.2.2 v (by omega) g1 g2 g3
theorem nxC_some {G : Nat → Nat → Nat} {a c i q : Nat} (h : nxC G a c i = some q) : q < i ∧ G 17 q ≠ 0 ∧ G 10 q = a ∧ c < G 12 q ∧ ∀ v, v < i → G 17 v ≠ 0 → G 10 v = a → c < G 12 v → G 12 q ≤ G 12 v := by
  have := nxC_spec (G := G) (a := a) (c := c) i
  rw [h] at this
  exact this
theorem nxC_none {G : Nat → Nat → Nat} {a c i : Nat} (h : nxC G a c i = none) : ∀ v, v < i → G 17 v ≠ 0 → G 10 v = a → ¬ c < G 12 v := by
  have := nxC_spec (G := G) (a := a) (c := c) i
  rw [h] at this
  exact this
def lsQ (G : Nat → Nat → Nat) (a i : Nat) (o : Option Nat) : Prop := match o with
  | none => ∀ v, v < i → G 17 v ≠ 0 → ¬ G 10 v = a
  | some q => q < i ∧ G 17 q ≠ 0 ∧ G 10 q = a ∧ ∀ v, v < i → G 17 v ≠ 0 → G 10 v = a → G 12 v ≤ G 12 q
theorem lsC_spec {G : Nat → Nat → Nat} {a : Nat} : ∀ (i : Nat), lsQ G a i (lsC G a i)
  | 0 => fun v hv => by omega
  | i + 1 => by
    have ih := lsC_spec (G := G) (a := a) i
    unfold lsC
    cases ho : lsC G a i with
    | none =>
      rw [ho] at ih
      unfold lsQ at ih ⊢
      dsimp only at ih
      by_cases h : isL G a i none = true
      · rw [if_pos h]
        obtain ⟨h1, h2, h4⟩ := isL_iff.mp h
        refine ⟨by omega, h1, h2, fun v hv g1 g2 => ?_⟩
        by_cases hvi : v = i
        · rw [hvi]; omega
        · exact absurd g2 (ih v (by omega) g1)
      · rw [if_neg h]
        intro v hv g1 g2
        by_cases hvi : v = i
        · subst hvi
          exact h (isL_iff.mpr ⟨g1, g2, fun q hq => by cases hq⟩)
        · exact ih v (by omega) g1 g2
    | some q =>
      rw [ho] at ih
      unfold lsQ at ih ⊢
      dsimp only at ih
      by_cases h : isL G a i (some q) = true
      · rw [if_pos h]
        obtain ⟨h1, h2, h4⟩ := isL_iff.mp h
        have h5 := h4 q rfl
        refine ⟨by omega, h1, h2, fun v hv g1 g2 => ?_⟩
        by_cases hvi : v = i
        · rw [hvi]; omega
        · have := ih.2.2.2 v (by omega) g1 g2; omega
      · rw [if_neg h]
        refine ⟨by omega, ih.2.1, ih.2.2.1, fun v hv g1 g2 => ?_⟩
        by_cases hvi : v = i
        · subst hvi
          have : ¬ G 12 q < G 12 v := fun z => h (isL_iff.mpr ⟨g1, g2, fun q' hq => by cases hq; exact z⟩)
          omega
        · exact ih.2.2.2 v (by omega) g1 g2
theorem lsC_some {G : Nat → Nat → Nat} {a i q : Nat} (h : lsC G a i = some q) : q < i ∧ G 17 q ≠ 0 ∧ G 10 q = a ∧ ∀ v, v < i → G 17 v ≠ 0 → G 10 v = a → G 12 v ≤ G 12 q := by
  have := lsC_spec (G := G) (a := a) i
  rw [h] at this
  exact this
theorem lsC_none {G : Nat → Nat → Nat} {a i : Nat} (h : lsC G a i = none) : ∀ v, v < i → G 17 v ≠ 0 → ¬ G 10 v = a := by
  have := lsC_spec (G := G) (a := a) i
  rw [h] at this
  exact this
theorem lk1_some {G : Nat → Nat → Nat} {N a l q : Nat} (h : lk1 G N a l = some q) : q < N ∧ G 17 q ≠ 0 ∧ G 10 q = a ∧ G 12 q = l := by
  unfold lk1 at h
  split at h
  · cases h
  · rename_i h1
    split at h
    · cases h
      have := nxC_some h1
      exact ⟨this.1, this.2.1, this.2.2.1, by assumption⟩
    · cases h
theorem lkU_pr {G : Nat → Nat → Nat} {N l1 l2 l3 q : Nat} (h : lkU G N l1 l2 l3 = some q) : G 17 q ≠ 0 := by
  unfold lkU at h
  split at h
  · cases h
  · split at h
    · cases h
    · rename_i h1
      split at h
      · cases h; exact (lk1_some h1).2.1
      · split at h
        · cases h
        · rename_i h2
          split at h
          · cases h; exact (lk1_some h2).2.1
          · exact (lk1_some h).2.1
theorem cnt_le {p q : Nat → Nat} : ∀ n, (∀ v, v < n → q v ≠ 0 → p v ≠ 0) → cnt q n ≤ cnt p n
  | 0, _ => Nat.le_refl _
  | n + 1, h => by
    unfold cnt
    have ih := cnt_le n (fun v hv => h v (by omega))
    have := h n (by omega)
    by_cases hq : q n ≠ 0
    · rw [if_pos hq, if_pos (this hq)]; omega
    · rw [if_neg hq]; omega
theorem cnt_lt {p q : Nat → Nat} {k : Nat} (hk : p k ≠ 0) (hk0 : q k = 0) : ∀ n, k < n → (∀ v, v < n → q v ≠ 0 → p v ≠ 0) → cnt q n < cnt p n
  | 0, h, _ => by omega
  | n + 1, h, hh => by
    unfold cnt
    by_cases hkn : k = n
    · subst hkn
      have := cnt_le k (fun v hv => hh v (by omega))
      rw [if_neg (by omega), if_pos hk]; omega
    · have ih := cnt_lt hk hk0 n (by omega) (fun v hv => hh v (by omega))
      have := hh n (by omega)
      by_cases hq : q n ≠ 0
      · rw [if_pos hq, if_pos (this hq)]; omega
      · rw [if_neg hq]; omega
theorem cnt_n {p : Nat → Nat} : ∀ n, cnt p n ≤ n
  | 0 => Nat.le_refl _
  | n + 1 => by have := cnt_n (p := p) n; unfold cnt; split <;> omega
def inC (G : Nat → Nat → Nat) (a c v : Nat) : Nat := if G 17 v ≠ 0 ∧ G 10 v = a ∧ c < G 12 v then 1 else 0
theorem inC_iff {G : Nat → Nat → Nat} {a c v : Nat} : inC G a c v ≠ 0 ↔ G 17 v ≠ 0 ∧ G 10 v = a ∧ c < G 12 v := by
  unfold inC
  split <;> simp_all
theorem ch_ex {G : Nat → Nat → Nat} {a N : Nat} : ∀ (k c : Nat), cnt (inC G a c) N ≤ k → ∃ l, nxC G a c N = l.head? ∧ chT G a N l ∧ l.length ≤ k
  | 0, c, h => by
    refine ⟨[], ?_, trivial, Nat.le_refl _⟩
    cases ho : nxC G a c N with
    | none => rfl
    | some q =>
      have h1 := nxC_some ho
      have := cnt_lt (p := inC G a c) (q := fun _ => 0) (k := q) (inC_iff.mpr ⟨h1.2.1, h1.2.2.1, h1.2.2.2.1⟩) rfl N h1.1 (fun v _ z => absurd rfl z)
      omega
  | k + 1, c, h => by
    cases ho : nxC G a c N with
    | none => exact ⟨[], rfl, trivial, by simp⟩
    | some q =>
      have h1 := nxC_some ho
      have h2 := cnt_lt (p := inC G a c) (q := inC G a (G 12 q)) (k := q) (inC_iff.mpr ⟨h1.2.1, h1.2.2.1, h1.2.2.2.1⟩) (by unfold inC; rw [if_neg (fun z => by omega)]) N h1.1 (fun v _ z => by
        have z := inC_iff.mp z
        exact inC_iff.mpr ⟨z.1, z.2.1, by omega⟩)
      obtain ⟨l, g1, g2, g3⟩ := ch_ex (G := G) (a := a) (N := N) k (G 12 q) (by omega)
      exact ⟨q :: l, rfl, ⟨h1.1, g1, g2⟩, by simp; omega⟩
/-! applying an instruction -/
def rnR (s s' : Nat → Nat) (G G' : Nat → Nat → Nat) (a : Nat) : Prop := ∃ l, (nxC (gset G 17 (rmP G (s 2) a (s 2))) (a + 1) 0 (s 2) = l.head? ∧ chT (gset G 17 (rmP G (s 2) a (s 2))) (a + 1) (s 2) l ∧ l.length ≤ 160) ∧ (∀ j, j ≠ 3 → s' j = s j) ∧ s' 3 = cnt (rmP G (s 2) a (s 2)) (s 2) ∧ G' 12 = rlL (G 12) l 0 ∧ G' 17 = rmP G (s 2) a (s 2) ∧ ∀ b, b ≠ 12 → b ≠ 17 → b ≠ 23 → G' b = G b
def rDo (s : Nat → Nat) (G : Nat → Nat → Nat) (K p q t am r : Nat) (s' : Nat → Nat) (G' : Nat → Nat → Nat) : Prop := match K with
  | 0 => match lbA G (s 2) p with
    | none => r = 5 ∧ s' = s ∧ G' = G
    | some b => r = 0 ∧ s' = nwN s ∧ G' = nwG G (s 2) (G 10 p) (G 11 p) b t 0 (am + 1)
  | 1 => match lbE G (s 2) (p + 1) with
    | none => r = 5 ∧ s' = s ∧ G' = G
    | some b => r = 0 ∧ s' = nwN s ∧ G' = nwG G (s 2) (p + 1) (G 11 p + 1) b t 0 (am + 1)
  | 2 => r = 0 ∧ s' = s ∧ G' = gup G 13 p t
  | 3 => r = 0 ∧ s' = s ∧ rpI G G' p (s 2)
  | 4 => s' = s ∧ mvR s G G' p q r
  | _ => r = 0 ∧ rnR s s' G G' p
def rAp (s : Nat → Nat) (G : Nat → Nat → Nat) (K : Nat) (o o2 : Option Nat) (t am r : Nat) (s' : Nat → Nat) (G' : Nat → Nat → Nat) : Prop := match o, o2 with
  | some p, some q => if G 16 p ≠ 0 ∨ G 16 q ≠ 0 then r = 2 ∧ s' = s ∧ G' = G else if (K = 1 ∧ G 11 p = 3) ∨ (K = 4 ∧ (G 11 p ≠ G 11 q ∨ p = q)) then r = 3 ∧ s' = s ∧ G' = G else if K ≤ 1 ∧ s 3 = 60 then r = 4 ∧ s' = s ∧ G' = G else rDo s G K p q t am r s' G'
  | _, _ => r = 1 ∧ s' = s ∧ G' = G
theorem lbE_lt {G : Nat → Nat → Nat} {N a b : Nat} (h : lbE G N a = some b) : b < 2200000 := by
  unfold lbE at h
  split at h
  · cases h; omega
  · split at h
    · cases h; omega
    · cases h
/-- an instruction in a slot of the reference -/
def slR (G : Nat → Nat → Nat) (i K t l1 l2 l3 g1 g2 g3 : Nat) : Prop := G 7 i = K + 1 ∧ G 8 i = t ∧ G 9 (6 * i + 0) = l1 ∧ G 9 (6 * i + 1) = l2 ∧ G 9 (6 * i + 2) = l3 ∧ G 9 (6 * i + 3 + 0) = g1 ∧ G 9 (6 * i + 3 + 1) = g2 ∧ G 9 (6 * i + 3 + 2) = g3 ∧ (l1 < 2097152 ∧ l2 < 2097152 ∧ l3 < 2097152) ∧ (g1 < 2097152 ∧ g2 < 2097152 ∧ g3 < 2097152)
theorem rAp_1 {s : Nat → Nat} {G : Nat → Nat → Nat} {K : Nat} {o o2 : Option Nat} {t am : Nat} (h : o = none ∨ o2 = none) : rAp s G K o o2 t am 1 s G := by
  unfold rAp
  cases o with
  | none => exact ⟨rfl, rfl, rfl⟩
  | some p =>
    cases o2 with
    | none => exact ⟨rfl, rfl, rfl⟩
    | some q => simp at h
theorem rAp_2 {s : Nat → Nat} {G : Nat → Nat → Nat} {K p q t am : Nat} (h : G 16 p ≠ 0 ∨ G 16 q ≠ 0) : rAp s G K (some p) (some q) t am 2 s G := by
  show if _ then _ else _
  rw [if_pos h]
  exact ⟨rfl, rfl, rfl⟩
theorem rAp_3 {s : Nat → Nat} {G : Nat → Nat → Nat} {K p q t am : Nat} (h1 : G 16 p = 0) (h2 : G 16 q = 0) (h : (K = 1 ∧ G 11 p = 3) ∨ (K = 4 ∧ (G 11 p ≠ G 11 q ∨ p = q))) : rAp s G K (some p) (some q) t am 3 s G := by
  show if _ then _ else _
  rw [if_neg (by omega), if_pos h]
  exact ⟨rfl, rfl, rfl⟩
theorem rAp_4 {s : Nat → Nat} {G : Nat → Nat → Nat} {K p q t am : Nat} (h1 : G 16 p = 0) (h2 : G 16 q = 0) (h3 : ¬ ((K = 1 ∧ G 11 p = 3) ∨ (K = 4 ∧ (G 11 p ≠ G 11 q ∨ p = q)))) (h : K ≤ 1 ∧ s 3 = 60) : rAp s G K (some p) (some q) t am 4 s G := by
  show if _ then _ else _
  rw [if_neg (by omega), if_neg h3, if_pos h]
  exact ⟨rfl, rfl, rfl⟩
theorem rAp_0 {s s' : Nat → Nat} {G G' : Nat → Nat → Nat} {K p q t am r : Nat} (h1 : G 16 p = 0) (h2 : G 16 q = 0) (h3 : ¬ ((K = 1 ∧ G 11 p = 3) ∨ (K = 4 ∧ (G 11 p ≠ G 11 q ∨ p = q)))) (h : ¬ (K ≤ 1 ∧ s 3 = 60)) (hd : rDo s G K p q t am r s' G') : rAp s G K (some p) (some q) t am r s' G' := by
  show if _ then _ else _
  rw [if_neg (by omega), if_neg h3, if_neg h]
  exact hd
set_option maxHeartbeats 4000000 in
theorem mo_apply_0 {Γ : zCtx} {M : List zE} (d : Nat) {M0 : List zE} {s : Nat → Nat} {G : Nat → Nat → Nat} (hF : FW M0 M s G) (hB : nB (s 2) G) (hC : ∀ v, v < s 2 → G 17 v ≠ 0 → chk (G 10) (s 2) 3 (v + 1)) (hcn : s 3 = cnt (G 17) (s 2)) (hN : s 2 < 160) {i am t l1 l2 l3 g1 g2 g3 : Nat} (hi : i < 128) (ham : am < 8) (hsl : slR G i 0 t l1 l2 l3 g1 g2 g3) : ZM Γ (d + 5) m_mo_apply [.ref 123, .int (nI i), .int (nI am)] M (fun M1 v => ∃ r s' G', v = some (.int (nI r)) ∧ FW M0 M1 s' G' ∧ rAp s G 0 (lkU G (s 2) l1 l2 l3) (lkU G (s 2) l1 l2 l3) t am r s' G') := by
  refine ZM.of mk_mo_apply (Nat.le_of_ble_eq_true rfl) ?_
  obtain ⟨hK, hT, e1, e2, e3, e4, e5, e6, hl, hg⟩ := hsl
  have h160 := hB.1
  rw [show zEn [.ref 123, .int (nI i), .int (nI am)] = [some (.ref 123), some (.int (nI i)), some (.int (nI am))] from rfl]
  refine zPad 5 ?_
  show Z _ _ _ _ _ _ _ [some (.ref 123), some (.int (nI i)), some (.int (nI am)), none, none, none, none, none] _ _
  refine Z_aload_n d_mo_apply_0 rfl ?_
  refine Z_get (v := .ref 131) d_mo_apply_1 lf_mo_31 hF.1 rfl ?_
  refine Z_iload_n d_mo_apply_4 rfl ?_
  refine Zn_iald d_mo_apply_5 hF.a7 (by omega) (by omega) ?_
  rw [hK]
  rw [mI_s]
  refine Zn_istore_n [some (.ref 123), some (.int (nI i)), some (.int (nI am)), some (.int (nI 0)), none, none, none, none] d_mo_apply_6 (by decide) rfl ?_
  refine Z_aload_n d_mo_apply_7 rfl ?_
  refine Z_aload_n d_mo_apply_8 rfl ?_
  refine Z_get (v := .ref 133) d_mo_apply_9 lf_mo_37 hF.1 rfl ?_
  refine Zn_bipush (nI 6) d_mo_apply_12 (by decide) ?_
  refine Z_iload_n d_mo_apply_14 rfl ?_
  refine Zn_imul d_mo_apply_15 ?_
  refine zVe (As := [.ref 133, .int (nI (6 * i))]) (by omega) d_mo_apply_16 lm_mo_288 hF.1 rfl rfl (Nat.le_of_ble_eq_true rfl) (mo_lookUp_ok (d + 2) hF hB hF.a9 (by omega) (by decide) e1 e2 e3 hl.1 hl.2.1 hl.2.2) ?_
  rcases ho : lkU G (s 2) l1 l2 l3 with _ | p
  · skip
    refine Zn_istore [some (.ref 123), some (.int (nI i)), some (.int (nI am)), some (.int (nI 0)), some (.int (-1)), none, none, none] d_mo_apply_19 (by decide) rfl ?_
    refine Z_iload_n d_mo_apply_21 rfl ?_
    refine Zn_iconst (nI 4) d_mo_apply_22 (by decide) ?_
    refine Zn_icmp_ne (a := 0) (b := 4) (tgt := 43) d_mo_apply_23 (by decide) (by decide) (by decide) (fun _ => ?_) (fun h => absurd h (by decide))
    refine Z_iload d_mo_apply_43 rfl ?_
    refine Zn_istore [some (.ref 123), some (.int (nI i)), some (.int (nI am)), some (.int (nI 0)), some (.int (-1)), some (.int (-1)), none, none] d_mo_apply_45 (by decide) rfl ?_
    refine Z_iload d_mo_apply_47 rfl ?_
    refine Z_if_lt (tgt := 57) d_mo_apply_49 (by decide) (fun h49 => ?_) (fun h49 => ?_)
    · skip
      skip
      refine Zn_iconst (nI 1) d_mo_apply_57 (by decide) ?_
      refine Z_iret d_mo_apply_58 rfl ?_
      refine ⟨1, s, G, rfl, hF, ?_⟩
      exact rAp_1 (Or.inl rfl)
    · skip
      exact absurd (by decide) h49 -- end
  · have hp2 := lkU_lt ho
    have hbp := hB.2 p hp2
    have hprp := lkU_pr ho
    refine Zn_istore [some (.ref 123), some (.int (nI i)), some (.int (nI am)), some (.int (nI 0)), some (.int (nI p)), none, none, none] d_mo_apply_19 (by decide) rfl ?_
    refine Z_iload_n d_mo_apply_21 rfl ?_
    refine Zn_iconst (nI 4) d_mo_apply_22 (by decide) ?_
    refine Zn_icmp_ne (a := 0) (b := 4) (tgt := 43) d_mo_apply_23 (by decide) (by decide) (by decide) (fun _ => ?_) (fun h => absurd h (by decide))
    refine Z_iload d_mo_apply_43 rfl ?_
    refine Zn_istore [some (.ref 123), some (.int (nI i)), some (.int (nI am)), some (.int (nI 0)), some (.int (nI p)), some (.int (nI p)), none, none] d_mo_apply_45 (by decide) rfl ?_
    refine Z_iload d_mo_apply_47 rfl ?_
    refine Z_if_lt (tgt := 57) d_mo_apply_49 (by decide) (fun h49 => ?_) (fun h49 => ?_)
    · skip
      exact absurd h49 (nI_pos (by omega)) -- end
    · skip
      skip
      refine Z_iload d_mo_apply_52 rfl ?_
      refine Z_if_ge (tgt := 59) d_mo_apply_54 (by decide) (fun h54 => ?_) (fun h54 => ?_)
      · skip
        skip
        refine Z_aload_n d_mo_apply_59 rfl ?_
        refine Z_get (v := .ref 140) d_mo_apply_60 lf_mo_58 hF.1 rfl ?_
        refine Z_iload d_mo_apply_63 rfl ?_
        refine Zn_zald d_mo_apply_65 hF.a16 (by omega) (by omega) ?_
        refine Zn_if_ne (tgt := 79) d_mo_apply_66 (by decide) (by omega) (fun h66 => ?_) (fun h66 => ?_)
        · skip
          refine Zn_iconst (nI 2) d_mo_apply_79 (by decide) ?_
          refine Z_iret d_mo_apply_80 rfl ?_
          refine ⟨2, s, G, rfl, hF, ?_⟩
          exact rAp_2 (by omega)
        · skip
          refine Z_aload_n d_mo_apply_69 rfl ?_
          refine Z_get (v := .ref 140) d_mo_apply_70 lf_mo_58 hF.1 rfl ?_
          refine Z_iload d_mo_apply_73 rfl ?_
          refine Zn_zald d_mo_apply_75 hF.a16 (by omega) (by omega) ?_
          refine Zn_if_eq (tgt := 81) d_mo_apply_76 (by decide) (by omega) (fun h76 => ?_) (fun h76 => ?_)
          · skip
            refine Z_iload_n d_mo_apply_81 rfl ?_
            refine Zn_iconst (nI 1) d_mo_apply_82 (by decide) ?_
            refine Zn_icmp_ne (a := 0) (b := 1) (tgt := 97) d_mo_apply_83 (by decide) (by decide) (by decide) (fun _ => ?_) (fun h => absurd h (by decide))
            refine Z_iload_n d_mo_apply_97 rfl ?_
            refine Zn_iconst (nI 4) d_mo_apply_98 (by decide) ?_
            refine Zn_icmp_ne (a := 0) (b := 4) (tgt := 128) d_mo_apply_99 (by decide) (by decide) (by decide) (fun _ => ?_) (fun h => absurd h (by decide))
            refine Z_iload_n d_mo_apply_128 rfl ?_
            refine Zn_iconst (nI 1) d_mo_apply_129 (by decide) ?_
            refine Zn_icmp_gt (a := 0) (b := 1) (tgt := 144) d_mo_apply_130 (by decide) (by decide) (by decide) (fun h => absurd h (by decide)) (fun _ => ?_)
            refine Z_aload_n d_mo_apply_133 rfl ?_
            refine Z_get (v := .int (nI (s 3))) d_mo_apply_134 lf_mo_148 hF.1 rfl ?_
            have hcc := cnt_n (p := G 17) (s 2)
            refine Zn_bipush (nI 60) d_mo_apply_137 (by decide) ?_
            refine Zn_icmp_ne (tgt := 144) d_mo_apply_139 (by decide) (by omega) (by omega) (fun h139 => ?_) (fun h139 => ?_)
            · skip
              refine Z_iload_n d_mo_apply_144 rfl ?_
              refine Zn_iconst (nI 2) d_mo_apply_145 (by decide) ?_
              refine Zn_icmp_ne (a := 0) (b := 2) (tgt := 165) d_mo_apply_146 (by decide) (by decide) (by decide) (fun _ => ?_) (fun h => absurd h (by decide))
              refine Z_iload_n d_mo_apply_165 rfl ?_
              refine Zn_iconst (nI 3) d_mo_apply_166 (by decide) ?_
              refine Zn_icmp_ne (a := 0) (b := 3) (tgt := 179) d_mo_apply_167 (by decide) (by decide) (by decide) (fun _ => ?_) (fun h => absurd h (by decide))
              refine Z_iload_n d_mo_apply_179 rfl ?_
              refine Zn_iconst (nI 5) d_mo_apply_180 (by decide) ?_
              refine Zn_icmp_ne (a := 0) (b := 5) (tgt := 193) d_mo_apply_181 (by decide) (by decide) (by decide) (fun _ => ?_) (fun h => absurd h (by decide))
              refine Z_iload_n d_mo_apply_193 rfl ?_
              refine Zn_iconst (nI 4) d_mo_apply_194 (by decide) ?_
              refine Zn_icmp_ne (a := 0) (b := 4) (tgt := 207) d_mo_apply_195 (by decide) (by decide) (by decide) (fun _ => ?_) (fun h => absurd h (by decide))
              refine Z_iload_n d_mo_apply_207 rfl ?_
              refine Zn_iconst (nI 1) d_mo_apply_208 (by decide) ?_
              refine Zn_icmp_ne (a := 0) (b := 1) (tgt := 221) d_mo_apply_209 (by decide) (by decide) (by decide) (fun _ => ?_) (fun h => absurd h (by decide))
              refine Z_aload_n d_mo_apply_221 rfl ?_
              refine Z_iload d_mo_apply_222 rfl ?_
              refine zVe (As := [.int (nI p)]) (by omega) d_mo_apply_224 lm_mo_206 hF.1 rfl rfl (Nat.le_of_ble_eq_true rfl) (mo_labelAfter_ok (d + 1) hF hB hp2) ?_
              rcases hlb : lbA G (s 2) p with _ | b
              · skip
                refine Zn_istore [some (.ref 123), some (.int (nI i)), some (.int (nI am)), some (.int (nI 0)), some (.int (nI p)), some (.int (nI p)), some (.int (-1)), none] d_mo_apply_227 (by decide) rfl ?_
                refine Z_iload d_mo_apply_229 rfl ?_
                refine Z_if_ge (tgt := 236) d_mo_apply_231 (by decide) (fun h231 => ?_) (fun h231 => ?_)
                · skip
                  exact absurd h231 (by decide) -- end
                · skip
                  skip
                  refine Zn_iconst (nI 5) d_mo_apply_234 (by decide) ?_
                  refine Z_iret d_mo_apply_235 rfl ?_
                  refine ⟨5, s, G, rfl, hF, ?_⟩
                  refine rAp_0 (by omega) (by omega) (by omega) (by omega) ?_
                  unfold rDo
                  rw [hlb]
                  exact ⟨rfl, rfl, rfl⟩
              · have hb9 := lbA_lt hlb hbp.1
                refine Zn_istore [some (.ref 123), some (.int (nI i)), some (.int (nI am)), some (.int (nI 0)), some (.int (nI p)), some (.int (nI p)), some (.int (nI b)), none] d_mo_apply_227 (by decide) rfl ?_
                refine Z_iload d_mo_apply_229 rfl ?_
                refine Z_if_ge (tgt := 236) d_mo_apply_231 (by decide) (fun h231 => ?_) (fun h231 => ?_)
                · skip
                  skip
                  refine Z_aload_n d_mo_apply_236 rfl ?_
                  refine Z_iload_n d_mo_apply_237 rfl ?_
                  refine Zn_iconst (nI 1) d_mo_apply_238 (by decide) ?_
                  refine Zn_icmp_ne (a := 0) (b := 1) (tgt := 247) d_mo_apply_239 (by decide) (by decide) (by decide) (fun _ => ?_) (fun h => absurd h (by decide))
                  refine Z_aload_n d_mo_apply_247 rfl ?_
                  refine Z_get (v := .ref 134) d_mo_apply_248 lf_mo_40 hF.1 rfl ?_
                  refine Z_iload d_mo_apply_251 rfl ?_
                  refine Zn_iald d_mo_apply_253 hF.a10 (by omega) (by omega) ?_
                  refine Z_iload_n d_mo_apply_254 rfl ?_
                  refine Zn_iconst (nI 1) d_mo_apply_255 (by decide) ?_
                  refine Zn_icmp_ne (a := 0) (b := 1) (tgt := 271) d_mo_apply_256 (by decide) (by decide) (by decide) (fun _ => ?_) (fun h => absurd h (by decide))
                  refine Z_aload_n d_mo_apply_271 rfl ?_
                  refine Z_get (v := .ref 135) d_mo_apply_272 lf_mo_43 hF.1 rfl ?_
                  refine Z_iload d_mo_apply_275 rfl ?_
                  refine Zn_iald d_mo_apply_277 hF.a11 (by omega) (by omega) ?_
                  refine Z_iload d_mo_apply_278 rfl ?_
                  refine Z_aload_n d_mo_apply_280 rfl ?_
                  refine Z_get (v := .ref 132) d_mo_apply_281 lf_mo_34 hF.1 rfl ?_
                  refine Z_iload_n d_mo_apply_284 rfl ?_
                  refine Zn_iald d_mo_apply_285 hF.a8 (by omega) (by omega) ?_
                  refine Zn_bipush (-9) d_mo_apply_286 (by decide) ?_
                  refine Z_iload_n d_mo_apply_288 rfl ?_
                  refine zV (As := [.int (mI (G 10 p)), .int (nI (G 11 p)), .int (nI b), .int (nI (G 8 i)), .int (kI 0), .int (kI (am + 1))]) (by omega) d_mo_apply_289 lm_mo_161 hF.1 rfl rfl (Nat.le_of_ble_eq_true rfl) (mo_newNode_ok (d + 3) hF hN) (fun M1 v hq hlen => ?_)
                  obtain ⟨rfl, hF⟩ := hq
                  refine Zn_istore [some (.ref 123), some (.int (nI i)), some (.int (nI am)), some (.int (nI 0)), some (.int (nI p)), some (.int (nI p)), some (.int (nI b)), some (.int (nI (s 2)))] d_mo_apply_292 (by decide) rfl ?_
                  refine Zn_iconst (nI 0) d_mo_apply_294 (by decide) ?_
                  refine Z_iret d_mo_apply_295 rfl ?_
                  refine ⟨0, _, _, rfl, hF, ?_⟩
                  refine rAp_0 (by omega) (by omega) (by omega) (by omega) ?_
                  unfold rDo
                  rw [hlb]
                  exact ⟨rfl, rfl, by rw [hT]⟩
                · skip
                  exact absurd (Int32.not_lt.mp (nI_pos (by omega))) h231 -- end
            · skip
              refine Zn_iconst (nI 4) d_mo_apply_142 (by decide) ?_
              refine Z_iret d_mo_apply_143 rfl ?_
              refine ⟨4, s, G, rfl, hF, ?_⟩
              exact rAp_4 (by omega) (by omega) (by omega) (by omega)
          · skip
            refine Zn_iconst (nI 2) d_mo_apply_79 (by decide) ?_
            refine Z_iret d_mo_apply_80 rfl ?_
            refine ⟨2, s, G, rfl, hF, ?_⟩
            exact rAp_2 (by omega)
      · skip
        exact absurd (Int32.not_lt.mp (nI_pos (by omega))) h54 -- end
set_option maxHeartbeats 4000000 in
theorem mo_apply_1 {Γ : zCtx} {M : List zE} (d : Nat) {M0 : List zE} {s : Nat → Nat} {G : Nat → Nat → Nat} (hF : FW M0 M s G) (hB : nB (s 2) G) (hC : ∀ v, v < s 2 → G 17 v ≠ 0 → chk (G 10) (s 2) 3 (v + 1)) (hcn : s 3 = cnt (G 17) (s 2)) (hN : s 2 < 160) {i am t l1 l2 l3 g1 g2 g3 : Nat} (hi : i < 128) (ham : am < 8) (hsl : slR G i 1 t l1 l2 l3 g1 g2 g3) : ZM Γ (d + 5) m_mo_apply [.ref 123, .int (nI i), .int (nI am)] M (fun M1 v => ∃ r s' G', v = some (.int (nI r)) ∧ FW M0 M1 s' G' ∧ rAp s G 1 (lkU G (s 2) l1 l2 l3) (lkU G (s 2) l1 l2 l3) t am r s' G') := by
  refine ZM.of mk_mo_apply (Nat.le_of_ble_eq_true rfl) ?_
  obtain ⟨hK, hT, e1, e2, e3, e4, e5, e6, hl, hg⟩ := hsl
  have h160 := hB.1
  rw [show zEn [.ref 123, .int (nI i), .int (nI am)] = [some (.ref 123), some (.int (nI i)), some (.int (nI am))] from rfl]
  refine zPad 5 ?_
  show Z _ _ _ _ _ _ _ [some (.ref 123), some (.int (nI i)), some (.int (nI am)), none, none, none, none, none] _ _
  refine Z_aload_n d_mo_apply_0 rfl ?_
  refine Z_get (v := .ref 131) d_mo_apply_1 lf_mo_31 hF.1 rfl ?_
  refine Z_iload_n d_mo_apply_4 rfl ?_
  refine Zn_iald d_mo_apply_5 hF.a7 (by omega) (by omega) ?_
  rw [hK]
  rw [mI_s]
  refine Zn_istore_n [some (.ref 123), some (.int (nI i)), some (.int (nI am)), some (.int (nI 1)), none, none, none, none] d_mo_apply_6 (by decide) rfl ?_
  refine Z_aload_n d_mo_apply_7 rfl ?_
  refine Z_aload_n d_mo_apply_8 rfl ?_
  refine Z_get (v := .ref 133) d_mo_apply_9 lf_mo_37 hF.1 rfl ?_
  refine Zn_bipush (nI 6) d_mo_apply_12 (by decide) ?_
  refine Z_iload_n d_mo_apply_14 rfl ?_
  refine Zn_imul d_mo_apply_15 ?_
  refine zVe (As := [.ref 133, .int (nI (6 * i))]) (by omega) d_mo_apply_16 lm_mo_288 hF.1 rfl rfl (Nat.le_of_ble_eq_true rfl) (mo_lookUp_ok (d + 2) hF hB hF.a9 (by omega) (by decide) e1 e2 e3 hl.1 hl.2.1 hl.2.2) ?_
  rcases ho : lkU G (s 2) l1 l2 l3 with _ | p
  · skip
    refine Zn_istore [some (.ref 123), some (.int (nI i)), some (.int (nI am)), some (.int (nI 1)), some (.int (-1)), none, none, none] d_mo_apply_19 (by decide) rfl ?_
    refine Z_iload_n d_mo_apply_21 rfl ?_
    refine Zn_iconst (nI 4) d_mo_apply_22 (by decide) ?_
    refine Zn_icmp_ne (a := 1) (b := 4) (tgt := 43) d_mo_apply_23 (by decide) (by decide) (by decide) (fun _ => ?_) (fun h => absurd h (by decide))
    refine Z_iload d_mo_apply_43 rfl ?_
    refine Zn_istore [some (.ref 123), some (.int (nI i)), some (.int (nI am)), some (.int (nI 1)), some (.int (-1)), some (.int (-1)), none, none] d_mo_apply_45 (by decide) rfl ?_
    refine Z_iload d_mo_apply_47 rfl ?_
    refine Z_if_lt (tgt := 57) d_mo_apply_49 (by decide) (fun h49 => ?_) (fun h49 => ?_)
    · skip
      skip
      refine Zn_iconst (nI 1) d_mo_apply_57 (by decide) ?_
      refine Z_iret d_mo_apply_58 rfl ?_
      refine ⟨1, s, G, rfl, hF, ?_⟩
      exact rAp_1 (Or.inl rfl)
    · skip
      exact absurd (by decide) h49 -- end
  · have hp2 := lkU_lt ho
    have hbp := hB.2 p hp2
    have hprp := lkU_pr ho
    refine Zn_istore [some (.ref 123), some (.int (nI i)), some (.int (nI am)), some (.int (nI 1)), some (.int (nI p)), none, none, none] d_mo_apply_19 (by decide) rfl ?_
    refine Z_iload_n d_mo_apply_21 rfl ?_
    refine Zn_iconst (nI 4) d_mo_apply_22 (by decide) ?_
    refine Zn_icmp_ne (a := 1) (b := 4) (tgt := 43) d_mo_apply_23 (by decide) (by decide) (by decide) (fun _ => ?_) (fun h => absurd h (by decide))
    refine Z_iload d_mo_apply_43 rfl ?_
    refine Zn_istore [some (.ref 123), some (.int (nI i)), some (.int (nI am)), some (.int (nI 1)), some (.int (nI p)), some (.int (nI p)), none, none] d_mo_apply_45 (by decide) rfl ?_
    refine Z_iload d_mo_apply_47 rfl ?_
    refine Z_if_lt (tgt := 57) d_mo_apply_49 (by decide) (fun h49 => ?_) (fun h49 => ?_)
    · skip
      exact absurd h49 (nI_pos (by omega)) -- end
    · skip
      skip
      refine Z_iload d_mo_apply_52 rfl ?_
      refine Z_if_ge (tgt := 59) d_mo_apply_54 (by decide) (fun h54 => ?_) (fun h54 => ?_)
      · skip
        skip
        refine Z_aload_n d_mo_apply_59 rfl ?_
        refine Z_get (v := .ref 140) d_mo_apply_60 lf_mo_58 hF.1 rfl ?_
        refine Z_iload d_mo_apply_63 rfl ?_
        refine Zn_zald d_mo_apply_65 hF.a16 (by omega) (by omega) ?_
        refine Zn_if_ne (tgt := 79) d_mo_apply_66 (by decide) (by omega) (fun h66 => ?_) (fun h66 => ?_)
        · skip
          refine Zn_iconst (nI 2) d_mo_apply_79 (by decide) ?_
          refine Z_iret d_mo_apply_80 rfl ?_
          refine ⟨2, s, G, rfl, hF, ?_⟩
          exact rAp_2 (by omega)
        · skip
          refine Z_aload_n d_mo_apply_69 rfl ?_
          refine Z_get (v := .ref 140) d_mo_apply_70 lf_mo_58 hF.1 rfl ?_
          refine Z_iload d_mo_apply_73 rfl ?_
          refine Zn_zald d_mo_apply_75 hF.a16 (by omega) (by omega) ?_
          refine Zn_if_eq (tgt := 81) d_mo_apply_76 (by decide) (by omega) (fun h76 => ?_) (fun h76 => ?_)
          · skip
            refine Z_iload_n d_mo_apply_81 rfl ?_
            refine Zn_iconst (nI 1) d_mo_apply_82 (by decide) ?_
            refine Zn_icmp_ne (a := 1) (b := 1) (tgt := 97) d_mo_apply_83 (by decide) (by decide) (by decide) (fun h => absurd h (by decide)) (fun _ => ?_)
            refine Z_aload_n d_mo_apply_86 rfl ?_
            refine Z_get (v := .ref 135) d_mo_apply_87 lf_mo_43 hF.1 rfl ?_
            refine Z_iload d_mo_apply_90 rfl ?_
            refine Zn_iald d_mo_apply_92 hF.a11 (by omega) (by omega) ?_
            refine Zn_iconst (nI 3) d_mo_apply_93 (by decide) ?_
            refine Zn_icmp_eq (tgt := 126) d_mo_apply_94 (by decide) (by omega) (by omega) (fun h94 => ?_) (fun h94 => ?_)
            · skip
              refine Zn_iconst (nI 3) d_mo_apply_126 (by decide) ?_
              refine Z_iret d_mo_apply_127 rfl ?_
              refine ⟨3, s, G, rfl, hF, ?_⟩
              exact rAp_3 (by omega) (by omega) (by omega)
            · skip
              refine Z_iload_n d_mo_apply_97 rfl ?_
              refine Zn_iconst (nI 4) d_mo_apply_98 (by decide) ?_
              refine Zn_icmp_ne (a := 1) (b := 4) (tgt := 128) d_mo_apply_99 (by decide) (by decide) (by decide) (fun _ => ?_) (fun h => absurd h (by decide))
              refine Z_iload_n d_mo_apply_128 rfl ?_
              refine Zn_iconst (nI 1) d_mo_apply_129 (by decide) ?_
              refine Zn_icmp_gt (a := 1) (b := 1) (tgt := 144) d_mo_apply_130 (by decide) (by decide) (by decide) (fun h => absurd h (by decide)) (fun _ => ?_)
              refine Z_aload_n d_mo_apply_133 rfl ?_
              refine Z_get (v := .int (nI (s 3))) d_mo_apply_134 lf_mo_148 hF.1 rfl ?_
              have hcc := cnt_n (p := G 17) (s 2)
              refine Zn_bipush (nI 60) d_mo_apply_137 (by decide) ?_
              refine Zn_icmp_ne (tgt := 144) d_mo_apply_139 (by decide) (by omega) (by omega) (fun h139 => ?_) (fun h139 => ?_)
              · skip
                refine Z_iload_n d_mo_apply_144 rfl ?_
                refine Zn_iconst (nI 2) d_mo_apply_145 (by decide) ?_
                refine Zn_icmp_ne (a := 1) (b := 2) (tgt := 165) d_mo_apply_146 (by decide) (by decide) (by decide) (fun _ => ?_) (fun h => absurd h (by decide))
                refine Z_iload_n d_mo_apply_165 rfl ?_
                refine Zn_iconst (nI 3) d_mo_apply_166 (by decide) ?_
                refine Zn_icmp_ne (a := 1) (b := 3) (tgt := 179) d_mo_apply_167 (by decide) (by decide) (by decide) (fun _ => ?_) (fun h => absurd h (by decide))
                refine Z_iload_n d_mo_apply_179 rfl ?_
                refine Zn_iconst (nI 5) d_mo_apply_180 (by decide) ?_
                refine Zn_icmp_ne (a := 1) (b := 5) (tgt := 193) d_mo_apply_181 (by decide) (by decide) (by decide) (fun _ => ?_) (fun h => absurd h (by decide))
                refine Z_iload_n d_mo_apply_193 rfl ?_
                refine Zn_iconst (nI 4) d_mo_apply_194 (by decide) ?_
                refine Zn_icmp_ne (a := 1) (b := 4) (tgt := 207) d_mo_apply_195 (by decide) (by decide) (by decide) (fun _ => ?_) (fun h => absurd h (by decide))
                refine Z_iload_n d_mo_apply_207 rfl ?_
                refine Zn_iconst (nI 1) d_mo_apply_208 (by decide) ?_
                refine Zn_icmp_ne (a := 1) (b := 1) (tgt := 221) d_mo_apply_209 (by decide) (by decide) (by decide) (fun h => absurd h (by decide)) (fun _ => ?_)
                refine Z_aload_n d_mo_apply_212 rfl ?_
                refine Z_iload d_mo_apply_213 rfl ?_
                refine zVe (As := [.int (nI p)]) (by omega) d_mo_apply_215 lm_mo_199 hF.1 rfl rfl (Nat.le_of_ble_eq_true rfl) (mo_labelAtEnd_ok (a := p + 1) (d + 2) hF hB (by omega)) ?_
                rcases hlb : lbE G (s 2) (p + 1) with _ | b
                · skip
                  refine Z_goto (tgt := 227) d_mo_apply_218 (by decide) ?_
                  refine Zn_istore [some (.ref 123), some (.int (nI i)), some (.int (nI am)), some (.int (nI 1)), some (.int (nI p)), some (.int (nI p)), some (.int (-1)), none] d_mo_apply_227 (by decide) rfl ?_
                  refine Z_iload d_mo_apply_229 rfl ?_
                  refine Z_if_ge (tgt := 236) d_mo_apply_231 (by decide) (fun h231 => ?_) (fun h231 => ?_)
                  · skip
                    exact absurd h231 (by decide) -- end
                  · skip
                    skip
                    refine Zn_iconst (nI 5) d_mo_apply_234 (by decide) ?_
                    refine Z_iret d_mo_apply_235 rfl ?_
                    refine ⟨5, s, G, rfl, hF, ?_⟩
                    refine rAp_0 (by omega) (by omega) (by omega) (by omega) ?_
                    unfold rDo
                    rw [hlb]
                    exact ⟨rfl, rfl, rfl⟩
                · have hb9 := lbE_lt hlb
                  refine Z_goto (tgt := 227) d_mo_apply_218 (by decide) ?_
                  refine Zn_istore [some (.ref 123), some (.int (nI i)), some (.int (nI am)), some (.int (nI 1)), some (.int (nI p)), some (.int (nI p)), some (.int (nI b)), none] d_mo_apply_227 (by decide) rfl ?_
                  refine Z_iload d_mo_apply_229 rfl ?_
                  refine Z_if_ge (tgt := 236) d_mo_apply_231 (by decide) (fun h231 => ?_) (fun h231 => ?_)
                  · skip
                    skip
                    refine Z_aload_n d_mo_apply_236 rfl ?_
                    refine Z_iload_n d_mo_apply_237 rfl ?_
                    refine Zn_iconst (nI 1) d_mo_apply_238 (by decide) ?_
                    refine Zn_icmp_ne (a := 1) (b := 1) (tgt := 247) d_mo_apply_239 (by decide) (by decide) (by decide) (fun h => absurd h (by decide)) (fun _ => ?_)
                    refine Z_iload d_mo_apply_242 rfl ?_
                    refine Z_goto (tgt := 254) d_mo_apply_244 (by decide) ?_
                    refine Z_iload_n d_mo_apply_254 rfl ?_
                    refine Zn_iconst (nI 1) d_mo_apply_255 (by decide) ?_
                    refine Zn_icmp_ne (a := 1) (b := 1) (tgt := 271) d_mo_apply_256 (by decide) (by decide) (by decide) (fun h => absurd h (by decide)) (fun _ => ?_)
                    refine Z_aload_n d_mo_apply_259 rfl ?_
                    refine Z_get (v := .ref 135) d_mo_apply_260 lf_mo_43 hF.1 rfl ?_
                    refine Z_iload d_mo_apply_263 rfl ?_
                    refine Zn_iald d_mo_apply_265 hF.a11 (by omega) (by omega) ?_
                    refine Zn_iconst (nI 1) d_mo_apply_266 (by decide) ?_
                    refine Zn_iadd d_mo_apply_267 ?_
                    refine Z_goto (tgt := 278) d_mo_apply_268 (by decide) ?_
                    refine Z_iload d_mo_apply_278 rfl ?_
                    refine Z_aload_n d_mo_apply_280 rfl ?_
                    refine Z_get (v := .ref 132) d_mo_apply_281 lf_mo_34 hF.1 rfl ?_
                    refine Z_iload_n d_mo_apply_284 rfl ?_
                    refine Zn_iald d_mo_apply_285 hF.a8 (by omega) (by omega) ?_
                    refine Zn_bipush (-9) d_mo_apply_286 (by decide) ?_
                    refine Z_iload_n d_mo_apply_288 rfl ?_
                    refine zV (As := [.int (mI (p + 1)), .int (nI (G 11 p + 1)), .int (nI b), .int (nI (G 8 i)), .int (kI 0), .int (kI (am + 1))]) (by omega) d_mo_apply_289 lm_mo_161 hF.1 rfl rfl (Nat.le_of_ble_eq_true rfl) (mo_newNode_ok (d + 3) hF hN) (fun M1 v hq hlen => ?_)
                    obtain ⟨rfl, hF⟩ := hq
                    refine Zn_istore [some (.ref 123), some (.int (nI i)), some (.int (nI am)), some (.int (nI 1)), some (.int (nI p)), some (.int (nI p)), some (.int (nI b)), some (.int (nI (s 2)))] d_mo_apply_292 (by decide) rfl ?_
                    refine Zn_iconst (nI 0) d_mo_apply_294 (by decide) ?_
                    refine Z_iret d_mo_apply_295 rfl ?_
                    refine ⟨0, _, _, rfl, hF, ?_⟩
                    refine rAp_0 (by omega) (by omega) (by omega) (by omega) ?_
                    unfold rDo
                    rw [hlb]
                    exact ⟨rfl, rfl, by rw [hT]⟩
                  · skip
                    exact absurd (Int32.not_lt.mp (nI_pos (by omega))) h231 -- end
              · skip
                refine Zn_iconst (nI 4) d_mo_apply_142 (by decide) ?_
                refine Z_iret d_mo_apply_143 rfl ?_
                refine ⟨4, s, G, rfl, hF, ?_⟩
                exact rAp_4 (by omega) (by omega) (by omega) (by omega)
          · skip
            refine Zn_iconst (nI 2) d_mo_apply_79 (by decide) ?_
            refine Z_iret d_mo_apply_80 rfl ?_
            refine ⟨2, s, G, rfl, hF, ?_⟩
            exact rAp_2 (by omega)
      · skip
        exact absurd (Int32.not_lt.mp (nI_pos (by omega))) h54 -- end
set_option maxHeartbeats 4000000 in
theorem mo_apply_2 {Γ : zCtx} {M : List zE} (d : Nat) {M0 : List zE} {s : Nat → Nat} {G : Nat → Nat → Nat} (hF : FW M0 M s G) (hB : nB (s 2) G) (hC : ∀ v, v < s 2 → G 17 v ≠ 0 → chk (G 10) (s 2) 3 (v + 1)) (hcn : s 3 = cnt (G 17) (s 2)) (hN : s 2 < 160) {i am t l1 l2 l3 g1 g2 g3 : Nat} (hi : i < 128) (ham : am < 8) (hsl : slR G i 2 t l1 l2 l3 g1 g2 g3) : ZM Γ (d + 5) m_mo_apply [.ref 123, .int (nI i), .int (nI am)] M (fun M1 v => ∃ r s' G', v = some (.int (nI r)) ∧ FW M0 M1 s' G' ∧ rAp s G 2 (lkU G (s 2) l1 l2 l3) (lkU G (s 2) l1 l2 l3) t am r s' G') := by
  refine ZM.of mk_mo_apply (Nat.le_of_ble_eq_true rfl) ?_
  obtain ⟨hK, hT, e1, e2, e3, e4, e5, e6, hl, hg⟩ := hsl
  have h160 := hB.1
  rw [show zEn [.ref 123, .int (nI i), .int (nI am)] = [some (.ref 123), some (.int (nI i)), some (.int (nI am))] from rfl]
  refine zPad 5 ?_
  show Z _ _ _ _ _ _ _ [some (.ref 123), some (.int (nI i)), some (.int (nI am)), none, none, none, none, none] _ _
  refine Z_aload_n d_mo_apply_0 rfl ?_
  refine Z_get (v := .ref 131) d_mo_apply_1 lf_mo_31 hF.1 rfl ?_
  refine Z_iload_n d_mo_apply_4 rfl ?_
  refine Zn_iald d_mo_apply_5 hF.a7 (by omega) (by omega) ?_
  rw [hK]
  rw [mI_s]
  refine Zn_istore_n [some (.ref 123), some (.int (nI i)), some (.int (nI am)), some (.int (nI 2)), none, none, none, none] d_mo_apply_6 (by decide) rfl ?_
  refine Z_aload_n d_mo_apply_7 rfl ?_
  refine Z_aload_n d_mo_apply_8 rfl ?_
  refine Z_get (v := .ref 133) d_mo_apply_9 lf_mo_37 hF.1 rfl ?_
  refine Zn_bipush (nI 6) d_mo_apply_12 (by decide) ?_
  refine Z_iload_n d_mo_apply_14 rfl ?_
  refine Zn_imul d_mo_apply_15 ?_
  refine zVe (As := [.ref 133, .int (nI (6 * i))]) (by omega) d_mo_apply_16 lm_mo_288 hF.1 rfl rfl (Nat.le_of_ble_eq_true rfl) (mo_lookUp_ok (d + 2) hF hB hF.a9 (by omega) (by decide) e1 e2 e3 hl.1 hl.2.1 hl.2.2) ?_
  rcases ho : lkU G (s 2) l1 l2 l3 with _ | p
  · skip
    refine Zn_istore [some (.ref 123), some (.int (nI i)), some (.int (nI am)), some (.int (nI 2)), some (.int (-1)), none, none, none] d_mo_apply_19 (by decide) rfl ?_
    refine Z_iload_n d_mo_apply_21 rfl ?_
    refine Zn_iconst (nI 4) d_mo_apply_22 (by decide) ?_
    refine Zn_icmp_ne (a := 2) (b := 4) (tgt := 43) d_mo_apply_23 (by decide) (by decide) (by decide) (fun _ => ?_) (fun h => absurd h (by decide))
    refine Z_iload d_mo_apply_43 rfl ?_
    refine Zn_istore [some (.ref 123), some (.int (nI i)), some (.int (nI am)), some (.int (nI 2)), some (.int (-1)), some (.int (-1)), none, none] d_mo_apply_45 (by decide) rfl ?_
    refine Z_iload d_mo_apply_47 rfl ?_
    refine Z_if_lt (tgt := 57) d_mo_apply_49 (by decide) (fun h49 => ?_) (fun h49 => ?_)
    · skip
      skip
      refine Zn_iconst (nI 1) d_mo_apply_57 (by decide) ?_
      refine Z_iret d_mo_apply_58 rfl ?_
      refine ⟨1, s, G, rfl, hF, ?_⟩
      exact rAp_1 (Or.inl rfl)
    · skip
      exact absurd (by decide) h49 -- end
  · have hp2 := lkU_lt ho
    have hbp := hB.2 p hp2
    have hprp := lkU_pr ho
    refine Zn_istore [some (.ref 123), some (.int (nI i)), some (.int (nI am)), some (.int (nI 2)), some (.int (nI p)), none, none, none] d_mo_apply_19 (by decide) rfl ?_
    refine Z_iload_n d_mo_apply_21 rfl ?_
    refine Zn_iconst (nI 4) d_mo_apply_22 (by decide) ?_
    refine Zn_icmp_ne (a := 2) (b := 4) (tgt := 43) d_mo_apply_23 (by decide) (by decide) (by decide) (fun _ => ?_) (fun h => absurd h (by decide))
    refine Z_iload d_mo_apply_43 rfl ?_
    refine Zn_istore [some (.ref 123), some (.int (nI i)), some (.int (nI am)), some (.int (nI 2)), some (.int (nI p)), some (.int (nI p)), none, none] d_mo_apply_45 (by decide) rfl ?_
    refine Z_iload d_mo_apply_47 rfl ?_
    refine Z_if_lt (tgt := 57) d_mo_apply_49 (by decide) (fun h49 => ?_) (fun h49 => ?_)
    · skip
      exact absurd h49 (nI_pos (by omega)) -- end
    · skip
      skip
      refine Z_iload d_mo_apply_52 rfl ?_
      refine Z_if_ge (tgt := 59) d_mo_apply_54 (by decide) (fun h54 => ?_) (fun h54 => ?_)
      · skip
        skip
        refine Z_aload_n d_mo_apply_59 rfl ?_
        refine Z_get (v := .ref 140) d_mo_apply_60 lf_mo_58 hF.1 rfl ?_
        refine Z_iload d_mo_apply_63 rfl ?_
        refine Zn_zald d_mo_apply_65 hF.a16 (by omega) (by omega) ?_
        refine Zn_if_ne (tgt := 79) d_mo_apply_66 (by decide) (by omega) (fun h66 => ?_) (fun h66 => ?_)
        · skip
          refine Zn_iconst (nI 2) d_mo_apply_79 (by decide) ?_
          refine Z_iret d_mo_apply_80 rfl ?_
          refine ⟨2, s, G, rfl, hF, ?_⟩
          exact rAp_2 (by omega)
        · skip
          refine Z_aload_n d_mo_apply_69 rfl ?_
          refine Z_get (v := .ref 140) d_mo_apply_70 lf_mo_58 hF.1 rfl ?_
          refine Z_iload d_mo_apply_73 rfl ?_
          refine Zn_zald d_mo_apply_75 hF.a16 (by omega) (by omega) ?_
          refine Zn_if_eq (tgt := 81) d_mo_apply_76 (by decide) (by omega) (fun h76 => ?_) (fun h76 => ?_)
          · skip
            refine Z_iload_n d_mo_apply_81 rfl ?_
            refine Zn_iconst (nI 1) d_mo_apply_82 (by decide) ?_
            refine Zn_icmp_ne (a := 2) (b := 1) (tgt := 97) d_mo_apply_83 (by decide) (by decide) (by decide) (fun _ => ?_) (fun h => absurd h (by decide))
            refine Z_iload_n d_mo_apply_97 rfl ?_
            refine Zn_iconst (nI 4) d_mo_apply_98 (by decide) ?_
            refine Zn_icmp_ne (a := 2) (b := 4) (tgt := 128) d_mo_apply_99 (by decide) (by decide) (by decide) (fun _ => ?_) (fun h => absurd h (by decide))
            refine Z_iload_n d_mo_apply_128 rfl ?_
            refine Zn_iconst (nI 1) d_mo_apply_129 (by decide) ?_
            refine Zn_icmp_gt (a := 2) (b := 1) (tgt := 144) d_mo_apply_130 (by decide) (by decide) (by decide) (fun _ => ?_) (fun h => absurd h (by decide))
            refine Z_iload_n d_mo_apply_144 rfl ?_
            refine Zn_iconst (nI 2) d_mo_apply_145 (by decide) ?_
            refine Zn_icmp_ne (a := 2) (b := 2) (tgt := 165) d_mo_apply_146 (by decide) (by decide) (by decide) (fun h => absurd h (by decide)) (fun _ => ?_)
            refine Z_aload_n d_mo_apply_149 rfl ?_
            refine Z_get (v := .ref 137) d_mo_apply_150 lf_mo_49 hF.1 rfl ?_
            refine Z_iload d_mo_apply_153 rfl ?_
            refine Z_aload_n d_mo_apply_155 rfl ?_
            refine Z_get (v := .ref 132) d_mo_apply_156 lf_mo_34 hF.1 rfl ?_
            refine Z_iload_n d_mo_apply_159 rfl ?_
            refine Zn_iald d_mo_apply_160 hF.a8 (by omega) (by omega) ?_
            refine Zn_iast d_mo_apply_161 hF.a13 (by omega) (by omega) ?_
            replace hF := hF.p13 p (G 8 i)
            refine Z_goto (tgt := 294) d_mo_apply_162 (by decide) ?_
            refine Zn_iconst (nI 0) d_mo_apply_294 (by decide) ?_
            refine Z_iret d_mo_apply_295 rfl ?_
            refine ⟨0, _, _, rfl, hF, ?_⟩
            refine rAp_0 (by omega) (by omega) (by omega) (by omega) ?_
            exact ⟨rfl, rfl, by rw [hT]⟩
          · skip
            refine Zn_iconst (nI 2) d_mo_apply_79 (by decide) ?_
            refine Z_iret d_mo_apply_80 rfl ?_
            refine ⟨2, s, G, rfl, hF, ?_⟩
            exact rAp_2 (by omega)
      · skip
        exact absurd (Int32.not_lt.mp (nI_pos (by omega))) h54 -- end
set_option maxHeartbeats 4000000 in
theorem mo_apply_3 {Γ : zCtx} {M : List zE} (d : Nat) {M0 : List zE} {s : Nat → Nat} {G : Nat → Nat → Nat} (hF : FW M0 M s G) (hB : nB (s 2) G) (hC : ∀ v, v < s 2 → G 17 v ≠ 0 → chk (G 10) (s 2) 3 (v + 1)) (hcn : s 3 = cnt (G 17) (s 2)) (hN : s 2 < 160) {i am t l1 l2 l3 g1 g2 g3 : Nat} (hi : i < 128) (ham : am < 8) (hsl : slR G i 3 t l1 l2 l3 g1 g2 g3) : ZM Γ (d + 5) m_mo_apply [.ref 123, .int (nI i), .int (nI am)] M (fun M1 v => ∃ r s' G', v = some (.int (nI r)) ∧ FW M0 M1 s' G' ∧ rAp s G 3 (lkU G (s 2) l1 l2 l3) (lkU G (s 2) l1 l2 l3) t am r s' G') := by
  refine ZM.of mk_mo_apply (Nat.le_of_ble_eq_true rfl) ?_
  obtain ⟨hK, hT, e1, e2, e3, e4, e5, e6, hl, hg⟩ := hsl
  have h160 := hB.1
  rw [show zEn [.ref 123, .int (nI i), .int (nI am)] = [some (.ref 123), some (.int (nI i)), some (.int (nI am))] from rfl]
  refine zPad 5 ?_
  show Z _ _ _ _ _ _ _ [some (.ref 123), some (.int (nI i)), some (.int (nI am)), none, none, none, none, none] _ _
  refine Z_aload_n d_mo_apply_0 rfl ?_
  refine Z_get (v := .ref 131) d_mo_apply_1 lf_mo_31 hF.1 rfl ?_
  refine Z_iload_n d_mo_apply_4 rfl ?_
  refine Zn_iald d_mo_apply_5 hF.a7 (by omega) (by omega) ?_
  rw [hK]
  rw [mI_s]
  refine Zn_istore_n [some (.ref 123), some (.int (nI i)), some (.int (nI am)), some (.int (nI 3)), none, none, none, none] d_mo_apply_6 (by decide) rfl ?_
  refine Z_aload_n d_mo_apply_7 rfl ?_
  refine Z_aload_n d_mo_apply_8 rfl ?_
  refine Z_get (v := .ref 133) d_mo_apply_9 lf_mo_37 hF.1 rfl ?_
  refine Zn_bipush (nI 6) d_mo_apply_12 (by decide) ?_
  refine Z_iload_n d_mo_apply_14 rfl ?_
  refine Zn_imul d_mo_apply_15 ?_
  refine zVe (As := [.ref 133, .int (nI (6 * i))]) (by omega) d_mo_apply_16 lm_mo_288 hF.1 rfl rfl (Nat.le_of_ble_eq_true rfl) (mo_lookUp_ok (d + 2) hF hB hF.a9 (by omega) (by decide) e1 e2 e3 hl.1 hl.2.1 hl.2.2) ?_
  rcases ho : lkU G (s 2) l1 l2 l3 with _ | p
  · skip
    refine Zn_istore [some (.ref 123), some (.int (nI i)), some (.int (nI am)), some (.int (nI 3)), some (.int (-1)), none, none, none] d_mo_apply_19 (by decide) rfl ?_
    refine Z_iload_n d_mo_apply_21 rfl ?_
    refine Zn_iconst (nI 4) d_mo_apply_22 (by decide) ?_
    refine Zn_icmp_ne (a := 3) (b := 4) (tgt := 43) d_mo_apply_23 (by decide) (by decide) (by decide) (fun _ => ?_) (fun h => absurd h (by decide))
    refine Z_iload d_mo_apply_43 rfl ?_
    refine Zn_istore [some (.ref 123), some (.int (nI i)), some (.int (nI am)), some (.int (nI 3)), some (.int (-1)), some (.int (-1)), none, none] d_mo_apply_45 (by decide) rfl ?_
    refine Z_iload d_mo_apply_47 rfl ?_
    refine Z_if_lt (tgt := 57) d_mo_apply_49 (by decide) (fun h49 => ?_) (fun h49 => ?_)
    · skip
      skip
      refine Zn_iconst (nI 1) d_mo_apply_57 (by decide) ?_
      refine Z_iret d_mo_apply_58 rfl ?_
      refine ⟨1, s, G, rfl, hF, ?_⟩
      exact rAp_1 (Or.inl rfl)
    · skip
      exact absurd (by decide) h49 -- end
  · have hp2 := lkU_lt ho
    have hbp := hB.2 p hp2
    have hprp := lkU_pr ho
    refine Zn_istore [some (.ref 123), some (.int (nI i)), some (.int (nI am)), some (.int (nI 3)), some (.int (nI p)), none, none, none] d_mo_apply_19 (by decide) rfl ?_
    refine Z_iload_n d_mo_apply_21 rfl ?_
    refine Zn_iconst (nI 4) d_mo_apply_22 (by decide) ?_
    refine Zn_icmp_ne (a := 3) (b := 4) (tgt := 43) d_mo_apply_23 (by decide) (by decide) (by decide) (fun _ => ?_) (fun h => absurd h (by decide))
    refine Z_iload d_mo_apply_43 rfl ?_
    refine Zn_istore [some (.ref 123), some (.int (nI i)), some (.int (nI am)), some (.int (nI 3)), some (.int (nI p)), some (.int (nI p)), none, none] d_mo_apply_45 (by decide) rfl ?_
    refine Z_iload d_mo_apply_47 rfl ?_
    refine Z_if_lt (tgt := 57) d_mo_apply_49 (by decide) (fun h49 => ?_) (fun h49 => ?_)
    · skip
      exact absurd h49 (nI_pos (by omega)) -- end
    · skip
      skip
      refine Z_iload d_mo_apply_52 rfl ?_
      refine Z_if_ge (tgt := 59) d_mo_apply_54 (by decide) (fun h54 => ?_) (fun h54 => ?_)
      · skip
        skip
        refine Z_aload_n d_mo_apply_59 rfl ?_
        refine Z_get (v := .ref 140) d_mo_apply_60 lf_mo_58 hF.1 rfl ?_
        refine Z_iload d_mo_apply_63 rfl ?_
        refine Zn_zald d_mo_apply_65 hF.a16 (by omega) (by omega) ?_
        refine Zn_if_ne (tgt := 79) d_mo_apply_66 (by decide) (by omega) (fun h66 => ?_) (fun h66 => ?_)
        · skip
          refine Zn_iconst (nI 2) d_mo_apply_79 (by decide) ?_
          refine Z_iret d_mo_apply_80 rfl ?_
          refine ⟨2, s, G, rfl, hF, ?_⟩
          exact rAp_2 (by omega)
        · skip
          refine Z_aload_n d_mo_apply_69 rfl ?_
          refine Z_get (v := .ref 140) d_mo_apply_70 lf_mo_58 hF.1 rfl ?_
          refine Z_iload d_mo_apply_73 rfl ?_
          refine Zn_zald d_mo_apply_75 hF.a16 (by omega) (by omega) ?_
          refine Zn_if_eq (tgt := 81) d_mo_apply_76 (by decide) (by omega) (fun h76 => ?_) (fun h76 => ?_)
          · skip
            refine Z_iload_n d_mo_apply_81 rfl ?_
            refine Zn_iconst (nI 1) d_mo_apply_82 (by decide) ?_
            refine Zn_icmp_ne (a := 3) (b := 1) (tgt := 97) d_mo_apply_83 (by decide) (by decide) (by decide) (fun _ => ?_) (fun h => absurd h (by decide))
            refine Z_iload_n d_mo_apply_97 rfl ?_
            refine Zn_iconst (nI 4) d_mo_apply_98 (by decide) ?_
            refine Zn_icmp_ne (a := 3) (b := 4) (tgt := 128) d_mo_apply_99 (by decide) (by decide) (by decide) (fun _ => ?_) (fun h => absurd h (by decide))
            refine Z_iload_n d_mo_apply_128 rfl ?_
            refine Zn_iconst (nI 1) d_mo_apply_129 (by decide) ?_
            refine Zn_icmp_gt (a := 3) (b := 1) (tgt := 144) d_mo_apply_130 (by decide) (by decide) (by decide) (fun _ => ?_) (fun h => absurd h (by decide))
            refine Z_iload_n d_mo_apply_144 rfl ?_
            refine Zn_iconst (nI 2) d_mo_apply_145 (by decide) ?_
            refine Zn_icmp_ne (a := 3) (b := 2) (tgt := 165) d_mo_apply_146 (by decide) (by decide) (by decide) (fun _ => ?_) (fun h => absurd h (by decide))
            refine Z_iload_n d_mo_apply_165 rfl ?_
            refine Zn_iconst (nI 3) d_mo_apply_166 (by decide) ?_
            refine Zn_icmp_ne (a := 3) (b := 3) (tgt := 179) d_mo_apply_167 (by decide) (by decide) (by decide) (fun h => absurd h (by decide)) (fun _ => ?_)
            refine Z_aload_n d_mo_apply_170 rfl ?_
            refine Z_iload d_mo_apply_171 rfl ?_
            refine zV (As := [.int (nI p)]) (by omega) d_mo_apply_173 lm_mo_292 hF.1 rfl rfl (Nat.le_of_ble_eq_true rfl) (mo_repeal_ok (d + 2) hF hB hC (by omega)) (fun M1 v hq hlen => ?_)
            obtain ⟨rfl, G2, hF, hri⟩ := hq
            refine Z_goto (tgt := 294) d_mo_apply_176 (by decide) ?_
            refine Zn_iconst (nI 0) d_mo_apply_294 (by decide) ?_
            refine Z_iret d_mo_apply_295 rfl ?_
            refine ⟨0, _, _, rfl, hF, ?_⟩
            refine rAp_0 (by omega) (by omega) (by omega) (by omega) ?_
            exact ⟨rfl, rfl, hri⟩
          · skip
            refine Zn_iconst (nI 2) d_mo_apply_79 (by decide) ?_
            refine Z_iret d_mo_apply_80 rfl ?_
            refine ⟨2, s, G, rfl, hF, ?_⟩
            exact rAp_2 (by omega)
      · skip
        exact absurd (Int32.not_lt.mp (nI_pos (by omega))) h54 -- end
set_option maxHeartbeats 4000000 in
theorem mo_apply_4 {Γ : zCtx} {M : List zE} (d : Nat) {M0 : List zE} {s : Nat → Nat} {G : Nat → Nat → Nat} (hF : FW M0 M s G) (hB : nB (s 2) G) (hC : ∀ v, v < s 2 → G 17 v ≠ 0 → chk (G 10) (s 2) 3 (v + 1)) (hcn : s 3 = cnt (G 17) (s 2)) (hN : s 2 < 160) {i am t l1 l2 l3 g1 g2 g3 : Nat} (hi : i < 128) (ham : am < 8) (hsl : slR G i 4 t l1 l2 l3 g1 g2 g3) : ZM Γ (d + 5) m_mo_apply [.ref 123, .int (nI i), .int (nI am)] M (fun M1 v => ∃ r s' G', v = some (.int (nI r)) ∧ FW M0 M1 s' G' ∧ rAp s G 4 (lkU G (s 2) l1 l2 l3) (lkU G (s 2) g1 g2 g3) t am r s' G') := by
  refine ZM.of mk_mo_apply (Nat.le_of_ble_eq_true rfl) ?_
  obtain ⟨hK, hT, e1, e2, e3, e4, e5, e6, hl, hg⟩ := hsl
  have h160 := hB.1
  rw [show zEn [.ref 123, .int (nI i), .int (nI am)] = [some (.ref 123), some (.int (nI i)), some (.int (nI am))] from rfl]
  refine zPad 5 ?_
  show Z _ _ _ _ _ _ _ [some (.ref 123), some (.int (nI i)), some (.int (nI am)), none, none, none, none, none] _ _
  refine Z_aload_n d_mo_apply_0 rfl ?_
  refine Z_get (v := .ref 131) d_mo_apply_1 lf_mo_31 hF.1 rfl ?_
  refine Z_iload_n d_mo_apply_4 rfl ?_
  refine Zn_iald d_mo_apply_5 hF.a7 (by omega) (by omega) ?_
  rw [hK]
  rw [mI_s]
  refine Zn_istore_n [some (.ref 123), some (.int (nI i)), some (.int (nI am)), some (.int (nI 4)), none, none, none, none] d_mo_apply_6 (by decide) rfl ?_
  refine Z_aload_n d_mo_apply_7 rfl ?_
  refine Z_aload_n d_mo_apply_8 rfl ?_
  refine Z_get (v := .ref 133) d_mo_apply_9 lf_mo_37 hF.1 rfl ?_
  refine Zn_bipush (nI 6) d_mo_apply_12 (by decide) ?_
  refine Z_iload_n d_mo_apply_14 rfl ?_
  refine Zn_imul d_mo_apply_15 ?_
  refine zVe (As := [.ref 133, .int (nI (6 * i))]) (by omega) d_mo_apply_16 lm_mo_288 hF.1 rfl rfl (Nat.le_of_ble_eq_true rfl) (mo_lookUp_ok (d + 2) hF hB hF.a9 (by omega) (by decide) e1 e2 e3 hl.1 hl.2.1 hl.2.2) ?_
  rcases ho : lkU G (s 2) l1 l2 l3 with _ | p
  · skip
    refine Zn_istore [some (.ref 123), some (.int (nI i)), some (.int (nI am)), some (.int (nI 4)), some (.int (-1)), none, none, none] d_mo_apply_19 (by decide) rfl ?_
    refine Z_iload_n d_mo_apply_21 rfl ?_
    refine Zn_iconst (nI 4) d_mo_apply_22 (by decide) ?_
    refine Zn_icmp_ne (a := 4) (b := 4) (tgt := 43) d_mo_apply_23 (by decide) (by decide) (by decide) (fun h => absurd h (by decide)) (fun _ => ?_)
    refine Z_aload_n d_mo_apply_26 rfl ?_
    refine Z_aload_n d_mo_apply_27 rfl ?_
    refine Z_get (v := .ref 133) d_mo_apply_28 lf_mo_37 hF.1 rfl ?_
    refine Zn_bipush (nI 6) d_mo_apply_31 (by decide) ?_
    refine Z_iload_n d_mo_apply_33 rfl ?_
    refine Zn_imul d_mo_apply_34 ?_
    refine Zn_iconst (nI 3) d_mo_apply_35 (by decide) ?_
    refine Zn_iadd d_mo_apply_36 ?_
    refine zVe (As := [.ref 133, .int (nI (6 * i + 3))]) (by omega) d_mo_apply_37 lm_mo_288 hF.1 rfl rfl (Nat.le_of_ble_eq_true rfl) (mo_lookUp_ok (d + 2) hF hB hF.a9 (by omega) (by decide) e4 e5 e6 hg.1 hg.2.1 hg.2.2) ?_
    rcases ho2 : lkU G (s 2) g1 g2 g3 with _ | q
    · skip
      refine Z_goto (tgt := 45) d_mo_apply_40 (by decide) ?_
      refine Zn_istore [some (.ref 123), some (.int (nI i)), some (.int (nI am)), some (.int (nI 4)), some (.int (-1)), some (.int (-1)), none, none] d_mo_apply_45 (by decide) rfl ?_
      refine Z_iload d_mo_apply_47 rfl ?_
      refine Z_if_lt (tgt := 57) d_mo_apply_49 (by decide) (fun h49 => ?_) (fun h49 => ?_)
      · skip
        skip
        refine Zn_iconst (nI 1) d_mo_apply_57 (by decide) ?_
        refine Z_iret d_mo_apply_58 rfl ?_
        refine ⟨1, s, G, rfl, hF, ?_⟩
        exact rAp_1 (Or.inl rfl)
      · skip
        exact absurd (by decide) h49 -- end
    · have hq2 := lkU_lt ho2
      have hbq := hB.2 q hq2
      have hprq := lkU_pr ho2
      refine Z_goto (tgt := 45) d_mo_apply_40 (by decide) ?_
      refine Zn_istore [some (.ref 123), some (.int (nI i)), some (.int (nI am)), some (.int (nI 4)), some (.int (-1)), some (.int (nI q)), none, none] d_mo_apply_45 (by decide) rfl ?_
      refine Z_iload d_mo_apply_47 rfl ?_
      refine Z_if_lt (tgt := 57) d_mo_apply_49 (by decide) (fun h49 => ?_) (fun h49 => ?_)
      · skip
        skip
        refine Zn_iconst (nI 1) d_mo_apply_57 (by decide) ?_
        refine Z_iret d_mo_apply_58 rfl ?_
        refine ⟨1, s, G, rfl, hF, ?_⟩
        exact rAp_1 (Or.inl rfl)
      · skip
        exact absurd (by decide) h49 -- end
  · have hp2 := lkU_lt ho
    have hbp := hB.2 p hp2
    have hprp := lkU_pr ho
    refine Zn_istore [some (.ref 123), some (.int (nI i)), some (.int (nI am)), some (.int (nI 4)), some (.int (nI p)), none, none, none] d_mo_apply_19 (by decide) rfl ?_
    refine Z_iload_n d_mo_apply_21 rfl ?_
    refine Zn_iconst (nI 4) d_mo_apply_22 (by decide) ?_
    refine Zn_icmp_ne (a := 4) (b := 4) (tgt := 43) d_mo_apply_23 (by decide) (by decide) (by decide) (fun h => absurd h (by decide)) (fun _ => ?_)
    refine Z_aload_n d_mo_apply_26 rfl ?_
    refine Z_aload_n d_mo_apply_27 rfl ?_
    refine Z_get (v := .ref 133) d_mo_apply_28 lf_mo_37 hF.1 rfl ?_
    refine Zn_bipush (nI 6) d_mo_apply_31 (by decide) ?_
    refine Z_iload_n d_mo_apply_33 rfl ?_
    refine Zn_imul d_mo_apply_34 ?_
    refine Zn_iconst (nI 3) d_mo_apply_35 (by decide) ?_
    refine Zn_iadd d_mo_apply_36 ?_
    refine zVe (As := [.ref 133, .int (nI (6 * i + 3))]) (by omega) d_mo_apply_37 lm_mo_288 hF.1 rfl rfl (Nat.le_of_ble_eq_true rfl) (mo_lookUp_ok (d + 2) hF hB hF.a9 (by omega) (by decide) e4 e5 e6 hg.1 hg.2.1 hg.2.2) ?_
    rcases ho2 : lkU G (s 2) g1 g2 g3 with _ | q
    · skip
      refine Z_goto (tgt := 45) d_mo_apply_40 (by decide) ?_
      refine Zn_istore [some (.ref 123), some (.int (nI i)), some (.int (nI am)), some (.int (nI 4)), some (.int (nI p)), some (.int (-1)), none, none] d_mo_apply_45 (by decide) rfl ?_
      refine Z_iload d_mo_apply_47 rfl ?_
      refine Z_if_lt (tgt := 57) d_mo_apply_49 (by decide) (fun h49 => ?_) (fun h49 => ?_)
      · skip
        exact absurd h49 (nI_pos (by omega)) -- end
      · skip
        skip
        refine Z_iload d_mo_apply_52 rfl ?_
        refine Z_if_ge (tgt := 59) d_mo_apply_54 (by decide) (fun h54 => ?_) (fun h54 => ?_)
        · skip
          exact absurd h54 (by decide) -- end
        · skip
          skip
          refine Zn_iconst (nI 1) d_mo_apply_57 (by decide) ?_
          refine Z_iret d_mo_apply_58 rfl ?_
          refine ⟨1, s, G, rfl, hF, ?_⟩
          exact rAp_1 (Or.inr rfl)
    · have hq2 := lkU_lt ho2
      have hbq := hB.2 q hq2
      have hprq := lkU_pr ho2
      refine Z_goto (tgt := 45) d_mo_apply_40 (by decide) ?_
      refine Zn_istore [some (.ref 123), some (.int (nI i)), some (.int (nI am)), some (.int (nI 4)), some (.int (nI p)), some (.int (nI q)), none, none] d_mo_apply_45 (by decide) rfl ?_
      refine Z_iload d_mo_apply_47 rfl ?_
      refine Z_if_lt (tgt := 57) d_mo_apply_49 (by decide) (fun h49 => ?_) (fun h49 => ?_)
      · skip
        exact absurd h49 (nI_pos (by omega)) -- end
      · skip
        skip
        refine Z_iload d_mo_apply_52 rfl ?_
        refine Z_if_ge (tgt := 59) d_mo_apply_54 (by decide) (fun h54 => ?_) (fun h54 => ?_)
        · skip
          skip
          refine Z_aload_n d_mo_apply_59 rfl ?_
          refine Z_get (v := .ref 140) d_mo_apply_60 lf_mo_58 hF.1 rfl ?_
          refine Z_iload d_mo_apply_63 rfl ?_
          refine Zn_zald d_mo_apply_65 hF.a16 (by omega) (by omega) ?_
          refine Zn_if_ne (tgt := 79) d_mo_apply_66 (by decide) (by omega) (fun h66 => ?_) (fun h66 => ?_)
          · skip
            refine Zn_iconst (nI 2) d_mo_apply_79 (by decide) ?_
            refine Z_iret d_mo_apply_80 rfl ?_
            refine ⟨2, s, G, rfl, hF, ?_⟩
            exact rAp_2 (by omega)
          · skip
            refine Z_aload_n d_mo_apply_69 rfl ?_
            refine Z_get (v := .ref 140) d_mo_apply_70 lf_mo_58 hF.1 rfl ?_
            refine Z_iload d_mo_apply_73 rfl ?_
            refine Zn_zald d_mo_apply_75 hF.a16 (by omega) (by omega) ?_
            refine Zn_if_eq (tgt := 81) d_mo_apply_76 (by decide) (by omega) (fun h76 => ?_) (fun h76 => ?_)
            · skip
              refine Z_iload_n d_mo_apply_81 rfl ?_
              refine Zn_iconst (nI 1) d_mo_apply_82 (by decide) ?_
              refine Zn_icmp_ne (a := 4) (b := 1) (tgt := 97) d_mo_apply_83 (by decide) (by decide) (by decide) (fun _ => ?_) (fun h => absurd h (by decide))
              refine Z_iload_n d_mo_apply_97 rfl ?_
              refine Zn_iconst (nI 4) d_mo_apply_98 (by decide) ?_
              refine Zn_icmp_ne (a := 4) (b := 4) (tgt := 128) d_mo_apply_99 (by decide) (by decide) (by decide) (fun h => absurd h (by decide)) (fun _ => ?_)
              refine Z_aload_n d_mo_apply_102 rfl ?_
              refine Z_get (v := .ref 135) d_mo_apply_103 lf_mo_43 hF.1 rfl ?_
              refine Z_iload d_mo_apply_106 rfl ?_
              refine Zn_iald d_mo_apply_108 hF.a11 (by omega) (by omega) ?_
              refine Z_aload_n d_mo_apply_109 rfl ?_
              refine Z_get (v := .ref 135) d_mo_apply_110 lf_mo_43 hF.1 rfl ?_
              refine Z_iload d_mo_apply_113 rfl ?_
              refine Zn_iald d_mo_apply_115 hF.a11 (by omega) (by omega) ?_
              refine Zn_icmp_ne (tgt := 126) d_mo_apply_116 (by decide) (by omega) (by omega) (fun h116 => ?_) (fun h116 => ?_)
              · skip
                refine Zn_iconst (nI 3) d_mo_apply_126 (by decide) ?_
                refine Z_iret d_mo_apply_127 rfl ?_
                refine ⟨3, s, G, rfl, hF, ?_⟩
                exact rAp_3 (by omega) (by omega) (by omega)
              · skip
                refine Z_iload d_mo_apply_119 rfl ?_
                refine Z_iload d_mo_apply_121 rfl ?_
                refine Zn_icmp_ne (tgt := 128) d_mo_apply_123 (by decide) (by omega) (by omega) (fun h123 => ?_) (fun h123 => ?_)
                · skip
                  refine Z_iload_n d_mo_apply_128 rfl ?_
                  refine Zn_iconst (nI 1) d_mo_apply_129 (by decide) ?_
                  refine Zn_icmp_gt (a := 4) (b := 1) (tgt := 144) d_mo_apply_130 (by decide) (by decide) (by decide) (fun _ => ?_) (fun h => absurd h (by decide))
                  refine Z_iload_n d_mo_apply_144 rfl ?_
                  refine Zn_iconst (nI 2) d_mo_apply_145 (by decide) ?_
                  refine Zn_icmp_ne (a := 4) (b := 2) (tgt := 165) d_mo_apply_146 (by decide) (by decide) (by decide) (fun _ => ?_) (fun h => absurd h (by decide))
                  refine Z_iload_n d_mo_apply_165 rfl ?_
                  refine Zn_iconst (nI 3) d_mo_apply_166 (by decide) ?_
                  refine Zn_icmp_ne (a := 4) (b := 3) (tgt := 179) d_mo_apply_167 (by decide) (by decide) (by decide) (fun _ => ?_) (fun h => absurd h (by decide))
                  refine Z_iload_n d_mo_apply_179 rfl ?_
                  refine Zn_iconst (nI 5) d_mo_apply_180 (by decide) ?_
                  refine Zn_icmp_ne (a := 4) (b := 5) (tgt := 193) d_mo_apply_181 (by decide) (by decide) (by decide) (fun _ => ?_) (fun h => absurd h (by decide))
                  refine Z_iload_n d_mo_apply_193 rfl ?_
                  refine Zn_iconst (nI 4) d_mo_apply_194 (by decide) ?_
                  refine Zn_icmp_ne (a := 4) (b := 4) (tgt := 207) d_mo_apply_195 (by decide) (by decide) (by decide) (fun h => absurd h (by decide)) (fun _ => ?_)
                  refine Z_aload_n d_mo_apply_198 rfl ?_
                  refine Z_iload d_mo_apply_199 rfl ?_
                  refine Z_iload d_mo_apply_201 rfl ?_
                  refine zV (As := [.int (nI p), .int (nI q)]) (by omega) d_mo_apply_203 lm_mo_298 hF.1 rfl rfl (Nat.le_of_ble_eq_true rfl) (mo_move_ok (d + 0) hF hB hp2 hq2 (by omega)) (fun M1 v hq hlen => ?_)
                  obtain ⟨r, G2, rfl, hF, hmv⟩ := hq
                  refine Z_iret d_mo_apply_206 rfl ?_
                  refine ⟨r, _, _, rfl, hF, ?_⟩
                  refine rAp_0 (by omega) (by omega) (by omega) (by omega) ?_
                  exact ⟨rfl, hmv⟩
                · skip
                  refine Zn_iconst (nI 3) d_mo_apply_126 (by decide) ?_
                  refine Z_iret d_mo_apply_127 rfl ?_
                  refine ⟨3, s, G, rfl, hF, ?_⟩
                  exact rAp_3 (by omega) (by omega) (by omega)
            · skip
              refine Zn_iconst (nI 2) d_mo_apply_79 (by decide) ?_
              refine Z_iret d_mo_apply_80 rfl ?_
              refine ⟨2, s, G, rfl, hF, ?_⟩
              exact rAp_2 (by omega)
        · skip
          exact absurd (Int32.not_lt.mp (nI_pos (by omega))) h54 -- end
set_option maxHeartbeats 4000000 in
theorem mo_apply_5 {Γ : zCtx} {M : List zE} (d : Nat) {M0 : List zE} {s : Nat → Nat} {G : Nat → Nat → Nat} (hF : FW M0 M s G) (hB : nB (s 2) G) (hC : ∀ v, v < s 2 → G 17 v ≠ 0 → chk (G 10) (s 2) 3 (v + 1)) (hcn : s 3 = cnt (G 17) (s 2)) (hN : s 2 < 160) {i am t l1 l2 l3 g1 g2 g3 : Nat} (hi : i < 128) (ham : am < 8) (hsl : slR G i 5 t l1 l2 l3 g1 g2 g3) : ZM Γ (d + 5) m_mo_apply [.ref 123, .int (nI i), .int (nI am)] M (fun M1 v => ∃ r s' G', v = some (.int (nI r)) ∧ FW M0 M1 s' G' ∧ rAp s G 5 (lkU G (s 2) l1 l2 l3) (lkU G (s 2) l1 l2 l3) t am r s' G') := by
  refine ZM.of mk_mo_apply (Nat.le_of_ble_eq_true rfl) ?_
  obtain ⟨hK, hT, e1, e2, e3, e4, e5, e6, hl, hg⟩ := hsl
  have h160 := hB.1
  rw [show zEn [.ref 123, .int (nI i), .int (nI am)] = [some (.ref 123), some (.int (nI i)), some (.int (nI am))] from rfl]
  refine zPad 5 ?_
  show Z _ _ _ _ _ _ _ [some (.ref 123), some (.int (nI i)), some (.int (nI am)), none, none, none, none, none] _ _
  refine Z_aload_n d_mo_apply_0 rfl ?_
  refine Z_get (v := .ref 131) d_mo_apply_1 lf_mo_31 hF.1 rfl ?_
  refine Z_iload_n d_mo_apply_4 rfl ?_
  refine Zn_iald d_mo_apply_5 hF.a7 (by omega) (by omega) ?_
  rw [hK]
  rw [mI_s]
  refine Zn_istore_n [some (.ref 123), some (.int (nI i)), some (.int (nI am)), some (.int (nI 5)), none, none, none, none] d_mo_apply_6 (by decide) rfl ?_
  refine Z_aload_n d_mo_apply_7 rfl ?_
  refine Z_aload_n d_mo_apply_8 rfl ?_
  refine Z_get (v := .ref 133) d_mo_apply_9 lf_mo_37 hF.1 rfl ?_
  refine Zn_bipush (nI 6) d_mo_apply_12 (by decide) ?_
  refine Z_iload_n d_mo_apply_14 rfl ?_
  refine Zn_imul d_mo_apply_15 ?_
  refine zVe (As := [.ref 133, .int (nI (6 * i))]) (by omega) d_mo_apply_16 lm_mo_288 hF.1 rfl rfl (Nat.le_of_ble_eq_true rfl) (mo_lookUp_ok (d + 2) hF hB hF.a9 (by omega) (by decide) e1 e2 e3 hl.1 hl.2.1 hl.2.2) ?_
  rcases ho : lkU G (s 2) l1 l2 l3 with _ | p
  · skip
    refine Zn_istore [some (.ref 123), some (.int (nI i)), some (.int (nI am)), some (.int (nI 5)), some (.int (-1)), none, none, none] d_mo_apply_19 (by decide) rfl ?_
    refine Z_iload_n d_mo_apply_21 rfl ?_
    refine Zn_iconst (nI 4) d_mo_apply_22 (by decide) ?_
    refine Zn_icmp_ne (a := 5) (b := 4) (tgt := 43) d_mo_apply_23 (by decide) (by decide) (by decide) (fun _ => ?_) (fun h => absurd h (by decide))
    refine Z_iload d_mo_apply_43 rfl ?_
    refine Zn_istore [some (.ref 123), some (.int (nI i)), some (.int (nI am)), some (.int (nI 5)), some (.int (-1)), some (.int (-1)), none, none] d_mo_apply_45 (by decide) rfl ?_
    refine Z_iload d_mo_apply_47 rfl ?_
    refine Z_if_lt (tgt := 57) d_mo_apply_49 (by decide) (fun h49 => ?_) (fun h49 => ?_)
    · skip
      skip
      refine Zn_iconst (nI 1) d_mo_apply_57 (by decide) ?_
      refine Z_iret d_mo_apply_58 rfl ?_
      refine ⟨1, s, G, rfl, hF, ?_⟩
      exact rAp_1 (Or.inl rfl)
    · skip
      exact absurd (by decide) h49 -- end
  · have hp2 := lkU_lt ho
    have hbp := hB.2 p hp2
    have hprp := lkU_pr ho
    refine Zn_istore [some (.ref 123), some (.int (nI i)), some (.int (nI am)), some (.int (nI 5)), some (.int (nI p)), none, none, none] d_mo_apply_19 (by decide) rfl ?_
    refine Z_iload_n d_mo_apply_21 rfl ?_
    refine Zn_iconst (nI 4) d_mo_apply_22 (by decide) ?_
    refine Zn_icmp_ne (a := 5) (b := 4) (tgt := 43) d_mo_apply_23 (by decide) (by decide) (by decide) (fun _ => ?_) (fun h => absurd h (by decide))
    refine Z_iload d_mo_apply_43 rfl ?_
    refine Zn_istore [some (.ref 123), some (.int (nI i)), some (.int (nI am)), some (.int (nI 5)), some (.int (nI p)), some (.int (nI p)), none, none] d_mo_apply_45 (by decide) rfl ?_
    refine Z_iload d_mo_apply_47 rfl ?_
    refine Z_if_lt (tgt := 57) d_mo_apply_49 (by decide) (fun h49 => ?_) (fun h49 => ?_)
    · skip
      exact absurd h49 (nI_pos (by omega)) -- end
    · skip
      skip
      refine Z_iload d_mo_apply_52 rfl ?_
      refine Z_if_ge (tgt := 59) d_mo_apply_54 (by decide) (fun h54 => ?_) (fun h54 => ?_)
      · skip
        skip
        refine Z_aload_n d_mo_apply_59 rfl ?_
        refine Z_get (v := .ref 140) d_mo_apply_60 lf_mo_58 hF.1 rfl ?_
        refine Z_iload d_mo_apply_63 rfl ?_
        refine Zn_zald d_mo_apply_65 hF.a16 (by omega) (by omega) ?_
        refine Zn_if_ne (tgt := 79) d_mo_apply_66 (by decide) (by omega) (fun h66 => ?_) (fun h66 => ?_)
        · skip
          refine Zn_iconst (nI 2) d_mo_apply_79 (by decide) ?_
          refine Z_iret d_mo_apply_80 rfl ?_
          refine ⟨2, s, G, rfl, hF, ?_⟩
          exact rAp_2 (by omega)
        · skip
          refine Z_aload_n d_mo_apply_69 rfl ?_
          refine Z_get (v := .ref 140) d_mo_apply_70 lf_mo_58 hF.1 rfl ?_
          refine Z_iload d_mo_apply_73 rfl ?_
          refine Zn_zald d_mo_apply_75 hF.a16 (by omega) (by omega) ?_
          refine Zn_if_eq (tgt := 81) d_mo_apply_76 (by decide) (by omega) (fun h76 => ?_) (fun h76 => ?_)
          · skip
            refine Z_iload_n d_mo_apply_81 rfl ?_
            refine Zn_iconst (nI 1) d_mo_apply_82 (by decide) ?_
            refine Zn_icmp_ne (a := 5) (b := 1) (tgt := 97) d_mo_apply_83 (by decide) (by decide) (by decide) (fun _ => ?_) (fun h => absurd h (by decide))
            refine Z_iload_n d_mo_apply_97 rfl ?_
            refine Zn_iconst (nI 4) d_mo_apply_98 (by decide) ?_
            refine Zn_icmp_ne (a := 5) (b := 4) (tgt := 128) d_mo_apply_99 (by decide) (by decide) (by decide) (fun _ => ?_) (fun h => absurd h (by decide))
            refine Z_iload_n d_mo_apply_128 rfl ?_
            refine Zn_iconst (nI 1) d_mo_apply_129 (by decide) ?_
            refine Zn_icmp_gt (a := 5) (b := 1) (tgt := 144) d_mo_apply_130 (by decide) (by decide) (by decide) (fun _ => ?_) (fun h => absurd h (by decide))
            refine Z_iload_n d_mo_apply_144 rfl ?_
            refine Zn_iconst (nI 2) d_mo_apply_145 (by decide) ?_
            refine Zn_icmp_ne (a := 5) (b := 2) (tgt := 165) d_mo_apply_146 (by decide) (by decide) (by decide) (fun _ => ?_) (fun h => absurd h (by decide))
            refine Z_iload_n d_mo_apply_165 rfl ?_
            refine Zn_iconst (nI 3) d_mo_apply_166 (by decide) ?_
            refine Zn_icmp_ne (a := 5) (b := 3) (tgt := 179) d_mo_apply_167 (by decide) (by decide) (by decide) (fun _ => ?_) (fun h => absurd h (by decide))
            refine Z_iload_n d_mo_apply_179 rfl ?_
            refine Zn_iconst (nI 5) d_mo_apply_180 (by decide) ?_
            refine Zn_icmp_ne (a := 5) (b := 5) (tgt := 193) d_mo_apply_181 (by decide) (by decide) (by decide) (fun h => absurd h (by decide)) (fun _ => ?_)
            refine Z_aload_n d_mo_apply_184 rfl ?_
            refine Z_iload d_mo_apply_185 rfl ?_
            obtain ⟨l, hl1, hl2, hl3⟩ := ch_ex (G := gset G 17 (rmP G (s 2) p (s 2))) (a := p + 1) (N := s 2) (s 2) 0 (cnt_n _)
            have hll : l.length ≤ 160 := by omega
            refine zV (As := [.int (nI p)]) (by omega) d_mo_apply_187 lm_mo_295 hF.1 rfl rfl (Nat.le_of_ble_eq_true rfl) (mo_renumber_ok (d + 1) hF hB hC hcn (by omega) ⟨hl1, hl2, hll⟩) (fun M1 v hq hlen => ?_)
            obtain ⟨rfl, s2, G2, hF, hrn⟩ := hq
            refine Z_goto (tgt := 294) d_mo_apply_190 (by decide) ?_
            refine Zn_iconst (nI 0) d_mo_apply_294 (by decide) ?_
            refine Z_iret d_mo_apply_295 rfl ?_
            refine ⟨0, _, _, rfl, hF, ?_⟩
            refine rAp_0 (by omega) (by omega) (by omega) (by omega) ?_
            exact ⟨rfl, l, ⟨hl1, hl2, hll⟩, hrn⟩
          · skip
            refine Zn_iconst (nI 2) d_mo_apply_79 (by decide) ?_
            refine Z_iret d_mo_apply_80 rfl ?_
            refine ⟨2, s, G, rfl, hF, ?_⟩
            exact rAp_2 (by omega)
      · skip
        exact absurd (Int32.not_lt.mp (nI_pos (by omega))) h54 -- end
theorem mo_apply_ok {Γ : zCtx} {M : List zE} (d : Nat) {M0 : List zE} {s : Nat → Nat} {G : Nat → Nat → Nat} (hF : FW M0 M s G) (hB : nB (s 2) G) (hC : ∀ v, v < s 2 → G 17 v ≠ 0 → chk (G 10) (s 2) 3 (v + 1)) (hcn : s 3 = cnt (G 17) (s 2)) (hN : s 2 < 160) {i am K t l1 l2 l3 g1 g2 g3 : Nat} (hi : i < 128) (ham : am < 8) (hK5 : K ≤ 5) (hsl : slR G i K t l1 l2 l3 g1 g2 g3) : ZM Γ (d + 5) m_mo_apply [.ref 123, .int (nI i), .int (nI am)] M (fun M1 v => ∃ r s' G', v = some (.int (nI r)) ∧ FW M0 M1 s' G' ∧ rAp s G K (lkU G (s 2) l1 l2 l3) (if K = 4 then lkU G (s 2) g1 g2 g3 else lkU G (s 2) l1 l2 l3) t am r s' G') := by
  obtain rfl | rfl | rfl | rfl | rfl | rfl : K = 0 ∨ K = 1 ∨ K = 2 ∨ K = 3 ∨ K = 4 ∨ K = 5 := by omega
  · exact mo_apply_0 d hF hB hC hcn hN hi ham hsl
  · exact mo_apply_1 d hF hB hC hcn hN hi ham hsl
  · exact mo_apply_2 d hF hB hC hcn hN hi ham hsl
  · exact mo_apply_3 d hF hB hC hcn hN hi ham hsl
  · exact mo_apply_4 d hF hB hC hcn hN hi ham hsl
  · exact mo_apply_5 d hF hB hC hcn hN hi ham hsl
