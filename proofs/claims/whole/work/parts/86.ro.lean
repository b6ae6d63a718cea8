/-! what a version with its order shows -/
def pF (s s' : Nat → Nat) (G G' : Nat → Nat → Nat) : Prop := (∀ j, (j ≤ 1 ∨ j = 5 ∨ 11 ≤ j) → s' j = s j) ∧ ∀ b, (b < 10 ∨ b = 22 ∨ 30 ≤ b) → G' b = G b
theorem pF.rf {s : Nat → Nat} {G : Nat → Nat → Nat} : pF s s G G := ⟨fun _ _ => rfl, fun _ _ => rfl⟩
theorem pF.tr {s s1 s2 : Nat → Nat} {G G1 G2 : Nat → Nat → Nat} (h : pF s s1 G G1) (h' : pF s1 s2 G1 G2) : pF s s2 G G2 := ⟨fun j a => (h'.1 j a).trans (h.1 j a), fun b x => (h'.2 b x).trans (h.2 b x)⟩
theorem cF.p {s s' : Nat → Nat} {G G' : Nat → Nat → Nat} (h : cF s s' G G') : pF s s' G G' := ⟨fun j hj => h.1 j (by omega) (by omega) (by omega) (by omega), fun b hb => h.2 b (by omega) (by omega)⟩
theorem RO.nn {S : vSt} {n0 : Nat} {s : Nat → Nat} {G : Nat → Nat → Nat} (h : RO S n0 s G) : S.1 ≤ 60 ∧ s 3 = S.1 ∧ s 4 = S.2.2.1 ∧ s 2 ≤ 160 ∧ n0 ≤ s 2 := by
  obtain ⟨K, h1, h2, h3, h4, h5⟩ := h
  exact ⟨h1.1.1, h2, h3, h1.1.2.2.2.2.2.1.1, h1.1.2.2.2.2.2.2.1⟩
theorem RO.at {S : vSt} {n0 : Nat} {s : Nat → Nat} {G : Nat → Nat → Nat} (h : RO S n0 s G) {j : Nat} (hj : j < S.1) : G 18 j < 160 ∧ G 17 (G 18 j) ≠ 0 ∧ G 11 (G 18 j) = lev (ek (S.2.1 j)) ∧ et (S.2.1 j) = nI (G 13 (G 18 j)) ∧ er (S.2.1 j) = decide (G 16 (G 18 j) ≠ 0) ∧ eo (S.2.1 j) = kI (G 14 (G 18 j)) ∧ ec (S.2.1 j) = kI (G 15 (G 18 j)) ∧ G 16 (G 18 j) ≤ 1 ∧ G 11 (G 18 j) ≤ 3 ∧ G 14 (G 18 j) = if G 18 j < n0 then G 18 j + 1 else 0 := by
  obtain ⟨K, h1, h2, h3, h4, h5⟩ := h
  obtain ⟨o1, o2, o3⟩ := h5 j hj
  obtain ⟨i, i1, i2⟩ := h1.1.2.2.1 _ o1 o2
  have e := h1.1.2.2.2.1 i j i1 hj (by rw [i2.1, o3])
  subst e
  have nd := h1.1.2.2.2.2.1.1 _ o1 o2
  have hb := h1.1.2.2.2.2.2.1
  have hb2 := hb.2 _ o1
  exact ⟨by have := hb.1; omega, o2, by rw [nd.2.1, i2.1], i2.2.1, i2.2.2.1, i2.2.2.2.1, i2.2.2.2.2, hb2.2.2.2.1, hb2.2.2.1, h1.1.2.2.2.2.2.2.2 _ o1⟩
theorem RO.cf {S : vSt} {n0 : Nat} {s : Nat → Nat} {G : Nat → Nat → Nat} (h : RO S n0 s G) {j : Nat} (hj : j < S.2.2.1) : G 19 j = S.2.2.2.1 j ∧ G 20 j = S.2.2.2.2.1 j ∧ G 21 j = S.2.2.2.2.2 j := by
  obtain ⟨K, h1, h2, h3, h4, h5⟩ := h
  exact h4 j hj
theorem kI_nI {o t : Nat} (ho : o ≤ 1000) (ht : t ≤ 1000) : kI o = nI t ↔ o = t + 1 := by
  rcases o with _ | o
  · rw [kI_0]
    constructor
    · intro h; exact absurd h.symm (zn_m9 (by omega))
    · intro h; omega
  · rw [kI_s, zn_eq (by omega) (by omega)]; omega
/-- where an original provision stands, if it is in force -/
theorem RO.inf {S : vSt} {n0 : Nat} {s : Nat → Nat} {G : Nat → Nat → Nat} (h : RO S n0 s G) {t : Nat} (ht : t < n0) (h30 : n0 ≤ 30) : (inF S.1 S.2.1 (nI t) = none ∧ (G 17 t = 0 ∨ G 16 t ≠ 0)) ∨ ∃ i, inF S.1 S.2.1 (nI t) = some i ∧ G 17 t ≠ 0 ∧ G 16 t = 0 ∧ i < S.1 ∧ G 18 i = t ∧ ∀ j, j < i → G 18 j ≠ t := by
  obtain ⟨K, h1, h2, h3, h4, h5⟩ := h
  obtain ⟨⟨v1, v2, v3, v4, v5, v6, v7, v8⟩, v9⟩ := h1
  have e14 : ∀ v, v < s 2 → G 14 v ≤ 31 := by
    intro v hv
    rw [v8 v hv]
    split <;> omega
  have org : ∀ i, i < S.1 → ∀ v, v < s 2 → mt G K (S.2.1 i) v → (eo (S.2.1 i) = nI t ↔ v = t) := by
    intro i hi v hv hm
    have := e14 v hv
    rw [hm.2.2.2.1, kI_nI (by omega) (by omega), v8 v hv]
    constructor
    · intro z
      split at z <;> omega
    · intro z
      rw [if_pos (by omega)]; omega
  unfold inF
  cases hf : frst (fun i => decide (eo (S.2.1 i) = nI t)) S.1 with
  | none =>
    left
    refine ⟨rfl, Or.inl ?_⟩
    rcases Nat.eq_zero_or_pos (G 17 t) with z | z
    · exact z
    · obtain ⟨i, i1, i2⟩ := v3 t (by omega) (by omega)
      have := frst_none.mp hf i i1
      exact absurd ((org i i1 t (by omega) i2).mpr rfl) (of_decide_eq_false this)
  | some i =>
    obtain ⟨i1, i2, _⟩ := frst_some.mp hf
    have i2 := of_decide_eq_true i2
    obtain ⟨v, w1, w2, w3⟩ := v2 i i1
    have e := (org i i1 v w1 w3).mp i2
    subst e
    dsimp only
    have o := h5 i i1
    have e18 : G 18 i = v := v5.2 _ _ o.1 w1 o.2.1 w2 (by rw [o.2.2, w3.1])
    by_cases c : G 16 v = 0
    · right
      refine ⟨i, ?_, w2, c, i1, e18, fun j hj z => ?_⟩
      · rw [w3.2.2.1, decide_eq_false (fun z => z c)]; rfl
      · have oj := h5 j (by omega)
        rw [z] at oj
        have := v9 j i hj i1
        rw [← oj.2.2, ← o.2.2, e18] at this
        omega
    · left
      refine ⟨?_, Or.inr c⟩
      rw [w3.2.2.1, decide_eq_true c]; rfl
/-- what every question about a version takes as given -/
def vHy (m : Nat) (dy sz kd pt gl : Nat → Nat) (tx : Nat → Int32) (s : Nat → Nat) (G : Nat → Nat → Nat) (n : Nat) (e : Nat → zEnt) (K : Nat → Nat) (y : Nat) (S1 : vSt) : Prop := amR m dy sz kd pt gl tx s G ∧ OR n e G K ∧ s 0 = n ∧ n ≤ 30 ∧ y ≤ 10000 ∧ S1.2.2.1 ≤ 120 ∧ ∃ S0, vLs sz kd pt gl tx (aplL dy m (mI y) 8 (nxA dy none m)) (vBeg S0 n e) S1
theorem mo_compute_v {Γ : zCtx} {M : List zE} (d : Nat) {M0 : List zE} {s : Nat → Nat} {G : Nat → Nat → Nat} (hF : FW M0 M s G) {m : Nat} {dy sz kd pt gl : Nat → Nat} {tx : Nat → Int32} {n : Nat} {e : Nat → zEnt} {K : Nat → Nat} {y : Nat} {S1 : vSt} (hV : vHy m dy sz kd pt gl tx s G n e K y S1) : ZM Γ (d + 7) m_mo_compute [.ref 123, .int (mI y)] M (fun M1 v => v = some (.int (nI 1)) ∧ ∃ s' G', FW M0 M1 s' G' ∧ RO S1 n s' G' ∧ cF s s' G G') := by
  obtain ⟨h1, h2, h3, h4, h5, h6, S0, h7⟩ := hV
  exact mo_compute_ok d hF h1 h5 h2 h3 h4 h7
/-- the references on both sides -/
def rfR (n : Nat) (rc : Nat → Nat) (tg : Nat → Nat → Nat) (G : Nat → Nat → Nat) : Prop := ∀ i, i < n → G 3 i = rc i ∧ rc i ≤ 4 ∧ ∀ j, j < rc i → G 4 (4 * i + j) = tg i j ∧ tg i j < n
theorem rfR.p {n : Nat} {rc : Nat → Nat} {tg : Nat → Nat → Nat} {s s' : Nat → Nat} {G G' : Nat → Nat → Nat} (h : rfR n rc tg G) (hp : pF s s' G G') : rfR n rc tg G' := by
  unfold rfR at h ⊢
  rw [hp.2 3 (by decide), hp.2 4 (by decide)]
  exact h
/-- sums -/
def sm (p h : Nat → Nat) : Nat → Nat
  | 0 => 0
  | i + 1 => sm p h i + (if p i ≠ 0 then h i else 0)
theorem sm_cong {p q h g : Nat → Nat} : ∀ n, (∀ v, v < n → (q v ≠ 0 ↔ p v ≠ 0) ∧ (p v ≠ 0 → g v = h v)) → sm q g n = sm p h n
  | 0, _ => rfl
  | n + 1, hh => by
    unfold sm
    rw [sm_cong n (fun v hv => hh v (by omega))]
    have := hh n (by omega)
    by_cases hp : p n ≠ 0
    · rw [if_pos hp, if_pos (this.1.mpr hp), this.2 hp]
    · rw [if_neg hp, if_neg (fun z => hp (this.1.mp z))]
theorem sm_set {p h : Nat → Nat} {k : Nat} (hk : p k ≠ 0) : ∀ n, k < n → sm (nup p k 0) h n + h k = sm p h n
  | 0, hn => by omega
  | n + 1, hn => by
    unfold sm
    by_cases hkn : k = n
    · subst hkn
      rw [nup_s, if_neg (fun z => z rfl), if_pos hk, sm_cong (p := p) (h := h) k (fun v hv => by rw [nup_n (by omega)]; exact ⟨Iff.rfl, fun _ => rfl⟩)]
      omega
    · have := sm_set (h := h) hk n (by omega)
      rw [nup_n (by omega)]
      omega
theorem sm_bij {N : Nat} {h : Nat → Nat} : ∀ (n : Nat) (p f : Nat → Nat), (∀ i, i < n → f i < N ∧ p (f i) ≠ 0) → (∀ i j, i < n → j < n → f i = f j → i = j) → (∀ v, v < N → p v ≠ 0 → ∃ i, i < n ∧ f i = v) → sm p h N = sm (fun _ => 1) (fun i => h (f i)) n
  | 0, p, f, h1, h2, h3 => by
    have : ∀ m, m ≤ N → sm p h m = 0 := by
      intro m
      induction m with
      | zero => intro _; rfl
      | succ m ih =>
        intro hm
        unfold sm
        rw [ih (by omega)]
        by_cases hp : p m ≠ 0
        · obtain ⟨i, hi, _⟩ := h3 m (by omega) hp
          omega
        · rw [if_neg hp]
    exact this N (Nat.le_refl _)
  | n + 1, p, f, h1, h2, h3 => by
    have hn := h1 n (by omega)
    have e := sm_set (p := p) (h := h) (k := f n) hn.2 N hn.1
    have ih := sm_bij (h := h) n (nup p (f n) 0) f (fun i hi => ⟨(h1 i (by omega)).1, by
      rw [nup_n (fun z => by have := h2 i n (by omega) (by omega) z; omega)]; exact (h1 i (by omega)).2⟩) (fun i j hi hj => h2 i j (by omega) (by omega)) (fun v hv hp => by
      by_cases hvn : v = f n
      · rw [hvn, nup_s] at hp; exact absurd rfl hp
      · rw [nup_n hvn] at hp
        obtain ⟨i, hi, e⟩ := h3 v hv hp
        refine ⟨i, ?_, e⟩
        rcases Nat.lt_or_ge i n with z | z
        · exact z
        · rw [show i = n by omega] at e; exact absurd e.symm hvn)
    show _ = sm (fun _ => 1) (fun i => h (f i)) n + (if (1 : Nat) ≠ 0 then h (f n) else 0)
    rw [if_pos (by decide)]
    omega
