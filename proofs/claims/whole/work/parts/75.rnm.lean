/-! renumbering on both sides -/
theorem VR.of_sw {x k : Nat} (hx : gk x) (hk : gk k) (h1 : x ≠ k) (h2 : wi x k) : (lev x = lev k + 1 ∧ par x = k) ∨ (lev x = lev k + 2 ∧ lev k = 1 ∧ par x ≠ k ∧ wi (par x) k ∧ par (par x) = k ∧ lev (par x) = lev k + 1) := by
  have a := (wi_iff hx hk).mp h2
  have l1 := gk_lev hx
  have l2 := gk_lev hk
  rcases gk_par hx with y | y
  · omega
  · have a2 := (a.resolve_left h1).2
    have b := wi_lev2 y.2.1 hk a2
    by_cases c : par x = k
    · left; rw [c] at y; exact ⟨by omega, c⟩
    · right
      have d := (wi_iff y.2.1 hk).mp a2
      have d2 := d.resolve_left c
      rcases gk_par y.2.1 with z | z
      · omega
      · have f := wi_lev2 z.2.1 hk d2.2
        have g := wi_same z.2.1 hk d2.2 (by omega)
        rw [g] at z
        exact ⟨by omega, by omega, c, a2, g, by omega⟩
theorem par_wi {x k : Nat} (hx : gk x) (hk : gk k) (h : par x = k) : x ≠ k ∧ wi x k ∧ lev x = lev k + 1 := by
  rcases gk_par hx with y | y
  · rw [y.2] at h; rw [← h] at hk; exact absurd (gk_pos hk).1 (by decide)
  · rw [h] at y
    refine ⟨fun z => by rw [z] at y; omega, (wi_iff hx hk).mpr (Or.inr ⟨y.1, by rw [h]⟩), by omega⟩
theorem gk_ch_l2 {x k : Nat} (hx : gk x) (hk : gk k) (h : par x = k) : lev k ≤ 2 := by
  have := (par_wi hx hk h).2.2
  have := gk_lev hx
  omega
/-- the reference's removal -/
theorem rmP_iff {N : Nat} {G : Nat → Nat → Nat} {K : Nat → Nat} (h : nodes N G K) {p : Nat} (hp : p < N) (hpp : G 17 p ≠ 0) : ∀ (i v : Nat), i ≤ N → v < N → (rmP G N p i v ≠ 0 ↔ G 17 v ≠ 0 ∧ ∀ c, c < i → G 17 c ≠ 0 → G 10 c = p + 1 → G 16 c ≠ 0 → ¬ wi (K v) (K c))
  | 0, v, hi, hv => ⟨fun z => ⟨z, fun c hc => by omega⟩, fun z => z.1⟩
  | i + 1, v, hi, hv => by
    have ih := fun w hw => rmP_iff h hp hpp i w (by omega) hw
    have iv := ih v hv
    have ii := ih i (by omega)
    unfold rmP
    by_cases c : rmP G N p i i ≠ 0 ∧ G 10 i = p + 1 ∧ G 16 i ≠ 0
    · rw [if_pos c]
      have pi := (ii.mp c.1).1
      show rmV (G 10) (rmP G N p i) N i v ≠ 0 ↔ _
      unfold rmV
      rw [if_pos hv]
      by_cases c1 : rmP G N p i v ≠ 0
      · rw [if_pos c1]
        have pv := (iv.mp c1).1
        have bw := h.bw3 (a := i) (v := v) (by omega) pi hv pv
        by_cases c2 : blw (G 10) i 3 (v + 1) = true
        · rw [if_pos c2]
          exact ⟨fun z => absurd rfl z, fun z => absurd (bw.mp c2) (z.2 i (by omega) pi c.2.1 c.2.2)⟩
        · rw [if_neg c2]
          refine ⟨fun z => ⟨pv, fun d hd h1 h2 h3 => ?_⟩, fun z => c1⟩
          by_cases hdi : d = i
          · rw [hdi]; exact fun y => c2 (bw.mpr y)
          · exact (iv.mp c1).2 d (by omega) h1 h2 h3
      · rw [if_neg c1]
        exact ⟨fun z => absurd z c1, fun z => absurd (iv.mpr ⟨z.1, fun d hd => z.2 d (by omega)⟩) c1⟩
    · rw [if_neg c, iv]
      refine ⟨fun z => ⟨z.1, fun d hd h1 h2 h3 => ?_⟩, fun z => ⟨z.1, fun d hd => z.2 d (by omega)⟩⟩
      by_cases hdi : d = i
      · exfalso
        subst hdi
        refine c ⟨ii.mpr ⟨h1, fun f hf g1 g2 g3 g4 => ?_⟩, h2, h3⟩
        have gd := (h.1 d (by omega) h1).1
        have gf := (h.1 f (by omega) g1).1
        have e1 : par (K d) = K p := by rw [h.pa (by omega) h1, h2, KA_s]
        have e2 : par (K f) = K p := by rw [h.pa (by omega) g1, g2, KA_s]
        have := h.2 d f (by omega) (by omega) h1 g1 (wi_same gd gf g4 (gk_plev gd gf (by rw [e1, e2])))
        omega
      · exact z.2 d (by omega) h1 h2 h3
/-- the children's list -/
theorem chT_mem {N : Nat} {G : Nat → Nat → Nat} {a : Nat} (hu : ∀ v w, v < N → w < N → G 17 v ≠ 0 → G 17 w ≠ 0 → G 10 v = a → G 10 w = a → G 12 v = G 12 w → v = w) : ∀ (l : List Nat) (c : Nat), nxC G a c N = l.head? → chT G a N l → (∀ v, v ∈ l ↔ v < N ∧ G 17 v ≠ 0 ∧ G 10 v = a ∧ c < G 12 v) ∧ l.Pairwise (fun v w => G 12 v < G 12 w)
  | [], c, h, _ => by
    refine ⟨fun v => ⟨fun z => by simp at z, fun ⟨h1, h2, h3, h4⟩ => absurd h4 (nxC_none h v h1 h2 h3)⟩, List.Pairwise.nil⟩
  | v :: t, c, h, ht => by
    obtain ⟨v1, v2, v3, v4, v5⟩ := nxC_some h
    obtain ⟨_, t1, t2⟩ := ht
    have ih := chT_mem hu t (G 12 v) t1 t2
    refine ⟨fun w => ⟨fun z => ?_, fun ⟨h1, h2, h3, h4⟩ => ?_⟩, List.pairwise_cons.mpr ⟨fun w hw => ((ih.1 w).mp hw).2.2.2, ih.2⟩⟩
    · rcases List.mem_cons.mp z with z | z
      · subst z; exact ⟨v1, v2, v3, v4⟩
      · obtain ⟨a1, a2, a3, a4⟩ := (ih.1 w).mp z
        exact ⟨a1, a2, a3, by omega⟩
    · have := v5 w h1 h2 h3 h4
      by_cases e : G 12 w = G 12 v
      · rw [hu w v h1 v1 h2 v2 h3 v3 e]; exact List.mem_cons_self
      · exact List.mem_cons_of_mem _ ((ih.1 w).mpr ⟨h1, h2, h3, by omega⟩)
theorem rlL_out {f : Nat → Nat} : ∀ (l : List Nat) (k w : Nat), w ∉ l → ∀ f : Nat → Nat, rlL f l k w = f w
  | [], k, w, h, f => rfl
  | v :: t, k, w, h, f => by
    have h1 : w ≠ v := fun z => h (by rw [z]; exact List.mem_cons_self)
    show rlL (nup f v ((k + 1) * 19683)) t (k + 1) w = _
    rw [rlL_out (f := f) t (k + 1) w (fun z => h (List.mem_cons_of_mem _ z)), nup_n h1]
theorem rlL_in : ∀ (l : List Nat) (k j : Nat) (f : Nat → Nat) (hj : j < l.length), l.Pairwise (· ≠ ·) → rlL f l k l[j] = (k + j + 1) * 19683
  | [], k, j, f, hj, _ => by simp at hj
  | v :: t, k, 0, f, hj, hn => by
    show rlL (nup f v ((k + 1) * 19683)) t (k + 1) v = _
    rw [rlL_out (f := f) t (k + 1) v (fun z => (List.pairwise_cons.mp hn).1 v z rfl), nup_s]
  | v :: t, k, j + 1, f, hj, hn => by
    have hj' : j < t.length := by simpa using hj
    show rlL (nup f v ((k + 1) * 19683)) t (k + 1) t[j] = _
    rw [rlL_in t (k + 1) j _ hj' (List.pairwise_cons.mp hn).2]
    congr 1
    omega
/-- the children that stay, in the class's order -/
def dlK (e : Nat → zEnt) (k : Nat) : Nat → List Nat
  | 0 => []
  | i + 1 => if par (ek (e i)) = k ∧ er (e i) = false then dlK e k i ++ [ek (e i)] else dlK e k i
theorem dlK_mem {e : Nat → zEnt} {k : Nat} : ∀ (i x : Nat), x ∈ dlK e k i ↔ ∃ j, j < i ∧ par (ek (e j)) = k ∧ er (e j) = false ∧ x = ek (e j)
  | 0, x => by simp [dlK]
  | i + 1, x => by
    have ih := dlK_mem (e := e) (k := k) i x
    unfold dlK
    split
    · rename_i c
      rw [List.mem_append, ih, List.mem_singleton]
      constructor
      · rintro (⟨j, h1, h2⟩ | h)
        · exact ⟨j, by omega, h2⟩
        · exact ⟨i, by omega, c.1, c.2, h⟩
      · rintro ⟨j, h1, h2, h3, h4⟩
        by_cases e1 : j = i
        · rw [e1] at h4; exact Or.inr h4
        · exact Or.inl ⟨j, by omega, h2, h3, h4⟩
    · rename_i c
      rw [ih]
      constructor
      · rintro ⟨j, h1, h2⟩; exact ⟨j, by omega, h2⟩
      · rintro ⟨j, h1, h2, h3, h4⟩
        by_cases e1 : j = i
        · rw [e1] at h2 h3; exact absurd ⟨h2, h3⟩ c
        · exact ⟨j, by omega, h2, h3, h4⟩
theorem dlK_len {e : Nat → zEnt} {k : Nat} : ∀ i, (dlK e k i).length ≤ i
  | 0 => by simp [dlK]
  | i + 1 => by
    have := dlK_len (e := e) (k := k) i
    unfold dlK
    split
    · rw [List.length_append]; simp; omega
    · omega
theorem dlK_srt {e : Nat → zEnt} {k n : Nat} (hs : ∀ p q, p < q → q < n → ek (e p) < ek (e q)) : ∀ i, i ≤ n → (dlK e k i).Pairwise (· < ·)
  | 0, _ => List.Pairwise.nil
  | i + 1, hi => by
    have ih := dlK_srt (k := k) hs i (by omega)
    unfold dlK
    split
    · refine List.pairwise_append.mpr ⟨ih, List.pairwise_singleton _ _, fun x hx y hy => ?_⟩
      obtain ⟨j, h1, _, _, h4⟩ := (dlK_mem i x).mp hx
      rw [List.mem_singleton.mp hy, h4]
      exact hs j i h1 (by omega)
    · exact ih
theorem dlK_pre {e : Nat → zEnt} {k : Nat} : ∀ (d i j : Nat), j < (dlK e k i).length → (dlK e k (i + d))[j]? = (dlK e k i)[j]?
  | 0, i, j, h => rfl
  | d + 1, i, j, h => by
    have ih := dlK_pre (e := e) (k := k) d i j h
    have hl : j < (dlK e k (i + d)).length := by
      rcases Nat.lt_or_ge j (dlK e k (i + d)).length with z | z
      · exact z
      · rw [List.getElem?_eq_none z, List.getElem?_eq_getElem h] at ih; cases ih
    show (dlK e k (i + d + 1))[j]? = _
    rw [← ih]
    show (if par (ek (e (i + d))) = k ∧ er (e (i + d)) = false then dlK e k (i + d) ++ [ek (e (i + d))] else dlK e k (i + d))[j]? = _
    split
    · exact List.getElem?_append_left hl
    · rfl
/-- where a child that stays has its place -/
theorem dlK_at {e : Nat → zEnt} {k n j : Nat} (hj : j < n) (h1 : par (ek (e j)) = k) (h2 : er (e j) = false) : (dlK e k n)[(dlK e k j).length]? = some (ek (e j)) ∧ (dlK e k (j + 1)).length = (dlK e k j).length + 1 := by
  have e1 : dlK e k (j + 1) = dlK e k j ++ [ek (e j)] := by
    show (if par (ek (e j)) = k ∧ er (e j) = false then dlK e k j ++ [ek (e j)] else dlK e k j) = _
    rw [if_pos ⟨h1, h2⟩]
  have hl : (dlK e k (j + 1)).length = (dlK e k j).length + 1 := by rw [e1, List.length_append]; rfl
  refine ⟨?_, hl⟩
  have := dlK_pre (e := e) (k := k) (n - (j + 1)) (j + 1) (dlK e k j).length (by omega)
  rw [show j + 1 + (n - (j + 1)) = n by omega] at this
  rw [this, e1, List.getElem?_append_right (Nat.le_refl _)]
  simp
theorem dlK_skip {e : Nat → zEnt} {k : Nat} : ∀ (d i : Nat), (∀ j, i ≤ j → j < i + d → par (ek (e j)) ≠ k) → dlK e k (i + d) = dlK e k i
  | 0, i, h => rfl
  | d + 1, i, h => by
    show (if par (ek (e (i + d))) = k ∧ er (e (i + d)) = false then dlK e k (i + d) ++ [ek (e (i + d))] else dlK e k (i + d)) = _
    rw [if_neg (fun z => h (i + d) (by omega) (by omega) z.1), dlK_skip d i (fun j h1 h2 => h j h1 (by omega))]
