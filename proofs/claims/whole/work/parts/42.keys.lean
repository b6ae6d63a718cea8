/-! the algebra of keys -/
theorem kk_ex {k : Nat} (h : k < 2 ^ 63) : ∃ a b c, a < 2097152 ∧ b < 2097152 ∧ c < 2097152 ∧ k = kk a b c := ⟨k / 4398046511104, k / 2097152 % 2097152, k % 2097152, by omega, by omega, by omega, by unfold kk; omega⟩
theorem lab_kk1 {a b c : Nat} (ha : a < 2097152) (hb : b < 2097152) (hc : c < 2097152) : lab (kk a b c) 1 = a := by unfold lab kk; rw [un_1]; omega
theorem lab_kk2 {a b c : Nat} (ha : a < 2097152) (hb : b < 2097152) (hc : c < 2097152) : lab (kk a b c) 2 = b := by unfold lab kk; rw [un_2]; omega
theorem lab_kk3 {a b c : Nat} (ha : a < 2097152) (hb : b < 2097152) (hc : c < 2097152) : lab (kk a b c) 3 = c := by unfold lab kk; rw [un_3]; omega
theorem div_kk1 {a b c : Nat} (ha : a < 2097152) (hb : b < 2097152) (hc : c < 2097152) : kk a b c / un 1 = a := by unfold kk; rw [un_1]; omega
theorem div_kk2 {a b c : Nat} (ha : a < 2097152) (hb : b < 2097152) (hc : c < 2097152) : kk a b c / un 2 = a * 2097152 + b := by unfold kk; rw [un_2]; omega
theorem div_kk3 {a b c : Nat} (ha : a < 2097152) (hb : b < 2097152) (hc : c < 2097152) : kk a b c / un 3 = kk a b c := by rw [un_3]; omega
theorem mod_kk1 {a b c : Nat} (ha : a < 2097152) (hb : b < 2097152) (hc : c < 2097152) : kk a b c % un 1 = b * 2097152 + c := by unfold kk; rw [un_1]; omega
theorem mod_kk2 {a b c : Nat} (ha : a < 2097152) (hb : b < 2097152) (hc : c < 2097152) : kk a b c % un 2 = c := by unfold kk; rw [un_2]; omega
theorem mod_kk3 {a b c : Nat} (ha : a < 2097152) (hb : b < 2097152) (hc : c < 2097152) : kk a b c % un 3 = 0 := by rw [un_3]; omega
theorem putl_kk1 {a b c : Nat} (ha : a < 2097152) (hb : b < 2097152) (hc : c < 2097152) (x : Nat) : putl (kk a b c) 1 x = kk x b c := by unfold putl kk; rw [un_1]; omega
theorem putl_kk2 {a b c : Nat} (ha : a < 2097152) (hb : b < 2097152) (hc : c < 2097152) (x : Nat) : putl (kk a b c) 2 x = kk a x c := by unfold putl kk; rw [un_2]; omega
theorem putl_kk3 {a b c : Nat} (ha : a < 2097152) (hb : b < 2097152) (hc : c < 2097152) (x : Nat) : putl (kk a b c) 3 x = kk a b x := by unfold putl kk; rw [un_3]; omega
theorem par_kk {a b c : Nat} (ha : a < 2097152) (hb : b < 2097152) (hc : c < 2097152) : par (kk a b c) = if c ≠ 0 then kk a b 0 else if b ≠ 0 then kk a 0 0 else 0 := by
  have e1 : kk a b c % 2097152 = c := by unfold kk; omega
  have e2 : kk a b c % 4398046511104 = b * 2097152 + c := by unfold kk; omega
  unfold par
  rw [e1, e2]
  by_cases h1 : c = 0
  · subst h1
    by_cases h2 : b = 0
    · subst h2; rfl
    · have : b * 2097152 + 0 ≠ 0 := by omega
      rw [if_neg (by decide), if_pos this, if_neg (by decide), if_pos h2]
      unfold kk; omega
  · rw [if_pos h1, if_pos h1]
    unfold kk; omega
theorem kk_inj {a b c a' b' c' : Nat} (hb : b < 2097152) (hc : c < 2097152) (hb' : b' < 2097152) (hc' : c' < 2097152) : kk a b c = kk a' b' c' ↔ a = a' ∧ b = b' ∧ c = c' := by unfold kk; omega
theorem kk_lt_iff {a b c a' b' c' : Nat} (hb : b < 2097152) (hc : c < 2097152) (hb' : b' < 2097152) (hc' : c' < 2097152) : kk a b c < kk a' b' c' ↔ a < a' ∨ (a = a' ∧ (b < b' ∨ (b = b' ∧ c < c'))) := by unfold kk; omega
theorem vkey_kk {a b c : Nat} (ha : a < 2097152) (hb : b < 2097152) (hc : c < 2097152) : vkey (kk a b c) ↔ (a ≠ 0 ∨ b ≠ 0 ∨ c ≠ 0) ∧ a < 1968300 ∧ b < 1968300 ∧ c < 1968300 := by
  have hl := lev_kk ha hb hc
  constructor
  · rintro ⟨h1, h2, h3⟩
    have g1 := h3 1 (by omega) (by omega)
    have g2 := h3 2 (by omega) (by omega)
    have g3 := h3 3 (by omega) (by omega)
    rw [lab_kk1 ha hb hc] at g1
    rw [lab_kk2 ha hb hc] at g2
    rw [lab_kk3 ha hb hc] at g3
    refine ⟨?_, g1, g2, g3⟩
    rw [hl] at h2
    by_cases z3 : c = 0
    · by_cases z2 : b = 0
      · by_cases z1 : a = 0
        · simp [z1, z2, z3] at h2
        · exact Or.inl z1
      · exact Or.inr (Or.inl z2)
    · exact Or.inr (Or.inr z3)
  · rintro ⟨h1, h2, h3, h4⟩
    refine ⟨kk_lt ha hb hc, ?_, fun l l1 l3 => ?_⟩
    · rw [hl]
      by_cases z3 : c = 0
      · by_cases z2 : b = 0
        · have z1 : a ≠ 0 := by omega
          rw [if_neg (fun z => z z3), if_neg (fun z => z z2), if_pos z1]; omega
        · rw [if_neg (fun z => z z3), if_pos z2]; omega
      · rw [if_pos z3]; omega
    · obtain rfl | rfl | rfl : l = 1 ∨ l = 2 ∨ l = 3 := by omega
      · rw [lab_kk1 ha hb hc]; exact h2
      · rw [lab_kk2 ha hb hc]; exact h3
      · rw [lab_kk3 ha hb hc]; exact h4
theorem vkey_ex {k : Nat} (h : vkey k) : ∃ a b c, a < 1968300 ∧ b < 1968300 ∧ c < 1968300 ∧ (a ≠ 0 ∨ b ≠ 0 ∨ c ≠ 0) ∧ k = kk a b c := by
  obtain ⟨a, b, c, ha, hb, hc, rfl⟩ := kk_ex h.1
  have := (vkey_kk ha hb hc).mp h
  exact ⟨a, b, c, by omega, by omega, by omega, this.1, rfl⟩
theorem vkey_putl {k l x : Nat} (h : vkey k) (h1 : 1 ≤ l) (h3 : l ≤ 3) (hx : x < 1968300) (hx0 : x ≠ 0) : vkey (putl k l x) := by
  obtain ⟨a, b, c, ha, hb, hc, h0, rfl⟩ := vkey_ex h
  obtain rfl | rfl | rfl : l = 1 ∨ l = 2 ∨ l = 3 := by omega
  · rw [putl_kk1 (by omega) (by omega) (by omega)]
    exact (vkey_kk (by omega) (by omega) (by omega)).mpr ⟨Or.inl hx0, hx, hb, hc⟩
  · rw [putl_kk2 (by omega) (by omega) (by omega)]
    exact (vkey_kk (by omega) (by omega) (by omega)).mpr ⟨Or.inr (Or.inl hx0), ha, hx, hc⟩
  · rw [putl_kk3 (by omega) (by omega) (by omega)]
    exact (vkey_kk (by omega) (by omega) (by omega)).mpr ⟨Or.inr (Or.inr hx0), ha, hb, hx⟩
theorem betw_gt {l m x : Nat} (h : betw l m = some x) : l < x := by
  unfold betw at h
  split at h
  · cases h; omega
  · split at h
    · cases h
    · split at h
      · cases h; omega
      · split at h
        · cases h
        · split at h
          · cases h; omega
          · cases h
theorem aftl_gt {n : Nat} {e : Nat → zEnt} {k q x : Nat} (h : aftl n e k q = some x) : lab k (lev k) < x := betw_gt h
theorem newl_ge {n : Nat} {e : Nat → zEnt} {k x : Nat} (h : newl n e k = some x) : 19683 ≤ x ∧ x < 1968300 := by
  unfold newl at h
  split at h
  · cases h; omega
  · cases h
/-- a move keeps keys -/
theorem vkey_move {g k x lb : Nat} (hg : vkey g) (hk : vkey k) (hlv : lev g = lev k) (hx : vkey x) (hl : lb < 1968300) (hl0 : lb ≠ 0) : vkey (putl g (lev g) lb + x % un (lev k)) := by
  obtain ⟨a, b, c, ha, hb, hc, h0, rfl⟩ := vkey_ex hg
  obtain ⟨a', b', c', ha', hb', hc', h0', rfl⟩ := vkey_ex hx
  have hlg := lev_kk (show a < 2097152 by omega) (show b < 2097152 by omega) (show c < 2097152 by omega)
  rw [← hlv]
  by_cases z3 : c = 0
  · by_cases z2 : b = 0
    · have z1 : a ≠ 0 := by omega
      rw [if_neg (fun z => z z3), if_neg (fun z => z z2), if_pos z1] at hlg
      rw [hlg, putl_kk1 (by omega) (by omega) (by omega), mod_kk1 (by omega) (by omega) (by omega), z2, z3, show kk lb 0 0 + (b' * 2097152 + c') = kk lb b' c' by unfold kk; omega]
      exact (vkey_kk (by omega) (by omega) (by omega)).mpr ⟨Or.inl hl0, hl, hb', hc'⟩
    · rw [if_neg (fun z => z z3), if_pos z2] at hlg
      rw [hlg, putl_kk2 (by omega) (by omega) (by omega), mod_kk2 (by omega) (by omega) (by omega), z3, show kk a lb 0 + c' = kk a lb c' by unfold kk; omega]
      exact (vkey_kk (by omega) (by omega) (by omega)).mpr ⟨Or.inr (Or.inl hl0), ha, hl, hc'⟩
  · rw [if_pos z3] at hlg
    rw [hlg, putl_kk3 (by omega) (by omega) (by omega), mod_kk3 (by omega) (by omega) (by omega), Nat.add_zero]
    exact (vkey_kk (by omega) (by omega) (by omega)).mpr ⟨Or.inr (Or.inr hl0), ha, hb, hl⟩
theorem vInv_perm {n : Nat} {e e' : Nat → zEnt} (h : zPerm n e e') (hI : vInv n e) : vInv n e' := by
  obtain ⟨g, _, h1, h2⟩ := h
  exact ⟨hI.1, fun i hi => by rw [h2 i hi]; exact hI.2 _ (h1 i hi).1⟩
theorem lab_pos {k : Nat} (h : k < 2 ^ 63) (hl : 1 ≤ lev k) : lab k (lev k) ≠ 0 := by
  obtain ⟨a, b, c, ha, hb, hc, rfl⟩ := kk_ex h
  have hlg := lev_kk ha hb hc
  by_cases z3 : c = 0
  · by_cases z2 : b = 0
    · by_cases z1 : a = 0
      · simp [z1, z2, z3] at hlg; rw [z1, z2, z3] at hl; omega
      · rw [if_neg (fun z => z z3), if_neg (fun z => z z2), if_pos z1] at hlg
        rw [hlg, lab_kk1 ha hb hc]; exact z1
    · rw [if_neg (fun z => z z3), if_pos z2] at hlg
      rw [hlg, lab_kk2 ha hb hc]; exact z2
  · rw [if_pos z3] at hlg
    rw [hlg, lab_kk3 ha hb hc]; exact z3
theorem lev_1 {k : Nat} (h : vkey k) (hl : lev k = 1) : ∃ a, a ≠ 0 ∧ a < 1968300 ∧ k = kk a 0 0 := by
  obtain ⟨a, b, c, ha, hb, hc, h0, rfl⟩ := vkey_ex h
  have hlg := lev_kk (show a < 2097152 by omega) (show b < 2097152 by omega) (show c < 2097152 by omega)
  rw [hl] at hlg
  by_cases z3 : c = 0
  · by_cases z2 : b = 0
    · subst z3; subst z2; exact ⟨a, by omega, ha, rfl⟩
    · rw [if_neg (fun z => z z3), if_pos z2] at hlg; omega
  · rw [if_pos z3] at hlg; omega
theorem lev_2 {k : Nat} (h : vkey k) (hl : lev k = 2) : ∃ a b, b ≠ 0 ∧ a < 1968300 ∧ b < 1968300 ∧ k = kk a b 0 := by
  obtain ⟨a, b, c, ha, hb, hc, h0, rfl⟩ := vkey_ex h
  have hlg := lev_kk (show a < 2097152 by omega) (show b < 2097152 by omega) (show c < 2097152 by omega)
  rw [hl] at hlg
  by_cases z3 : c = 0
  · by_cases z2 : b = 0
    · rw [if_neg (fun z => z z3), if_neg (fun z => z z2)] at hlg; split at hlg <;> omega
    · subst z3; exact ⟨a, b, z2, ha, hb, rfl⟩
  · rw [if_pos z3] at hlg; omega
theorem lev_3 {k : Nat} (h : vkey k) (hl : lev k = 3) : ∃ a b c, c ≠ 0 ∧ a < 1968300 ∧ b < 1968300 ∧ c < 1968300 ∧ k = kk a b c := by
  obtain ⟨a, b, c, ha, hb, hc, h0, rfl⟩ := vkey_ex h
  have hlg := lev_kk (show a < 2097152 by omega) (show b < 2097152 by omega) (show c < 2097152 by omega)
  rw [hl] at hlg
  by_cases z3 : c = 0
  · rw [if_neg (fun z => z z3)] at hlg; split at hlg; omega; split at hlg <;> omega
  · exact ⟨a, b, c, z3, ha, hb, hc, rfl⟩
theorem vkey_low {k x y : Nat} (hk : vkey k) (hx : vkey x) (h1 : x ≠ k) (h2 : x / un (lev k) = k / un (lev k)) (h3 : lev x ≠ lev k + 1) (hy : y < 1968300) : lev k = 1 ∧ vkey (putl x (lev k + 1) y) := by
  have l1 := hk.2.1
  have l3 := lev_le k
  obtain ⟨a', b', c', ha', hb', hc', h0', rfl⟩ := vkey_ex hx
  have hlx := lev_kk (show a' < 2097152 by omega) (show b' < 2097152 by omega) (show c' < 2097152 by omega)
  obtain e | e | e : lev k = 1 ∨ lev k = 2 ∨ lev k = 3 := by omega
  · obtain ⟨a, z, ha, rfl⟩ := lev_1 hk e
    rw [e, div_kk1 (by omega) (by omega) (by omega), div_kk1 (by omega) (by omega) (by omega)] at h2
    subst h2
    refine ⟨e, ?_⟩
    rw [e, putl_kk2 (by omega) (by omega) (by omega)]
    exact (vkey_kk (by omega) (by omega) (by omega)).mpr ⟨Or.inl z, ha', hy, hc'⟩
  · obtain ⟨a, b, z, ha, hb, rfl⟩ := lev_2 hk e
    rw [e, div_kk2 (by omega) (by omega) (by omega), div_kk2 (by omega) (by omega) (by omega)] at h2
    obtain rfl : a' = a := by omega
    obtain rfl : b' = b := by omega
    have : c' ≠ 0 := fun z => h1 (by rw [z])
    rw [if_pos this] at hlx
    omega
  · rw [e, un_3, Nat.div_one, Nat.div_one] at h2
    exact absurd h2 h1
theorem rnS_key {e : Nat → zEnt} {k n : Nat} (hI : vInv n e) (hk : vkey k) : ∀ i, i ≤ n → ((rnS e k i).1 = 0 ∨ ∃ j, j < i ∧ lev (ek (e j)) = lev k + 1) ∧ ∀ x ∈ (rnS e k i).2.2, vkey (ek x)
  | 0, _ => ⟨Or.inl rfl, fun x hx => by simp [rnS] at hx⟩
  | i + 1, hi => by
    have ih := rnS_key hI hk i (by omega)
    have hx := hI.2 i (by omega)
    have hle := (rnS_le e k i).1
    have hn := hI.1
    unfold rnS rnStep
    split
    · rename_i c0
      split
      · rename_i c1
        have hl3 := lev_le (ek (e i))
        split
        · exact ⟨ih.1.imp id (fun ⟨j, a, b⟩ => ⟨j, by omega, b⟩), ih.2⟩
        · refine ⟨Or.inr ⟨i, by omega, c1⟩, fun x h => ?_⟩
          rcases List.mem_append.mp h with h | h
          · exact ih.2 x h
          · rw [List.mem_singleton.mp h]
            exact vkey_putl hx (by omega) (by omega) (by omega) (by omega)
      · split
        · exact ⟨ih.1.imp id (fun ⟨j, a, b⟩ => ⟨j, by omega, b⟩), ih.2⟩
        · rename_i c1 c2
          refine ⟨ih.1.imp id (fun ⟨j, a, b⟩ => ⟨j, by omega, b⟩), fun x h => ?_⟩
          rcases List.mem_append.mp h with h | h
          · exact ih.2 x h
          · rw [List.mem_singleton.mp h]
            exact (vkey_low hk hx c0.1 c0.2 c1 (by omega)).2
    · refine ⟨ih.1.imp id (fun ⟨j, a, b⟩ => ⟨j, by omega, b⟩), fun x h => ?_⟩
      rcases List.mem_append.mp h with h | h
      · exact ih.2 x h
      · rw [List.mem_singleton.mp h]; exact hx
theorem vPres_all {kd pt gl : Nat → Nat} {tx : Nat → Int32} : vPres kd pt gl tx := by
  intro a i s S S' hok hI ⟨r, hr, h, h'⟩
  rcases h with ⟨_, _, h1, h2⟩ | ⟨h0, hC⟩
  · rw [h1, h2]; exact hI
  have hz := rsn_0 hI h0
  obtain ⟨hk, hg, h4, hn, hl2, hps⟩ := hz
  have hn6 := hI.1
  have hk5 := hok.1
  generalize kd s = K at hC hk hg h4 hn hl2 hps hk5
  generalize pt s = k at hC hk hg h4 hn hl2 hps
  generalize gl s = g at hC hg h4
  obtain rfl | rfl | rfl | rfl | rfl | rfl : K = 0 ∨ K = 1 ∨ K = 2 ∨ K = 3 ∨ K = 4 ∨ K = 5 := by omega
  · rcases hC with ⟨_, _, e1, e2⟩ | ⟨lb, e0, _, e1, e2, _⟩
    · rw [e1, e2]; exact hI
    · rw [e1]
      refine vInv_perm e2 ⟨by have := hn (by omega); omega, fun j hj => ?_⟩
      unfold eup
      split
      · exact vkey_putl hk hk.2.1 (lev_le k) (aftl_lt e0 (hk.2.2 _ hk.2.1 (lev_le k))) (by have := aftl_gt e0; omega)
      · exact hI.2 j (by omega)
  · rcases hC with ⟨_, _, e1, e2⟩ | ⟨lb, e0, _, e1, e2, _⟩
    · rw [e1, e2]; exact hI
    · rw [e1]
      refine vInv_perm e2 ⟨by have := hn (by omega); omega, fun j hj => ?_⟩
      have hb := newl_ge e0
      have := hl2 rfl
      unfold eup
      split
      · exact vkey_putl hk (by omega) (by omega) (by omega) (by omega)
      · exact hI.2 j (by omega)
  · obtain ⟨j, e0, _, e1, e2⟩ := hC
    rw [e1, e2]
    refine ⟨hn6, fun q hq => ?_⟩
    unfold eup
    split
    · exact hI.2 j (posK_key e0).1
    · exact hI.2 q hq
  · obtain ⟨_, e1, e2⟩ := hC
    rw [e1, e2]
    refine ⟨hn6, fun q hq => ?_⟩
    unfold rpE
    split
    · exact hI.2 q hq
    · exact hI.2 q hq
  · rw [if_pos rfl] at hg h4
    have h4' := h4 rfl
    rcases hC with ⟨_, _, e1, e2⟩ | ⟨lb, e0, _, e1, e2, _⟩
    · rw [e1, e2]; exact hI
    · rw [e1]
      refine vInv_perm e2 ⟨hn6, fun j hj => ?_⟩
      unfold cpE
      split
      · exact vkey_move hg hk h4'.1 (hI.2 j hj) (aftl_lt e0 (hg.2.2 _ hg.2.1 (lev_le g))) (by have := aftl_gt e0; omega)
      · exact hI.2 j hj
  · obtain ⟨_, e1, e2⟩ := hC
    have hr := rnS_le S.2.1 k S.1
    have hr2 := (rnS_key hI hk S.1 (Nat.le_refl _)).2
    refine ⟨by omega, fun j hj => ?_⟩
    rw [e1] at hj
    rw [e2 j _ (List.getElem?_eq_getElem hj)]
    exact hr2 _ (List.getElem_mem hj)
