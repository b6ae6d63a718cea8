theorem wi_int {y k : Nat} (hk : gk k) : wi y k ↔ k ≤ y ∧ y < k + un (lev k) := by
  have hu := un_pos (lev k)
  have a1 := Nat.div_add_mod y (un (lev k))
  have a2 := Nat.div_add_mod k (un (lev k))
  have a3 := Nat.mod_lt y hu
  have a4 := lev_un (k := k)
  rw [a4] at a2
  constructor
  · intro h
    have h : y / un (lev k) = k / un (lev k) := h
    rw [h] at a1
    omega
  · intro ⟨h1, h2⟩
    show y / un (lev k) = k / un (lev k)
    refine Nat.div_eq_of_lt_le ?_ ?_
    · rw [Nat.mul_comm]; omega
    · rw [Nat.add_mul, Nat.one_mul, Nat.mul_comm]; omega
/-- what lies below a child lies below its parent -/
theorem wi_tr {x c k : Nat} (hx : gk x) (hc : gk c) (hp : par c = k) (h : wi x c) (hk : gk k) : wi x k ∧ x ≠ k := by
  unfold wi at h ⊢
  obtain ⟨a, b, d, h1, h2, h3, h4, rfl, ha, hh⟩ := gk_ex hx
  obtain ⟨a', b', c', g1, g2, g3, g4, rfl, ga, gg⟩ := gk_ex hc
  rcases gg with ⟨rfl, rfl, d3, d4, d5⟩ | ⟨d1, rfl, gb, d3, d4, d5⟩ | ⟨d1, d2, gb, gc, d3, d4, d5⟩
  · rw [d4] at hp; rw [← hp] at hk; exact absurd (gk_pos hk).1 (by decide)
  · rw [d4] at hp
    rw [← hp, lv1 ga.r, un_1]
    rw [d3, un_2] at h
    unfold kk at h ⊢
    omega
  · rw [d4] at hp
    rw [← hp, lv2 g1 gb.r, un_2]
    rw [d3, un_3] at h
    unfold kk at h ⊢
    omega
theorem rn_ch {x k B : Nat} (hx : gk x) (hk : gk k) (hp : par x = k) (hB : okL B) : gk (putl x (lev k + 1) B) ∧ par (putl x (lev k + 1) B) = k ∧ lev (putl x (lev k + 1) B) = lev k + 1 ∧ lab (putl x (lev k + 1) B) (lev k + 1) = B := by
  have hl := (par_wi hx hk hp).2.2
  have := gk_sib hx hB
  rw [hl, hp] at this
  exact this
theorem rn_gc {x k B : Nat} (hx : gk x) (hk : gk k) (hlx : lev x = lev k + 2) (hB : okL B) (h1k : lev k = 1) : gk (putl x (lev k + 1) B) ∧ lev (putl x (lev k + 1) B) = lev x ∧ par (putl x (lev k + 1) B) = putl (par x) (lev k + 1) B ∧ lab (putl x (lev k + 1) B) (lev x) = lab x (lev x) := by
  obtain ⟨a, b, c, h1, h2, h3, h4, rfl, ha, hh⟩ := gk_ex hx
  rcases hh with ⟨rfl, rfl, c3, c4, c5⟩ | ⟨c1, rfl, hb, c3, c4, c5⟩ | ⟨c1, c2, hb, hc, c3, c4, c5⟩
  · omega
  · omega
  · rw [h1k, c4]
    show gk (putl _ 2 _) ∧ lev (putl _ 2 _) = _ ∧ par (putl _ 2 _) = putl _ 2 _ ∧ lab (putl _ 2 _) _ = _
    rw [putl_kk2 h1 h2 h3, putl_kk2 h1 h2 (by decide), c3]
    exact ⟨Or.inr (Or.inr ⟨a, B, c, ha, hB, hc, rfl⟩), lv3 h1 hB.r.2 hc.r, pr3 h1 hB.r.2 hc.r, by rw [lab_kk3 h1 hB.r.2 h3, lab_kk3 h1 h2 h3]⟩
/-- the shape of what lies strictly below -/
theorem sw_form {x k : Nat} (hx : gk x) (hk : gk k) (h1 : x ≠ k) (h2 : wi x k) : (∃ a b c, a < 2097152 ∧ 0 < b ∧ b < 2097152 ∧ c < 2097152 ∧ lev k = 1 ∧ k = kk a 0 0 ∧ x = kk a b c ∧ (∀ B, putl x (lev k + 1) B = kk a B c) ∧ lab x (lev k + 1) = b) ∨ ∃ a b c, a < 2097152 ∧ b < 2097152 ∧ 0 < c ∧ c < 2097152 ∧ lev k = 2 ∧ k = kk a b 0 ∧ x = kk a b c ∧ (∀ B, putl x (lev k + 1) B = kk a b B) ∧ lab x (lev k + 1) = c := by
  obtain ⟨a, b, c, q1, q2, q3, q4, rfl, qa, hh⟩ := gk_ex hx
  obtain ⟨a', b', c', g1, g2, g3, g4, rfl, ga, gg⟩ := gk_ex hk
  unfold wi at h2
  rcases gg with ⟨rfl, rfl, d3, d4, d5⟩ | ⟨d1, rfl, gb, d3, d4, d5⟩ | ⟨d1, d2, gb, gc, d3, d4, d5⟩
  · left
    rw [d3, un_1] at h2
    have ea : a = a' := by unfold kk at h2; omega
    refine ⟨a, b, c, q1, ?_, q2, q3, d3, by rw [ea], rfl, fun B => ?_, ?_⟩
    · rcases hh with ⟨rfl, rfl, _⟩ | ⟨z, _⟩ | ⟨z, _⟩
      · exact absurd (by rw [ea]) h1
      · exact z
      · exact z
    · rw [d3]; exact putl_kk2 q1 q2 q3 B
    · rw [d3]; exact lab_kk2 q1 q2 q3
  · right
    rw [d3, un_2] at h2
    have ea : a = a' ∧ b = b' := by unfold kk at h2; omega
    refine ⟨a, b, c, q1, q2, ?_, q3, d3, by rw [ea.1, ea.2], rfl, fun B => ?_, ?_⟩
    · rcases Nat.eq_zero_or_pos c with z | z
      · exact absurd (by rw [ea.1, ea.2, z]) h1
      · exact z
    · rw [d3]; exact putl_kk3 q1 q2 q3 B
    · rw [d3]; exact lab_kk3 q1 q2 q3
  · rw [d3, un_3] at h2
    exact absurd (by omega) h1
theorem sw_lt {x y k A B : Nat} (hx : gk x) (hy : gk y) (hk : gk k) (x1 : x ≠ k) (x2 : wi x k) (y1 : y ≠ k) (y2 : wi y k) (h : A < B) : putl x (lev k + 1) A < putl y (lev k + 1) B := by
  rcases sw_form hx hk x1 x2 with ⟨a, b, c, q1, q2, q3, q4, q5, q6, q7, q8, q9⟩ | ⟨a, b, c, q1, q2, q3, q4, q5, q6, q7, q8, q9⟩ <;> rcases sw_form hy hk y1 y2 with ⟨a', b', c', r1, r2, r3, r4, r5, r6, r7, r8, r9⟩ | ⟨a', b', c', r1, r2, r3, r4, r5, r6, r7, r8, r9⟩
  · rw [q8, r8]; rw [q6] at r6; unfold kk at r6 ⊢; omega
  · omega
  · omega
  · rw [q8, r8]; rw [q6] at r6; unfold kk at r6 ⊢; omega
theorem sw_le {x y k : Nat} (hx : gk x) (hy : gk y) (hk : gk k) (x1 : x ≠ k) (x2 : wi x k) (y1 : y ≠ k) (y2 : wi y k) (h : x < y) : lab x (lev k + 1) ≤ lab y (lev k + 1) ∧ (lab x (lev k + 1) = lab y (lev k + 1) → ∀ B, putl x (lev k + 1) B < putl y (lev k + 1) B) := by
  rcases sw_form hx hk x1 x2 with ⟨a, b, c, q1, q2, q3, q4, q5, q6, q7, q8, q9⟩ | ⟨a, b, c, q1, q2, q3, q4, q5, q6, q7, q8, q9⟩ <;> rcases sw_form hy hk y1 y2 with ⟨a', b', c', r1, r2, r3, r4, r5, r6, r7, r8, r9⟩ | ⟨a', b', c', r1, r2, r3, r4, r5, r6, r7, r8, r9⟩
  · rw [q9, r9]
    rw [q6] at r6
    rw [q7, r7] at h
    refine ⟨by unfold kk at r6 h; omega, fun e B => ?_⟩
    have ea : a = a' := by unfold kk at r6; omega
    rw [ea, e] at h
    have hc : c < c' := by unfold kk at h; omega
    rw [q8, r8, ea]
    unfold kk
    exact Nat.add_lt_add_left hc _
  · omega
  · omega
  · rw [q9, r9]
    rw [q6] at r6
    rw [q7, r7] at h
    refine ⟨by unfold kk at r6 h; omega, fun e B => ?_⟩
    exfalso
    unfold kk at r6 h
    omega
theorem sw_in {x k B : Nat} (hx : gk x) (hk : gk k) (x1 : x ≠ k) (x2 : wi x k) (hB : 0 < B ∧ B < 2097152) : k < putl x (lev k + 1) B ∧ wi (putl x (lev k + 1) B) k := by
  rcases sw_form hx hk x1 x2 with ⟨a, b, c, q1, q2, q3, q4, q5, q6, q7, q8, q9⟩ | ⟨a, b, c, q1, q2, q3, q4, q5, q6, q7, q8, q9⟩
  · rw [q8]
    unfold wi
    rw [q5, un_1, q6]
    unfold kk
    omega
  · rw [q8]
    unfold wi
    rw [q5, un_2, q6]
    unfold kk
    omega
def rnK (K : Nat → Nat) (P b : Nat → Nat) (k w : Nat) : Nat := if K w ≠ k ∧ wi (K w) k then putl (K w) (lev k + 1) (b (if lev (K w) = lev k + 1 then w else P w - 1)) else K w
/-- the numbers of the class's loop -/
theorem rnS_num {e : Nat → zEnt} {k n : Nat} (hg : ∀ i, i < n → gk (ek (e i))) (hk : gk k) : ∀ i, i ≤ n → (rnS e k i).1 = (dlK e k i).length
  | 0, _ => rfl
  | i + 1, hi => by
    have ih := rnS_num hg hk i (by omega)
    have gi := hg i (by omega)
    unfold rnS rnStep dlK
    by_cases c0 : ek (e i) ≠ k ∧ ek (e i) / un (lev k) = k / un (lev k)
    · rw [if_pos c0]
      have sw := VR.of_sw gi hk c0.1 c0.2
      by_cases c1 : lev (ek (e i)) = lev k + 1
      · rw [if_pos c1]
        have hp : par (ek (e i)) = k := by rcases sw with z | z; exact z.2; omega
        cases hr : er (e i) with
        | true => rw [if_pos rfl, if_neg (fun z => by cases z.2)]; exact ih
        | false =>
          rw [if_neg (by decide), if_pos ⟨hp, rfl⟩, List.length_append]
          show (rnS e k i).1 + 1 = _
          rw [ih]; rfl
      · rw [if_neg c1]
        have hp : par (ek (e i)) ≠ k := by rcases sw with z | z; exact absurd z.1 c1; exact z.2.2.1
        by_cases c3 : (rnS e k i).2.1 = true
        · rw [if_pos c3, if_neg (fun z => hp z.1)]; exact ih
        · rw [if_neg c3, if_neg (fun z => hp z.1)]; exact ih
    · rw [if_neg c0]
      have hp : par (ek (e i)) ≠ k := fun z => c0 ⟨(par_wi gi hk z).1, (par_wi gi hk z).2.1⟩
      rw [if_neg (fun z => hp z.1)]
      exact ih
theorem rnS_flag {e : Nat → zEnt} {k n : Nat} (hg : ∀ i, i < n → gk (ek (e i))) (hk : gk k) : ∀ i, i ≤ n → ∀ j, j < i → par (ek (e j)) = k → (∀ j', j < j' → j' < i → par (ek (e j')) ≠ k) → (rnS e k i).2.1 = er (e j)
  | 0, _, j, hj, _, _ => by omega
  | i + 1, hi, j, hj, hp, hn => by
    have gi := hg i (by omega)
    unfold rnS rnStep
    by_cases hji : j = i
    · subst hji
      have pw := par_wi gi hk hp
      rw [if_pos ⟨pw.1, pw.2.1⟩, if_pos pw.2.2]
      cases hr : er (e j) with
      | true => rw [if_pos rfl]
      | false => rw [if_neg (by decide)]
    · have ih := rnS_flag hg hk i (by omega) j (by omega) hp (fun j' h1 h2 => hn j' h1 (by omega))
      have hpi := hn i (by omega) (by omega)
      by_cases c0 : ek (e i) ≠ k ∧ ek (e i) / un (lev k) = k / un (lev k)
      · rw [if_pos c0]
        have sw := VR.of_sw gi hk c0.1 c0.2
        rw [if_neg (fun z => by rcases sw with y | y; exact hpi y.2; omega)]
        split
        · exact ih
        · exact ih
      · rw [if_neg c0]; exact ih
