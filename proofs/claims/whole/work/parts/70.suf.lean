/-! the suffix between two others -/
theorem sch_s {st sz b f x : Nat} : sch st sz b (f + 1) x = if x < b then (if isf x = true then (if sfl x = sz then some x else sch st sz b f (x + st)) else sch st sz b f (x + st)) else none := rfl
theorem sch_none {st sz b : Nat} : ∀ (f x : Nat), (∀ y, x ≤ y → y < b → isf y = true → sfl y = sz → False) → sch st sz b f x = none
  | 0, x, h => rfl
  | f + 1, x, h => by
    rw [sch_s]
    have ih := sch_none (st := st) f (x + st) (fun y h1 h2 => h y (by omega) h2)
    split
    · rename_i hx
      split
      · rename_i h1
        split
        · rename_i h2
          exact absurd (h x (Nat.le_refl _) hx h1 h2) (fun z => z)
        · exact ih
      · exact ih
    · rfl
theorem sch_hit {st sz b x f : Nat} (h : isf x = true) (hs : sfl x = sz) : sch st sz b (f + 1) x = if x < b then some x else none := by
  rw [sch_s, if_pos h, if_pos hs]
def okS (a : Nat) : Prop := a < 19683 ∧ (a = 0 ∨ isf a = true)
theorem sfB_eq {a b : Nat} (ha : okS a) (hb : b ≤ 19683) (hab : a < b) : sfB a b = if (a / 729 + 1) * 729 < b then some ((a / 729 + 1) * 729) else if a = 0 then none else if (a / 27 + 1) * 27 < b then some ((a / 27 + 1) * 27) else if a % 729 = 0 then none else if a + 1 < b then some (a + 1) else none := by
  obtain ⟨ha1, ha2⟩ := ha
  have s1 : sch 729 1 b 20000 ((a / 729 + 1) * 729) = if (a / 729 + 1) * 729 < b then some ((a / 729 + 1) * 729) else none := by
    refine sch_hit (f := 19999) (isf_iff.mpr ⟨by omega, Or.inr (by omega)⟩) ?_
    unfold sfl
    rw [if_neg (by omega), if_pos (by omega)]
  unfold sfB
  rw [s1]
  by_cases c1 : (a / 729 + 1) * 729 < b
  · rw [if_pos c1, if_pos c1]
  · rw [if_neg c1, if_neg c1]
    dsimp only
    by_cases c2 : a = 0
    · rw [if_pos c2]
      have n2 : sch 27 2 b 20000 ((a / 27 + 1) * 27) = none := sch_none _ _ (fun y h1 h2 h3 h4 => by have := (isf_iff.mp h3).1; omega)
      have n3 : sch 1 3 b 20000 ((a / 1 + 1) * 1) = none := sch_none _ _ (fun y h1 h2 h3 h4 => by have := (isf_iff.mp h3).1; omega)
      rw [n2, n3]
    · rw [if_neg c2]
      have hi := isf_iff.mp (ha2.resolve_left c2)
      by_cases c3 : (a / 27 + 1) * 27 < b
      · have s2 : sch 27 2 b 20000 ((a / 27 + 1) * 27) = if (a / 27 + 1) * 27 < b then some ((a / 27 + 1) * 27) else none := by
          refine sch_hit (f := 19999) (isf_iff.mpr ⟨by omega, Or.inr (by omega)⟩) ?_
          unfold sfl
          rw [if_neg (by omega), if_neg (by omega), if_pos (by omega)]
        rw [s2, if_pos c3, if_pos c3]
      · have n2 : sch 27 2 b 20000 ((a / 27 + 1) * 27) = none := by
          rw [sch_s (f := 19999), if_neg c3]
        rw [n2, if_neg c3]
        dsimp only
        by_cases c4 : a % 729 = 0
        · rw [if_pos c4]
          refine sch_none _ _ (fun y h1 h2 h3 h4 => ?_)
          have := (isf_iff.mp h3).2
          omega
        · rw [if_neg c4]
          by_cases c5 : a + 1 < b
          · rw [if_pos c5]
            have s3 := sch_hit (st := 1) (sz := 3) (b := b) (x := (a / 1 + 1) * 1) (f := 19999) (isf_iff.mpr ⟨by omega, Or.inl (by omega)⟩) (by unfold sfl; rw [if_neg (by omega), if_neg (by omega), if_neg (by omega)])
            rw [s3, if_pos (by omega), show (a / 1 + 1) * 1 = a + 1 by omega]
          · rw [if_neg c5, sch_s (f := 19999), if_neg (by omega)]
theorem betw_eq {u a b : Nat} (ha : okS a) (hb : b ≤ 19683) (hab : a < b) : betw (u * 19683 + a) (u * 19683 + b) = (sfB a b).map (fun x => u * 19683 + x) := by
  rw [sfB_eq ha hb hab]
  unfold betw
  have e1 : (u * 19683 + a) % 729 = a % 729 := by omega
  have e2 : (u * 19683 + a) % 19683 = a := by have := ha.1; omega
  have e3 : (u * 19683 + a) % 27 = a % 27 := by omega
  rw [e1, e2, e3]
  by_cases c1 : (a / 729 + 1) * 729 < b
  · rw [if_pos (by omega), if_pos c1]
    exact congrArg some (show u * 19683 + a - a % 729 + 729 = u * 19683 + (a / 729 + 1) * 729 by omega)
  · rw [if_neg (by omega), if_neg c1]
    by_cases c2 : a = 0
    · rw [if_pos c2, if_pos c2]; rfl
    · rw [if_neg c2, if_neg c2]
      by_cases c3 : (a / 27 + 1) * 27 < b
      · rw [if_pos (by omega), if_pos c3]
        exact congrArg some (show u * 19683 + a - a % 27 + 27 = u * 19683 + (a / 27 + 1) * 27 by omega)
      · rw [if_neg (by omega), if_neg c3]
        by_cases c4 : a % 729 = 0
        · rw [if_pos c4, if_pos c4]; rfl
        · rw [if_neg c4, if_neg c4]
          by_cases c5 : a + 1 < b
          · rw [if_pos (by omega), if_pos c5]
            exact congrArg some (show u * 19683 + a + 1 = u * 19683 + (a + 1) by omega)
          · rw [if_neg (by omega), if_neg c5]; rfl
theorem sfB_ok {a b x : Nat} (ha : okS a) (hb : b ≤ 19683) (hab : a < b) (h : sfB a b = some x) : okS x ∧ a < x ∧ x < b := by
  have hl := sfB_lt h
  rw [sfB_eq ha hb hab] at h
  obtain ⟨ha1, ha2⟩ := ha
  by_cases c1 : (a / 729 + 1) * 729 < b
  · rw [if_pos c1] at h
    cases h
    exact ⟨⟨by omega, Or.inr (isf_iff.mpr ⟨by omega, Or.inr (by omega)⟩)⟩, by omega, by omega⟩
  · rw [if_neg c1] at h
    by_cases c2 : a = 0
    · rw [if_pos c2] at h; cases h
    · rw [if_neg c2] at h
      have hi := isf_iff.mp (ha2.resolve_left c2)
      by_cases c3 : (a / 27 + 1) * 27 < b
      · rw [if_pos c3] at h
        cases h
        exact ⟨⟨by omega, Or.inr (isf_iff.mpr ⟨by omega, Or.inr (by omega)⟩)⟩, by omega, by omega⟩
      · rw [if_neg c3] at h
        by_cases c4 : a % 729 = 0
        · rw [if_pos c4] at h; cases h
        · rw [if_neg c4] at h
          by_cases c5 : a + 1 < b
          · rw [if_pos c5] at h
            cases h
            exact ⟨⟨by omega, Or.inr (isf_iff.mpr ⟨by omega, Or.inl (by omega)⟩)⟩, by omega, by omega⟩
          · rw [if_neg c5] at h; cases h
