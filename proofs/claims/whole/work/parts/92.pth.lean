/-! paths as text -/
def lbC (l : Nat) : List Nat := (if 9 < l / 19683 then [48 + l / 19683 / 10] else []) ++ ([48 + l / 19683 % 10] ++ ((if 0 < l / 729 % 27 then [65 + l / 729 % 27 - 1] else []) ++ ((if 0 < l / 27 % 27 then [65 + l / 27 % 27 - 1] else []) ++ (if 0 < l / 1 % 27 then [65 + l / 1 % 27 - 1] else []))))
def pcR : List Nat → List Nat
  | [] => []
  | l :: t => 40 :: (lbC l ++ (41 :: pcR t))
def pC (k : Nat) : List Nat := if lev k = 1 then lbC (lab k 1) else if lev k = 2 then lbC (lab k 1) ++ pcR [lab k 2] else lbC (lab k 1) ++ pcR [lab k 2, lab k 3]
theorem lbC_ok {l : Nat} (h : okL l) : (lbC l).length = digs l + lets l ∧ ∀ j, j < digs l + lets l → (lbC l)[j]? = some (lch l j) := by
  obtain ⟨h1, h2, h3, h4⟩ := h
  have e1 : l / 729 % 27 = l % 19683 / 729 := by omega
  have e2 : l / 27 % 27 = l % 19683 / 27 % 27 := by omega
  have e3 : l / 1 % 27 = l % 19683 % 27 := by omega
  have e4 : l % 27 = l % 19683 % 27 := by omega
  have ok : l % 19683 = 0 ∨ (0 < l % 19683 / 729 ∧ (0 < l % 19683 / 27 % 27 ∨ l % 19683 % 27 = 0)) := h4.imp id isf_iff.mp
  by_cases c1 : l / 729 % 27 = 0
  · have hl : lets l = 0 := by unfold lets; rw [if_pos c1]
    by_cases d : 9 < l / 19683
    · have hd : digs l = 2 := by unfold digs; rw [if_neg (by omega)]
      have e : lbC l = [48 + l / 19683 / 10, 48 + l / 19683 % 10] := by
        unfold lbC
        rw [if_pos d, if_neg (show ¬ 0 < l / 729 % 27 by omega), if_neg (show ¬ 0 < l / 27 % 27 by omega), if_neg (show ¬ 0 < l / 1 % 27 by omega)]; rfl
      rw [e, hd, hl]
      refine ⟨rfl, fun j hj => ?_⟩
      match j, hj with
      | 0, _ => simp [lch, hd]
      | 1, _ => simp [lch, hd]
    · have hd : digs l = 1 := by unfold digs; rw [if_pos (by omega)]
      have e : lbC l = [48 + l / 19683 % 10] := by
        unfold lbC
        rw [if_neg d, if_neg (show ¬ 0 < l / 729 % 27 by omega), if_neg (show ¬ 0 < l / 27 % 27 by omega), if_neg (show ¬ 0 < l / 1 % 27 by omega)]; rfl
      rw [e, hd, hl]
      refine ⟨rfl, fun j hj => ?_⟩
      match j, hj with
      | 0, _ => simp [lch, hd]
  · by_cases c2 : l / 27 % 27 = 0
    · have hl : lets l = 1 := by unfold lets; rw [if_neg c1, if_pos c2]
      by_cases d : 9 < l / 19683
      · have hd : digs l = 2 := by unfold digs; rw [if_neg (by omega)]
        have e : lbC l = [48 + l / 19683 / 10, 48 + l / 19683 % 10, 65 + l / 729 % 27 - 1] := by
          unfold lbC
          rw [if_pos d, if_pos (show 0 < l / 729 % 27 by omega), if_neg (show ¬ 0 < l / 27 % 27 by omega), if_neg (show ¬ 0 < l / 1 % 27 by omega)]; rfl
        rw [e, hd, hl]
        refine ⟨rfl, fun j hj => ?_⟩
        match j, hj with
        | 0, _ => simp [lch, hd]
        | 1, _ => simp [lch, hd]
        | 2, _ => simp [lch, hd, lunit]
      · have hd : digs l = 1 := by unfold digs; rw [if_pos (by omega)]
        have e : lbC l = [48 + l / 19683 % 10, 65 + l / 729 % 27 - 1] := by
          unfold lbC
          rw [if_neg d, if_pos (show 0 < l / 729 % 27 by omega), if_neg (show ¬ 0 < l / 27 % 27 by omega), if_neg (show ¬ 0 < l / 1 % 27 by omega)]; rfl
        rw [e, hd, hl]
        refine ⟨rfl, fun j hj => ?_⟩
        match j, hj with
        | 0, _ => simp [lch, hd]
        | 1, _ => simp [lch, hd, lunit]
    · by_cases c3 : l % 27 = 0
      · have hl : lets l = 2 := by unfold lets; rw [if_neg c1, if_neg c2, if_pos c3]
        by_cases d : 9 < l / 19683
        · have hd : digs l = 2 := by unfold digs; rw [if_neg (by omega)]
          have e : lbC l = [48 + l / 19683 / 10, 48 + l / 19683 % 10, 65 + l / 729 % 27 - 1, 65 + l / 27 % 27 - 1] := by
            unfold lbC
            rw [if_pos d, if_pos (show 0 < l / 729 % 27 by omega), if_pos (show 0 < l / 27 % 27 by omega), if_neg (show ¬ 0 < l / 1 % 27 by omega)]; rfl
          rw [e, hd, hl]
          refine ⟨rfl, fun j hj => ?_⟩
          match j, hj with
          | 0, _ => simp [lch, hd]
          | 1, _ => simp [lch, hd]
          | 2, _ => simp [lch, hd, lunit]
          | 3, _ => simp [lch, hd, lunit]
        · have hd : digs l = 1 := by unfold digs; rw [if_pos (by omega)]
          have e : lbC l = [48 + l / 19683 % 10, 65 + l / 729 % 27 - 1, 65 + l / 27 % 27 - 1] := by
            unfold lbC
            rw [if_neg d, if_pos (show 0 < l / 729 % 27 by omega), if_pos (show 0 < l / 27 % 27 by omega), if_neg (show ¬ 0 < l / 1 % 27 by omega)]; rfl
          rw [e, hd, hl]
          refine ⟨rfl, fun j hj => ?_⟩
          match j, hj with
          | 0, _ => simp [lch, hd]
          | 1, _ => simp [lch, hd, lunit]
          | 2, _ => simp [lch, hd, lunit]
      · have hl : lets l = 3 := by unfold lets; rw [if_neg c1, if_neg c2, if_neg c3]
        by_cases d : 9 < l / 19683
        · have hd : digs l = 2 := by unfold digs; rw [if_neg (by omega)]
          have e : lbC l = [48 + l / 19683 / 10, 48 + l / 19683 % 10, 65 + l / 729 % 27 - 1, 65 + l / 27 % 27 - 1, 65 + l / 1 % 27 - 1] := by
            unfold lbC
            rw [if_pos d, if_pos (show 0 < l / 729 % 27 by omega), if_pos (show 0 < l / 27 % 27 by omega), if_pos (show 0 < l / 1 % 27 by omega)]; rfl
          rw [e, hd, hl]
          refine ⟨rfl, fun j hj => ?_⟩
          match j, hj with
          | 0, _ => simp [lch, hd]
          | 1, _ => simp [lch, hd]
          | 2, _ => simp [lch, hd, lunit]
          | 3, _ => simp [lch, hd, lunit]
          | 4, _ => simp [lch, hd, lunit]
        · have hd : digs l = 1 := by unfold digs; rw [if_pos (by omega)]
          have e : lbC l = [48 + l / 19683 % 10, 65 + l / 729 % 27 - 1, 65 + l / 27 % 27 - 1, 65 + l / 1 % 27 - 1] := by
            unfold lbC
            rw [if_neg d, if_pos (show 0 < l / 729 % 27 by omega), if_pos (show 0 < l / 27 % 27 by omega), if_pos (show 0 < l / 1 % 27 by omega)]; rfl
          rw [e, hd, hl]
          refine ⟨rfl, fun j hj => ?_⟩
          match j, hj with
          | 0, _ => simp [lch, hd]
          | 1, _ => simp [lch, hd, lunit]
          | 2, _ => simp [lch, hd, lunit]
          | 3, _ => simp [lch, hd, lunit]
theorem ch1 : ∀ (ls : List Nat) (p : Nat), (∀ l, l ∈ ls → okL l) → chGo 1 ls p = (pcR ls)[p]?
  | [], p, _ => by simp [chGo, pcR]
  | l :: t, p, h => by
    have hl := lbC_ok (h l List.mem_cons_self)
    have ih := fun q => ch1 t q (fun x hx => h x (List.mem_cons_of_mem _ hx))
    show (if p < 1 then some 40 else if p < 1 + (digs l + lets l) then some (lch l (p - 1)) else if p < 1 + (digs l + lets l) + 1 then some 41 else chGo 1 t (p - (1 + (digs l + lets l) + 1))) = (40 :: (lbC l ++ (41 :: pcR t)))[p]?
    rcases p with _ | p
    · rfl
    · rw [if_neg (by omega), List.getElem?_cons_succ]
      by_cases c1 : p < digs l + lets l
      · rw [if_pos (by omega), List.getElem?_append_left (by omega), show p + 1 - 1 = p by omega, hl.2 p c1]
      · rw [if_neg (by omega), List.getElem?_append_right (by omega), hl.1]
        by_cases c2 : p = digs l + lets l
        · rw [if_pos (by omega), show p - (digs l + lets l) = 0 by omega]; rfl
        · obtain ⟨q, hq⟩ : ∃ q, p = digs l + lets l + (q + 1) := ⟨p - (digs l + lets l) - 1, by omega⟩
          rw [if_neg (by omega), ih, show p - (digs l + lets l) = q + 1 by omega, show p + 1 - (1 + (digs l + lets l) + 1) = q by omega]
          rfl
theorem ch0 {a : Nat} {t : List Nat} {p : Nat} (ha : okL a) (ht : ∀ l, l ∈ t → okL l) : chGo 0 (a :: t) p = (lbC a ++ pcR t)[p]? := by
  have hl := lbC_ok ha
  show (if p < 0 then some 40 else if p < 0 + (digs a + lets a) then some (lch a (p - 0)) else if p < 0 + (digs a + lets a) + 0 then some 41 else chGo 1 t (p - (0 + (digs a + lets a) + 0))) = _
  rw [if_neg (by omega)]
  by_cases c : p < digs a + lets a
  · rw [if_pos (by omega), List.getElem?_append_left (by omega), show p - 0 = p by omega, hl.2 p c]
  · rw [if_neg (by omega), if_neg (by omega), List.getElem?_append_right (by omega), hl.1, ch1 t _ ht, show p - (0 + (digs a + lets a) + 0) = p - (digs a + lets a) by omega]
theorem gk_labs {k : Nat} (h : gk k) : okL (lab k 1) ∧ (2 ≤ lev k → okL (lab k 2)) ∧ (lev k = 3 → okL (lab k 3)) := by
  obtain ⟨a, b, c, h1, h2, h3, h4, hk, ha, hh⟩ := gk_ex h
  have e1 : lab k 1 = a := by rw [hk]; exact lab_kk1 h1 h2 h3
  have e2 : lab k 2 = b := by rw [hk]; exact lab_kk2 h1 h2 h3
  have e3 : lab k 3 = c := by rw [hk]; exact lab_kk3 h1 h2 h3
  clear hk
  rw [e1, e2, e3]
  refine ⟨ha, fun z => ?_, fun z => ?_⟩
  · rcases hh with y | y | y
    · omega
    · exact y.2.2.1
    · exact y.2.2.1
  · rcases hh with y | y | y
    · omega
    · omega
    · exact y.2.2.2.1
theorem pC_ok {k : Nat} (h : gk k) : (pC k).length = plen k ∧ (pC k).length ≤ 19 ∧ ∀ p, chGo 0 (labs k) p = (pC k)[p]? := by
  have gl := gk_labs h
  have lv := gk_lev h
  have dl : ∀ l, digs l ≤ 2 ∧ lets l ≤ 3 := fun l => ⟨(digs_le l).2, lets_le l⟩
  have d1 := dl (lab k 1)
  have d2 := dl (lab k 2)
  have d3 := dl (lab k 3)
  clear h
  generalize ha : lab k 1 = a at *
  generalize hb : lab k 2 = b at *
  generalize hc : lab k 3 = c at *
  have la := lbC_ok gl.1
  rcases (show lev k = 1 ∨ lev k = 2 ∨ lev k = 3 by omega) with z | z | z
  · have e : pC k = lbC a := by unfold pC; rw [if_pos z, ha]
    have el : labs k = [a] := by unfold labs; rw [if_neg (by omega), if_pos z, ha]
    have ep : plen k = digs a + lets a := by unfold plen; rw [if_neg (by omega), if_pos z, ha]
    rw [e, el, ep]
    refine ⟨la.1, by rw [la.1]; omega, fun p => ?_⟩
    rw [ch0 gl.1 (fun l hl => by simp at hl)]
    show (lbC a ++ [])[p]? = _
    rw [List.append_nil]
  · have lb := lbC_ok (gl.2.1 (by omega))
    have e : pC k = lbC a ++ pcR [b] := by unfold pC; rw [if_neg (by omega), if_pos z, ha, hb]
    have el : labs k = [a, b] := by unfold labs; rw [if_neg (by omega), if_neg (by omega), if_pos z, ha, hb]
    have ep : plen k = digs a + lets a + (digs b + lets b + 2) := by unfold plen; rw [if_neg (by omega), if_neg (by omega), if_pos z, ha, hb]
    have len : (lbC a ++ pcR [b]).length = digs a + lets a + (digs b + lets b + 2) := by
      rw [List.length_append, la.1]
      show _ + (40 :: (lbC b ++ [41])).length = _
      rw [List.length_cons, List.length_append, lb.1]
      rfl
    rw [e, el, ep]
    exact ⟨len, by rw [len]; omega, fun p => ch0 gl.1 (fun l hl => by rw [List.mem_singleton.mp hl]; exact gl.2.1 (by omega))⟩
  · have lb := lbC_ok (gl.2.1 (by omega))
    have lc := lbC_ok (gl.2.2 z)
    have e : pC k = lbC a ++ pcR [b, c] := by unfold pC; rw [if_neg (by omega), if_neg (by omega), ha, hb, hc]
    have el : labs k = [a, b, c] := by unfold labs; rw [if_neg (by omega), if_neg (by omega), if_neg (by omega), ha, hb, hc]
    have ep : plen k = digs a + lets a + (digs b + lets b + 2) + (digs c + lets c + 2) := by unfold plen; rw [if_neg (by omega), if_neg (by omega), if_neg (by omega), ha, hb, hc]
    have len : (lbC a ++ pcR [b, c]).length = digs a + lets a + (digs b + lets b + 2) + (digs c + lets c + 2) := by
      rw [List.length_append, la.1]
      show _ + (40 :: (lbC b ++ (41 :: (40 :: (lbC c ++ [41]))))).length = _
      rw [List.length_cons, List.length_append, lb.1, List.length_cons, List.length_cons, List.length_append, lc.1]
      show _ + (digs b + lets b + (digs c + lets c + 1 + 1 + 1) + 1) = _
      omega
    rw [e, el, ep]
    exact ⟨len, by rw [len]; omega, fun p => ch0 gl.1 (fun l hl => by
      rcases List.mem_cons.mp hl with y | y
      · rw [y]; exact gl.2.1 (by omega)
      · rw [List.mem_singleton.mp y]; exact gl.2.2 z)⟩
theorem pC_1 {k : Nat} (h1 : lev k = 1) : pC k = lbC (lab k (lev k)) := by
  unfold pC
  rw [if_pos h1, h1]
theorem pC_s {k : Nat} (h : gk k) (h2 : 2 ≤ lev k) : pC k = pC (par k) ++ [40] ++ lbC (lab k (lev k)) ++ [41] := by
  have lv := gk_lev h
  have l1 := lab_par (l := 1) h (by omega) (by omega)
  have lp : lev (par k) + 1 = lev k := by
    rcases gk_par h with y | y
    · omega
    · exact y.2.2
  rcases (show lev k = 2 ∨ lev k = 3 by omega) with z | z
  · have e1 : pC k = lbC (lab k 1) ++ pcR [lab k 2] := by unfold pC; rw [if_neg (by omega), if_pos z]
    have e2 : pC (par k) = lbC (lab k 1) := by unfold pC; rw [if_pos (by omega), l1]
    rw [e1, e2, z]
    show lbC (lab k 1) ++ (40 :: (lbC (lab k 2) ++ [41])) = _
    simp
  · have l2 := lab_par (l := 2) h (by omega) (by omega)
    have e1 : pC k = lbC (lab k 1) ++ pcR [lab k 2, lab k 3] := by unfold pC; rw [if_neg (by omega), if_neg (by omega)]
    have e2 : pC (par k) = lbC (lab k 1) ++ pcR [lab k 2] := by unfold pC; rw [if_neg (by omega), if_pos (by omega), l1, l2]
    rw [e1, e2, z]
    show lbC (lab k 1) ++ (40 :: (lbC (lab k 2) ++ (41 :: (40 :: (lbC (lab k 3) ++ [41]))))) = lbC (lab k 1) ++ (40 :: (lbC (lab k 2) ++ [41])) ++ [40] ++ lbC (lab k 3) ++ [41]
    simp
theorem chX_ok {k : Nat} (h : gk k) (z : Int32) : chX k z = if hasP (pC k).length z = true then nI ((pC k).getD z.toNatClampNeg 0) else -9 := by
  have hp := pC_ok h
  unfold chX
  by_cases hz : z < 0
  · rw [if_pos hz, hasP_neg hz]; rfl
  · rw [if_neg hz, hp.2.2]
    by_cases c : z.toNatClampNeg < (pC k).length
    · have : hasP (pC k).length z = true := decide_eq_true ⟨hz, c⟩
      rw [this, if_pos rfl, List.getElem?_eq_getElem c]
      show nI _ = nI _
      rw [List.getD_eq_getElem?_getD, List.getElem?_eq_getElem c]
      rfl
    · have : hasP (pC k).length z = false := decide_eq_false (fun y => c y.2)
      rw [this, List.getElem?_eq_none (by omega)]
      rfl
/-- what has been written -/
def wr (s : Nat → Nat) (G : Nat → Nat → Nat) (l : List Nat) : Prop := s 9 = l.length ∧ ∀ j, j < l.length → G 24 j = l.getD j 0
theorem wr.put {s : Nat → Nat} {G : Nat → Nat → Nat} {l : List Nat} (h : wr s G l) (c : Nat) : wr (nup s 9 (s 9 + 1)) (gup G 24 (s 9) c) (l ++ [c]) := by
  refine ⟨by rw [nup_s, h.1]; simp, fun j hj => ?_⟩
  rw [gup_s, h.1]
  rw [List.length_append] at hj
  by_cases e : j = l.length
  · rw [e, nup_s]; simp
  · rw [nup_n e, h.2 j (by simp at hj; omega)]
    rw [List.getD_eq_getElem?_getD, List.getD_eq_getElem?_getD, List.getElem?_append_left (by simp at hj; omega)]
/-- what writing leaves alone -/
def wF (s s' : Nat → Nat) (G G' : Nat → Nat → Nat) : Prop := (∀ j, j ≠ 9 → s' j = s j) ∧ ∀ b, b ≠ 24 → G' b = G b
theorem wF.rf {s : Nat → Nat} {G : Nat → Nat → Nat} : wF s s G G := ⟨fun _ _ => rfl, fun _ _ => rfl⟩
theorem wF.tr {s s1 s2 : Nat → Nat} {G G1 G2 : Nat → Nat → Nat} (h : wF s s1 G G1) (h' : wF s1 s2 G1 G2) : wF s s2 G G2 := ⟨fun j a => (h'.1 j a).trans (h.1 j a), fun b x => (h'.2 b x).trans (h.2 b x)⟩
theorem wF.put {s : Nat → Nat} {G : Nat → Nat → Nat} {a b c : Nat} : wF s (nup s 9 a) G (gup G 24 b c) := ⟨fun _ h => nup_n h, fun _ h => gup_n h⟩
theorem wF.p {s s' : Nat → Nat} {G G' : Nat → Nat → Nat} (h : wF s s' G G') : pF s s' G G' := ⟨fun j hj => h.1 j (by omega), fun b hb => h.2 b (by omega)⟩
