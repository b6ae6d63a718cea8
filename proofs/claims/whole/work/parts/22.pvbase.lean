/-! blocks of cells; provisions in a block -/
/-- what a method changed: nothing outside [lo, lo + n) -/
def zFr (M M1 : List zE) (lo n : Nat) : Prop := M1.length = M.length ∧ ∀ j, (j < lo ∨ lo + n ≤ j) → M1[j]? = M[j]?
theorem zFr.rf {M : List zE} {lo n : Nat} : zFr M M lo n := ⟨rfl, fun _ _ => rfl⟩
theorem zFr.set {M M1 : List zE} {lo n c : Nat} {x : zE} (h : zFr M M1 lo n) (h1 : lo ≤ c) (h2 : c < lo + n) : zFr M (M1.set c x) lo n :=
  ⟨by rw [List.length_set]; exact h.1, fun j hj => by rw [List.getElem?_set_ne (by omega)]; exact h.2 j hj⟩
theorem zFr.trans {M M1 M2 : List zE} {lo n : Nat} (h : zFr M M1 lo n) (h' : zFr M1 M2 lo n) : zFr M M2 lo n := ⟨h'.1.trans h.1, fun j hj => (h'.2 j hj).trans (h.2 j hj)⟩
theorem zFr.wide {M M1 : List zE} {lo n lo' n' : Nat} (h : zFr M M1 lo n) (h1 : lo' ≤ lo) (h2 : lo + n ≤ lo' + n') : zFr M M1 lo' n' := ⟨h.1, fun j hj => h.2 j (by omega)⟩
/-- a provision: its path's number, its text, whether it is repealed, its identifier, its maker -/
abbrev zEnt : Type := Nat × Int32 × Bool × Int32 × Int32
def ek (x : zEnt) : Nat := x.1
def et (x : zEnt) : Int32 := x.2.1
def er (x : zEnt) : Bool := x.2.2.1
def eo (x : zEnt) : Int32 := x.2.2.2.1
def ec (x : zEnt) : Int32 := x.2.2.2.2
def bI (b : Bool) : Int32 := if b then 1 else 0
theorem bI_0 {b : Bool} : bI b = 0 ↔ b = false := by cases b <;> decide
theorem bI_eq {a b : Bool} : bI a = bI b ↔ a = b := by cases a <;> cases b <;> decide
theorem bI_01 (b : Bool) : bI b = 0 ∨ bI b = 1 := by cases b <;> decide
theorem bI_nI (b : Bool) : bI b = nI (if b then 1 else 0) := by cases b <;> decide
def PvAt (M : List zE) (b n : Nat) (e : Nat → zEnt) : Prop :=
  M[b]? = some (.inr (2, [.int (nI n), .ref (b + 1), .ref (b + 2), .ref (b + 3), .ref (b + 4), .ref (b + 5)])) ∧ M[b + 1]? = some (.inl (1, 60, .inr (.inl (fun i => lN (ek (e i)))))) ∧ M[b + 2]? = some (.inl (0, 60, .inl (fun i => et (e i)))) ∧
  M[b + 3]? = some (.inl (2, 60, .inl (fun i => bI (er (e i))))) ∧ M[b + 4]? = some (.inl (0, 60, .inl (fun i => eo (e i)))) ∧ M[b + 5]? = some (.inl (0, 60, .inl (fun i => ec (e i))))
theorem PvAt.fr {M M1 : List zE} {b n lo w : Nat} {e : Nat → zEnt} (h : PvAt M b n e) (hf : zFr M M1 lo w) (hd : b + 6 ≤ lo ∨ lo + w ≤ b) : PvAt M1 b n e := by
  obtain ⟨h0, h1, h2, h3, h4, h5⟩ := h
  exact ⟨by rw [hf.2 _ (by omega)]; exact h0, by rw [hf.2 _ (by omega)]; exact h1, by rw [hf.2 _ (by omega)]; exact h2, by rw [hf.2 _ (by omega)]; exact h3, by rw [hf.2 _ (by omega)]; exact h4, by rw [hf.2 _ (by omega)]; exact h5⟩
def eup (e : Nat → zEnt) (j : Nat) (x : zEnt) : Nat → zEnt := fun i => if i = j then x else e i
theorem eup_s {e : Nat → zEnt} {j : Nat} {x : zEnt} : eup e j x j = x := if_pos rfl
theorem eup_n {e : Nat → zEnt} {i j : Nat} {x : zEnt} (h : i ≠ j) : eup e j x i = e i := if_neg h
def sK (x : zEnt) (k : Nat) : zEnt := (k, x.2)
def sT (x : zEnt) (t : Int32) : zEnt := (x.1, t, x.2.2)
def sR (x : zEnt) (r : Bool) : zEnt := (x.1, x.2.1, r, x.2.2.2)
def sO (x : zEnt) (o : Int32) : zEnt := (x.1, x.2.1, x.2.2.1, o, x.2.2.2.2)
def sC (x : zEnt) (c : Int32) : zEnt := (x.1, x.2.1, x.2.2.1, x.2.2.2.1, c)
theorem PvAt.put {M : List zE} {b n c : Nat} {e e' : Nat → zEnt} {x : zE} (h : PvAt M b n e) (hc : b < c ∧ c ≤ b + 5) (hx : ∀ j, b < j → j ≤ b + 5 → j ≠ c → (j = b + 1 → ∀ i, ek (e' i) = ek (e i)) ∧ (j = b + 2 → ∀ i, et (e' i) = et (e i)) ∧ (j = b + 3 → ∀ i, er (e' i) = er (e i)) ∧ (j = b + 4 → ∀ i, eo (e' i) = eo (e i)) ∧ (j = b + 5 → ∀ i, ec (e' i) = ec (e i)))
    (hs : (c = b + 1 → x = .inl (1, 60, .inr (.inl (fun i => lN (ek (e' i)))))) ∧ (c = b + 2 → x = .inl (0, 60, .inl (fun i => et (e' i)))) ∧ (c = b + 3 → x = .inl (2, 60, .inl (fun i => bI (er (e' i))))) ∧ (c = b + 4 → x = .inl (0, 60, .inl (fun i => eo (e' i)))) ∧ (c = b + 5 → x = .inl (0, 60, .inl (fun i => ec (e' i))))) : PvAt (M.set c x) b n e' := by
  obtain ⟨h0, h1, h2, h3, h4, h5⟩ := h
  refine ⟨?_, ?_, ?_, ?_, ?_, ?_⟩
  · rw [st_ne (by omega)]; exact h0
  · by_cases hq : c = b + 1
    · subst hq; rw [hs.1 rfl]; exact st_eq h1
    · have q : (fun i => lN (ek (e' i))) = (fun i => lN (ek (e i))) := funext fun i => by rw [(hx (b + 1) (by omega) (by omega) (Ne.symm hq)).1 rfl i]
      rw [st_ne hq, h1, q]
  · by_cases hq : c = b + 2
    · subst hq; rw [hs.2.1 rfl]; exact st_eq h2
    · have q : (fun i => et (e' i)) = (fun i => et (e i)) := funext fun i => (hx (b + 2) (by omega) (by omega) (Ne.symm hq)).2.1 rfl i
      rw [st_ne hq, h2, q]
  · by_cases hq : c = b + 3
    · subst hq; rw [hs.2.2.1 rfl]; exact st_eq h3
    · have q : (fun i => bI (er (e' i))) = (fun i => bI (er (e i))) := funext fun i => by rw [(hx (b + 3) (by omega) (by omega) (Ne.symm hq)).2.2.1 rfl i]
      rw [st_ne hq, h3, q]
  · by_cases hq : c = b + 4
    · subst hq; rw [hs.2.2.2.1 rfl]; exact st_eq h4
    · have q : (fun i => eo (e' i)) = (fun i => eo (e i)) := funext fun i => (hx (b + 4) (by omega) (by omega) (Ne.symm hq)).2.2.2.1 rfl i
      rw [st_ne hq, h4, q]
  · by_cases hq : c = b + 5
    · subst hq; rw [hs.2.2.2.2 rfl]; exact st_eq h5
    · have q : (fun i => ec (e' i)) = (fun i => ec (e i)) := funext fun i => (hx (b + 5) (by omega) (by omega) (Ne.symm hq)).2.2.2.2 rfl i
      rw [st_ne hq, h5, q]
theorem PvAt.putK {M : List zE} {b n j k : Nat} {e : Nat → zEnt} (h : PvAt M b n e) : PvAt (M.set (b + 1) (.inl (1, 60, .inr (.inl (vp_updL (fun i => lN (ek (e i))) j (lN k)))))) b n (eup e j (sK (e j) k)) := by
  refine h.put (by omega) (fun q _ _ hq => ⟨fun z => absurd z hq, fun _ i => ?_, fun _ i => ?_, fun _ i => ?_, fun _ i => ?_⟩) ⟨fun _ => ?_, by omega, by omega, by omega, by omega⟩
  · by_cases hi : i = j <;> simp [eup, hi, sK, et]
  · by_cases hi : i = j <;> simp [eup, hi, sK, er]
  · by_cases hi : i = j <;> simp [eup, hi, sK, eo]
  · by_cases hi : i = j <;> simp [eup, hi, sK, ec]
  · congr 5; funext i; by_cases hi : i = j <;> simp [eup, hi, sK, ek, vp_updL]
theorem PvAt.putT {M : List zE} {b n j : Nat} {x : Int32} {e : Nat → zEnt} (h : PvAt M b n e) : PvAt (M.set (b + 2) (.inl (0, 60, .inl (upd (fun i => et (e i)) j x)))) b n (eup e j (sT (e j) x)) := by
  refine h.put (by omega) (fun q _ _ hq => ⟨fun _ i => ?_, fun z => absurd z hq, fun _ i => ?_, fun _ i => ?_, fun _ i => ?_⟩) ⟨by omega, fun _ => ?_, by omega, by omega, by omega⟩
  · by_cases hi : i = j <;> simp [eup, hi, sT, ek]
  · by_cases hi : i = j <;> simp [eup, hi, sT, er]
  · by_cases hi : i = j <;> simp [eup, hi, sT, eo]
  · by_cases hi : i = j <;> simp [eup, hi, sT, ec]
  · congr 4; funext i; by_cases hi : i = j <;> simp [eup, hi, sT, et, upd]
theorem PvAt.putR {M : List zE} {b n j : Nat} {x : Bool} {e : Nat → zEnt} (h : PvAt M b n e) : PvAt (M.set (b + 3) (.inl (2, 60, .inl (upd (fun i => bI (er (e i))) j (bI x))))) b n (eup e j (sR (e j) x)) := by
  refine h.put (by omega) (fun q _ _ hq => ⟨fun _ i => ?_, fun _ i => ?_, fun z => absurd z hq, fun _ i => ?_, fun _ i => ?_⟩) ⟨by omega, by omega, fun _ => ?_, by omega, by omega⟩
  · by_cases hi : i = j <;> simp [eup, hi, sR, ek]
  · by_cases hi : i = j <;> simp [eup, hi, sR, et]
  · by_cases hi : i = j <;> simp [eup, hi, sR, eo]
  · by_cases hi : i = j <;> simp [eup, hi, sR, ec]
  · congr 4; funext i; by_cases hi : i = j <;> simp [eup, hi, sR, er, upd]
theorem PvAt.putO {M : List zE} {b n j : Nat} {x : Int32} {e : Nat → zEnt} (h : PvAt M b n e) : PvAt (M.set (b + 4) (.inl (0, 60, .inl (upd (fun i => eo (e i)) j x)))) b n (eup e j (sO (e j) x)) := by
  refine h.put (by omega) (fun q _ _ hq => ⟨fun _ i => ?_, fun _ i => ?_, fun _ i => ?_, fun z => absurd z hq, fun _ i => ?_⟩) ⟨by omega, by omega, by omega, fun _ => ?_, by omega⟩
  · by_cases hi : i = j <;> simp [eup, hi, sO, ek]
  · by_cases hi : i = j <;> simp [eup, hi, sO, et]
  · by_cases hi : i = j <;> simp [eup, hi, sO, er]
  · by_cases hi : i = j <;> simp [eup, hi, sO, ec]
  · congr 4; funext i; by_cases hi : i = j <;> simp [eup, hi, sO, eo, upd]
theorem PvAt.putC {M : List zE} {b n j : Nat} {x : Int32} {e : Nat → zEnt} (h : PvAt M b n e) : PvAt (M.set (b + 5) (.inl (0, 60, .inl (upd (fun i => ec (e i)) j x)))) b n (eup e j (sC (e j) x)) := by
  refine h.put (by omega) (fun q _ _ hq => ⟨fun _ i => ?_, fun _ i => ?_, fun _ i => ?_, fun _ i => ?_, fun z => absurd z hq⟩) ⟨by omega, by omega, by omega, by omega, fun _ => ?_⟩
  · by_cases hi : i = j <;> simp [eup, hi, sC, ek]
  · by_cases hi : i = j <;> simp [eup, hi, sC, et]
  · by_cases hi : i = j <;> simp [eup, hi, sC, er]
  · by_cases hi : i = j <;> simp [eup, hi, sC, eo]
  · congr 4; funext i; by_cases hi : i = j <;> simp [eup, hi, sC, ec, upd]
theorem PvAt.putN {M : List zE} {b n n' : Nat} {e : Nat → zEnt} (h : PvAt M b n e) : PvAt (M.set b (.inr (2, [.int (nI n'), .ref (b + 1), .ref (b + 2), .ref (b + 3), .ref (b + 4), .ref (b + 5)]))) b n' e := by
  obtain ⟨h0, h1, h2, h3, h4, h5⟩ := h
  exact ⟨st_eq h0, by rw [st_ne (by omega)]; exact h1, by rw [st_ne (by omega)]; exact h2, by rw [st_ne (by omega)]; exact h3, by rw [st_ne (by omega)]; exact h4, by rw [st_ne (by omega)]; exact h5⟩
theorem PvAt.ext {M : List zE} {b n : Nat} {e e' : Nat → zEnt} (h : PvAt M b n e) (he : ∀ i, e' i = e i) : PvAt M b n e' := by rw [show e' = e from funext he]; exact h
/-- the first place below n that has P -/
def frst (P : Nat → Bool) : Nat → Option Nat
  | 0 => none
  | n + 1 => match frst P n with
    | some j => some j
    | none => if P n then some n else none
theorem frst_none {P : Nat → Bool} : ∀ {n : Nat}, frst P n = none ↔ ∀ j, j < n → P j = false
  | 0 => by simp [frst]
  | n + 1 => by
    have ih := frst_none (P := P) (n := n)
    unfold frst
    cases h : frst P n with
    | some j =>
      refine ⟨fun q => (by cases q), fun hq => ?_⟩
      rw [ih.mpr (fun j hj => hq j (by omega))] at h
      cases h
    | none =>
      have h2 := ih.mp h
      by_cases hp : P n = true
      · rw [if_pos hp]
        refine ⟨fun q => (by cases q), fun hq => ?_⟩
        have := hq n (by omega)
        rw [hp] at this
        cases this
      · rw [if_neg hp]
        refine ⟨fun _ j hj => ?_, fun _ => rfl⟩
        by_cases hjn : j = n
        · subst hjn; simpa using hp
        · exact h2 j (by omega)
theorem frst_some {P : Nat → Bool} : ∀ {n i : Nat}, frst P n = some i ↔ i < n ∧ P i = true ∧ ∀ j, j < i → P j = false
  | 0, i => by simp [frst]
  | n + 1, i => by
    have ih : ∀ {i : Nat}, frst P n = some i ↔ i < n ∧ P i = true ∧ ∀ j, j < i → P j = false := frst_some (P := P) (n := n)
    unfold frst
    cases h : frst P n with
    | some j =>
      have h2 := ih.mp h
      simp only [Option.some.injEq]
      constructor
      · rintro rfl; exact ⟨by omega, h2.2⟩
      · rintro ⟨h3, h4, h5⟩
        by_cases hij : j = i
        · exact hij
        · exfalso
          rcases Nat.lt_or_gt_of_ne hij with q | q
          · have := h5 j q; rw [h2.2.1] at this; cases this
          · have := h2.2.2 i q; rw [h4] at this; cases this
    | none =>
      have h2 := frst_none.mp h
      by_cases hp : P n = true
      · rw [if_pos hp, Option.some.injEq]
        constructor
        · rintro rfl; exact ⟨by omega, hp, h2⟩
        · rintro ⟨h3, h4, h5⟩
          by_cases hin : i = n
          · exact hin.symm
          · have := h2 i (by omega); rw [h4] at this; cases this
      · rw [if_neg hp]
        refine ⟨fun q => (by cases q), ?_⟩
        rintro ⟨h3, h4, h5⟩
        by_cases hin : i = n
        · subst hin; exact absurd h4 hp
        · have := h2 i (by omega); rw [h4] at this; cases this
theorem zl_le {x y : Int64} : lg_cmp x y ≤ 0 ↔ x ≤ y := by
  unfold lg_cmp
  by_cases h1 : x > y
  · simp only [h1, if_true]
    refine ⟨fun h => absurd h (by decide), fun h => absurd h1 (Int64.not_lt.mpr h)⟩
  · simp only [h1, if_false]
    by_cases h2 : x = y
    · simp [h2]
    · simp only [h2, if_false]
      exact ⟨fun _ => Int64.not_lt.mp h1, fun _ => by decide⟩
theorem zlN {a b : Nat} (ha : a < 2 ^ 63) (hb : b < 2 ^ 63) : lg_cmp (lN a) (lN b) = 0 ↔ a = b := zl_cmp.trans (pk_lEQ ha hb)
theorem zlN_le {a b : Nat} (ha : a < 2 ^ 63) (hb : b < 2 ^ 63) : lg_cmp (lN a) (lN b) ≤ 0 ↔ a ≤ b := zl_le.trans (pk_lLE ha hb)
