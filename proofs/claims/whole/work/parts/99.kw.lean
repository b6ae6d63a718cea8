/-! keywords of both sides -/
theorem mtl_spec {len : Nat} {ch : Nat → Nat} : ∀ (w : List Nat) (p : Nat), (∀ i, i < mtl len ch p w → tk len ch (p + i) (w.getD i 0) = true) ∧ (mtl len ch p w < w.length → tk len ch (p + mtl len ch p w) (w.getD (mtl len ch p w) 0) = false)
  | [], p => ⟨fun i hi => by simp [mtl] at hi, fun h => by simp at h⟩
  | c :: t, p => by
    have ih := mtl_spec (len := len) (ch := ch) t (p + 1)
    by_cases h : tk len ch p c = true
    · have e : mtl len ch p (c :: t) = mtl len ch (p + 1) t + 1 := by
        show (if tk len ch p c = true then 1 + mtl len ch (p + 1) t else 0) = _
        rw [if_pos h]
        omega
      rw [e]
      refine ⟨fun i hi => ?_, fun hl => ?_⟩
      · rcases i with _ | i
        · simpa using h
        · have := ih.1 i (by omega)
          rw [show p + (i + 1) = p + 1 + i by omega]
          simpa using this
      · have := ih.2 (by simp at hl; omega)
        rw [show p + (mtl len ch (p + 1) t + 1) = p + 1 + mtl len ch (p + 1) t by omega]
        simpa using this
    · have e : mtl len ch p (c :: t) = 0 := by
        unfold mtl
        rw [if_neg h]
      rw [e]
      refine ⟨fun i hi => by omega, fun _ => ?_⟩
      cases hb : tk len ch p c with
      | true => exact absurd hb h
      | false => simpa using hb
theorem mtl_iff {len : Nat} {ch : Nat → Nat} {p j : Nat} {w : List Nat} (hj : j < w.length) : j + 1 ≤ mtl len ch p w ↔ j ≤ mtl len ch p w ∧ tk len ch (p + j) (w.getD j 0) = true := by
  have sp := mtl_spec (len := len) (ch := ch) w p
  constructor
  · intro h; exact ⟨by omega, sp.1 j (by omega)⟩
  · intro ⟨h1, h2⟩
    rcases Nat.lt_or_ge j (mtl len ch p w) with z | z
    · exact z
    · have e : mtl len ch p w = j := by omega
      have := sp.2 (by omega)
      rw [e, h2] at this
      cases this
theorem mtl_app {len : Nat} {ch : Nat → Nat} {c : Nat} : ∀ (w : List Nat) (p : Nat), mtl len ch p (w ++ [c]) = if mtl len ch p w = w.length then w.length + (if tk len ch (p + w.length) c = true then 1 else 0) else mtl len ch p w
  | [], p => by simp [mtl]
  | x :: t, p => by
    have ih := mtl_app (len := len) (ch := ch) (c := c) t (p + 1)
    by_cases h : tk len ch p x = true
    · have e1 : mtl len ch p (x :: t ++ [c]) = 1 + mtl len ch (p + 1) (t ++ [c]) := by
        show (if tk len ch p x = true then _ else _) = _
        rw [if_pos h]
        rfl
      have e2 : mtl len ch p (x :: t) = 1 + mtl len ch (p + 1) t := by
        show (if tk len ch p x = true then _ else _) = _
        rw [if_pos h]
      rw [e1, e2, ih]
      have el : (x :: t).length = t.length + 1 := rfl
      rw [el, show p + (t.length + 1) = p + 1 + t.length by omega]
      by_cases h2 : mtl len ch (p + 1) t = t.length
      · rw [if_pos h2, if_pos (show 1 + mtl len ch (p + 1) t = t.length + 1 by omega)]; omega
      · rw [if_neg h2, if_neg (show ¬ 1 + mtl len ch (p + 1) t = t.length + 1 by omega)]
    · have e1 : mtl len ch p (x :: t ++ [c]) = 0 := by
        show (if tk len ch p x = true then _ else _) = _
        rw [if_neg h]
      have e2 : mtl len ch p (x :: t) = 0 := by
        show (if tk len ch p x = true then _ else _) = _
        rw [if_neg h]
      rw [e1, e2, if_neg (by simp)]
def ksK : Nat → List Nat
  | 0 => ks0
  | 1 => ks1
  | 2 => ks2
  | 3 => ks3
  | 4 => ks4
  | _ => ks5
theorem ksK_wd {k : Nat} (h : k < 6) : zWd (6 + k) (ksK k) := by
  match k, h with
  | 0, _ => exact wd_6
  | 1, _ => exact wd_7
  | 2, _ => exact wd_8
  | 3, _ => exact wd_9
  | 4, _ => exact wd_10
  | 5, _ => exact wd_11
theorem ksK_len {k : Nat} (h : k < 6) : 4 ≤ (ksK k).length ∧ (ksK k).length ≤ 9 := by
  match k, h with
  | 0, _ => decide
  | 1, _ => decide
  | 2, _ => decide
  | 3, _ => decide
  | 4, _ => decide
  | 5, _ => decide
def mkB (c : Nat → Bool) : Nat → Nat
  | 0 => 0
  | k + 1 => mkB c k + (if c k = true then 2 ^ k else 0)
theorem mkB_lt (c : Nat → Bool) : ∀ k, mkB c k < 2 ^ k
  | 0 => by show 0 < 1; decide
  | k + 1 => by
    have := mkB_lt c k
    unfold mkB
    have e : 2 ^ (k + 1) = 2 ^ k + 2 ^ k := by rw [Nat.pow_succ]; omega
    split <;> omega
theorem mkB_z {c : Nat → Bool} : ∀ k, mkB c k = 0 ↔ ∀ i, i < k → c i = false
  | 0 => ⟨fun _ i hi => by omega, fun _ => rfl⟩
  | k + 1 => by
    have ih := mkB_z (c := c) k
    have hp : 0 < 2 ^ k := Nat.two_pow_pos k
    unfold mkB
    constructor
    · intro h i hi
      have h0 : mkB c k = 0 := by omega
      by_cases e : i = k
      · subst e
        cases hc : c i with
        | false => rfl
        | true => rw [hc, if_pos rfl] at h; omega
      · exact ih.mp h0 i (by omega)
    · intro h
      rw [ih.mpr (fun i hi => h i (by omega)), h k (by omega)]
      rfl
theorem orB : ∀ k, k < 6 → ∀ a, a < 2 ^ k → (nI a ||| (nI 1 <<< (nI k &&& 31))) = nI (a + 2 ^ k) := by decide +kernel
theorem or0 : ∀ a, a < 64 → (nI a ||| nI 0) = nI a := by decide +kernel
theorem shB : ∀ F, F < 64 → ∀ k, k < 6 → ((nI F >>> (nI k &&& 31)) &&& nI 1) = nI (F / 2 ^ k % 2) := by decide +kernel
theorem bitB {c : Nat → Bool} {k : Nat} (h : k < 6) : mkB c 6 / 2 ^ k % 2 = if c k = true then 1 else 0 := by
  have e : mkB c 6 = (if c 0 = true then 1 else 0) + (if c 1 = true then 2 else 0) + (if c 2 = true then 4 else 0) + (if c 3 = true then 8 else 0) + (if c 4 = true then 16 else 0) + (if c 5 = true then 32 else 0) := by simp [mkB]
  rw [e]
  match k, h with
  | 0, _ => cases c 0 <;> cases c 1 <;> cases c 2 <;> cases c 3 <;> cases c 4 <;> cases c 5 <;> rfl
  | 1, _ => cases c 0 <;> cases c 1 <;> cases c 2 <;> cases c 3 <;> cases c 4 <;> cases c 5 <;> rfl
  | 2, _ => cases c 0 <;> cases c 1 <;> cases c 2 <;> cases c 3 <;> cases c 4 <;> cases c 5 <;> rfl
  | 3, _ => cases c 0 <;> cases c 1 <;> cases c 2 <;> cases c 3 <;> cases c 4 <;> cases c 5 <;> rfl
  | 4, _ => cases c 0 <;> cases c 1 <;> cases c 2 <;> cases c 3 <;> cases c 4 <;> cases c 5 <;> rfl
  | 5, _ => cases c 0 <;> cases c 1 <;> cases c 2 <;> cases c 3 <;> cases c 4 <;> cases c 5 <;> rfl
def fnd (mt : Nat → Nat) (j : Nat) : Nat → Option Nat
  | 0 => none
  | k + 1 => if mt k = j + 1 ∧ (ksK k).length = j + 1 then some k else fnd mt j k
theorem fnd_some {mt : Nat → Nat} {j : Nat} : ∀ {n k : Nat}, fnd mt j n = some k → k < n ∧ mt k = j + 1 ∧ (ksK k).length = j + 1
  | 0, k, h => by cases h
  | n + 1, k, h => by
    unfold fnd at h
    split at h
    · rename_i c; cases h; exact ⟨by omega, c⟩
    · have := fnd_some h; exact ⟨by omega, this.2⟩
theorem fnd_none {mt : Nat → Nat} {j : Nat} : ∀ {n : Nat}, fnd mt j n = none → ∀ k, k < n → ¬ (mt k = j + 1 ∧ (ksK k).length = j + 1)
  | 0, _, k, hk => by omega
  | n + 1, h, k, hk => by
    unfold fnd at h
    split at h
    · cases h
    · rename_i c
      by_cases e : k = n
      · rw [e]; exact c
      · exact fnd_none h k (by omega)
theorem kw_f0 {len : Nat} {ch : Nat → Nat} {p : Nat} (h : mtl len ch p kw0 = 6) : ch (p + 0) = 105 ∧ ch (p + 2) = 115 ∧ ch (p + 3) = 101 ∧ True := by
  have sp := (mtl_spec (len := len) (ch := ch) kw0 p).1
  rw [h] at sp
  exact ⟨(tk_iff.mp (sp 0 (by decide))).2, (tk_iff.mp (sp 2 (by decide))).2, (tk_iff.mp (sp 3 (by decide))).2, trivial⟩
theorem ks_f0 {len : Nat} {ch : Nat → Nat} {p : Nat} (h : 4 ≤ mtl len ch p ks0) : ch (p + 0) = 105 ∧ ch (p + 2) = 115 ∧ ch (p + 3) = 101 := by
  have sp := (mtl_spec (len := len) (ch := ch) ks0 p).1
  exact ⟨(tk_iff.mp (sp 0 (by omega))).2, (tk_iff.mp (sp 2 (by omega))).2, (tk_iff.mp (sp 3 (by omega))).2⟩
theorem ks_a0 {len : Nat} {ch : Nat → Nat} {p : Nat} : mtl len ch p ks0 = if mtl len ch p kw0 = 6 then 6 + (if tk len ch (p + 6) 32 = true then 1 else 0) else mtl len ch p kw0 := mtl_app kw0 p
theorem kw_f1 {len : Nat} {ch : Nat → Nat} {p : Nat} (h : mtl len ch p kw1 = 3) : ch (p + 0) = 97 ∧ True := by
  have sp := (mtl_spec (len := len) (ch := ch) kw1 p).1
  rw [h] at sp
  exact ⟨(tk_iff.mp (sp 0 (by decide))).2, trivial⟩
theorem ks_f1 {len : Nat} {ch : Nat → Nat} {p : Nat} (h : 4 ≤ mtl len ch p ks1) : ch (p + 0) = 97 ∧ ch (p + 2) = 100 ∧ ch (p + 3) = 32 := by
  have sp := (mtl_spec (len := len) (ch := ch) ks1 p).1
  exact ⟨(tk_iff.mp (sp 0 (by omega))).2, (tk_iff.mp (sp 2 (by omega))).2, (tk_iff.mp (sp 3 (by omega))).2⟩
theorem ks_a1 {len : Nat} {ch : Nat → Nat} {p : Nat} : mtl len ch p ks1 = if mtl len ch p kw1 = 3 then 3 + (if tk len ch (p + 3) 32 = true then 1 else 0) else mtl len ch p kw1 := mtl_app kw1 p
theorem kw_f2 {len : Nat} {ch : Nat → Nat} {p : Nat} (h : mtl len ch p kw2 = 7) : ch (p + 0) = 114 ∧ ch (p + 2) = 112 ∧ ch (p + 3) = 108 ∧ True := by
  have sp := (mtl_spec (len := len) (ch := ch) kw2 p).1
  rw [h] at sp
  exact ⟨(tk_iff.mp (sp 0 (by decide))).2, (tk_iff.mp (sp 2 (by decide))).2, (tk_iff.mp (sp 3 (by decide))).2, trivial⟩
theorem ks_f2 {len : Nat} {ch : Nat → Nat} {p : Nat} (h : 4 ≤ mtl len ch p ks2) : ch (p + 0) = 114 ∧ ch (p + 2) = 112 ∧ ch (p + 3) = 108 := by
  have sp := (mtl_spec (len := len) (ch := ch) ks2 p).1
  exact ⟨(tk_iff.mp (sp 0 (by omega))).2, (tk_iff.mp (sp 2 (by omega))).2, (tk_iff.mp (sp 3 (by omega))).2⟩
theorem ks_a2 {len : Nat} {ch : Nat → Nat} {p : Nat} : mtl len ch p ks2 = if mtl len ch p kw2 = 7 then 7 + (if tk len ch (p + 7) 32 = true then 1 else 0) else mtl len ch p kw2 := mtl_app kw2 p
theorem kw_f3 {len : Nat} {ch : Nat → Nat} {p : Nat} (h : mtl len ch p kw3 = 6) : ch (p + 0) = 114 ∧ ch (p + 2) = 112 ∧ ch (p + 3) = 101 ∧ True := by
  have sp := (mtl_spec (len := len) (ch := ch) kw3 p).1
  rw [h] at sp
  exact ⟨(tk_iff.mp (sp 0 (by decide))).2, (tk_iff.mp (sp 2 (by decide))).2, (tk_iff.mp (sp 3 (by decide))).2, trivial⟩
theorem ks_f3 {len : Nat} {ch : Nat → Nat} {p : Nat} (h : 4 ≤ mtl len ch p ks3) : ch (p + 0) = 114 ∧ ch (p + 2) = 112 ∧ ch (p + 3) = 101 := by
  have sp := (mtl_spec (len := len) (ch := ch) ks3 p).1
  exact ⟨(tk_iff.mp (sp 0 (by omega))).2, (tk_iff.mp (sp 2 (by omega))).2, (tk_iff.mp (sp 3 (by omega))).2⟩
theorem ks_a3 {len : Nat} {ch : Nat → Nat} {p : Nat} : mtl len ch p ks3 = if mtl len ch p kw3 = 6 then 6 + (if tk len ch (p + 6) 32 = true then 1 else 0) else mtl len ch p kw3 := mtl_app kw3 p
theorem kw_f4 {len : Nat} {ch : Nat → Nat} {p : Nat} (h : mtl len ch p kw4 = 4) : ch (p + 0) = 109 ∧ ch (p + 2) = 118 ∧ ch (p + 3) = 101 ∧ True := by
  have sp := (mtl_spec (len := len) (ch := ch) kw4 p).1
  rw [h] at sp
  exact ⟨(tk_iff.mp (sp 0 (by decide))).2, (tk_iff.mp (sp 2 (by decide))).2, (tk_iff.mp (sp 3 (by decide))).2, trivial⟩
theorem ks_f4 {len : Nat} {ch : Nat → Nat} {p : Nat} (h : 4 ≤ mtl len ch p ks4) : ch (p + 0) = 109 ∧ ch (p + 2) = 118 ∧ ch (p + 3) = 101 := by
  have sp := (mtl_spec (len := len) (ch := ch) ks4 p).1
  exact ⟨(tk_iff.mp (sp 0 (by omega))).2, (tk_iff.mp (sp 2 (by omega))).2, (tk_iff.mp (sp 3 (by omega))).2⟩
theorem ks_a4 {len : Nat} {ch : Nat → Nat} {p : Nat} : mtl len ch p ks4 = if mtl len ch p kw4 = 4 then 4 + (if tk len ch (p + 4) 32 = true then 1 else 0) else mtl len ch p kw4 := mtl_app kw4 p
theorem kw_f5 {len : Nat} {ch : Nat → Nat} {p : Nat} (h : mtl len ch p kw5 = 8) : ch (p + 0) = 114 ∧ ch (p + 2) = 110 ∧ ch (p + 3) = 117 ∧ True := by
  have sp := (mtl_spec (len := len) (ch := ch) kw5 p).1
  rw [h] at sp
  exact ⟨(tk_iff.mp (sp 0 (by decide))).2, (tk_iff.mp (sp 2 (by decide))).2, (tk_iff.mp (sp 3 (by decide))).2, trivial⟩
theorem ks_f5 {len : Nat} {ch : Nat → Nat} {p : Nat} (h : 4 ≤ mtl len ch p ks5) : ch (p + 0) = 114 ∧ ch (p + 2) = 110 ∧ ch (p + 3) = 117 := by
  have sp := (mtl_spec (len := len) (ch := ch) ks5 p).1
  exact ⟨(tk_iff.mp (sp 0 (by omega))).2, (tk_iff.mp (sp 2 (by omega))).2, (tk_iff.mp (sp 3 (by omega))).2⟩
theorem ks_a5 {len : Nat} {ch : Nat → Nat} {p : Nat} : mtl len ch p ks5 = if mtl len ch p kw5 = 8 then 8 + (if tk len ch (p + 8) 32 = true then 1 else 0) else mtl len ch p kw5 := mtl_app kw5 p
theorem kd_0 {len : Nat} {ch : Nat → Nat} {p : Nat} (hk : mtl len ch p kw0 = 6) : kdR len ch p = (some 0, p + 6) := by
  unfold kdR
  rw [kGo, if_pos (show mtl len ch p kw0 = kw0.length from hk)]
  rfl
theorem pk_0 {len : Nat} {ch : Nat → Nat} {p : Nat} (h : mtl len ch p (ksK 0) = (ksK 0).length) : pKw len ch p = (some 0, p + (ksK 0).length) := by
  have h : mtl len ch p ks0 = 7 := h
  rw [ks_a0] at h
  have hle := (mtl_le (len := len) (ch := ch) kw0 p).1
  have hle : mtl len ch p kw0 ≤ 6 := hle
  by_cases hk : mtl len ch p kw0 = 6
  · rw [if_pos hk] at h
    cases ht : tk len ch (p + 6) 32 with
    | false => rw [ht, if_neg (by decide)] at h; omega
    | true =>
      unfold pKw
      rw [kd_0 hk]
      dsimp only
      rw [if_pos ht]
      rfl
  · rw [if_neg hk] at h; omega
theorem pn_0 {len : Nat} {ch : Nat → Nat} {p j : Nat} (hk : mtl len ch p kw0 = 6) (hn : ∀ k, k < 6 → mtl len ch p (ksK k) ≠ (ksK k).length) (hj : ∀ k, k < 6 → mtl len ch p (ksK k) ≤ j) (hx : ∃ k, k < 6 ∧ mtl len ch p (ksK k) = j) : pKw len ch p = (none, p + j) := by
  have h0 : ¬ mtl len ch p ks0 = 7 := hn 0 (by decide)
  rw [ks_a0, if_pos hk] at h0
  have ht : tk len ch (p + 6) 32 = false := by
    cases ht : tk len ch (p + 6) 32 with
    | false => rfl
    | true => rw [ht, if_pos rfl] at h0; exact absurd rfl h0
  have ek : mtl len ch p ks0 = 6 := by rw [ks_a0, if_pos hk, ht]; rfl
  have e : j = 6 := by
    have hj0 : mtl len ch p ks0 ≤ j := hj 0 (by decide)
    obtain ⟨i, hi, hm⟩ := hx
    have b := kw_f0 hk
    match i, hi, hm with
    | 0, _, hm => have hm : mtl len ch p ks0 = j := hm; omega
    | 1, _, hm =>
      have hm : mtl len ch p ks1 = j := hm
      rcases Nat.lt_or_ge j 7 with z | z
      · omega
      · have a := ks_f1 (len := len) (ch := ch) (p := p) (by omega); omega
    | 2, _, hm =>
      have hm : mtl len ch p ks2 = j := hm
      rcases Nat.lt_or_ge j 7 with z | z
      · omega
      · have a := ks_f2 (len := len) (ch := ch) (p := p) (by omega); omega
    | 3, _, hm =>
      have hm : mtl len ch p ks3 = j := hm
      rcases Nat.lt_or_ge j 7 with z | z
      · omega
      · have a := ks_f3 (len := len) (ch := ch) (p := p) (by omega); omega
    | 4, _, hm =>
      have hm : mtl len ch p ks4 = j := hm
      rcases Nat.lt_or_ge j 7 with z | z
      · omega
      · have a := ks_f4 (len := len) (ch := ch) (p := p) (by omega); omega
    | 5, _, hm =>
      have hm : mtl len ch p ks5 = j := hm
      rcases Nat.lt_or_ge j 7 with z | z
      · omega
      · have a := ks_f5 (len := len) (ch := ch) (p := p) (by omega); omega
  unfold pKw
  rw [kd_0 hk]
  dsimp only
  rw [if_neg (by rw [ht]; decide), e]
theorem kd_1 {len : Nat} {ch : Nat → Nat} {p : Nat} (hk : mtl len ch p kw1 = 3) : kdR len ch p = (some 1, p + 3) := by
  have n0 : ¬ mtl len ch p kw0 = 6 := fun z => by have a := kw_f0 z; have b := kw_f1 hk; omega
  unfold kdR
  rw [kGo, if_neg (show ¬ mtl len ch p kw0 = kw0.length from n0)]
  rw [kGo, if_pos (show mtl len ch p kw1 = kw1.length from hk)]
  rfl
theorem pk_1 {len : Nat} {ch : Nat → Nat} {p : Nat} (h : mtl len ch p (ksK 1) = (ksK 1).length) : pKw len ch p = (some 1, p + (ksK 1).length) := by
  have h : mtl len ch p ks1 = 4 := h
  rw [ks_a1] at h
  have hle := (mtl_le (len := len) (ch := ch) kw1 p).1
  have hle : mtl len ch p kw1 ≤ 3 := hle
  by_cases hk : mtl len ch p kw1 = 3
  · rw [if_pos hk] at h
    cases ht : tk len ch (p + 3) 32 with
    | false => rw [ht, if_neg (by decide)] at h; omega
    | true =>
      unfold pKw
      rw [kd_1 hk]
      dsimp only
      rw [if_pos ht]
      rfl
  · rw [if_neg hk] at h; omega
theorem pn_1 {len : Nat} {ch : Nat → Nat} {p j : Nat} (hk : mtl len ch p kw1 = 3) (hn : ∀ k, k < 6 → mtl len ch p (ksK k) ≠ (ksK k).length) (hj : ∀ k, k < 6 → mtl len ch p (ksK k) ≤ j) (hx : ∃ k, k < 6 ∧ mtl len ch p (ksK k) = j) : pKw len ch p = (none, p + j) := by
  have h0 : ¬ mtl len ch p ks1 = 4 := hn 1 (by decide)
  rw [ks_a1, if_pos hk] at h0
  have ht : tk len ch (p + 3) 32 = false := by
    cases ht : tk len ch (p + 3) 32 with
    | false => rfl
    | true => rw [ht, if_pos rfl] at h0; exact absurd rfl h0
  have ek : mtl len ch p ks1 = 3 := by rw [ks_a1, if_pos hk, ht]; rfl
  have e : j = 3 := by
    have hj1 : mtl len ch p ks1 ≤ j := hj 1 (by decide)
    obtain ⟨i, hi, hm⟩ := hx
    have b := kw_f1 hk
    match i, hi, hm with
    | 0, _, hm =>
      have hm : mtl len ch p ks0 = j := hm
      rcases Nat.lt_or_ge j 4 with z | z
      · omega
      · have a := ks_f0 (len := len) (ch := ch) (p := p) (by omega); omega
    | 1, _, hm => have hm : mtl len ch p ks1 = j := hm; omega
    | 2, _, hm =>
      have hm : mtl len ch p ks2 = j := hm
      rcases Nat.lt_or_ge j 4 with z | z
      · omega
      · have a := ks_f2 (len := len) (ch := ch) (p := p) (by omega); omega
    | 3, _, hm =>
      have hm : mtl len ch p ks3 = j := hm
      rcases Nat.lt_or_ge j 4 with z | z
      · omega
      · have a := ks_f3 (len := len) (ch := ch) (p := p) (by omega); omega
    | 4, _, hm =>
      have hm : mtl len ch p ks4 = j := hm
      rcases Nat.lt_or_ge j 4 with z | z
      · omega
      · have a := ks_f4 (len := len) (ch := ch) (p := p) (by omega); omega
    | 5, _, hm =>
      have hm : mtl len ch p ks5 = j := hm
      rcases Nat.lt_or_ge j 4 with z | z
      · omega
      · have a := ks_f5 (len := len) (ch := ch) (p := p) (by omega); omega
  unfold pKw
  rw [kd_1 hk]
  dsimp only
  rw [if_neg (by rw [ht]; decide), e]
theorem kd_2 {len : Nat} {ch : Nat → Nat} {p : Nat} (hk : mtl len ch p kw2 = 7) : kdR len ch p = (some 2, p + 7) := by
  have n0 : ¬ mtl len ch p kw0 = 6 := fun z => by have a := kw_f0 z; have b := kw_f2 hk; omega
  have n1 : ¬ mtl len ch p kw1 = 3 := fun z => by have a := kw_f1 z; have b := kw_f2 hk; omega
  unfold kdR
  rw [kGo, if_neg (show ¬ mtl len ch p kw0 = kw0.length from n0)]
  rw [kGo, if_neg (show ¬ mtl len ch p kw1 = kw1.length from n1)]
  rw [kGo, if_pos (show mtl len ch p kw2 = kw2.length from hk)]
  rfl
theorem pk_2 {len : Nat} {ch : Nat → Nat} {p : Nat} (h : mtl len ch p (ksK 2) = (ksK 2).length) : pKw len ch p = (some 2, p + (ksK 2).length) := by
  have h : mtl len ch p ks2 = 8 := h
  rw [ks_a2] at h
  have hle := (mtl_le (len := len) (ch := ch) kw2 p).1
  have hle : mtl len ch p kw2 ≤ 7 := hle
  by_cases hk : mtl len ch p kw2 = 7
  · rw [if_pos hk] at h
    cases ht : tk len ch (p + 7) 32 with
    | false => rw [ht, if_neg (by decide)] at h; omega
    | true =>
      unfold pKw
      rw [kd_2 hk]
      dsimp only
      rw [if_pos ht]
      rfl
  · rw [if_neg hk] at h; omega
theorem pn_2 {len : Nat} {ch : Nat → Nat} {p j : Nat} (hk : mtl len ch p kw2 = 7) (hn : ∀ k, k < 6 → mtl len ch p (ksK k) ≠ (ksK k).length) (hj : ∀ k, k < 6 → mtl len ch p (ksK k) ≤ j) (hx : ∃ k, k < 6 ∧ mtl len ch p (ksK k) = j) : pKw len ch p = (none, p + j) := by
  have h0 : ¬ mtl len ch p ks2 = 8 := hn 2 (by decide)
  rw [ks_a2, if_pos hk] at h0
  have ht : tk len ch (p + 7) 32 = false := by
    cases ht : tk len ch (p + 7) 32 with
    | false => rfl
    | true => rw [ht, if_pos rfl] at h0; exact absurd rfl h0
  have ek : mtl len ch p ks2 = 7 := by rw [ks_a2, if_pos hk, ht]; rfl
  have e : j = 7 := by
    have hj2 : mtl len ch p ks2 ≤ j := hj 2 (by decide)
    obtain ⟨i, hi, hm⟩ := hx
    have b := kw_f2 hk
    match i, hi, hm with
    | 0, _, hm =>
      have hm : mtl len ch p ks0 = j := hm
      rcases Nat.lt_or_ge j 8 with z | z
      · omega
      · have a := ks_f0 (len := len) (ch := ch) (p := p) (by omega); omega
    | 1, _, hm =>
      have hm : mtl len ch p ks1 = j := hm
      rcases Nat.lt_or_ge j 8 with z | z
      · omega
      · have a := ks_f1 (len := len) (ch := ch) (p := p) (by omega); omega
    | 2, _, hm => have hm : mtl len ch p ks2 = j := hm; omega
    | 3, _, hm =>
      have hm : mtl len ch p ks3 = j := hm
      rcases Nat.lt_or_ge j 8 with z | z
      · omega
      · have a := ks_f3 (len := len) (ch := ch) (p := p) (by omega); omega
    | 4, _, hm =>
      have hm : mtl len ch p ks4 = j := hm
      rcases Nat.lt_or_ge j 8 with z | z
      · omega
      · have a := ks_f4 (len := len) (ch := ch) (p := p) (by omega); omega
    | 5, _, hm =>
      have hm : mtl len ch p ks5 = j := hm
      rcases Nat.lt_or_ge j 8 with z | z
      · omega
      · have a := ks_f5 (len := len) (ch := ch) (p := p) (by omega); omega
  unfold pKw
  rw [kd_2 hk]
  dsimp only
  rw [if_neg (by rw [ht]; decide), e]
theorem kd_3 {len : Nat} {ch : Nat → Nat} {p : Nat} (hk : mtl len ch p kw3 = 6) : kdR len ch p = (some 3, p + 6) := by
  have n0 : ¬ mtl len ch p kw0 = 6 := fun z => by have a := kw_f0 z; have b := kw_f3 hk; omega
  have n1 : ¬ mtl len ch p kw1 = 3 := fun z => by have a := kw_f1 z; have b := kw_f3 hk; omega
  have n2 : ¬ mtl len ch p kw2 = 7 := fun z => by have a := kw_f2 z; have b := kw_f3 hk; omega
  unfold kdR
  rw [kGo, if_neg (show ¬ mtl len ch p kw0 = kw0.length from n0)]
  rw [kGo, if_neg (show ¬ mtl len ch p kw1 = kw1.length from n1)]
  rw [kGo, if_neg (show ¬ mtl len ch p kw2 = kw2.length from n2)]
  rw [kGo, if_pos (show mtl len ch p kw3 = kw3.length from hk)]
  rfl
theorem pk_3 {len : Nat} {ch : Nat → Nat} {p : Nat} (h : mtl len ch p (ksK 3) = (ksK 3).length) : pKw len ch p = (some 3, p + (ksK 3).length) := by
  have h : mtl len ch p ks3 = 7 := h
  rw [ks_a3] at h
  have hle := (mtl_le (len := len) (ch := ch) kw3 p).1
  have hle : mtl len ch p kw3 ≤ 6 := hle
  by_cases hk : mtl len ch p kw3 = 6
  · rw [if_pos hk] at h
    cases ht : tk len ch (p + 6) 32 with
    | false => rw [ht, if_neg (by decide)] at h; omega
    | true =>
      unfold pKw
      rw [kd_3 hk]
      dsimp only
      rw [if_pos ht]
      rfl
  · rw [if_neg hk] at h; omega
theorem pn_3 {len : Nat} {ch : Nat → Nat} {p j : Nat} (hk : mtl len ch p kw3 = 6) (hn : ∀ k, k < 6 → mtl len ch p (ksK k) ≠ (ksK k).length) (hj : ∀ k, k < 6 → mtl len ch p (ksK k) ≤ j) (hx : ∃ k, k < 6 ∧ mtl len ch p (ksK k) = j) : pKw len ch p = (none, p + j) := by
  have h0 : ¬ mtl len ch p ks3 = 7 := hn 3 (by decide)
  rw [ks_a3, if_pos hk] at h0
  have ht : tk len ch (p + 6) 32 = false := by
    cases ht : tk len ch (p + 6) 32 with
    | false => rfl
    | true => rw [ht, if_pos rfl] at h0; exact absurd rfl h0
  have ek : mtl len ch p ks3 = 6 := by rw [ks_a3, if_pos hk, ht]; rfl
  have e : j = 6 := by
    have hj3 : mtl len ch p ks3 ≤ j := hj 3 (by decide)
    obtain ⟨i, hi, hm⟩ := hx
    have b := kw_f3 hk
    match i, hi, hm with
    | 0, _, hm =>
      have hm : mtl len ch p ks0 = j := hm
      rcases Nat.lt_or_ge j 7 with z | z
      · omega
      · have a := ks_f0 (len := len) (ch := ch) (p := p) (by omega); omega
    | 1, _, hm =>
      have hm : mtl len ch p ks1 = j := hm
      rcases Nat.lt_or_ge j 7 with z | z
      · omega
      · have a := ks_f1 (len := len) (ch := ch) (p := p) (by omega); omega
    | 2, _, hm =>
      have hm : mtl len ch p ks2 = j := hm
      rcases Nat.lt_or_ge j 7 with z | z
      · omega
      · have a := ks_f2 (len := len) (ch := ch) (p := p) (by omega); omega
    | 3, _, hm => have hm : mtl len ch p ks3 = j := hm; omega
    | 4, _, hm =>
      have hm : mtl len ch p ks4 = j := hm
      rcases Nat.lt_or_ge j 7 with z | z
      · omega
      · have a := ks_f4 (len := len) (ch := ch) (p := p) (by omega); omega
    | 5, _, hm =>
      have hm : mtl len ch p ks5 = j := hm
      rcases Nat.lt_or_ge j 7 with z | z
      · omega
      · have a := ks_f5 (len := len) (ch := ch) (p := p) (by omega); omega
  unfold pKw
  rw [kd_3 hk]
  dsimp only
  rw [if_neg (by rw [ht]; decide), e]
theorem kd_4 {len : Nat} {ch : Nat → Nat} {p : Nat} (hk : mtl len ch p kw4 = 4) : kdR len ch p = (some 4, p + 4) := by
  have n0 : ¬ mtl len ch p kw0 = 6 := fun z => by have a := kw_f0 z; have b := kw_f4 hk; omega
  have n1 : ¬ mtl len ch p kw1 = 3 := fun z => by have a := kw_f1 z; have b := kw_f4 hk; omega
  have n2 : ¬ mtl len ch p kw2 = 7 := fun z => by have a := kw_f2 z; have b := kw_f4 hk; omega
  have n3 : ¬ mtl len ch p kw3 = 6 := fun z => by have a := kw_f3 z; have b := kw_f4 hk; omega
  unfold kdR
  rw [kGo, if_neg (show ¬ mtl len ch p kw0 = kw0.length from n0)]
  rw [kGo, if_neg (show ¬ mtl len ch p kw1 = kw1.length from n1)]
  rw [kGo, if_neg (show ¬ mtl len ch p kw2 = kw2.length from n2)]
  rw [kGo, if_neg (show ¬ mtl len ch p kw3 = kw3.length from n3)]
  rw [kGo, if_pos (show mtl len ch p kw4 = kw4.length from hk)]
  rfl
theorem pk_4 {len : Nat} {ch : Nat → Nat} {p : Nat} (h : mtl len ch p (ksK 4) = (ksK 4).length) : pKw len ch p = (some 4, p + (ksK 4).length) := by
  have h : mtl len ch p ks4 = 5 := h
  rw [ks_a4] at h
  have hle := (mtl_le (len := len) (ch := ch) kw4 p).1
  have hle : mtl len ch p kw4 ≤ 4 := hle
  by_cases hk : mtl len ch p kw4 = 4
  · rw [if_pos hk] at h
    cases ht : tk len ch (p + 4) 32 with
    | false => rw [ht, if_neg (by decide)] at h; omega
    | true =>
      unfold pKw
      rw [kd_4 hk]
      dsimp only
      rw [if_pos ht]
      rfl
  · rw [if_neg hk] at h; omega
theorem pn_4 {len : Nat} {ch : Nat → Nat} {p j : Nat} (hk : mtl len ch p kw4 = 4) (hn : ∀ k, k < 6 → mtl len ch p (ksK k) ≠ (ksK k).length) (hj : ∀ k, k < 6 → mtl len ch p (ksK k) ≤ j) (hx : ∃ k, k < 6 ∧ mtl len ch p (ksK k) = j) : pKw len ch p = (none, p + j) := by
  have h0 : ¬ mtl len ch p ks4 = 5 := hn 4 (by decide)
  rw [ks_a4, if_pos hk] at h0
  have ht : tk len ch (p + 4) 32 = false := by
    cases ht : tk len ch (p + 4) 32 with
    | false => rfl
    | true => rw [ht, if_pos rfl] at h0; exact absurd rfl h0
  have ek : mtl len ch p ks4 = 4 := by rw [ks_a4, if_pos hk, ht]; rfl
  have e : j = 4 := by
    have hj4 : mtl len ch p ks4 ≤ j := hj 4 (by decide)
    obtain ⟨i, hi, hm⟩ := hx
    have b := kw_f4 hk
    match i, hi, hm with
    | 0, _, hm =>
      have hm : mtl len ch p ks0 = j := hm
      rcases Nat.lt_or_ge j 5 with z | z
      · omega
      · have a := ks_f0 (len := len) (ch := ch) (p := p) (by omega); omega
    | 1, _, hm =>
      have hm : mtl len ch p ks1 = j := hm
      rcases Nat.lt_or_ge j 5 with z | z
      · omega
      · have a := ks_f1 (len := len) (ch := ch) (p := p) (by omega); omega
    | 2, _, hm =>
      have hm : mtl len ch p ks2 = j := hm
      rcases Nat.lt_or_ge j 5 with z | z
      · omega
      · have a := ks_f2 (len := len) (ch := ch) (p := p) (by omega); omega
    | 3, _, hm =>
      have hm : mtl len ch p ks3 = j := hm
      rcases Nat.lt_or_ge j 5 with z | z
      · omega
      · have a := ks_f3 (len := len) (ch := ch) (p := p) (by omega); omega
    | 4, _, hm => have hm : mtl len ch p ks4 = j := hm; omega
    | 5, _, hm =>
      have hm : mtl len ch p ks5 = j := hm
      rcases Nat.lt_or_ge j 5 with z | z
      · omega
      · have a := ks_f5 (len := len) (ch := ch) (p := p) (by omega); omega
  unfold pKw
  rw [kd_4 hk]
  dsimp only
  rw [if_neg (by rw [ht]; decide), e]
theorem kd_5 {len : Nat} {ch : Nat → Nat} {p : Nat} (hk : mtl len ch p kw5 = 8) : kdR len ch p = (some 5, p + 8) := by
  have n0 : ¬ mtl len ch p kw0 = 6 := fun z => by have a := kw_f0 z; have b := kw_f5 hk; omega
  have n1 : ¬ mtl len ch p kw1 = 3 := fun z => by have a := kw_f1 z; have b := kw_f5 hk; omega
  have n2 : ¬ mtl len ch p kw2 = 7 := fun z => by have a := kw_f2 z; have b := kw_f5 hk; omega
  have n3 : ¬ mtl len ch p kw3 = 6 := fun z => by have a := kw_f3 z; have b := kw_f5 hk; omega
  have n4 : ¬ mtl len ch p kw4 = 4 := fun z => by have a := kw_f4 z; have b := kw_f5 hk; omega
  unfold kdR
  rw [kGo, if_neg (show ¬ mtl len ch p kw0 = kw0.length from n0)]
  rw [kGo, if_neg (show ¬ mtl len ch p kw1 = kw1.length from n1)]
  rw [kGo, if_neg (show ¬ mtl len ch p kw2 = kw2.length from n2)]
  rw [kGo, if_neg (show ¬ mtl len ch p kw3 = kw3.length from n3)]
  rw [kGo, if_neg (show ¬ mtl len ch p kw4 = kw4.length from n4)]
  rw [kGo, if_pos (show mtl len ch p kw5 = kw5.length from hk)]
  rfl
theorem pk_5 {len : Nat} {ch : Nat → Nat} {p : Nat} (h : mtl len ch p (ksK 5) = (ksK 5).length) : pKw len ch p = (some 5, p + (ksK 5).length) := by
  have h : mtl len ch p ks5 = 9 := h
  rw [ks_a5] at h
  have hle := (mtl_le (len := len) (ch := ch) kw5 p).1
  have hle : mtl len ch p kw5 ≤ 8 := hle
  by_cases hk : mtl len ch p kw5 = 8
  · rw [if_pos hk] at h
    cases ht : tk len ch (p + 8) 32 with
    | false => rw [ht, if_neg (by decide)] at h; omega
    | true =>
      unfold pKw
      rw [kd_5 hk]
      dsimp only
      rw [if_pos ht]
      rfl
  · rw [if_neg hk] at h; omega
theorem pn_5 {len : Nat} {ch : Nat → Nat} {p j : Nat} (hk : mtl len ch p kw5 = 8) (hn : ∀ k, k < 6 → mtl len ch p (ksK k) ≠ (ksK k).length) (hj : ∀ k, k < 6 → mtl len ch p (ksK k) ≤ j) (hx : ∃ k, k < 6 ∧ mtl len ch p (ksK k) = j) : pKw len ch p = (none, p + j) := by
  have h0 : ¬ mtl len ch p ks5 = 9 := hn 5 (by decide)
  rw [ks_a5, if_pos hk] at h0
  have ht : tk len ch (p + 8) 32 = false := by
    cases ht : tk len ch (p + 8) 32 with
    | false => rfl
    | true => rw [ht, if_pos rfl] at h0; exact absurd rfl h0
  have ek : mtl len ch p ks5 = 8 := by rw [ks_a5, if_pos hk, ht]; rfl
  have e : j = 8 := by
    have hj5 : mtl len ch p ks5 ≤ j := hj 5 (by decide)
    obtain ⟨i, hi, hm⟩ := hx
    have b := kw_f5 hk
    match i, hi, hm with
    | 0, _, hm =>
      have hm : mtl len ch p ks0 = j := hm
      rcases Nat.lt_or_ge j 9 with z | z
      · omega
      · have a := ks_f0 (len := len) (ch := ch) (p := p) (by omega); omega
    | 1, _, hm =>
      have hm : mtl len ch p ks1 = j := hm
      rcases Nat.lt_or_ge j 9 with z | z
      · omega
      · have a := ks_f1 (len := len) (ch := ch) (p := p) (by omega); omega
    | 2, _, hm =>
      have hm : mtl len ch p ks2 = j := hm
      rcases Nat.lt_or_ge j 9 with z | z
      · omega
      · have a := ks_f2 (len := len) (ch := ch) (p := p) (by omega); omega
    | 3, _, hm =>
      have hm : mtl len ch p ks3 = j := hm
      rcases Nat.lt_or_ge j 9 with z | z
      · omega
      · have a := ks_f3 (len := len) (ch := ch) (p := p) (by omega); omega
    | 4, _, hm =>
      have hm : mtl len ch p ks4 = j := hm
      rcases Nat.lt_or_ge j 9 with z | z
      · omega
      · have a := ks_f4 (len := len) (ch := ch) (p := p) (by omega); omega
    | 5, _, hm => have hm : mtl len ch p ks5 = j := hm; omega
  unfold pKw
  rw [kd_5 hk]
  dsimp only
  rw [if_neg (by rw [ht]; decide), e]
theorem pkw_some {len : Nat} {ch : Nat → Nat} {p k : Nat} (hk : k < 6) (h : mtl len ch p (ksK k) = (ksK k).length) : pKw len ch p = (some k, p + (ksK k).length) := by
  match k, hk, h with
  | 0, _, h => exact pk_0 h
  | 1, _, h => exact pk_1 h
  | 2, _, h => exact pk_2 h
  | 3, _, h => exact pk_3 h
  | 4, _, h => exact pk_4 h
  | 5, _, h => exact pk_5 h
theorem pkw_no {len : Nat} {ch : Nat → Nat} {p j : Nat} (hn : ∀ k, k < 6 → mtl len ch p (ksK k) ≠ (ksK k).length) (hj : ∀ k, k < 6 → mtl len ch p (ksK k) ≤ j) (hx : ∃ k, k < 6 ∧ mtl len ch p (ksK k) = j) : pKw len ch p = (none, p + j) := by
  by_cases c0 : mtl len ch p kw0 = 6
  · exact pn_0 c0 hn hj hx
  by_cases c1 : mtl len ch p kw1 = 3
  · exact pn_1 c1 hn hj hx
  by_cases c2 : mtl len ch p kw2 = 7
  · exact pn_2 c2 hn hj hx
  by_cases c3 : mtl len ch p kw3 = 6
  · exact pn_3 c3 hn hj hx
  by_cases c4 : mtl len ch p kw4 = 4
  · exact pn_4 c4 hn hj hx
  by_cases c5 : mtl len ch p kw5 = 8
  · exact pn_5 c5 hn hj hx
  have e0 : mtl len ch p ks0 = mtl len ch p kw0 := by rw [ks_a0, if_neg c0]
  have j0 : mtl len ch p ks0 ≤ j := hj 0 (by decide)
  have e1 : mtl len ch p ks1 = mtl len ch p kw1 := by rw [ks_a1, if_neg c1]
  have j1 : mtl len ch p ks1 ≤ j := hj 1 (by decide)
  have e2 : mtl len ch p ks2 = mtl len ch p kw2 := by rw [ks_a2, if_neg c2]
  have j2 : mtl len ch p ks2 ≤ j := hj 2 (by decide)
  have e3 : mtl len ch p ks3 = mtl len ch p kw3 := by rw [ks_a3, if_neg c3]
  have j3 : mtl len ch p ks3 ≤ j := hj 3 (by decide)
  have e4 : mtl len ch p ks4 = mtl len ch p kw4 := by rw [ks_a4, if_neg c4]
  have j4 : mtl len ch p ks4 ≤ j := hj 4 (by decide)
  have e5 : mtl len ch p ks5 = mtl len ch p kw5 := by rw [ks_a5, if_neg c5]
  have j5 : mtl len ch p ks5 ≤ j := hj 5 (by decide)
  have em : max (max (max (max (max (max 0 (mtl len ch p kw0)) (mtl len ch p kw1)) (mtl len ch p kw2)) (mtl len ch p kw3)) (mtl len ch p kw4)) (mtl len ch p kw5) = j := by
    obtain ⟨i, hi, hm⟩ := hx
    match i, hi, hm with
    | 0, _, hm => have hm : mtl len ch p ks0 = j := hm; omega
    | 1, _, hm => have hm : mtl len ch p ks1 = j := hm; omega
    | 2, _, hm => have hm : mtl len ch p ks2 = j := hm; omega
    | 3, _, hm => have hm : mtl len ch p ks3 = j := hm; omega
    | 4, _, hm => have hm : mtl len ch p ks4 = j := hm; omega
    | 5, _, hm => have hm : mtl len ch p ks5 = j := hm; omega
  unfold pKw kdR
  rw [kGo, if_neg (show ¬ mtl len ch p kw0 = kw0.length from c0)]
  rw [kGo, if_neg (show ¬ mtl len ch p kw1 = kw1.length from c1)]
  rw [kGo, if_neg (show ¬ mtl len ch p kw2 = kw2.length from c2)]
  rw [kGo, if_neg (show ¬ mtl len ch p kw3 = kw3.length from c3)]
  rw [kGo, if_neg (show ¬ mtl len ch p kw4 = kw4.length from c4)]
  rw [kGo, if_neg (show ¬ mtl len ch p kw5 = kw5.length from c5)]
  rw [kGo, em]
