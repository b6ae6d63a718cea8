/-! labels and paths as numbers -/
/-- more places of which nothing is known -/
theorem zPad {Γ : zCtx} {R : Room} {μ : zMe} {Φ : zPhi} {kc ks pc : Nat} {ls : List (Option Value)} {st : List Value} {M : List zE} (n : Nat) (h : Z Γ R μ Φ kc ks pc (ls ++ List.replicate n none) st M) : Z Γ R μ Φ kc ks pc ls st M := by
  intro p e s m args below meth c d0 H locs la hc hd0 hP hS hz hn hl
  refine h p e s m args below meth c d0 H locs la hc hd0 hP hS hz hn ⟨hl.1, hl.2.1, fun i v hi => ?_⟩
  by_cases h1 : i < ls.length
  · rw [List.getElem?_append_left h1] at hi
    exact hl.2.2 i v hi
  · rw [List.getElem?_append_right (by omega), List.getElem?_replicate] at hi
    split at hi <;> simp at hi
theorem zl_cmp {x y : Int64} : lg_cmp x y = 0 ↔ x = y := by
  unfold lg_cmp
  by_cases h1 : x > y
  · simp only [h1, if_true]
    refine ⟨fun h => absurd h (by decide), fun h => ?_⟩
    subst h
    exact absurd h1 (Int64.lt_irrefl)
  · simp only [h1, if_false]
    by_cases h2 : x = y
    · simp [h2]
    · simp only [h2, if_false, iff_false]
      decide
theorem zl_0 {a : Nat} (ha : a < 2 ^ 63) : lN a = 0 ↔ a = 0 := pk_lEQ (b := 0) ha (by decide)
def lev (k : Nat) : Nat := if k % 2097152 ≠ 0 then 3 else if k % 4398046511104 ≠ 0 then 2 else if k = 0 then 0 else 1
def un (l : Nat) : Nat := 2 ^ ((3 - l) * 21)
def lab (k l : Nat) : Nat := k / un l % 2097152
def par (k : Nat) : Nat := if k % 2097152 ≠ 0 then k - k % 2097152 else if k % 4398046511104 ≠ 0 then k - k % 4398046511104 else 0
def putl (k l b : Nat) : Nat := un l * 2097152 * (k / (un l * 2097152)) + (b * un l + k % un l)
def lunit (p : Nat) : Nat := if p = 0 then 729 else if p = 1 then 27 else 1
def lets (l : Nat) : Nat := if l / 729 % 27 = 0 then 0 else if l / 27 % 27 = 0 then 1 else if l % 27 = 0 then 2 else 3
def digs (l : Nat) : Nat := if l / 19683 < 10 then 1 else 2
def betw (l m : Nat) : Option Nat := if l - l % 729 + 729 < m then some (l - l % 729 + 729) else if l % 19683 = 0 then none else if l - l % 27 + 27 < m then some (l - l % 27 + 27) else if l % 729 = 0 then none else if l + 1 < m then some (l + 1) else none
def oI (o : Option Nat) (x : Int32) : Int32 := match o with
  | some n => nI n
  | none => x
theorem lev_le (k : Nat) : lev k ≤ 3 := by unfold lev; split; omega; split; omega; split <;> omega
set_option maxHeartbeats 4000000 in
theorem pa_labelOfNumber_ok {Γ : zCtx} {M : List zE} (d : Nat) {n : Nat} : ZM Γ (d + 1) m_pa_labelOfNumber [.int (nI n)] M (zEq M (some (.int (nI (n * 19683))))) := by
  refine ZM.of mk_pa_labelOfNumber (Nat.le_of_ble_eq_true rfl) ?_
  refine Z_iload_n d_pa_labelOfNumber_0 rfl ?_
  refine Zn_sipush (nI 19683) d_pa_labelOfNumber_1 (by decide) ?_
  refine Zn_imul d_pa_labelOfNumber_4 ?_
  refine Z_iret d_pa_labelOfNumber_5 rfl ?_
  exact ⟨rfl, rfl⟩
set_option maxHeartbeats 4000000 in
theorem pa_numberOf_ok {Γ : zCtx} {M : List zE} (d : Nat) {l : Nat} (hl : l < 2147483648) : ZM Γ (d + 1) m_pa_numberOf [.int (nI l)] M (zEq M (some (.int (nI (l / 19683))))) := by
  refine ZM.of mk_pa_numberOf (Nat.le_of_ble_eq_true rfl) ?_
  refine Z_iload_n d_pa_numberOf_0 rfl ?_
  refine Zn_sipush (nI 19683) d_pa_numberOf_1 (by decide) ?_
  refine Zn_idiv d_pa_numberOf_4 (by omega) (by omega) (by omega) ?_
  refine Z_iret d_pa_numberOf_5 rfl ?_
  exact ⟨rfl, rfl⟩
set_option maxHeartbeats 4000000 in
theorem pa_letterOf_ok {Γ : zCtx} {M : List zE} (d : Nat) {l n : Nat} (hl : l < 2147483648) (hn : n < 2147483648) : ZM Γ (d + 1) m_pa_letterOf [.int (nI l), .int (nI n)] M (zEq M (some (.int (nI (l / lunit n % 27))))) := by
  refine ZM.of mk_pa_letterOf (Nat.le_of_ble_eq_true rfl) ?_
  rw [show zEn [.int (nI l), .int (nI n)] = [some (.int (nI l)), some (.int (nI n))] from rfl]
  refine zPad 1 ?_
  show Z _ _ _ _ _ _ _ [some (.int (nI l)), some (.int (nI n)), none] _ _
  refine Z_iload_n d_pa_letterOf_0 rfl ?_
  refine Zn_if_ne (tgt := 10) d_pa_letterOf_1 (by decide) (by omega) (fun h1 => ?_) (fun h1 => ?_)
  · skip
    refine Z_iload_n d_pa_letterOf_10 rfl ?_
    refine Zn_iconst (nI 1) d_pa_letterOf_11 (by decide) ?_
    refine Zn_icmp_ne (tgt := 20) d_pa_letterOf_12 (by decide) (by omega) (by omega) (fun h12 => ?_) (fun h12 => ?_)
    · skip
      refine Zn_iconst (nI 1) d_pa_letterOf_20 (by decide) ?_
      refine Zn_istore_n [some (.int (nI l)), some (.int (nI n)), some (.int (nI 1))] d_pa_letterOf_21 (by decide) rfl ?_
      refine Z_iload_n d_pa_letterOf_22 rfl ?_
      refine Z_iload_n d_pa_letterOf_23 rfl ?_
      refine Zn_idiv d_pa_letterOf_24 (by omega) (by omega) (by omega) ?_
      refine Zn_bipush (nI 27) d_pa_letterOf_25 (by decide) ?_
      refine Zn_irem d_pa_letterOf_27 (by omega) (by omega) (by omega) ?_
      refine Z_iret d_pa_letterOf_28 rfl ?_
      exact ⟨rfl, by simp_all [lunit]⟩
    · skip
      refine Zn_bipush (nI 27) d_pa_letterOf_15 (by decide) ?_
      refine Z_goto (tgt := 21) d_pa_letterOf_17 (by decide) ?_
      refine Zn_istore_n [some (.int (nI l)), some (.int (nI n)), some (.int (nI 27))] d_pa_letterOf_21 (by decide) rfl ?_
      refine Z_iload_n d_pa_letterOf_22 rfl ?_
      refine Z_iload_n d_pa_letterOf_23 rfl ?_
      refine Zn_idiv d_pa_letterOf_24 (by omega) (by omega) (by omega) ?_
      refine Zn_bipush (nI 27) d_pa_letterOf_25 (by decide) ?_
      refine Zn_irem d_pa_letterOf_27 (by omega) (by omega) (by omega) ?_
      refine Z_iret d_pa_letterOf_28 rfl ?_
      exact ⟨rfl, by simp_all [lunit]⟩
  · skip
    refine Zn_sipush (nI 729) d_pa_letterOf_4 (by decide) ?_
    refine Z_goto (tgt := 21) d_pa_letterOf_7 (by decide) ?_
    refine Zn_istore_n [some (.int (nI l)), some (.int (nI n)), some (.int (nI 729))] d_pa_letterOf_21 (by decide) rfl ?_
    refine Z_iload_n d_pa_letterOf_22 rfl ?_
    refine Z_iload_n d_pa_letterOf_23 rfl ?_
    refine Zn_idiv d_pa_letterOf_24 (by omega) (by omega) (by omega) ?_
    refine Zn_bipush (nI 27) d_pa_letterOf_25 (by decide) ?_
    refine Zn_irem d_pa_letterOf_27 (by omega) (by omega) (by omega) ?_
    refine Z_iret d_pa_letterOf_28 rfl ?_
    exact ⟨rfl, by simp_all [lunit]⟩
set_option maxHeartbeats 4000000 in
theorem pa_lettersOf_ok {Γ : zCtx} {M : List zE} (d : Nat) {l : Nat} (hl : l < 2147483648) : ZM Γ (d + 2) m_pa_lettersOf [.int (nI l)] M (zEq M (some (.int (nI (lets l))))) := by
  refine ZM.of mk_pa_lettersOf (Nat.le_of_ble_eq_true rfl) ?_
  rw [show zEn [.int (nI l)] = [some (.int (nI l))] from rfl]
  refine zPad 1 ?_
  show Z _ _ _ _ _ _ _ [some (.int (nI l)), none] _ _
  refine Zn_iconst (nI 0) d_pa_lettersOf_0 (by decide) ?_
  refine Zn_istore_n [some (.int (nI l)), some (.int (nI 0))] d_pa_lettersOf_1 (by decide) rfl ?_
  refine Z_iload_n d_pa_lettersOf_2 rfl ?_
  refine Zn_iconst (nI 3) d_pa_lettersOf_3 (by decide) ?_
  refine Zn_icmp_ge (a := 0) (b := 3) (tgt := 21) d_pa_lettersOf_4 (by decide) (by decide) (by decide) (fun h => absurd h (by decide)) (fun _ => ?_)
  refine Z_iload_n d_pa_lettersOf_7 rfl ?_
  refine Z_iload_n d_pa_lettersOf_8 rfl ?_
  refine zTe (As := [.int (nI l), .int (nI 0)]) (by omega) d_pa_lettersOf_9 lm_pa_11 rfl (Nat.le_of_ble_eq_true rfl) (pa_letterOf_ok d hl (by decide)) ?_
  refine Zn_if_eq (tgt := 21) d_pa_lettersOf_12 (by decide) (by omega) (fun h12 => ?_) (fun h12 => ?_)
  · skip
    refine Z_iload_n d_pa_lettersOf_21 rfl ?_
    refine Z_iret d_pa_lettersOf_22 rfl ?_
    exact ⟨rfl, by simp_all [lets, lunit]⟩
  · skip
    refine Zn_iinc [some (.int (nI l)), some (.int (nI 1))] (nI 1) d_pa_lettersOf_15 rfl (by decide) (nI_add 0 1) rfl ?_
    refine Z_goto (tgt := 2) d_pa_lettersOf_18 (by decide) ?_
    refine Z_iload_n d_pa_lettersOf_2 rfl ?_
    refine Zn_iconst (nI 3) d_pa_lettersOf_3 (by decide) ?_
    refine Zn_icmp_ge (a := 1) (b := 3) (tgt := 21) d_pa_lettersOf_4 (by decide) (by decide) (by decide) (fun h => absurd h (by decide)) (fun _ => ?_)
    refine Z_iload_n d_pa_lettersOf_7 rfl ?_
    refine Z_iload_n d_pa_lettersOf_8 rfl ?_
    refine zTe (As := [.int (nI l), .int (nI 1)]) (by omega) d_pa_lettersOf_9 lm_pa_11 rfl (Nat.le_of_ble_eq_true rfl) (pa_letterOf_ok d hl (by decide)) ?_
    refine Zn_if_eq (tgt := 21) d_pa_lettersOf_12 (by decide) (by omega) (fun h12 => ?_) (fun h12 => ?_)
    · skip
      refine Z_iload_n d_pa_lettersOf_21 rfl ?_
      refine Z_iret d_pa_lettersOf_22 rfl ?_
      exact ⟨rfl, by simp_all [lets, lunit]⟩
    · skip
      refine Zn_iinc [some (.int (nI l)), some (.int (nI 2))] (nI 2) d_pa_lettersOf_15 rfl (by decide) (nI_add 1 1) rfl ?_
      refine Z_goto (tgt := 2) d_pa_lettersOf_18 (by decide) ?_
      refine Z_iload_n d_pa_lettersOf_2 rfl ?_
      refine Zn_iconst (nI 3) d_pa_lettersOf_3 (by decide) ?_
      refine Zn_icmp_ge (a := 2) (b := 3) (tgt := 21) d_pa_lettersOf_4 (by decide) (by decide) (by decide) (fun h => absurd h (by decide)) (fun _ => ?_)
      refine Z_iload_n d_pa_lettersOf_7 rfl ?_
      refine Z_iload_n d_pa_lettersOf_8 rfl ?_
      refine zTe (As := [.int (nI l), .int (nI 2)]) (by omega) d_pa_lettersOf_9 lm_pa_11 rfl (Nat.le_of_ble_eq_true rfl) (pa_letterOf_ok d hl (by decide)) ?_
      refine Zn_if_eq (tgt := 21) d_pa_lettersOf_12 (by decide) (by omega) (fun h12 => ?_) (fun h12 => ?_)
      · skip
        refine Z_iload_n d_pa_lettersOf_21 rfl ?_
        refine Z_iret d_pa_lettersOf_22 rfl ?_
        exact ⟨rfl, by simp_all [lets, lunit]⟩
      · skip
        refine Zn_iinc [some (.int (nI l)), some (.int (nI 3))] (nI 3) d_pa_lettersOf_15 rfl (by decide) (nI_add 2 1) rfl ?_
        refine Z_goto (tgt := 2) d_pa_lettersOf_18 (by decide) ?_
        refine Z_iload_n d_pa_lettersOf_2 rfl ?_
        refine Zn_iconst (nI 3) d_pa_lettersOf_3 (by decide) ?_
        refine Zn_icmp_ge (a := 3) (b := 3) (tgt := 21) d_pa_lettersOf_4 (by decide) (by decide) (by decide) (fun _ => ?_) (fun h => absurd h (by decide))
        refine Z_iload_n d_pa_lettersOf_21 rfl ?_
        refine Z_iret d_pa_lettersOf_22 rfl ?_
        exact ⟨rfl, by simp_all [lets, lunit]⟩
