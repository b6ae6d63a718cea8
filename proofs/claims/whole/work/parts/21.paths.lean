/-! labels and paths as numbers -/
/-- more places of which nothing is known -/
theorem zPad {Γ : zCtx} {R : Room} {μ : zMe} {Φ : zPhi} {kc ks pc : Nat} {ls : List (Option Value)} {st : List Value} {M : List zE} (n : Nat) (h : Z Γ R μ Φ kc ks pc (ls ++ List.replicate n none) st M) : Z Γ R μ Φ kc ks pc ls st M := by
  intro p e s m args below meth c d0 H locs la hc hd0 hP hS hz hn hl
  refine h p e s m args below meth c d0 H locs la hc hd0 hP hS hz hn ⟨hl.1, hl.2.1, fun i v hi => ?_⟩
  by_cases h1 : i < ls.length
  · rw [List.getElem?_append_left h1] at hi
    exact hl.2.2 i v hi
  · rw [List.getElem?_append_right (by omega), List.getElem?_replicate] at hi
    split at hi <;> simp at hi
theorem zl_cmp {x y : Int64} : lg_cmp x y = 0 ↔ x = y := by
  unfold lg_cmp
  by_cases h1 : x > y
  · simp only [h1, if_true]
    refine ⟨fun h => absurd h (by decide), fun h => ?_⟩
    subst h
    exact absurd h1 (Int64.lt_irrefl)
  · simp only [h1, if_false]
    by_cases h2 : x = y
    · simp [h2]
    · simp only [h2, if_false, iff_false]
      decide
theorem zl_0 {a : Nat} (ha : a < 2 ^ 63) : lN a = 0 ↔ a = 0 := pk_lEQ (b := 0) ha (by decide)
def lev (k : Nat) : Nat := if k % 2097152 ≠ 0 then 3 else if k % 4398046511104 ≠ 0 then 2 else if k = 0 then 0 else 1
def un (l : Nat) : Nat := 2 ^ ((3 - l) * 21)
def lab (k l : Nat) : Nat := k / un l % 2097152
def par (k : Nat) : Nat := if k % 2097152 ≠ 0 then k - k % 2097152 else if k % 4398046511104 ≠ 0 then k - k % 4398046511104 else 0
def putl (k l b : Nat) : Nat := un l * 2097152 * (k / (un l * 2097152)) + (b * un l + k % un l)
def lunit (p : Nat) : Nat := if p = 0 then 729 else if p = 1 then 27 else 1
def lets (l : Nat) : Nat := if l / 729 % 27 = 0 then 0 else if l / 27 % 27 = 0 then 1 else if l % 27 = 0 then 2 else 3
def digs (l : Nat) : Nat := if l / 19683 < 10 then 1 else 2
def betw (l m : Nat) : Option Nat := if l - l % 729 + 729 < m then some (l - l % 729 + 729) else if l % 19683 = 0 then none else if l - l % 27 + 27 < m then some (l - l % 27 + 27) else if l % 729 = 0 then none else if l + 1 < m then some (l + 1) else none
def oI (o : Option Nat) (x : Int32) : Int32 := match o with
  | some n => nI n
  | none => x
theorem lev_le (k : Nat) : lev k ≤ 3 := by unfold lev; split; omega; split; omega; split <;> omega
set_option maxHeartbeats 4000000 in
theorem pa_labelOfNumber_ok {Γ : zCtx} {M : List zE} (d : Nat) {n : Nat} : ZM Γ (d + 1) m_pa_labelOfNumber [.int (nI n)] M (zEq M (some (.int (nI (n * 19683))))) := by
  refine ZM.of mk_pa_labelOfNumber (Nat.le_of_ble_eq_true rfl) ?_
  refine Z_iload_n d_pa_labelOfNumber_0 rfl ?_
  refine Zn_sipush (nI 19683) d_pa_labelOfNumber_1 (by decide) ?_
  refine Zn_imul d_pa_labelOfNumber_4 ?_
  refine Z_iret d_pa_labelOfNumber_5 rfl ?_
  exact ⟨rfl, rfl⟩
set_option maxHeartbeats 4000000 in
theorem pa_numberOf_ok {Γ : zCtx} {M : List zE} (d : Nat) {l : Nat} (hl : l < 2147483648) : ZM Γ (d + 1) m_pa_numberOf [.int (nI l)] M (zEq M (some (.int (nI (l / 19683))))) := by
  refine ZM.of mk_pa_numberOf (Nat.le_of_ble_eq_true rfl) ?_
  refine Z_iload_n d_pa_numberOf_0 rfl ?_
  refine Zn_sipush (nI 19683) d_pa_numberOf_1 (by decide) ?_
  refine Zn_idiv d_pa_numberOf_4 (by omega) (by omega) (by omega) ?_
  refine Z_iret d_pa_numberOf_5 rfl ?_
  exact ⟨rfl, rfl⟩
set_option maxHeartbeats 4000000 in
theorem pa_letterOf_ok {Γ : zCtx} {M : List zE} (d : Nat) {l n : Nat} (hl : l < 2147483648) (hn : n < 2147483648) : ZM Γ (d + 1) m_pa_letterOf [.int (nI l), .int (nI n)] M (zEq M (some (.int (nI (l / lunit n % 27))))) := by
  refine ZM.of mk_pa_letterOf (Nat.le_of_ble_eq_true rfl) ?_
  rw [show zEn [.int (nI l), .int (nI n)] = [some (.int (nI l)), some (.int (nI n))] from rfl]
  refine zPad 1 ?_
  show Z _ _ _ _ _ _ _ [some (.int (nI l)), some (.int (nI n)), none] _ _
  refine Z_iload_n d_pa_letterOf_0 rfl ?_
  refine Zn_if_ne (tgt := 10) d_pa_letterOf_1 (by decide) (by omega) (fun h1 => ?_) (fun h1 => ?_)
  · skip
    refine Z_iload_n d_pa_letterOf_10 rfl ?_
    refine Zn_iconst (nI 1) d_pa_letterOf_11 (by decide) ?_
    refine Zn_icmp_ne (tgt := 20) d_pa_letterOf_12 (by decide) (by omega) (by omega) (fun h12 => ?_) (fun h12 => ?_)
    · skip
      refine Zn_iconst (nI 1) d_pa_letterOf_20 (by decide) ?_
      refine Zn_istore_n [some (.int (nI l)), some (.int (nI n)), some (.int (nI 1))] d_pa_letterOf_21 (by decide) rfl ?_
      refine Z_iload_n d_pa_letterOf_22 rfl ?_
      refine Z_iload_n d_pa_letterOf_23 rfl ?_
      refine Zn_idiv d_pa_letterOf_24 (by omega) (by omega) (by omega) ?_
      refine Zn_bipush (nI 27) d_pa_letterOf_25 (by decide) ?_
      refine Zn_irem d_pa_letterOf_27 (by omega) (by omega) (by omega) ?_
      refine Z_iret d_pa_letterOf_28 rfl ?_
      exact ⟨rfl, by simp_all [lunit]⟩
    · skip
      refine Zn_bipush (nI 27) d_pa_letterOf_15 (by decide) ?_
      refine Z_goto (tgt := 21) d_pa_letterOf_17 (by decide) ?_
      refine Zn_istore_n [some (.int (nI l)), some (.int (nI n)), some (.int (nI 27))] d_pa_letterOf_21 (by decide) rfl ?_
      refine Z_iload_n d_pa_letterOf_22 rfl ?_
      refine Z_iload_n d_pa_letterOf_23 rfl ?_
      refine Zn_idiv d_pa_letterOf_24 (by omega) (by omega) (by omega) ?_
      refine Zn_bipush (nI 27) d_pa_letterOf_25 (by decide) ?_
      refine Zn_irem d_pa_letterOf_27 (by omega) (by omega) (by omega) ?_
      refine Z_iret d_pa_letterOf_28 rfl ?_
      exact ⟨rfl, by simp_all [lunit]⟩
  · skip
    refine Zn_sipush (nI 729) d_pa_letterOf_4 (by decide) ?_
    refine Z_goto (tgt := 21) d_pa_letterOf_7 (by decide) ?_
    refine Zn_istore_n [some (.int (nI l)), some (.int (nI n)), some (.int (nI 729))] d_pa_letterOf_21 (by decide) rfl ?_
    refine Z_iload_n d_pa_letterOf_22 rfl ?_
    refine Z_iload_n d_pa_letterOf_23 rfl ?_
    refine Zn_idiv d_pa_letterOf_24 (by omega) (by omega) (by omega) ?_
    refine Zn_bipush (nI 27) d_pa_letterOf_25 (by decide) ?_
    refine Zn_irem d_pa_letterOf_27 (by omega) (by omega) (by omega) ?_
    refine Z_iret d_pa_letterOf_28 rfl ?_
    exact ⟨rfl, by simp_all [lunit]⟩
set_option maxHeartbeats 4000000 in
theorem pa_lettersOf_ok {Γ : zCtx} {M : List zE} (d : Nat) {l : Nat} (hl : l < 2147483648) : ZM Γ (d + 2) m_pa_lettersOf [.int (nI l)] M (zEq M (some (.int (nI (lets l))))) := by
  refine ZM.of mk_pa_lettersOf (Nat.le_of_ble_eq_true rfl) ?_
  rw [show zEn [.int (nI l)] = [some (.int (nI l))] from rfl]
  refine zPad 1 ?_
  show Z _ _ _ _ _ _ _ [some (.int (nI l)), none] _ _
  refine Zn_iconst (nI 0) d_pa_lettersOf_0 (by decide) ?_
  refine Zn_istore_n [some (.int (nI l)), some (.int (nI 0))] d_pa_lettersOf_1 (by decide) rfl ?_
  refine Z_iload_n d_pa_lettersOf_2 rfl ?_
  refine Zn_iconst (nI 3) d_pa_lettersOf_3 (by decide) ?_
  refine Zn_icmp_ge (a := 0) (b := 3) (tgt := 21) d_pa_lettersOf_4 (by decide) (by decide) (by decide) (fun h => absurd h (by decide)) (fun _ => ?_)
  refine Z_iload_n d_pa_lettersOf_7 rfl ?_
  refine Z_iload_n d_pa_lettersOf_8 rfl ?_
  refine zTe (As := [.int (nI l), .int (nI 0)]) (by omega) d_pa_lettersOf_9 lm_pa_11 rfl (Nat.le_of_ble_eq_true rfl) (pa_letterOf_ok d hl (by decide)) ?_
  refine Zn_if_eq (tgt := 21) d_pa_lettersOf_12 (by decide) (by omega) (fun h12 => ?_) (fun h12 => ?_)
  · skip
    refine Z_iload_n d_pa_lettersOf_21 rfl ?_
    refine Z_iret d_pa_lettersOf_22 rfl ?_
    exact ⟨rfl, by simp_all [lets, lunit]⟩
  · skip
    refine Zn_iinc [some (.int (nI l)), some (.int (nI 1))] (nI 1) d_pa_lettersOf_15 rfl (by decide) (nI_add 0 1) rfl ?_
    refine Z_goto (tgt := 2) d_pa_lettersOf_18 (by decide) ?_
    refine Z_iload_n d_pa_lettersOf_2 rfl ?_
    refine Zn_iconst (nI 3) d_pa_lettersOf_3 (by decide) ?_
    refine Zn_icmp_ge (a := 1) (b := 3) (tgt := 21) d_pa_lettersOf_4 (by decide) (by decide) (by decide) (fun h => absurd h (by decide)) (fun _ => ?_)
    refine Z_iload_n d_pa_lettersOf_7 rfl ?_
    refine Z_iload_n d_pa_lettersOf_8 rfl ?_
    refine zTe (As := [.int (nI l), .int (nI 1)]) (by omega) d_pa_lettersOf_9 lm_pa_11 rfl (Nat.le_of_ble_eq_true rfl) (pa_letterOf_ok d hl (by decide)) ?_
    refine Zn_if_eq (tgt := 21) d_pa_lettersOf_12 (by decide) (by omega) (fun h12 => ?_) (fun h12 => ?_)
    · skip
      refine Z_iload_n d_pa_lettersOf_21 rfl ?_
      refine Z_iret d_pa_lettersOf_22 rfl ?_
      exact ⟨rfl, by simp_all [lets, lunit]⟩
    · skip
      refine Zn_iinc [some (.int (nI l)), some (.int (nI 2))] (nI 2) d_pa_lettersOf_15 rfl (by decide) (nI_add 1 1) rfl ?_
      refine Z_goto (tgt := 2) d_pa_lettersOf_18 (by decide) ?_
      refine Z_iload_n d_pa_lettersOf_2 rfl ?_
      refine Zn_iconst (nI 3) d_pa_lettersOf_3 (by decide) ?_
      refine Zn_icmp_ge (a := 2) (b := 3) (tgt := 21) d_pa_lettersOf_4 (by decide) (by decide) (by decide) (fun h => absurd h (by decide)) (fun _ => ?_)
      refine Z_iload_n d_pa_lettersOf_7 rfl ?_
      refine Z_iload_n d_pa_lettersOf_8 rfl ?_
      refine zTe (As := [.int (nI l), .int (nI 2)]) (by omega) d_pa_lettersOf_9 lm_pa_11 rfl (Nat.le_of_ble_eq_true rfl) (pa_letterOf_ok d hl (by decide)) ?_
      refine Zn_if_eq (tgt := 21) d_pa_lettersOf_12 (by decide) (by omega) (fun h12 => ?_) (fun h12 => ?_)
      · skip
        refine Z_iload_n d_pa_lettersOf_21 rfl ?_
        refine Z_iret d_pa_lettersOf_22 rfl ?_
        exact ⟨rfl, by simp_all [lets, lunit]⟩
      · skip
        refine Zn_iinc [some (.int (nI l)), some (.int (nI 3))] (nI 3) d_pa_lettersOf_15 rfl (by decide) (nI_add 2 1) rfl ?_
        refine Z_goto (tgt := 2) d_pa_lettersOf_18 (by decide) ?_
        refine Z_iload_n d_pa_lettersOf_2 rfl ?_
        refine Zn_iconst (nI 3) d_pa_lettersOf_3 (by decide) ?_
        refine Zn_icmp_ge (a := 3) (b := 3) (tgt := 21) d_pa_lettersOf_4 (by decide) (by decide) (by decide) (fun _ => ?_) (fun h => absurd h (by decide))
        refine Z_iload_n d_pa_lettersOf_21 rfl ?_
        refine Z_iret d_pa_lettersOf_22 rfl ?_
        exact ⟨rfl, by simp_all [lets, lunit]⟩
set_option maxHeartbeats 4000000 in
theorem pa_labelBetween_ok {Γ : zCtx} {M : List zE} (d : Nat) {l m : Nat} (hl : l < 2000000000) (hm : m < 2147483648) : ZM Γ (d + 1) m_pa_labelBetween [.int (nI l), .int (nI m)] M (zEq M (some (.int (oI (betw l m) (-7))))) := by
  refine ZM.of mk_pa_labelBetween (Nat.le_of_ble_eq_true rfl) ?_
  rw [show zEn [.int (nI l), .int (nI m)] = [some (.int (nI l)), some (.int (nI m))] from rfl]
  refine zPad 2 ?_
  show Z _ _ _ _ _ _ _ [some (.int (nI l)), some (.int (nI m)), none, none] _ _
  refine Zn_sipush (nI 729) d_pa_labelBetween_0 (by decide) ?_
  refine Zn_istore_n [some (.int (nI l)), some (.int (nI m)), some (.int (nI 729)), none] d_pa_labelBetween_3 (by decide) rfl ?_
  refine Z_iload_n d_pa_labelBetween_4 rfl ?_
  refine Zn_if_le (a := 729) (tgt := 43) d_pa_labelBetween_5 (by decide) (by decide) (fun h => absurd h (by decide)) (fun _ => ?_)
  refine Z_iload_n d_pa_labelBetween_8 rfl ?_
  refine Z_iload_n d_pa_labelBetween_9 rfl ?_
  refine Z_iload_n d_pa_labelBetween_10 rfl ?_
  refine Zn_irem d_pa_labelBetween_11 (by omega) (by omega) (by omega) ?_
  refine Zn_isub d_pa_labelBetween_12 (by omega) ?_
  refine Z_iload_n d_pa_labelBetween_13 rfl ?_
  refine Zn_iadd d_pa_labelBetween_14 ?_
  refine Zn_istore_n [some (.int (nI l)), some (.int (nI m)), some (.int (nI 729)), some (.int (nI ((l - (l % 729)) + 729)))] d_pa_labelBetween_15 (by decide) rfl ?_
  refine Z_iload_n d_pa_labelBetween_16 rfl ?_
  refine Z_iload_n d_pa_labelBetween_17 rfl ?_
  refine Zn_icmp_ge (tgt := 23) d_pa_labelBetween_18 (by decide) (by omega) (by omega) (fun h18 => ?_) (fun h18 => ?_)
  · skip
    refine Z_iload_n d_pa_labelBetween_23 rfl ?_
    refine Z_iload_n d_pa_labelBetween_24 rfl ?_
    refine Zn_bipush (nI 27) d_pa_labelBetween_25 (by decide) ?_
    refine Zn_imul d_pa_labelBetween_27 ?_
    refine Zn_irem d_pa_labelBetween_28 (by omega) (by omega) (by omega) ?_
    refine Zn_if_ne (tgt := 35) d_pa_labelBetween_29 (by decide) (by omega) (fun h29 => ?_) (fun h29 => ?_)
    · skip
      refine Z_iload_n d_pa_labelBetween_35 rfl ?_
      refine Zn_bipush (nI 27) d_pa_labelBetween_36 (by decide) ?_
      refine Zn_idiv d_pa_labelBetween_38 (by decide) (by decide) (by decide) ?_
      refine Zn_istore_n [some (.int (nI l)), some (.int (nI m)), some (.int (nI 27)), some (.int (nI ((l - (l % 729)) + 729)))] d_pa_labelBetween_39 (by decide) rfl ?_
      refine Z_goto (tgt := 4) d_pa_labelBetween_40 (by decide) ?_
      refine Z_iload_n d_pa_labelBetween_4 rfl ?_
      refine Zn_if_le (a := 27) (tgt := 43) d_pa_labelBetween_5 (by decide) (by decide) (fun h => absurd h (by decide)) (fun _ => ?_)
      refine Z_iload_n d_pa_labelBetween_8 rfl ?_
      refine Z_iload_n d_pa_labelBetween_9 rfl ?_
      refine Z_iload_n d_pa_labelBetween_10 rfl ?_
      refine Zn_irem d_pa_labelBetween_11 (by omega) (by omega) (by omega) ?_
      refine Zn_isub d_pa_labelBetween_12 (by omega) ?_
      refine Z_iload_n d_pa_labelBetween_13 rfl ?_
      refine Zn_iadd d_pa_labelBetween_14 ?_
      refine Zn_istore_n [some (.int (nI l)), some (.int (nI m)), some (.int (nI 27)), some (.int (nI ((l - (l % 27)) + 27)))] d_pa_labelBetween_15 (by decide) rfl ?_
      refine Z_iload_n d_pa_labelBetween_16 rfl ?_
      refine Z_iload_n d_pa_labelBetween_17 rfl ?_
      refine Zn_icmp_ge (tgt := 23) d_pa_labelBetween_18 (by decide) (by omega) (by omega) (fun h18 => ?_) (fun h18 => ?_)
      · skip
        refine Z_iload_n d_pa_labelBetween_23 rfl ?_
        refine Z_iload_n d_pa_labelBetween_24 rfl ?_
        refine Zn_bipush (nI 27) d_pa_labelBetween_25 (by decide) ?_
        refine Zn_imul d_pa_labelBetween_27 ?_
        refine Zn_irem d_pa_labelBetween_28 (by omega) (by omega) (by omega) ?_
        refine Zn_if_ne (tgt := 35) d_pa_labelBetween_29 (by decide) (by omega) (fun h29 => ?_) (fun h29 => ?_)
        · skip
          refine Z_iload_n d_pa_labelBetween_35 rfl ?_
          refine Zn_bipush (nI 27) d_pa_labelBetween_36 (by decide) ?_
          refine Zn_idiv d_pa_labelBetween_38 (by decide) (by decide) (by decide) ?_
          refine Zn_istore_n [some (.int (nI l)), some (.int (nI m)), some (.int (nI 1)), some (.int (nI ((l - (l % 27)) + 27)))] d_pa_labelBetween_39 (by decide) rfl ?_
          refine Z_goto (tgt := 4) d_pa_labelBetween_40 (by decide) ?_
          refine Z_iload_n d_pa_labelBetween_4 rfl ?_
          refine Zn_if_le (a := 1) (tgt := 43) d_pa_labelBetween_5 (by decide) (by decide) (fun h => absurd h (by decide)) (fun _ => ?_)
          refine Z_iload_n d_pa_labelBetween_8 rfl ?_
          refine Z_iload_n d_pa_labelBetween_9 rfl ?_
          refine Z_iload_n d_pa_labelBetween_10 rfl ?_
          refine Zn_irem d_pa_labelBetween_11 (by omega) (by omega) (by omega) ?_
          refine Zn_isub d_pa_labelBetween_12 (by omega) ?_
          refine Z_iload_n d_pa_labelBetween_13 rfl ?_
          refine Zn_iadd d_pa_labelBetween_14 ?_
          refine Zn_istore_n [some (.int (nI l)), some (.int (nI m)), some (.int (nI 1)), some (.int (nI ((l - (l % 1)) + 1)))] d_pa_labelBetween_15 (by decide) rfl ?_
          refine Z_iload_n d_pa_labelBetween_16 rfl ?_
          refine Z_iload_n d_pa_labelBetween_17 rfl ?_
          refine Zn_icmp_ge (tgt := 23) d_pa_labelBetween_18 (by decide) (by omega) (by omega) (fun h18 => ?_) (fun h18 => ?_)
          · skip
            refine Z_iload_n d_pa_labelBetween_23 rfl ?_
            refine Z_iload_n d_pa_labelBetween_24 rfl ?_
            refine Zn_bipush (nI 27) d_pa_labelBetween_25 (by decide) ?_
            refine Zn_imul d_pa_labelBetween_27 ?_
            refine Zn_irem d_pa_labelBetween_28 (by omega) (by omega) (by omega) ?_
            refine Zn_if_ne (tgt := 35) d_pa_labelBetween_29 (by decide) (by omega) (fun h29 => ?_) (fun h29 => ?_)
            · skip
              refine Z_iload_n d_pa_labelBetween_35 rfl ?_
              refine Zn_bipush (nI 27) d_pa_labelBetween_36 (by decide) ?_
              refine Zn_idiv d_pa_labelBetween_38 (by decide) (by decide) (by decide) ?_
              refine Zn_istore_n [some (.int (nI l)), some (.int (nI m)), some (.int (nI 0)), some (.int (nI ((l - (l % 1)) + 1)))] d_pa_labelBetween_39 (by decide) rfl ?_
              refine Z_goto (tgt := 4) d_pa_labelBetween_40 (by decide) ?_
              refine Z_iload_n d_pa_labelBetween_4 rfl ?_
              refine Zn_if_le (a := 0) (tgt := 43) d_pa_labelBetween_5 (by decide) (by decide) (fun _ => ?_) (fun h => absurd h (by decide))
              refine Zn_bipush (-7) d_pa_labelBetween_43 (by decide) ?_
              refine Z_iret d_pa_labelBetween_45 rfl ?_
              refine ⟨rfl, ?_⟩
              unfold betw
              (repeat (first | rw [if_pos (by omega)] | rw [if_neg (by omega)]))
              all_goals (first | rfl | (simp [oI, Nat.mod_one]; done) | (congr 2; omega))
            · skip
              refine Zn_bipush (-7) d_pa_labelBetween_32 (by decide) ?_
              refine Z_iret d_pa_labelBetween_34 rfl ?_
              refine ⟨rfl, ?_⟩
              unfold betw
              (repeat (first | rw [if_pos (by omega)] | rw [if_neg (by omega)]))
              all_goals (first | rfl | (simp [oI, Nat.mod_one]; done) | (congr 2; omega))
          · skip
            refine Z_iload_n d_pa_labelBetween_21 rfl ?_
            refine Z_iret d_pa_labelBetween_22 rfl ?_
            refine ⟨rfl, ?_⟩
            unfold betw
            (repeat (first | rw [if_pos (by omega)] | rw [if_neg (by omega)]))
            all_goals (first | rfl | (simp [oI, Nat.mod_one]; done) | (congr 2; omega))
        · skip
          refine Zn_bipush (-7) d_pa_labelBetween_32 (by decide) ?_
          refine Z_iret d_pa_labelBetween_34 rfl ?_
          refine ⟨rfl, ?_⟩
          unfold betw
          (repeat (first | rw [if_pos (by omega)] | rw [if_neg (by omega)]))
          all_goals (first | rfl | (simp [oI, Nat.mod_one]; done) | (congr 2; omega))
      · skip
        refine Z_iload_n d_pa_labelBetween_21 rfl ?_
        refine Z_iret d_pa_labelBetween_22 rfl ?_
        refine ⟨rfl, ?_⟩
        unfold betw
        (repeat (first | rw [if_pos (by omega)] | rw [if_neg (by omega)]))
        all_goals (first | rfl | (simp [oI, Nat.mod_one]; done) | (congr 2; omega))
    · skip
      refine Zn_bipush (-7) d_pa_labelBetween_32 (by decide) ?_
      refine Z_iret d_pa_labelBetween_34 rfl ?_
      refine ⟨rfl, ?_⟩
      unfold betw
      (repeat (first | rw [if_pos (by omega)] | rw [if_neg (by omega)]))
      all_goals (first | rfl | (simp [oI, Nat.mod_one]; done) | (congr 2; omega))
  · skip
    refine Z_iload_n d_pa_labelBetween_21 rfl ?_
    refine Z_iret d_pa_labelBetween_22 rfl ?_
    refine ⟨rfl, ?_⟩
    unfold betw
    (repeat (first | rw [if_pos (by omega)] | rw [if_neg (by omega)]))
    all_goals (first | rfl | (simp [oI, Nat.mod_one]; done) | (congr 2; omega))
set_option maxHeartbeats 4000000 in
theorem pa_levelOf_ok {Γ : zCtx} {M : List zE} (d : Nat) {k : Nat} (hk : k < 2 ^ 63) : ZM Γ (d + 1) m_pa_levelOf [.long (lN k)] M (zEq M (some (.int (nI (lev k))))) := by
  refine ZM.of mk_pa_levelOf (Nat.le_of_ble_eq_true rfl) ?_
  refine Z_lload_n d_pa_levelOf_0 rfl ?_
  refine Z_ldc2 wk_pa_15 d_pa_levelOf_1 ?_
  refine Z_land d_pa_levelOf_4 ?_
  rw [zb_lo21 hk]
  refine Zn_lconst (0) d_pa_levelOf_5 (by decide) ?_
  refine Z_lcmp d_pa_levelOf_6 ?_
  refine Z_if_eq (tgt := 12) d_pa_levelOf_7 (by decide) (fun h7 => ?_) (fun h7 => ?_)
  · skip
    have h7 := (zl_0 (by omega)).mp (zl_cmp.mp h7)
    refine Z_lload_n d_pa_levelOf_12 rfl ?_
    refine Z_ldc2 wk_pa_17 d_pa_levelOf_13 ?_
    refine Z_land d_pa_levelOf_16 ?_
    rw [zb_lo42 hk]
    refine Zn_lconst (0) d_pa_levelOf_17 (by decide) ?_
    refine Z_lcmp d_pa_levelOf_18 ?_
    refine Z_if_eq (tgt := 24) d_pa_levelOf_19 (by decide) (fun h19 => ?_) (fun h19 => ?_)
    · skip
      have h19 := (zl_0 (by omega)).mp (zl_cmp.mp h19)
      refine Z_lload_n d_pa_levelOf_24 rfl ?_
      refine Zn_lconst (0) d_pa_levelOf_25 (by decide) ?_
      refine Z_lcmp d_pa_levelOf_26 ?_
      refine Z_if_ne (tgt := 34) d_pa_levelOf_27 (by decide) (fun h27 => ?_) (fun h27 => ?_)
      · skip
        have h27 := fun z => h27 (zl_cmp.mpr ((zl_0 (by omega)).mpr z))
        refine Zn_iconst (nI 1) d_pa_levelOf_34 (by decide) ?_
        refine Z_iret d_pa_levelOf_35 rfl ?_
        refine ⟨rfl, ?_⟩
        unfold lev
        (repeat (first | rw [if_pos (by omega)] | rw [if_neg (by omega)]))
      · skip
        have h27 := (zl_0 (by omega)).mp (zl_cmp.mp h27)
        refine Zn_iconst (nI 0) d_pa_levelOf_30 (by decide) ?_
        refine Z_goto (tgt := 35) d_pa_levelOf_31 (by decide) ?_
        refine Z_iret d_pa_levelOf_35 rfl ?_
        refine ⟨rfl, ?_⟩
        unfold lev
        (repeat (first | rw [if_pos (by omega)] | rw [if_neg (by omega)]))
    · skip
      have h19 := fun z => h19 (zl_cmp.mpr ((zl_0 (by omega)).mpr z))
      refine Zn_iconst (nI 2) d_pa_levelOf_22 (by decide) ?_
      refine Z_iret d_pa_levelOf_23 rfl ?_
      refine ⟨rfl, ?_⟩
      unfold lev
      (repeat (first | rw [if_pos (by omega)] | rw [if_neg (by omega)]))
  · skip
    have h7 := fun z => h7 (zl_cmp.mpr ((zl_0 (by omega)).mpr z))
    refine Zn_iconst (nI 3) d_pa_levelOf_10 (by decide) ?_
    refine Z_iret d_pa_levelOf_11 rfl ?_
    refine ⟨rfl, ?_⟩
    unfold lev
    (repeat (first | rw [if_pos (by omega)] | rw [if_neg (by omega)]))
set_option maxHeartbeats 4000000 in
theorem pa_labelAt_ok {Γ : zCtx} {M : List zE} (d : Nat) {k l : Nat} (hk : k < 2 ^ 63) (h1 : 1 ≤ l) (h3 : l ≤ 3) : ZM Γ (d + 1) m_pa_labelAt [.long (lN k), .int (nI l)] M (zEq M (some (.int (nI (lab k l))))) := by
  refine ZM.of mk_pa_labelAt (Nat.le_of_ble_eq_true rfl) ?_
  refine Z_lload_n d_pa_labelAt_0 rfl ?_
  refine Zn_iconst (nI 3) d_pa_labelAt_1 (by decide) ?_
  refine Z_iload_n d_pa_labelAt_2 rfl ?_
  refine Zn_isub d_pa_labelAt_3 (by omega) ?_
  refine Zn_bipush (nI 21) d_pa_labelAt_4 (by decide) ?_
  refine Zn_imul d_pa_labelAt_6 ?_
  refine Z_lshr d_pa_labelAt_7 ?_
  rw [zb_shr hk (by omega)]
  refine Z_ldc2 wk_pa_15 d_pa_labelAt_8 ?_
  refine Z_land d_pa_labelAt_11 ?_
  rw [zb_lo21 (Nat.lt_of_le_of_lt (Nat.div_le_self _ _) hk)]
  refine Z_l2i d_pa_labelAt_12 ?_
  rw [lN_i]
  refine Z_iret d_pa_labelAt_13 rfl ?_
  exact ⟨rfl, rfl⟩
theorem un_1 : un 1 = 4398046511104 := rfl
theorem un_2 : un 2 = 2097152 := rfl
theorem un_3 : un 3 = 1 := rfl
theorem zb_w1 : ((2097151 : Int64) <<< ((nI 42).toInt64 &&& 63)) ^^^ (-1) = lN (2 ^ 64 - 1 - (2 ^ 21 - 1) * 2 ^ 42) := by decide +kernel
theorem zb_w2 : ((2097151 : Int64) <<< ((nI 21).toInt64 &&& 63)) ^^^ (-1) = lN (2 ^ 64 - 1 - (2 ^ 21 - 1) * 2 ^ 21) := by decide +kernel
theorem zb_w3 : ((2097151 : Int64) <<< ((nI 0).toInt64 &&& 63)) ^^^ (-1) = lN (2 ^ 64 - 1 - (2 ^ 21 - 1)) := by decide +kernel
set_option maxHeartbeats 4000000 in
theorem pa_withLabel_ok1 {Γ : zCtx} {M : List zE} (d : Nat) {k b : Nat} (hk : k < 2 ^ 63) (hb : b < 2097152) : ZM Γ (d + 1) m_pa_withLabel [.long (lN k), .int (nI 1), .int (nI b)] M (zEq M (some (.long (lN (putl k 1 b))))) := by
  refine ZM.of mk_pa_withLabel (Nat.le_of_ble_eq_true rfl) ?_
  rw [show zEn [.long (lN k), .int (nI 1), .int (nI b)] = [some (.long (lN k)), none, some (.int (nI 1)), some (.int (nI b))] from rfl]
  refine zPad 1 ?_
  show Z _ _ _ _ _ _ _ [some (.long (lN k)), none, some (.int (nI 1)), some (.int (nI b)), none] _ _
  refine Zn_iconst (nI 3) d_pa_withLabel_0 (by decide) ?_
  refine Z_iload_n d_pa_withLabel_1 rfl ?_
  refine Zn_isub d_pa_withLabel_2 (by decide) ?_
  refine Zn_bipush (nI 21) d_pa_withLabel_3 (by decide) ?_
  refine Zn_imul d_pa_withLabel_5 ?_
  refine Zn_istore [some (.long (lN k)), none, some (.int (nI 1)), some (.int (nI b)), some (.int (nI 42))] d_pa_withLabel_6 (by decide) rfl ?_
  refine Z_lload_n d_pa_withLabel_8 rfl ?_
  refine Z_ldc2 wk_pa_15 d_pa_withLabel_9 ?_
  refine Z_iload d_pa_withLabel_12 rfl ?_
  refine Z_lshl d_pa_withLabel_14 ?_
  refine Z_ldc2 wk_pa_19 d_pa_withLabel_15 ?_
  refine Z_lxor d_pa_withLabel_18 ?_
  rw [zb_w1]
  refine Z_land d_pa_withLabel_19 ?_
  refine Z_iload_n d_pa_withLabel_20 rfl ?_
  refine Z_i2l d_pa_withLabel_21 ?_
  rw [nI_l (by omega)]
  refine Z_iload d_pa_withLabel_22 rfl ?_
  refine Z_lshl d_pa_withLabel_24 ?_
  rw [wb_shl b (by decide)]
  refine Z_lor d_pa_withLabel_25 ?_
  rw [zb_put (s := 42) hk hb (by decide) (by decide) zb_u42]
  refine Z_lret d_pa_withLabel_26 rfl ?_
  exact ⟨rfl, rfl⟩
set_option maxHeartbeats 4000000 in
theorem pa_withLabel_ok2 {Γ : zCtx} {M : List zE} (d : Nat) {k b : Nat} (hk : k < 2 ^ 63) (hb : b < 2097152) : ZM Γ (d + 1) m_pa_withLabel [.long (lN k), .int (nI 2), .int (nI b)] M (zEq M (some (.long (lN (putl k 2 b))))) := by
  refine ZM.of mk_pa_withLabel (Nat.le_of_ble_eq_true rfl) ?_
  rw [show zEn [.long (lN k), .int (nI 2), .int (nI b)] = [some (.long (lN k)), none, some (.int (nI 2)), some (.int (nI b))] from rfl]
  refine zPad 1 ?_
  show Z _ _ _ _ _ _ _ [some (.long (lN k)), none, some (.int (nI 2)), some (.int (nI b)), none] _ _
  refine Zn_iconst (nI 3) d_pa_withLabel_0 (by decide) ?_
  refine Z_iload_n d_pa_withLabel_1 rfl ?_
  refine Zn_isub d_pa_withLabel_2 (by decide) ?_
  refine Zn_bipush (nI 21) d_pa_withLabel_3 (by decide) ?_
  refine Zn_imul d_pa_withLabel_5 ?_
  refine Zn_istore [some (.long (lN k)), none, some (.int (nI 2)), some (.int (nI b)), some (.int (nI 21))] d_pa_withLabel_6 (by decide) rfl ?_
  refine Z_lload_n d_pa_withLabel_8 rfl ?_
  refine Z_ldc2 wk_pa_15 d_pa_withLabel_9 ?_
  refine Z_iload d_pa_withLabel_12 rfl ?_
  refine Z_lshl d_pa_withLabel_14 ?_
  refine Z_ldc2 wk_pa_19 d_pa_withLabel_15 ?_
  refine Z_lxor d_pa_withLabel_18 ?_
  rw [zb_w2]
  refine Z_land d_pa_withLabel_19 ?_
  refine Z_iload_n d_pa_withLabel_20 rfl ?_
  refine Z_i2l d_pa_withLabel_21 ?_
  rw [nI_l (by omega)]
  refine Z_iload d_pa_withLabel_22 rfl ?_
  refine Z_lshl d_pa_withLabel_24 ?_
  rw [wb_shl b (by decide)]
  refine Z_lor d_pa_withLabel_25 ?_
  rw [zb_put (s := 21) hk hb (by decide) (by decide) zb_u21]
  refine Z_lret d_pa_withLabel_26 rfl ?_
  exact ⟨rfl, rfl⟩
set_option maxHeartbeats 4000000 in
theorem pa_withLabel_ok3 {Γ : zCtx} {M : List zE} (d : Nat) {k b : Nat} (hk : k < 2 ^ 63) (hb : b < 2097152) : ZM Γ (d + 1) m_pa_withLabel [.long (lN k), .int (nI 3), .int (nI b)] M (zEq M (some (.long (lN (putl k 3 b))))) := by
  refine ZM.of mk_pa_withLabel (Nat.le_of_ble_eq_true rfl) ?_
  rw [show zEn [.long (lN k), .int (nI 3), .int (nI b)] = [some (.long (lN k)), none, some (.int (nI 3)), some (.int (nI b))] from rfl]
  refine zPad 1 ?_
  show Z _ _ _ _ _ _ _ [some (.long (lN k)), none, some (.int (nI 3)), some (.int (nI b)), none] _ _
  refine Zn_iconst (nI 3) d_pa_withLabel_0 (by decide) ?_
  refine Z_iload_n d_pa_withLabel_1 rfl ?_
  refine Zn_isub d_pa_withLabel_2 (by decide) ?_
  refine Zn_bipush (nI 21) d_pa_withLabel_3 (by decide) ?_
  refine Zn_imul d_pa_withLabel_5 ?_
  refine Zn_istore [some (.long (lN k)), none, some (.int (nI 3)), some (.int (nI b)), some (.int (nI 0))] d_pa_withLabel_6 (by decide) rfl ?_
  refine Z_lload_n d_pa_withLabel_8 rfl ?_
  refine Z_ldc2 wk_pa_15 d_pa_withLabel_9 ?_
  refine Z_iload d_pa_withLabel_12 rfl ?_
  refine Z_lshl d_pa_withLabel_14 ?_
  refine Z_ldc2 wk_pa_19 d_pa_withLabel_15 ?_
  refine Z_lxor d_pa_withLabel_18 ?_
  rw [zb_w3]
  refine Z_land d_pa_withLabel_19 ?_
  refine Z_iload_n d_pa_withLabel_20 rfl ?_
  refine Z_i2l d_pa_withLabel_21 ?_
  rw [nI_l (by omega)]
  refine Z_iload d_pa_withLabel_22 rfl ?_
  refine Z_lshl d_pa_withLabel_24 ?_
  rw [wb_shl b (by decide)]
  refine Z_lor d_pa_withLabel_25 ?_
  rw [zb_put (s := 0) hk hb (by decide) (by decide) zb_u0]
  refine Z_lret d_pa_withLabel_26 rfl ?_
  exact ⟨rfl, rfl⟩
theorem pa_withLabel_ok {Γ : zCtx} {M : List zE} (d : Nat) {k l b : Nat} (hk : k < 2 ^ 63) (h1 : 1 ≤ l) (h3 : l ≤ 3) (hb : b < 2097152) : ZM Γ (d + 1) m_pa_withLabel [.long (lN k), .int (nI l), .int (nI b)] M (zEq M (some (.long (lN (putl k l b))))) := by
  rcases (show l = 1 ∨ l = 2 ∨ l = 3 by omega) with rfl | rfl | rfl
  · exact pa_withLabel_ok1 d hk hb
  · exact pa_withLabel_ok2 d hk hb
  · exact pa_withLabel_ok3 d hk hb
set_option maxHeartbeats 4000000 in
theorem pa_childOf_ok {Γ : zCtx} {M : List zE} (d : Nat) {k b : Nat} (hk : k < 2 ^ 63) (hl : lev k ≤ 2) (hb : b < 2097152) : ZM Γ (d + 2) m_pa_childOf [.long (lN k), .int (nI b)] M (zEq M (some (.long (lN (putl k (lev k + 1) b))))) := by
  refine ZM.of mk_pa_childOf (Nat.le_of_ble_eq_true rfl) ?_
  refine Z_lload_n d_pa_childOf_0 rfl ?_
  refine Z_lload_n d_pa_childOf_1 rfl ?_
  refine zTe (As := [.long (lN k)]) (by omega) d_pa_childOf_2 lm_pa_21 rfl (Nat.le_of_ble_eq_true rfl) (pa_levelOf_ok d hk) ?_
  refine Zn_iconst (nI 1) d_pa_childOf_5 (by decide) ?_
  refine Zn_iadd d_pa_childOf_6 ?_
  refine Z_iload_n d_pa_childOf_7 rfl ?_
  refine zTe (As := [.long (lN k), .int (nI ((lev k) + 1)), .int (nI b)]) (by omega) d_pa_childOf_8 lm_pa_25 rfl (Nat.le_of_ble_eq_true rfl) (pa_withLabel_ok d hk (by omega) (by omega) hb) ?_
  refine Z_lret d_pa_childOf_11 rfl ?_
  exact ⟨rfl, rfl⟩
set_option maxHeartbeats 4000000 in
theorem pa_siblingOf_ok {Γ : zCtx} {M : List zE} (d : Nat) {k b : Nat} (hk : k < 2 ^ 63) (hl : 1 ≤ lev k) (hb : b < 2097152) : ZM Γ (d + 2) m_pa_siblingOf [.long (lN k), .int (nI b)] M (zEq M (some (.long (lN (putl k (lev k) b))))) := by
  refine ZM.of mk_pa_siblingOf (Nat.le_of_ble_eq_true rfl) ?_
  refine Z_lload_n d_pa_siblingOf_0 rfl ?_
  refine Z_lload_n d_pa_siblingOf_1 rfl ?_
  refine zTe (As := [.long (lN k)]) (by omega) d_pa_siblingOf_2 lm_pa_21 rfl (Nat.le_of_ble_eq_true rfl) (pa_levelOf_ok d hk) ?_
  refine Z_iload_n d_pa_siblingOf_5 rfl ?_
  refine zTe (As := [.long (lN k), .int (nI (lev k)), .int (nI b)]) (by omega) d_pa_siblingOf_6 lm_pa_25 rfl (Nat.le_of_ble_eq_true rfl) (pa_withLabel_ok d hk hl (lev_le k) hb) ?_
  refine Z_lret d_pa_siblingOf_9 rfl ?_
  exact ⟨rfl, rfl⟩
set_option maxHeartbeats 4000000 in
theorem pa_parentOf_ok {Γ : zCtx} {M : List zE} (d : Nat) {k : Nat} (hk : k < 2 ^ 63) : ZM Γ (d + 1) m_pa_parentOf [.long (lN k)] M (zEq M (some (.long (lN (par k))))) := by
  refine ZM.of mk_pa_parentOf (Nat.le_of_ble_eq_true rfl) ?_
  refine Z_lload_n d_pa_parentOf_0 rfl ?_
  refine Z_ldc2 wk_pa_15 d_pa_parentOf_1 ?_
  refine Z_land d_pa_parentOf_4 ?_
  rw [zb_lo21 hk]
  refine Zn_lconst (0) d_pa_parentOf_5 (by decide) ?_
  refine Z_lcmp d_pa_parentOf_6 ?_
  refine Z_if_eq (tgt := 16) d_pa_parentOf_7 (by decide) (fun h7 => ?_) (fun h7 => ?_)
  · skip
    have h7 := (zl_0 (by omega)).mp (zl_cmp.mp h7)
    refine Z_lload_n d_pa_parentOf_16 rfl ?_
    refine Z_ldc2 wk_pa_17 d_pa_parentOf_17 ?_
    refine Z_land d_pa_parentOf_20 ?_
    rw [zb_lo42 hk]
    refine Zn_lconst (0) d_pa_parentOf_21 (by decide) ?_
    refine Z_lcmp d_pa_parentOf_22 ?_
    refine Z_if_eq (tgt := 34) d_pa_parentOf_23 (by decide) (fun h23 => ?_) (fun h23 => ?_)
    · skip
      have h23 := (zl_0 (by omega)).mp (zl_cmp.mp h23)
      refine Zn_lconst (0) d_pa_parentOf_34 (by decide) ?_
      refine Z_lret d_pa_parentOf_35 rfl ?_
      refine ⟨rfl, ?_⟩
      unfold par
      (repeat (first | rw [if_pos (by omega)] | rw [if_neg (by omega)]))
      all_goals rfl
    · skip
      have h23 := fun z => h23 (zl_cmp.mpr ((zl_0 (by omega)).mpr z))
      refine Z_lload_n d_pa_parentOf_26 rfl ?_
      refine Z_ldc2 wk_pa_31 d_pa_parentOf_27 ?_
      refine Z_land d_pa_parentOf_30 ?_
      rw [zb_hi42 hk]
      refine Z_goto (tgt := 35) d_pa_parentOf_31 (by decide) ?_
      refine Z_lret d_pa_parentOf_35 rfl ?_
      refine ⟨rfl, ?_⟩
      unfold par
      (repeat (first | rw [if_pos (by omega)] | rw [if_neg (by omega)]))
      all_goals rfl
  · skip
    have h7 := fun z => h7 (zl_cmp.mpr ((zl_0 (by omega)).mpr z))
    refine Z_lload_n d_pa_parentOf_10 rfl ?_
    refine Z_ldc2 wk_pa_29 d_pa_parentOf_11 ?_
    refine Z_land d_pa_parentOf_14 ?_
    rw [zb_hi21 hk]
    refine Z_lret d_pa_parentOf_15 rfl ?_
    refine ⟨rfl, ?_⟩
    unfold par
    (repeat (first | rw [if_pos (by omega)] | rw [if_neg (by omega)]))
    all_goals rfl
set_option maxHeartbeats 4000000 in
theorem pa_tailBelow_ok {Γ : zCtx} {M : List zE} (d : Nat) {k l : Nat} (hk : k < 2 ^ 63) (h1 : 1 ≤ l) (h3 : l ≤ 3) : ZM Γ (d + 1) m_pa_tailBelow [.long (lN k), .int (nI l)] M (zEq M (some (.long (lN (k % un l))))) := by
  refine ZM.of mk_pa_tailBelow (Nat.le_of_ble_eq_true rfl) ?_
  refine Z_lload_n d_pa_tailBelow_0 rfl ?_
  refine Zn_lconst (1) d_pa_tailBelow_1 (by decide) ?_
  refine Zn_iconst (nI 3) d_pa_tailBelow_2 (by decide) ?_
  refine Z_iload_n d_pa_tailBelow_3 rfl ?_
  refine Zn_isub d_pa_tailBelow_4 (by omega) ?_
  refine Zn_bipush (nI 21) d_pa_tailBelow_5 (by decide) ?_
  refine Zn_imul d_pa_tailBelow_7 ?_
  refine Z_lshl d_pa_tailBelow_8 ?_
  rw [show (1 : Int64) = lN 1 from rfl, wb_shl 1 (by omega), Nat.one_mul]
  refine Zn_lconst (1) d_pa_tailBelow_9 (by decide) ?_
  refine Z_lsub d_pa_tailBelow_10 ?_
  rw [show (1 : Int64) = lN 1 from rfl, lN_sub (Nat.two_pow_pos _)]
  refine Z_land d_pa_tailBelow_11 ?_
  rw [wb_mask (by omega) (by omega)]
  refine Z_lret d_pa_tailBelow_12 rfl ?_
  exact ⟨rfl, rfl⟩
set_option maxHeartbeats 4000000 in
theorem pa_isWithin_ok {Γ : zCtx} {M : List zE} (d : Nat) {k q l : Nat} (hk : k < 2 ^ 63) (hq : q < 2 ^ 63) (h1 : 1 ≤ l) (h3 : l ≤ 3) : ZM Γ (d + 1) m_pa_isWithin [.long (lN k), .long (lN q), .int (nI l)] M (zEq M (some (.int (nI (if k / un l = q / un l then 1 else 0))))) := by
  refine ZM.of mk_pa_isWithin (Nat.le_of_ble_eq_true rfl) ?_
  rw [show zEn [.long (lN k), .long (lN q), .int (nI l)] = [some (.long (lN k)), none, some (.long (lN q)), none, some (.int (nI l))] from rfl]
  refine zPad 1 ?_
  show Z _ _ _ _ _ _ _ [some (.long (lN k)), none, some (.long (lN q)), none, some (.int (nI l)), none] _ _
  refine Zn_iconst (nI 3) d_pa_isWithin_0 (by decide) ?_
  refine Z_iload d_pa_isWithin_1 rfl ?_
  refine Zn_isub d_pa_isWithin_3 (by omega) ?_
  refine Zn_bipush (nI 21) d_pa_isWithin_4 (by decide) ?_
  refine Zn_imul d_pa_isWithin_6 ?_
  refine Zn_istore [some (.long (lN k)), none, some (.long (lN q)), none, some (.int (nI l)), some (.int (nI ((3 - l) * 21)))] d_pa_isWithin_7 (by decide) rfl ?_
  refine Z_lload_n d_pa_isWithin_9 rfl ?_
  refine Z_iload d_pa_isWithin_10 rfl ?_
  refine Z_lshr d_pa_isWithin_12 ?_
  rw [zb_shr hk (by omega)]
  refine Z_lload_n d_pa_isWithin_13 rfl ?_
  refine Z_iload d_pa_isWithin_14 rfl ?_
  refine Z_lshr d_pa_isWithin_16 ?_
  rw [zb_shr hq (by omega)]
  refine Z_lcmp d_pa_isWithin_17 ?_
  refine Z_if_ne (tgt := 25) d_pa_isWithin_18 (by decide) (fun h18 => ?_) (fun h18 => ?_)
  · skip
    have h18 : ¬ k / un l = q / un l := fun z => h18 (zl_cmp.mpr (by rw [show k / 2 ^ ((3 - l) * 21) = q / 2 ^ ((3 - l) * 21) from z]))
    refine Zn_iconst (nI 0) d_pa_isWithin_25 (by decide) ?_
    refine Z_zret d_pa_isWithin_26 rfl rfl ?_
    exact ⟨rfl, by simp [h18]⟩
  · skip
    have h18 : k / un l = q / un l := (pk_lEQ (Nat.lt_of_le_of_lt (Nat.div_le_self _ _) hk) (Nat.lt_of_le_of_lt (Nat.div_le_self _ _) hq)).mp (zl_cmp.mp h18)
    refine Zn_iconst (nI 1) d_pa_isWithin_21 (by decide) ?_
    refine Z_goto (tgt := 26) d_pa_isWithin_22 (by decide) ?_
    refine Z_zret d_pa_isWithin_26 rfl rfl ?_
    exact ⟨rfl, by simp [h18]⟩
set_option maxHeartbeats 4000000 in
theorem pa_digitsOf_ok {Γ : zCtx} {M : List zE} (d : Nat) {l : Nat} (hl : l < 2147483648) : ZM Γ (d + 2) m_pa_digitsOf [.int (nI l)] M (zEq M (some (.int (nI (digs l))))) := by
  refine ZM.of mk_pa_digitsOf (Nat.le_of_ble_eq_true rfl) ?_
  refine Z_iload_n d_pa_digitsOf_0 rfl ?_
  refine zTe (As := [.int (nI l)]) (by omega) d_pa_digitsOf_1 lm_pa_33 rfl (Nat.le_of_ble_eq_true rfl) (pa_numberOf_ok d hl) ?_
  refine Zn_bipush (nI 10) d_pa_digitsOf_4 (by decide) ?_
  refine Zn_icmp_ge (tgt := 13) d_pa_digitsOf_6 (by decide) (by omega) (by omega) (fun h6 => ?_) (fun h6 => ?_)
  · skip
    refine Zn_iconst (nI 2) d_pa_digitsOf_13 (by decide) ?_
    refine Z_iret d_pa_digitsOf_14 rfl ?_
    refine ⟨rfl, ?_⟩
    unfold digs
    (repeat (first | rw [if_pos (by omega)] | rw [if_neg (by omega)]))
    all_goals (first | rfl | (simp [oI, Nat.mod_one]; done) | (congr 2; omega))
  · skip
    refine Zn_iconst (nI 1) d_pa_digitsOf_9 (by decide) ?_
    refine Z_goto (tgt := 14) d_pa_digitsOf_10 (by decide) ?_
    refine Z_iret d_pa_digitsOf_14 rfl ?_
    refine ⟨rfl, ?_⟩
    unfold digs
    (repeat (first | rw [if_pos (by omega)] | rw [if_neg (by omega)]))
    all_goals (first | rfl | (simp [oI, Nat.mod_one]; done) | (congr 2; omega))
theorem digs_le (l : Nat) : 1 ≤ digs l ∧ digs l ≤ 2 := by unfold digs; split <;> omega
theorem lets_le (l : Nat) : lets l ≤ 3 := by unfold lets; split; omega; split; omega; split <;> omega
theorem lab_lt (k l : Nat) : lab k l < 2097152 := Nat.mod_lt _ (by decide)
def lch (l j : Nat) : Nat := if digs l ≤ j then 64 + l / lunit (j - digs l) % 27 else 48 + (if j < digs l - 1 then l / 19683 / 10 else l / 19683 % 10)
def labs (k : Nat) : List Nat := if lev k = 0 then [] else if lev k = 1 then [lab k 1] else if lev k = 2 then [lab k 1, lab k 2] else [lab k 1, lab k 2, lab k 3]
def plen (k : Nat) : Nat := if lev k = 0 then 0 else if lev k = 1 then digs (lab k 1) + lets (lab k 1) else if lev k = 2 then digs (lab k 1) + lets (lab k 1) + (digs (lab k 2) + lets (lab k 2) + 2) else digs (lab k 1) + lets (lab k 1) + (digs (lab k 2) + lets (lab k 2) + 2) + (digs (lab k 3) + lets (lab k 3) + 2)
def chGo : Nat → List Nat → Nat → Option Nat
  | _, [], _ => none
  | br, l :: ls, p => if p < br then some 40 else if p < br + (digs l + lets l) then some (lch l (p - br)) else if p < br + (digs l + lets l) + br then some 41 else chGo 1 ls (p - (br + (digs l + lets l) + br))
set_option maxHeartbeats 4000000 in
theorem pa_lengthOf_ok {Γ : zCtx} {M : List zE} (d : Nat) {k : Nat} (hk : k < 2 ^ 63) : ZM Γ (d + 3) m_pa_lengthOf [.long (lN k)] M (zEq M (some (.int (nI (plen k))))) := by
  refine ZM.of mk_pa_lengthOf (Nat.le_of_ble_eq_true rfl) ?_
  rw [show zEn [.long (lN k)] = [some (.long (lN k)), none] from rfl]
  refine zPad 4 ?_
  show Z _ _ _ _ _ _ _ [some (.long (lN k)), none, none, none, none, none] _ _
  refine Z_lload_n d_pa_lengthOf_0 rfl ?_
  refine zTe (As := [.long (lN k)]) (by omega) d_pa_lengthOf_1 lm_pa_21 rfl (Nat.le_of_ble_eq_true rfl) (pa_levelOf_ok (d + 1) hk) ?_
  have b1 := lab_lt k 1
  have b2 := lab_lt k 2
  have b3 := lab_lt k 3
  have e1 := digs_le (lab k 1)
  have e2 := digs_le (lab k 2)
  have e3 := digs_le (lab k 3)
  have g1 := lets_le (lab k 1)
  have g2 := lets_le (lab k 2)
  have g3 := lets_le (lab k 3)
  have hlv := lev_le k
  rcases (show lev k = 0 ∨ lev k = 1 ∨ lev k = 2 ∨ lev k = 3 by omega) with hv | hv | hv | hv
  · skip
    rw [hv]
    refine Zn_istore_n [some (.long (lN k)), none, some (.int (nI 0)), none, none, none] d_pa_lengthOf_4 (by decide) rfl ?_
    refine Zn_iconst (nI 0) d_pa_lengthOf_5 (by decide) ?_
    refine Zn_istore_n [some (.long (lN k)), none, some (.int (nI 0)), some (.int (nI 0)), none, none] d_pa_lengthOf_6 (by decide) rfl ?_
    refine Zn_iconst (nI 1) d_pa_lengthOf_7 (by decide) ?_
    refine Zn_istore [some (.long (lN k)), none, some (.int (nI 0)), some (.int (nI 0)), some (.int (nI 1)), none] d_pa_lengthOf_8 (by decide) rfl ?_
    refine Z_iload d_pa_lengthOf_10 rfl ?_
    refine Z_iload_n d_pa_lengthOf_12 rfl ?_
    refine Zn_icmp_gt (a := 1) (b := 0) (tgt := 56) d_pa_lengthOf_13 (by decide) (by decide) (by decide) (fun _ => ?_) (fun h => absurd h (by decide))
    refine Z_iload_n d_pa_lengthOf_56 rfl ?_
    refine Z_iret d_pa_lengthOf_57 rfl ?_
    refine ⟨rfl, ?_⟩
    unfold plen
    rw [hv]
    first | rfl | (simp only [Nat.reduceEqDiff, if_true, if_false]; congr 3; omega) | (simp; done)
  · skip
    rw [hv]
    refine Zn_istore_n [some (.long (lN k)), none, some (.int (nI 1)), none, none, none] d_pa_lengthOf_4 (by decide) rfl ?_
    refine Zn_iconst (nI 0) d_pa_lengthOf_5 (by decide) ?_
    refine Zn_istore_n [some (.long (lN k)), none, some (.int (nI 1)), some (.int (nI 0)), none, none] d_pa_lengthOf_6 (by decide) rfl ?_
    refine Zn_iconst (nI 1) d_pa_lengthOf_7 (by decide) ?_
    refine Zn_istore [some (.long (lN k)), none, some (.int (nI 1)), some (.int (nI 0)), some (.int (nI 1)), none] d_pa_lengthOf_8 (by decide) rfl ?_
    refine Z_iload d_pa_lengthOf_10 rfl ?_
    refine Z_iload_n d_pa_lengthOf_12 rfl ?_
    refine Zn_icmp_gt (a := 1) (b := 1) (tgt := 56) d_pa_lengthOf_13 (by decide) (by decide) (by decide) (fun h => absurd h (by decide)) (fun _ => ?_)
    refine Z_lload_n d_pa_lengthOf_16 rfl ?_
    refine Z_iload d_pa_lengthOf_17 rfl ?_
    refine zTe (As := [.long (lN k), .int (nI 1)]) (by omega) d_pa_lengthOf_19 lm_pa_37 rfl (Nat.le_of_ble_eq_true rfl) (pa_labelAt_ok (l := 1) (d + 1) hk (by decide) (by decide)) ?_
    refine Zn_istore [some (.long (lN k)), none, some (.int (nI 1)), some (.int (nI 0)), some (.int (nI 1)), some (.int (nI (lab k 1)))] d_pa_lengthOf_22 (by decide) rfl ?_
    refine Z_iload_n d_pa_lengthOf_24 rfl ?_
    refine Z_iload d_pa_lengthOf_25 rfl ?_
    refine zTe (As := [.int (nI (lab k 1))]) (by omega) d_pa_lengthOf_27 lm_pa_41 rfl (Nat.le_of_ble_eq_true rfl) (pa_digitsOf_ok d (by omega)) ?_
    refine Z_iload d_pa_lengthOf_30 rfl ?_
    refine zTe (As := [.int (nI (lab k 1))]) (by omega) d_pa_lengthOf_32 lm_pa_44 rfl (Nat.le_of_ble_eq_true rfl) (pa_lettersOf_ok d (by omega)) ?_
    refine Zn_iadd d_pa_lengthOf_35 ?_
    refine Z_iload d_pa_lengthOf_36 rfl ?_
    refine Zn_iconst (nI 1) d_pa_lengthOf_38 (by decide) ?_
    refine Zn_icmp_le (a := 1) (b := 1) (tgt := 46) d_pa_lengthOf_39 (by decide) (by decide) (by decide) (fun _ => ?_) (fun h => absurd h (by decide))
    refine Zn_iconst (nI 0) d_pa_lengthOf_46 (by decide) ?_
    refine Zn_iadd d_pa_lengthOf_47 ?_
    refine Zn_iadd d_pa_lengthOf_48 ?_
    refine Zn_istore_n [some (.long (lN k)), none, some (.int (nI 1)), some (.int (nI (0 + (((digs (lab k 1)) + (lets (lab k 1))) + 0)))), some (.int (nI 1)), some (.int (nI (lab k 1)))] d_pa_lengthOf_49 (by decide) rfl ?_
    refine Zn_iinc [some (.long (lN k)), none, some (.int (nI 1)), some (.int (nI (0 + (((digs (lab k 1)) + (lets (lab k 1))) + 0)))), some (.int (nI 2)), some (.int (nI (lab k 1)))] (nI 2) d_pa_lengthOf_50 rfl (by decide) (nI_add 1 1) rfl ?_
    refine Z_goto (tgt := 10) d_pa_lengthOf_53 (by decide) ?_
    refine Z_iload d_pa_lengthOf_10 rfl ?_
    refine Z_iload_n d_pa_lengthOf_12 rfl ?_
    refine Zn_icmp_gt (a := 2) (b := 1) (tgt := 56) d_pa_lengthOf_13 (by decide) (by decide) (by decide) (fun _ => ?_) (fun h => absurd h (by decide))
    refine Z_iload_n d_pa_lengthOf_56 rfl ?_
    refine Z_iret d_pa_lengthOf_57 rfl ?_
    refine ⟨rfl, ?_⟩
    unfold plen
    rw [hv]
    first | rfl | (simp only [Nat.reduceEqDiff, if_true, if_false]; congr 3; omega) | (simp; done)
  · skip
    rw [hv]
    refine Zn_istore_n [some (.long (lN k)), none, some (.int (nI 2)), none, none, none] d_pa_lengthOf_4 (by decide) rfl ?_
    refine Zn_iconst (nI 0) d_pa_lengthOf_5 (by decide) ?_
    refine Zn_istore_n [some (.long (lN k)), none, some (.int (nI 2)), some (.int (nI 0)), none, none] d_pa_lengthOf_6 (by decide) rfl ?_
    refine Zn_iconst (nI 1) d_pa_lengthOf_7 (by decide) ?_
    refine Zn_istore [some (.long (lN k)), none, some (.int (nI 2)), some (.int (nI 0)), some (.int (nI 1)), none] d_pa_lengthOf_8 (by decide) rfl ?_
    refine Z_iload d_pa_lengthOf_10 rfl ?_
    refine Z_iload_n d_pa_lengthOf_12 rfl ?_
    refine Zn_icmp_gt (a := 1) (b := 2) (tgt := 56) d_pa_lengthOf_13 (by decide) (by decide) (by decide) (fun h => absurd h (by decide)) (fun _ => ?_)
    refine Z_lload_n d_pa_lengthOf_16 rfl ?_
    refine Z_iload d_pa_lengthOf_17 rfl ?_
    refine zTe (As := [.long (lN k), .int (nI 1)]) (by omega) d_pa_lengthOf_19 lm_pa_37 rfl (Nat.le_of_ble_eq_true rfl) (pa_labelAt_ok (l := 1) (d + 1) hk (by decide) (by decide)) ?_
    refine Zn_istore [some (.long (lN k)), none, some (.int (nI 2)), some (.int (nI 0)), some (.int (nI 1)), some (.int (nI (lab k 1)))] d_pa_lengthOf_22 (by decide) rfl ?_
    refine Z_iload_n d_pa_lengthOf_24 rfl ?_
    refine Z_iload d_pa_lengthOf_25 rfl ?_
    refine zTe (As := [.int (nI (lab k 1))]) (by omega) d_pa_lengthOf_27 lm_pa_41 rfl (Nat.le_of_ble_eq_true rfl) (pa_digitsOf_ok d (by omega)) ?_
    refine Z_iload d_pa_lengthOf_30 rfl ?_
    refine zTe (As := [.int (nI (lab k 1))]) (by omega) d_pa_lengthOf_32 lm_pa_44 rfl (Nat.le_of_ble_eq_true rfl) (pa_lettersOf_ok d (by omega)) ?_
    refine Zn_iadd d_pa_lengthOf_35 ?_
    refine Z_iload d_pa_lengthOf_36 rfl ?_
    refine Zn_iconst (nI 1) d_pa_lengthOf_38 (by decide) ?_
    refine Zn_icmp_le (a := 1) (b := 1) (tgt := 46) d_pa_lengthOf_39 (by decide) (by decide) (by decide) (fun _ => ?_) (fun h => absurd h (by decide))
    refine Zn_iconst (nI 0) d_pa_lengthOf_46 (by decide) ?_
    refine Zn_iadd d_pa_lengthOf_47 ?_
    refine Zn_iadd d_pa_lengthOf_48 ?_
    refine Zn_istore_n [some (.long (lN k)), none, some (.int (nI 2)), some (.int (nI (0 + (((digs (lab k 1)) + (lets (lab k 1))) + 0)))), some (.int (nI 1)), some (.int (nI (lab k 1)))] d_pa_lengthOf_49 (by decide) rfl ?_
    refine Zn_iinc [some (.long (lN k)), none, some (.int (nI 2)), some (.int (nI (0 + (((digs (lab k 1)) + (lets (lab k 1))) + 0)))), some (.int (nI 2)), some (.int (nI (lab k 1)))] (nI 2) d_pa_lengthOf_50 rfl (by decide) (nI_add 1 1) rfl ?_
    refine Z_goto (tgt := 10) d_pa_lengthOf_53 (by decide) ?_
    refine Z_iload d_pa_lengthOf_10 rfl ?_
    refine Z_iload_n d_pa_lengthOf_12 rfl ?_
    refine Zn_icmp_gt (a := 2) (b := 2) (tgt := 56) d_pa_lengthOf_13 (by decide) (by decide) (by decide) (fun h => absurd h (by decide)) (fun _ => ?_)
    refine Z_lload_n d_pa_lengthOf_16 rfl ?_
    refine Z_iload d_pa_lengthOf_17 rfl ?_
    refine zTe (As := [.long (lN k), .int (nI 2)]) (by omega) d_pa_lengthOf_19 lm_pa_37 rfl (Nat.le_of_ble_eq_true rfl) (pa_labelAt_ok (l := 2) (d + 1) hk (by decide) (by decide)) ?_
    refine Zn_istore [some (.long (lN k)), none, some (.int (nI 2)), some (.int (nI (0 + (((digs (lab k 1)) + (lets (lab k 1))) + 0)))), some (.int (nI 2)), some (.int (nI (lab k 2)))] d_pa_lengthOf_22 (by decide) rfl ?_
    refine Z_iload_n d_pa_lengthOf_24 rfl ?_
    refine Z_iload d_pa_lengthOf_25 rfl ?_
    refine zTe (As := [.int (nI (lab k 2))]) (by omega) d_pa_lengthOf_27 lm_pa_41 rfl (Nat.le_of_ble_eq_true rfl) (pa_digitsOf_ok d (by omega)) ?_
    refine Z_iload d_pa_lengthOf_30 rfl ?_
    refine zTe (As := [.int (nI (lab k 2))]) (by omega) d_pa_lengthOf_32 lm_pa_44 rfl (Nat.le_of_ble_eq_true rfl) (pa_lettersOf_ok d (by omega)) ?_
    refine Zn_iadd d_pa_lengthOf_35 ?_
    refine Z_iload d_pa_lengthOf_36 rfl ?_
    refine Zn_iconst (nI 1) d_pa_lengthOf_38 (by decide) ?_
    refine Zn_icmp_le (a := 2) (b := 1) (tgt := 46) d_pa_lengthOf_39 (by decide) (by decide) (by decide) (fun h => absurd h (by decide)) (fun _ => ?_)
    refine Zn_iconst (nI 2) d_pa_lengthOf_42 (by decide) ?_
    refine Z_goto (tgt := 47) d_pa_lengthOf_43 (by decide) ?_
    refine Zn_iadd d_pa_lengthOf_47 ?_
    refine Zn_iadd d_pa_lengthOf_48 ?_
    refine Zn_istore_n [some (.long (lN k)), none, some (.int (nI 2)), some (.int (nI ((0 + (((digs (lab k 1)) + (lets (lab k 1))) + 0)) + (((digs (lab k 2)) + (lets (lab k 2))) + 2)))), some (.int (nI 2)), some (.int (nI (lab k 2)))] d_pa_lengthOf_49 (by decide) rfl ?_
    refine Zn_iinc [some (.long (lN k)), none, some (.int (nI 2)), some (.int (nI ((0 + (((digs (lab k 1)) + (lets (lab k 1))) + 0)) + (((digs (lab k 2)) + (lets (lab k 2))) + 2)))), some (.int (nI 3)), some (.int (nI (lab k 2)))] (nI 3) d_pa_lengthOf_50 rfl (by decide) (nI_add 2 1) rfl ?_
    refine Z_goto (tgt := 10) d_pa_lengthOf_53 (by decide) ?_
    refine Z_iload d_pa_lengthOf_10 rfl ?_
    refine Z_iload_n d_pa_lengthOf_12 rfl ?_
    refine Zn_icmp_gt (a := 3) (b := 2) (tgt := 56) d_pa_lengthOf_13 (by decide) (by decide) (by decide) (fun _ => ?_) (fun h => absurd h (by decide))
    refine Z_iload_n d_pa_lengthOf_56 rfl ?_
    refine Z_iret d_pa_lengthOf_57 rfl ?_
    refine ⟨rfl, ?_⟩
    unfold plen
    rw [hv]
    first | rfl | (simp only [Nat.reduceEqDiff, if_true, if_false]; congr 3; omega) | (simp; done)
  · skip
    rw [hv]
    refine Zn_istore_n [some (.long (lN k)), none, some (.int (nI 3)), none, none, none] d_pa_lengthOf_4 (by decide) rfl ?_
    refine Zn_iconst (nI 0) d_pa_lengthOf_5 (by decide) ?_
    refine Zn_istore_n [some (.long (lN k)), none, some (.int (nI 3)), some (.int (nI 0)), none, none] d_pa_lengthOf_6 (by decide) rfl ?_
    refine Zn_iconst (nI 1) d_pa_lengthOf_7 (by decide) ?_
    refine Zn_istore [some (.long (lN k)), none, some (.int (nI 3)), some (.int (nI 0)), some (.int (nI 1)), none] d_pa_lengthOf_8 (by decide) rfl ?_
    refine Z_iload d_pa_lengthOf_10 rfl ?_
    refine Z_iload_n d_pa_lengthOf_12 rfl ?_
    refine Zn_icmp_gt (a := 1) (b := 3) (tgt := 56) d_pa_lengthOf_13 (by decide) (by decide) (by decide) (fun h => absurd h (by decide)) (fun _ => ?_)
    refine Z_lload_n d_pa_lengthOf_16 rfl ?_
    refine Z_iload d_pa_lengthOf_17 rfl ?_
    refine zTe (As := [.long (lN k), .int (nI 1)]) (by omega) d_pa_lengthOf_19 lm_pa_37 rfl (Nat.le_of_ble_eq_true rfl) (pa_labelAt_ok (l := 1) (d + 1) hk (by decide) (by decide)) ?_
    refine Zn_istore [some (.long (lN k)), none, some (.int (nI 3)), some (.int (nI 0)), some (.int (nI 1)), some (.int (nI (lab k 1)))] d_pa_lengthOf_22 (by decide) rfl ?_
    refine Z_iload_n d_pa_lengthOf_24 rfl ?_
    refine Z_iload d_pa_lengthOf_25 rfl ?_
    refine zTe (As := [.int (nI (lab k 1))]) (by omega) d_pa_lengthOf_27 lm_pa_41 rfl (Nat.le_of_ble_eq_true rfl) (pa_digitsOf_ok d (by omega)) ?_
    refine Z_iload d_pa_lengthOf_30 rfl ?_
    refine zTe (As := [.int (nI (lab k 1))]) (by omega) d_pa_lengthOf_32 lm_pa_44 rfl (Nat.le_of_ble_eq_true rfl) (pa_lettersOf_ok d (by omega)) ?_
    refine Zn_iadd d_pa_lengthOf_35 ?_
    refine Z_iload d_pa_lengthOf_36 rfl ?_
    refine Zn_iconst (nI 1) d_pa_lengthOf_38 (by decide) ?_
    refine Zn_icmp_le (a := 1) (b := 1) (tgt := 46) d_pa_lengthOf_39 (by decide) (by decide) (by decide) (fun _ => ?_) (fun h => absurd h (by decide))
    refine Zn_iconst (nI 0) d_pa_lengthOf_46 (by decide) ?_
    refine Zn_iadd d_pa_lengthOf_47 ?_
    refine Zn_iadd d_pa_lengthOf_48 ?_
    refine Zn_istore_n [some (.long (lN k)), none, some (.int (nI 3)), some (.int (nI (0 + (((digs (lab k 1)) + (lets (lab k 1))) + 0)))), some (.int (nI 1)), some (.int (nI (lab k 1)))] d_pa_lengthOf_49 (by decide) rfl ?_
    refine Zn_iinc [some (.long (lN k)), none, some (.int (nI 3)), some (.int (nI (0 + (((digs (lab k 1)) + (lets (lab k 1))) + 0)))), some (.int (nI 2)), some (.int (nI (lab k 1)))] (nI 2) d_pa_lengthOf_50 rfl (by decide) (nI_add 1 1) rfl ?_
    refine Z_goto (tgt := 10) d_pa_lengthOf_53 (by decide) ?_
    refine Z_iload d_pa_lengthOf_10 rfl ?_
    refine Z_iload_n d_pa_lengthOf_12 rfl ?_
    refine Zn_icmp_gt (a := 2) (b := 3) (tgt := 56) d_pa_lengthOf_13 (by decide) (by decide) (by decide) (fun h => absurd h (by decide)) (fun _ => ?_)
    refine Z_lload_n d_pa_lengthOf_16 rfl ?_
    refine Z_iload d_pa_lengthOf_17 rfl ?_
    refine zTe (As := [.long (lN k), .int (nI 2)]) (by omega) d_pa_lengthOf_19 lm_pa_37 rfl (Nat.le_of_ble_eq_true rfl) (pa_labelAt_ok (l := 2) (d + 1) hk (by decide) (by decide)) ?_
    refine Zn_istore [some (.long (lN k)), none, some (.int (nI 3)), some (.int (nI (0 + (((digs (lab k 1)) + (lets (lab k 1))) + 0)))), some (.int (nI 2)), some (.int (nI (lab k 2)))] d_pa_lengthOf_22 (by decide) rfl ?_
    refine Z_iload_n d_pa_lengthOf_24 rfl ?_
    refine Z_iload d_pa_lengthOf_25 rfl ?_
    refine zTe (As := [.int (nI (lab k 2))]) (by omega) d_pa_lengthOf_27 lm_pa_41 rfl (Nat.le_of_ble_eq_true rfl) (pa_digitsOf_ok d (by omega)) ?_
    refine Z_iload d_pa_lengthOf_30 rfl ?_
    refine zTe (As := [.int (nI (lab k 2))]) (by omega) d_pa_lengthOf_32 lm_pa_44 rfl (Nat.le_of_ble_eq_true rfl) (pa_lettersOf_ok d (by omega)) ?_
    refine Zn_iadd d_pa_lengthOf_35 ?_
    refine Z_iload d_pa_lengthOf_36 rfl ?_
    refine Zn_iconst (nI 1) d_pa_lengthOf_38 (by decide) ?_
    refine Zn_icmp_le (a := 2) (b := 1) (tgt := 46) d_pa_lengthOf_39 (by decide) (by decide) (by decide) (fun h => absurd h (by decide)) (fun _ => ?_)
    refine Zn_iconst (nI 2) d_pa_lengthOf_42 (by decide) ?_
    refine Z_goto (tgt := 47) d_pa_lengthOf_43 (by decide) ?_
    refine Zn_iadd d_pa_lengthOf_47 ?_
    refine Zn_iadd d_pa_lengthOf_48 ?_
    refine Zn_istore_n [some (.long (lN k)), none, some (.int (nI 3)), some (.int (nI ((0 + (((digs (lab k 1)) + (lets (lab k 1))) + 0)) + (((digs (lab k 2)) + (lets (lab k 2))) + 2)))), some (.int (nI 2)), some (.int (nI (lab k 2)))] d_pa_lengthOf_49 (by decide) rfl ?_
    refine Zn_iinc [some (.long (lN k)), none, some (.int (nI 3)), some (.int (nI ((0 + (((digs (lab k 1)) + (lets (lab k 1))) + 0)) + (((digs (lab k 2)) + (lets (lab k 2))) + 2)))), some (.int (nI 3)), some (.int (nI (lab k 2)))] (nI 3) d_pa_lengthOf_50 rfl (by decide) (nI_add 2 1) rfl ?_
    refine Z_goto (tgt := 10) d_pa_lengthOf_53 (by decide) ?_
    refine Z_iload d_pa_lengthOf_10 rfl ?_
    refine Z_iload_n d_pa_lengthOf_12 rfl ?_
    refine Zn_icmp_gt (a := 3) (b := 3) (tgt := 56) d_pa_lengthOf_13 (by decide) (by decide) (by decide) (fun h => absurd h (by decide)) (fun _ => ?_)
    refine Z_lload_n d_pa_lengthOf_16 rfl ?_
    refine Z_iload d_pa_lengthOf_17 rfl ?_
    refine zTe (As := [.long (lN k), .int (nI 3)]) (by omega) d_pa_lengthOf_19 lm_pa_37 rfl (Nat.le_of_ble_eq_true rfl) (pa_labelAt_ok (l := 3) (d + 1) hk (by decide) (by decide)) ?_
    refine Zn_istore [some (.long (lN k)), none, some (.int (nI 3)), some (.int (nI ((0 + (((digs (lab k 1)) + (lets (lab k 1))) + 0)) + (((digs (lab k 2)) + (lets (lab k 2))) + 2)))), some (.int (nI 3)), some (.int (nI (lab k 3)))] d_pa_lengthOf_22 (by decide) rfl ?_
    refine Z_iload_n d_pa_lengthOf_24 rfl ?_
    refine Z_iload d_pa_lengthOf_25 rfl ?_
    refine zTe (As := [.int (nI (lab k 3))]) (by omega) d_pa_lengthOf_27 lm_pa_41 rfl (Nat.le_of_ble_eq_true rfl) (pa_digitsOf_ok d (by omega)) ?_
    refine Z_iload d_pa_lengthOf_30 rfl ?_
    refine zTe (As := [.int (nI (lab k 3))]) (by omega) d_pa_lengthOf_32 lm_pa_44 rfl (Nat.le_of_ble_eq_true rfl) (pa_lettersOf_ok d (by omega)) ?_
    refine Zn_iadd d_pa_lengthOf_35 ?_
    refine Z_iload d_pa_lengthOf_36 rfl ?_
    refine Zn_iconst (nI 1) d_pa_lengthOf_38 (by decide) ?_
    refine Zn_icmp_le (a := 3) (b := 1) (tgt := 46) d_pa_lengthOf_39 (by decide) (by decide) (by decide) (fun h => absurd h (by decide)) (fun _ => ?_)
    refine Zn_iconst (nI 2) d_pa_lengthOf_42 (by decide) ?_
    refine Z_goto (tgt := 47) d_pa_lengthOf_43 (by decide) ?_
    refine Zn_iadd d_pa_lengthOf_47 ?_
    refine Zn_iadd d_pa_lengthOf_48 ?_
    refine Zn_istore_n [some (.long (lN k)), none, some (.int (nI 3)), some (.int (nI (((0 + (((digs (lab k 1)) + (lets (lab k 1))) + 0)) + (((digs (lab k 2)) + (lets (lab k 2))) + 2)) + (((digs (lab k 3)) + (lets (lab k 3))) + 2)))), some (.int (nI 3)), some (.int (nI (lab k 3)))] d_pa_lengthOf_49 (by decide) rfl ?_
    refine Zn_iinc [some (.long (lN k)), none, some (.int (nI 3)), some (.int (nI (((0 + (((digs (lab k 1)) + (lets (lab k 1))) + 0)) + (((digs (lab k 2)) + (lets (lab k 2))) + 2)) + (((digs (lab k 3)) + (lets (lab k 3))) + 2)))), some (.int (nI 4)), some (.int (nI (lab k 3)))] (nI 4) d_pa_lengthOf_50 rfl (by decide) (nI_add 3 1) rfl ?_
    refine Z_goto (tgt := 10) d_pa_lengthOf_53 (by decide) ?_
    refine Z_iload d_pa_lengthOf_10 rfl ?_
    refine Z_iload_n d_pa_lengthOf_12 rfl ?_
    refine Zn_icmp_gt (a := 4) (b := 3) (tgt := 56) d_pa_lengthOf_13 (by decide) (by decide) (by decide) (fun _ => ?_) (fun h => absurd h (by decide))
    refine Z_iload_n d_pa_lengthOf_56 rfl ?_
    refine Z_iret d_pa_lengthOf_57 rfl ?_
    refine ⟨rfl, ?_⟩
    unfold plen
    rw [hv]
    first | rfl | (simp only [Nat.reduceEqDiff, if_true, if_false]; congr 3; omega) | (simp; done)
set_option maxHeartbeats 4000000 in
theorem pa_characterOfLabel_ok {Γ : zCtx} {M : List zE} (d : Nat) {l j : Nat} (hl : l < 1000000000) (hj : j < 1000) : ZM Γ (d + 3) m_pa_characterOfLabel [.int (nI l), .int (nI j)] M (zEq M (some (.int (nI (lch l j))))) := by
  refine ZM.of mk_pa_characterOfLabel (Nat.le_of_ble_eq_true rfl) ?_
  rw [show zEn [.int (nI l), .int (nI j)] = [some (.int (nI l)), some (.int (nI j))] from rfl]
  refine zPad 2 ?_
  show Z _ _ _ _ _ _ _ [some (.int (nI l)), some (.int (nI j)), none, none] _ _
  refine Z_iload_n d_pa_characterOfLabel_0 rfl ?_
  refine zTe (As := [.int (nI l)]) (by omega) d_pa_characterOfLabel_1 lm_pa_41 rfl (Nat.le_of_ble_eq_true rfl) (pa_digitsOf_ok d (by omega)) ?_
  have e1 := digs_le l
  refine Zn_istore_n [some (.int (nI l)), some (.int (nI j)), some (.int (nI (digs l))), none] d_pa_characterOfLabel_4 (by decide) rfl ?_
  refine Z_iload_n d_pa_characterOfLabel_5 rfl ?_
  refine Z_iload_n d_pa_characterOfLabel_6 rfl ?_
  refine Zn_icmp_lt (tgt := 21) d_pa_characterOfLabel_7 (by decide) (by omega) (by omega) (fun h7 => ?_) (fun h7 => ?_)
  · skip
    refine Z_iload_n d_pa_characterOfLabel_21 rfl ?_
    refine zTe (As := [.int (nI l)]) (by omega) d_pa_characterOfLabel_22 lm_pa_33 rfl (Nat.le_of_ble_eq_true rfl) (pa_numberOf_ok (d + 1) (by omega)) ?_
    refine Zn_istore_n [some (.int (nI l)), some (.int (nI j)), some (.int (nI (digs l))), some (.int (nI (l / 19683)))] d_pa_characterOfLabel_25 (by decide) rfl ?_
    refine Zn_bipush (nI 48) d_pa_characterOfLabel_26 (by decide) ?_
    refine Z_iload_n d_pa_characterOfLabel_28 rfl ?_
    refine Z_iload_n d_pa_characterOfLabel_29 rfl ?_
    refine Zn_iconst (nI 1) d_pa_characterOfLabel_30 (by decide) ?_
    refine Zn_isub d_pa_characterOfLabel_31 (by omega) ?_
    refine Zn_icmp_ge (tgt := 42) d_pa_characterOfLabel_32 (by decide) (by omega) (by omega) (fun h32 => ?_) (fun h32 => ?_)
    · skip
      refine Z_iload_n d_pa_characterOfLabel_42 rfl ?_
      refine Zn_bipush (nI 10) d_pa_characterOfLabel_43 (by decide) ?_
      refine Zn_irem d_pa_characterOfLabel_45 (by omega) (by omega) (by omega) ?_
      refine Zn_iadd d_pa_characterOfLabel_46 ?_
      refine Z_iret d_pa_characterOfLabel_47 rfl ?_
      refine ⟨rfl, ?_⟩
      unfold lch
      (repeat (first | rw [if_pos (by omega)] | rw [if_neg (by omega)]))
      all_goals (first | rfl | (simp [oI, Nat.mod_one]; done) | (congr 2; omega))
    · skip
      refine Z_iload_n d_pa_characterOfLabel_35 rfl ?_
      refine Zn_bipush (nI 10) d_pa_characterOfLabel_36 (by decide) ?_
      refine Zn_idiv d_pa_characterOfLabel_38 (by omega) (by omega) (by omega) ?_
      refine Z_goto (tgt := 46) d_pa_characterOfLabel_39 (by decide) ?_
      refine Zn_iadd d_pa_characterOfLabel_46 ?_
      refine Z_iret d_pa_characterOfLabel_47 rfl ?_
      refine ⟨rfl, ?_⟩
      unfold lch
      (repeat (first | rw [if_pos (by omega)] | rw [if_neg (by omega)]))
      all_goals (first | rfl | (simp [oI, Nat.mod_one]; done) | (congr 2; omega))
  · skip
    refine Zn_bipush (nI 64) d_pa_characterOfLabel_10 (by decide) ?_
    refine Z_iload_n d_pa_characterOfLabel_12 rfl ?_
    refine Z_iload_n d_pa_characterOfLabel_13 rfl ?_
    refine Z_iload_n d_pa_characterOfLabel_14 rfl ?_
    refine Zn_isub d_pa_characterOfLabel_15 (by omega) ?_
    refine zTe (As := [.int (nI l), .int (nI (j - (digs l)))]) (by omega) d_pa_characterOfLabel_16 lm_pa_11 rfl (Nat.le_of_ble_eq_true rfl) (pa_letterOf_ok (d + 1) (by omega) (by omega)) ?_
    refine Zn_iadd d_pa_characterOfLabel_19 ?_
    refine Z_iret d_pa_characterOfLabel_20 rfl ?_
    refine ⟨rfl, ?_⟩
    unfold lch
    (repeat (first | rw [if_pos (by omega)] | rw [if_neg (by omega)]))
    all_goals (first | rfl | (simp [oI, Nat.mod_one]; done) | (congr 2; omega))
theorem pa_characterOf_neg {Γ : zCtx} {M : List zE} (d : Nat) {k : Nat} {x : Int32} (hx : x < 0) : ZM Γ (d + 4) m_pa_characterOf [.long (lN k), .int x] M (zEq M (some (.int (-9)))) := by
  refine ZM.of mk_pa_characterOf (Nat.le_of_ble_eq_true rfl) ?_
  refine Z_iload_n d_pa_characterOf_0 rfl ?_
  refine Z_if_ge (tgt := 7) d_pa_characterOf_1 (by decide) (fun h => absurd hx (Int32.not_lt.mpr h)) (fun _ => ?_)
  refine Zn_bipush (-9) d_pa_characterOf_4 (by decide) ?_
  exact Z_iret d_pa_characterOf_6 rfl ⟨rfl, rfl⟩
set_option maxHeartbeats 4000000 in
theorem pa_characterOf_ok {Γ : zCtx} {M : List zE} (d : Nat) {k q : Nat} (hk : k < 2 ^ 63) (hq : q < 2147483648) : ZM Γ (d + 4) m_pa_characterOf [.long (lN k), .int (nI q)] M (zEq M (some (.int (oI ((chGo 0 (labs k) q).map id) (-9))))) := by
  refine ZM.of mk_pa_characterOf (Nat.le_of_ble_eq_true rfl) ?_
  rw [show zEn [.long (lN k), .int (nI q)] = [some (.long (lN k)), none, some (.int (nI q))] from rfl]
  refine zPad 6 ?_
  show Z _ _ _ _ _ _ _ [some (.long (lN k)), none, some (.int (nI q)), none, none, none, none, none, none] _ _
  refine Z_iload_n d_pa_characterOf_0 rfl ?_
  refine Zn_if_ge (tgt := 7) d_pa_characterOf_1 (by decide) (by omega) ?_
  refine Z_lload_n d_pa_characterOf_7 rfl ?_
  refine zTe (As := [.long (lN k)]) (by omega) d_pa_characterOf_8 lm_pa_21 rfl (Nat.le_of_ble_eq_true rfl) (pa_levelOf_ok (d + 2) hk) ?_
  have b1 := lab_lt k 1
  have b2 := lab_lt k 2
  have b3 := lab_lt k 3
  have e1 := digs_le (lab k 1)
  have e2 := digs_le (lab k 2)
  have e3 := digs_le (lab k 3)
  have g1 := lets_le (lab k 1)
  have g2 := lets_le (lab k 2)
  have g3 := lets_le (lab k 3)
  have hlv := lev_le k
  rcases (show lev k = 0 ∨ lev k = 1 ∨ lev k = 2 ∨ lev k = 3 by omega) with hv | hv | hv | hv
  · skip
    rw [hv]
    refine Zn_istore_n [some (.long (lN k)), none, some (.int (nI q)), some (.int (nI 0)), none, none, none, none, none] d_pa_characterOf_11 (by decide) rfl ?_
    refine Z_iload_n d_pa_characterOf_12 rfl ?_
    refine Zn_istore [some (.long (lN k)), none, some (.int (nI q)), some (.int (nI 0)), some (.int (nI q)), none, none, none, none] d_pa_characterOf_13 (by decide) rfl ?_
    refine Zn_iconst (nI 1) d_pa_characterOf_15 (by decide) ?_
    refine Zn_istore [some (.long (lN k)), none, some (.int (nI q)), some (.int (nI 0)), some (.int (nI q)), some (.int (nI 1)), none, none, none] d_pa_characterOf_16 (by decide) rfl ?_
    refine Z_iload d_pa_characterOf_18 rfl ?_
    refine Z_iload_n d_pa_characterOf_20 rfl ?_
    refine Zn_icmp_gt (a := 1) (b := 0) (tgt := 118) d_pa_characterOf_21 (by decide) (by decide) (by decide) (fun _ => ?_) (fun h => absurd h (by decide))
    refine Zn_bipush (-9) d_pa_characterOf_118 (by decide) ?_
    refine Z_iret d_pa_characterOf_120 rfl ?_
    refine ⟨rfl, ?_⟩
    unfold labs
    rw [hv]
    simp only [Nat.reduceEqDiff, if_true, if_false, chGo]
    (repeat (first | rw [if_pos (by omega)] | rw [if_neg (by omega)]))
    all_goals (first | (exfalso; omega) | rfl | (simp [oI, chGo]; done) | (simp [oI, chGo, Nat.add_assoc]; done) | (simp [oI, chGo]; congr 2; omega))
  · skip
    rw [hv]
    refine Zn_istore_n [some (.long (lN k)), none, some (.int (nI q)), some (.int (nI 1)), none, none, none, none, none] d_pa_characterOf_11 (by decide) rfl ?_
    refine Z_iload_n d_pa_characterOf_12 rfl ?_
    refine Zn_istore [some (.long (lN k)), none, some (.int (nI q)), some (.int (nI 1)), some (.int (nI q)), none, none, none, none] d_pa_characterOf_13 (by decide) rfl ?_
    refine Zn_iconst (nI 1) d_pa_characterOf_15 (by decide) ?_
    refine Zn_istore [some (.long (lN k)), none, some (.int (nI q)), some (.int (nI 1)), some (.int (nI q)), some (.int (nI 1)), none, none, none] d_pa_characterOf_16 (by decide) rfl ?_
    refine Z_iload d_pa_characterOf_18 rfl ?_
    refine Z_iload_n d_pa_characterOf_20 rfl ?_
    refine Zn_icmp_gt (a := 1) (b := 1) (tgt := 118) d_pa_characterOf_21 (by decide) (by decide) (by decide) (fun h => absurd h (by decide)) (fun _ => ?_)
    refine Z_lload_n d_pa_characterOf_24 rfl ?_
    refine Z_iload d_pa_characterOf_25 rfl ?_
    refine zTe (As := [.long (lN k), .int (nI 1)]) (by omega) d_pa_characterOf_27 lm_pa_37 rfl (Nat.le_of_ble_eq_true rfl) (pa_labelAt_ok (l := 1) (d + 2) hk (by decide) (by decide)) ?_
    refine Zn_istore [some (.long (lN k)), none, some (.int (nI q)), some (.int (nI 1)), some (.int (nI q)), some (.int (nI 1)), some (.int (nI (lab k 1))), none, none] d_pa_characterOf_30 (by decide) rfl ?_
    refine Z_iload d_pa_characterOf_32 rfl ?_
    refine Zn_iconst (nI 1) d_pa_characterOf_34 (by decide) ?_
    refine Zn_icmp_le (a := 1) (b := 1) (tgt := 42) d_pa_characterOf_35 (by decide) (by decide) (by decide) (fun _ => ?_) (fun h => absurd h (by decide))
    refine Zn_iconst (nI 0) d_pa_characterOf_42 (by decide) ?_
    refine Zn_istore [some (.long (lN k)), none, some (.int (nI q)), some (.int (nI 1)), some (.int (nI q)), some (.int (nI 1)), some (.int (nI (lab k 1))), some (.int (nI 0)), none] d_pa_characterOf_43 (by decide) rfl ?_
    refine Z_iload d_pa_characterOf_45 rfl ?_
    refine Z_iload d_pa_characterOf_47 rfl ?_
    refine zTe (As := [.int (nI (lab k 1))]) (by omega) d_pa_characterOf_49 lm_pa_41 rfl (Nat.le_of_ble_eq_true rfl) (pa_digitsOf_ok (d + 1) (by omega)) ?_
    refine Zn_iadd d_pa_characterOf_52 ?_
    refine Z_iload d_pa_characterOf_53 rfl ?_
    refine zTe (As := [.int (nI (lab k 1))]) (by omega) d_pa_characterOf_55 lm_pa_44 rfl (Nat.le_of_ble_eq_true rfl) (pa_lettersOf_ok (d + 1) (by omega)) ?_
    refine Zn_iadd d_pa_characterOf_58 ?_
    refine Zn_istore [some (.long (lN k)), none, some (.int (nI q)), some (.int (nI 1)), some (.int (nI q)), some (.int (nI 1)), some (.int (nI (lab k 1))), some (.int (nI 0)), some (.int (nI ((0 + (digs (lab k 1))) + (lets (lab k 1)))))] d_pa_characterOf_59 (by decide) rfl ?_
    refine Z_iload d_pa_characterOf_61 rfl ?_
    refine Z_iload d_pa_characterOf_63 rfl ?_
    refine Zn_icmp_ge (tgt := 71) d_pa_characterOf_65 (by decide) (by omega) (by omega) (fun h65 => ?_) (fun h65 => ?_)
    · skip
      refine Z_iload d_pa_characterOf_71 rfl ?_
      refine Z_iload d_pa_characterOf_73 rfl ?_
      refine Zn_icmp_ge (tgt := 89) d_pa_characterOf_75 (by decide) (by omega) (by omega) (fun h75 => ?_) (fun h75 => ?_)
      · skip
        refine Z_iload d_pa_characterOf_89 rfl ?_
        refine Z_iload d_pa_characterOf_91 rfl ?_
        refine Z_iload d_pa_characterOf_93 rfl ?_
        refine Zn_iadd d_pa_characterOf_95 ?_
        refine Zn_icmp_ge (tgt := 102) d_pa_characterOf_96 (by decide) (by omega) (by omega) (fun h96 => ?_) (fun h96 => ?_)
        · skip
          refine Z_iload d_pa_characterOf_102 rfl ?_
          refine Z_iload d_pa_characterOf_104 rfl ?_
          refine Z_iload d_pa_characterOf_106 rfl ?_
          refine Zn_iadd d_pa_characterOf_108 ?_
          refine Zn_isub d_pa_characterOf_109 (by omega) ?_
          refine Zn_istore [some (.long (lN k)), none, some (.int (nI q)), some (.int (nI 1)), some (.int (nI (q - (((0 + (digs (lab k 1))) + (lets (lab k 1))) + 0)))), some (.int (nI 1)), some (.int (nI (lab k 1))), some (.int (nI 0)), some (.int (nI ((0 + (digs (lab k 1))) + (lets (lab k 1)))))] d_pa_characterOf_110 (by decide) rfl ?_
          refine Zn_iinc [some (.long (lN k)), none, some (.int (nI q)), some (.int (nI 1)), some (.int (nI (q - (((0 + (digs (lab k 1))) + (lets (lab k 1))) + 0)))), some (.int (nI 2)), some (.int (nI (lab k 1))), some (.int (nI 0)), some (.int (nI ((0 + (digs (lab k 1))) + (lets (lab k 1)))))] (nI 2) d_pa_characterOf_112 rfl (by decide) (nI_add 1 1) rfl ?_
          refine Z_goto (tgt := 18) d_pa_characterOf_115 (by decide) ?_
          refine Z_iload d_pa_characterOf_18 rfl ?_
          refine Z_iload_n d_pa_characterOf_20 rfl ?_
          refine Zn_icmp_gt (a := 2) (b := 1) (tgt := 118) d_pa_characterOf_21 (by decide) (by decide) (by decide) (fun _ => ?_) (fun h => absurd h (by decide))
          refine Zn_bipush (-9) d_pa_characterOf_118 (by decide) ?_
          refine Z_iret d_pa_characterOf_120 rfl ?_
          refine ⟨rfl, ?_⟩
          unfold labs
          rw [hv]
          simp only [Nat.reduceEqDiff, if_true, if_false, chGo]
          (repeat (first | rw [if_pos (by omega)] | rw [if_neg (by omega)]))
          all_goals (first | (exfalso; omega) | rfl | (simp [oI, chGo]; done) | (simp [oI, chGo, Nat.add_assoc]; done) | (simp [oI, chGo]; congr 2; omega))
        · skip
          refine Zn_bipush (nI 41) d_pa_characterOf_99 (by decide) ?_
          refine Z_iret d_pa_characterOf_101 rfl ?_
          refine ⟨rfl, ?_⟩
          unfold labs
          rw [hv]
          simp only [Nat.reduceEqDiff, if_true, if_false, chGo]
          (repeat (first | rw [if_pos (by omega)] | rw [if_neg (by omega)]))
          all_goals (first | (exfalso; omega) | rfl | (simp [oI, chGo]; done) | (simp [oI, chGo, Nat.add_assoc]; done) | (simp [oI, chGo]; congr 2; omega))
      · skip
        refine Z_iload d_pa_characterOf_78 rfl ?_
        refine Z_iload d_pa_characterOf_80 rfl ?_
        refine Z_iload d_pa_characterOf_82 rfl ?_
        refine Zn_isub d_pa_characterOf_84 (by omega) ?_
        refine zTe (As := [.int (nI (lab k 1)), .int (nI (q - 0))]) (by omega) d_pa_characterOf_85 lm_pa_47 rfl (Nat.le_of_ble_eq_true rfl) (pa_characterOfLabel_ok d (by omega) (by omega)) ?_
        refine Z_iret d_pa_characterOf_88 rfl ?_
        refine ⟨rfl, ?_⟩
        unfold labs
        rw [hv]
        simp only [Nat.reduceEqDiff, if_true, if_false, chGo]
        (repeat (first | rw [if_pos (by omega)] | rw [if_neg (by omega)]))
        all_goals (first | (exfalso; omega) | rfl | (simp [oI, chGo]; done) | (simp [oI, chGo, Nat.add_assoc]; done) | (simp [oI, chGo]; congr 2; omega))
    · skip
      refine Zn_bipush (nI 40) d_pa_characterOf_68 (by decide) ?_
      refine Z_iret d_pa_characterOf_70 rfl ?_
      refine ⟨rfl, ?_⟩
      unfold labs
      rw [hv]
      simp only [Nat.reduceEqDiff, if_true, if_false, chGo]
      (repeat (first | rw [if_pos (by omega)] | rw [if_neg (by omega)]))
      all_goals (first | (exfalso; omega) | rfl | (simp [oI, chGo]; done) | (simp [oI, chGo, Nat.add_assoc]; done) | (simp [oI, chGo]; congr 2; omega))
  · skip
    rw [hv]
    refine Zn_istore_n [some (.long (lN k)), none, some (.int (nI q)), some (.int (nI 2)), none, none, none, none, none] d_pa_characterOf_11 (by decide) rfl ?_
    refine Z_iload_n d_pa_characterOf_12 rfl ?_
    refine Zn_istore [some (.long (lN k)), none, some (.int (nI q)), some (.int (nI 2)), some (.int (nI q)), none, none, none, none] d_pa_characterOf_13 (by decide) rfl ?_
    refine Zn_iconst (nI 1) d_pa_characterOf_15 (by decide) ?_
    refine Zn_istore [some (.long (lN k)), none, some (.int (nI q)), some (.int (nI 2)), some (.int (nI q)), some (.int (nI 1)), none, none, none] d_pa_characterOf_16 (by decide) rfl ?_
    refine Z_iload d_pa_characterOf_18 rfl ?_
    refine Z_iload_n d_pa_characterOf_20 rfl ?_
    refine Zn_icmp_gt (a := 1) (b := 2) (tgt := 118) d_pa_characterOf_21 (by decide) (by decide) (by decide) (fun h => absurd h (by decide)) (fun _ => ?_)
    refine Z_lload_n d_pa_characterOf_24 rfl ?_
    refine Z_iload d_pa_characterOf_25 rfl ?_
    refine zTe (As := [.long (lN k), .int (nI 1)]) (by omega) d_pa_characterOf_27 lm_pa_37 rfl (Nat.le_of_ble_eq_true rfl) (pa_labelAt_ok (l := 1) (d + 2) hk (by decide) (by decide)) ?_
    refine Zn_istore [some (.long (lN k)), none, some (.int (nI q)), some (.int (nI 2)), some (.int (nI q)), some (.int (nI 1)), some (.int (nI (lab k 1))), none, none] d_pa_characterOf_30 (by decide) rfl ?_
    refine Z_iload d_pa_characterOf_32 rfl ?_
    refine Zn_iconst (nI 1) d_pa_characterOf_34 (by decide) ?_
    refine Zn_icmp_le (a := 1) (b := 1) (tgt := 42) d_pa_characterOf_35 (by decide) (by decide) (by decide) (fun _ => ?_) (fun h => absurd h (by decide))
    refine Zn_iconst (nI 0) d_pa_characterOf_42 (by decide) ?_
    refine Zn_istore [some (.long (lN k)), none, some (.int (nI q)), some (.int (nI 2)), some (.int (nI q)), some (.int (nI 1)), some (.int (nI (lab k 1))), some (.int (nI 0)), none] d_pa_characterOf_43 (by decide) rfl ?_
    refine Z_iload d_pa_characterOf_45 rfl ?_
    refine Z_iload d_pa_characterOf_47 rfl ?_
    refine zTe (As := [.int (nI (lab k 1))]) (by omega) d_pa_characterOf_49 lm_pa_41 rfl (Nat.le_of_ble_eq_true rfl) (pa_digitsOf_ok (d + 1) (by omega)) ?_
    refine Zn_iadd d_pa_characterOf_52 ?_
    refine Z_iload d_pa_characterOf_53 rfl ?_
    refine zTe (As := [.int (nI (lab k 1))]) (by omega) d_pa_characterOf_55 lm_pa_44 rfl (Nat.le_of_ble_eq_true rfl) (pa_lettersOf_ok (d + 1) (by omega)) ?_
    refine Zn_iadd d_pa_characterOf_58 ?_
    refine Zn_istore [some (.long (lN k)), none, some (.int (nI q)), some (.int (nI 2)), some (.int (nI q)), some (.int (nI 1)), some (.int (nI (lab k 1))), some (.int (nI 0)), some (.int (nI ((0 + (digs (lab k 1))) + (lets (lab k 1)))))] d_pa_characterOf_59 (by decide) rfl ?_
    refine Z_iload d_pa_characterOf_61 rfl ?_
    refine Z_iload d_pa_characterOf_63 rfl ?_
    refine Zn_icmp_ge (tgt := 71) d_pa_characterOf_65 (by decide) (by omega) (by omega) (fun h65 => ?_) (fun h65 => ?_)
    · skip
      refine Z_iload d_pa_characterOf_71 rfl ?_
      refine Z_iload d_pa_characterOf_73 rfl ?_
      refine Zn_icmp_ge (tgt := 89) d_pa_characterOf_75 (by decide) (by omega) (by omega) (fun h75 => ?_) (fun h75 => ?_)
      · skip
        refine Z_iload d_pa_characterOf_89 rfl ?_
        refine Z_iload d_pa_characterOf_91 rfl ?_
        refine Z_iload d_pa_characterOf_93 rfl ?_
        refine Zn_iadd d_pa_characterOf_95 ?_
        refine Zn_icmp_ge (tgt := 102) d_pa_characterOf_96 (by decide) (by omega) (by omega) (fun h96 => ?_) (fun h96 => ?_)
        · skip
          refine Z_iload d_pa_characterOf_102 rfl ?_
          refine Z_iload d_pa_characterOf_104 rfl ?_
          refine Z_iload d_pa_characterOf_106 rfl ?_
          refine Zn_iadd d_pa_characterOf_108 ?_
          refine Zn_isub d_pa_characterOf_109 (by omega) ?_
          refine Zn_istore [some (.long (lN k)), none, some (.int (nI q)), some (.int (nI 2)), some (.int (nI (q - (((0 + (digs (lab k 1))) + (lets (lab k 1))) + 0)))), some (.int (nI 1)), some (.int (nI (lab k 1))), some (.int (nI 0)), some (.int (nI ((0 + (digs (lab k 1))) + (lets (lab k 1)))))] d_pa_characterOf_110 (by decide) rfl ?_
          refine Zn_iinc [some (.long (lN k)), none, some (.int (nI q)), some (.int (nI 2)), some (.int (nI (q - (((0 + (digs (lab k 1))) + (lets (lab k 1))) + 0)))), some (.int (nI 2)), some (.int (nI (lab k 1))), some (.int (nI 0)), some (.int (nI ((0 + (digs (lab k 1))) + (lets (lab k 1)))))] (nI 2) d_pa_characterOf_112 rfl (by decide) (nI_add 1 1) rfl ?_
          refine Z_goto (tgt := 18) d_pa_characterOf_115 (by decide) ?_
          refine Z_iload d_pa_characterOf_18 rfl ?_
          refine Z_iload_n d_pa_characterOf_20 rfl ?_
          refine Zn_icmp_gt (a := 2) (b := 2) (tgt := 118) d_pa_characterOf_21 (by decide) (by decide) (by decide) (fun h => absurd h (by decide)) (fun _ => ?_)
          refine Z_lload_n d_pa_characterOf_24 rfl ?_
          refine Z_iload d_pa_characterOf_25 rfl ?_
          refine zTe (As := [.long (lN k), .int (nI 2)]) (by omega) d_pa_characterOf_27 lm_pa_37 rfl (Nat.le_of_ble_eq_true rfl) (pa_labelAt_ok (l := 2) (d + 2) hk (by decide) (by decide)) ?_
          refine Zn_istore [some (.long (lN k)), none, some (.int (nI q)), some (.int (nI 2)), some (.int (nI (q - (((0 + (digs (lab k 1))) + (lets (lab k 1))) + 0)))), some (.int (nI 2)), some (.int (nI (lab k 2))), some (.int (nI 0)), some (.int (nI ((0 + (digs (lab k 1))) + (lets (lab k 1)))))] d_pa_characterOf_30 (by decide) rfl ?_
          refine Z_iload d_pa_characterOf_32 rfl ?_
          refine Zn_iconst (nI 1) d_pa_characterOf_34 (by decide) ?_
          refine Zn_icmp_le (a := 2) (b := 1) (tgt := 42) d_pa_characterOf_35 (by decide) (by decide) (by decide) (fun h => absurd h (by decide)) (fun _ => ?_)
          refine Zn_iconst (nI 1) d_pa_characterOf_38 (by decide) ?_
          refine Z_goto (tgt := 43) d_pa_characterOf_39 (by decide) ?_
          refine Zn_istore [some (.long (lN k)), none, some (.int (nI q)), some (.int (nI 2)), some (.int (nI (q - (((0 + (digs (lab k 1))) + (lets (lab k 1))) + 0)))), some (.int (nI 2)), some (.int (nI (lab k 2))), some (.int (nI 1)), some (.int (nI ((0 + (digs (lab k 1))) + (lets (lab k 1)))))] d_pa_characterOf_43 (by decide) rfl ?_
          refine Z_iload d_pa_characterOf_45 rfl ?_
          refine Z_iload d_pa_characterOf_47 rfl ?_
          refine zTe (As := [.int (nI (lab k 2))]) (by omega) d_pa_characterOf_49 lm_pa_41 rfl (Nat.le_of_ble_eq_true rfl) (pa_digitsOf_ok (d + 1) (by omega)) ?_
          refine Zn_iadd d_pa_characterOf_52 ?_
          refine Z_iload d_pa_characterOf_53 rfl ?_
          refine zTe (As := [.int (nI (lab k 2))]) (by omega) d_pa_characterOf_55 lm_pa_44 rfl (Nat.le_of_ble_eq_true rfl) (pa_lettersOf_ok (d + 1) (by omega)) ?_
          refine Zn_iadd d_pa_characterOf_58 ?_
          refine Zn_istore [some (.long (lN k)), none, some (.int (nI q)), some (.int (nI 2)), some (.int (nI (q - (((0 + (digs (lab k 1))) + (lets (lab k 1))) + 0)))), some (.int (nI 2)), some (.int (nI (lab k 2))), some (.int (nI 1)), some (.int (nI ((1 + (digs (lab k 2))) + (lets (lab k 2)))))] d_pa_characterOf_59 (by decide) rfl ?_
          refine Z_iload d_pa_characterOf_61 rfl ?_
          refine Z_iload d_pa_characterOf_63 rfl ?_
          refine Zn_icmp_ge (tgt := 71) d_pa_characterOf_65 (by decide) (by omega) (by omega) (fun h65 => ?_) (fun h65 => ?_)
          · skip
            refine Z_iload d_pa_characterOf_71 rfl ?_
            refine Z_iload d_pa_characterOf_73 rfl ?_
            refine Zn_icmp_ge (tgt := 89) d_pa_characterOf_75 (by decide) (by omega) (by omega) (fun h75 => ?_) (fun h75 => ?_)
            · skip
              refine Z_iload d_pa_characterOf_89 rfl ?_
              refine Z_iload d_pa_characterOf_91 rfl ?_
              refine Z_iload d_pa_characterOf_93 rfl ?_
              refine Zn_iadd d_pa_characterOf_95 ?_
              refine Zn_icmp_ge (tgt := 102) d_pa_characterOf_96 (by decide) (by omega) (by omega) (fun h96 => ?_) (fun h96 => ?_)
              · skip
                refine Z_iload d_pa_characterOf_102 rfl ?_
                refine Z_iload d_pa_characterOf_104 rfl ?_
                refine Z_iload d_pa_characterOf_106 rfl ?_
                refine Zn_iadd d_pa_characterOf_108 ?_
                refine Zn_isub d_pa_characterOf_109 (by omega) ?_
                refine Zn_istore [some (.long (lN k)), none, some (.int (nI q)), some (.int (nI 2)), some (.int (nI ((q - (((0 + (digs (lab k 1))) + (lets (lab k 1))) + 0)) - (((1 + (digs (lab k 2))) + (lets (lab k 2))) + 1)))), some (.int (nI 2)), some (.int (nI (lab k 2))), some (.int (nI 1)), some (.int (nI ((1 + (digs (lab k 2))) + (lets (lab k 2)))))] d_pa_characterOf_110 (by decide) rfl ?_
                refine Zn_iinc [some (.long (lN k)), none, some (.int (nI q)), some (.int (nI 2)), some (.int (nI ((q - (((0 + (digs (lab k 1))) + (lets (lab k 1))) + 0)) - (((1 + (digs (lab k 2))) + (lets (lab k 2))) + 1)))), some (.int (nI 3)), some (.int (nI (lab k 2))), some (.int (nI 1)), some (.int (nI ((1 + (digs (lab k 2))) + (lets (lab k 2)))))] (nI 3) d_pa_characterOf_112 rfl (by decide) (nI_add 2 1) rfl ?_
                refine Z_goto (tgt := 18) d_pa_characterOf_115 (by decide) ?_
                refine Z_iload d_pa_characterOf_18 rfl ?_
                refine Z_iload_n d_pa_characterOf_20 rfl ?_
                refine Zn_icmp_gt (a := 3) (b := 2) (tgt := 118) d_pa_characterOf_21 (by decide) (by decide) (by decide) (fun _ => ?_) (fun h => absurd h (by decide))
                refine Zn_bipush (-9) d_pa_characterOf_118 (by decide) ?_
                refine Z_iret d_pa_characterOf_120 rfl ?_
                refine ⟨rfl, ?_⟩
                unfold labs
                rw [hv]
                simp only [Nat.reduceEqDiff, if_true, if_false, chGo]
                (repeat (first | rw [if_pos (by omega)] | rw [if_neg (by omega)]))
                all_goals (first | (exfalso; omega) | rfl | (simp [oI, chGo]; done) | (simp [oI, chGo, Nat.add_assoc]; done) | (simp [oI, chGo]; congr 2; omega))
              · skip
                refine Zn_bipush (nI 41) d_pa_characterOf_99 (by decide) ?_
                refine Z_iret d_pa_characterOf_101 rfl ?_
                refine ⟨rfl, ?_⟩
                unfold labs
                rw [hv]
                simp only [Nat.reduceEqDiff, if_true, if_false, chGo]
                (repeat (first | rw [if_pos (by omega)] | rw [if_neg (by omega)]))
                all_goals (first | (exfalso; omega) | rfl | (simp [oI, chGo]; done) | (simp [oI, chGo, Nat.add_assoc]; done) | (simp [oI, chGo]; congr 2; omega))
            · skip
              refine Z_iload d_pa_characterOf_78 rfl ?_
              refine Z_iload d_pa_characterOf_80 rfl ?_
              refine Z_iload d_pa_characterOf_82 rfl ?_
              refine Zn_isub d_pa_characterOf_84 (by omega) ?_
              refine zTe (As := [.int (nI (lab k 2)), .int (nI ((q - (((0 + (digs (lab k 1))) + (lets (lab k 1))) + 0)) - 1))]) (by omega) d_pa_characterOf_85 lm_pa_47 rfl (Nat.le_of_ble_eq_true rfl) (pa_characterOfLabel_ok d (by omega) (by omega)) ?_
              refine Z_iret d_pa_characterOf_88 rfl ?_
              refine ⟨rfl, ?_⟩
              unfold labs
              rw [hv]
              simp only [Nat.reduceEqDiff, if_true, if_false, chGo]
              (repeat (first | rw [if_pos (by omega)] | rw [if_neg (by omega)]))
              all_goals (first | (exfalso; omega) | rfl | (simp [oI, chGo]; done) | (simp [oI, chGo, Nat.add_assoc]; done) | (simp [oI, chGo]; congr 2; omega))
          · skip
            refine Zn_bipush (nI 40) d_pa_characterOf_68 (by decide) ?_
            refine Z_iret d_pa_characterOf_70 rfl ?_
            refine ⟨rfl, ?_⟩
            unfold labs
            rw [hv]
            simp only [Nat.reduceEqDiff, if_true, if_false, chGo]
            (repeat (first | rw [if_pos (by omega)] | rw [if_neg (by omega)]))
            all_goals (first | (exfalso; omega) | rfl | (simp [oI, chGo]; done) | (simp [oI, chGo, Nat.add_assoc]; done) | (simp [oI, chGo]; congr 2; omega))
        · skip
          refine Zn_bipush (nI 41) d_pa_characterOf_99 (by decide) ?_
          refine Z_iret d_pa_characterOf_101 rfl ?_
          refine ⟨rfl, ?_⟩
          unfold labs
          rw [hv]
          simp only [Nat.reduceEqDiff, if_true, if_false, chGo]
          (repeat (first | rw [if_pos (by omega)] | rw [if_neg (by omega)]))
          all_goals (first | (exfalso; omega) | rfl | (simp [oI, chGo]; done) | (simp [oI, chGo, Nat.add_assoc]; done) | (simp [oI, chGo]; congr 2; omega))
      · skip
        refine Z_iload d_pa_characterOf_78 rfl ?_
        refine Z_iload d_pa_characterOf_80 rfl ?_
        refine Z_iload d_pa_characterOf_82 rfl ?_
        refine Zn_isub d_pa_characterOf_84 (by omega) ?_
        refine zTe (As := [.int (nI (lab k 1)), .int (nI (q - 0))]) (by omega) d_pa_characterOf_85 lm_pa_47 rfl (Nat.le_of_ble_eq_true rfl) (pa_characterOfLabel_ok d (by omega) (by omega)) ?_
        refine Z_iret d_pa_characterOf_88 rfl ?_
        refine ⟨rfl, ?_⟩
        unfold labs
        rw [hv]
        simp only [Nat.reduceEqDiff, if_true, if_false, chGo]
        (repeat (first | rw [if_pos (by omega)] | rw [if_neg (by omega)]))
        all_goals (first | (exfalso; omega) | rfl | (simp [oI, chGo]; done) | (simp [oI, chGo, Nat.add_assoc]; done) | (simp [oI, chGo]; congr 2; omega))
    · skip
      refine Zn_bipush (nI 40) d_pa_characterOf_68 (by decide) ?_
      refine Z_iret d_pa_characterOf_70 rfl ?_
      refine ⟨rfl, ?_⟩
      unfold labs
      rw [hv]
      simp only [Nat.reduceEqDiff, if_true, if_false, chGo]
      (repeat (first | rw [if_pos (by omega)] | rw [if_neg (by omega)]))
      all_goals (first | (exfalso; omega) | rfl | (simp [oI, chGo]; done) | (simp [oI, chGo, Nat.add_assoc]; done) | (simp [oI, chGo]; congr 2; omega))
  · skip
    rw [hv]
    refine Zn_istore_n [some (.long (lN k)), none, some (.int (nI q)), some (.int (nI 3)), none, none, none, none, none] d_pa_characterOf_11 (by decide) rfl ?_
    refine Z_iload_n d_pa_characterOf_12 rfl ?_
    refine Zn_istore [some (.long (lN k)), none, some (.int (nI q)), some (.int (nI 3)), some (.int (nI q)), none, none, none, none] d_pa_characterOf_13 (by decide) rfl ?_
    refine Zn_iconst (nI 1) d_pa_characterOf_15 (by decide) ?_
    refine Zn_istore [some (.long (lN k)), none, some (.int (nI q)), some (.int (nI 3)), some (.int (nI q)), some (.int (nI 1)), none, none, none] d_pa_characterOf_16 (by decide) rfl ?_
    refine Z_iload d_pa_characterOf_18 rfl ?_
    refine Z_iload_n d_pa_characterOf_20 rfl ?_
    refine Zn_icmp_gt (a := 1) (b := 3) (tgt := 118) d_pa_characterOf_21 (by decide) (by decide) (by decide) (fun h => absurd h (by decide)) (fun _ => ?_)
    refine Z_lload_n d_pa_characterOf_24 rfl ?_
    refine Z_iload d_pa_characterOf_25 rfl ?_
    refine zTe (As := [.long (lN k), .int (nI 1)]) (by omega) d_pa_characterOf_27 lm_pa_37 rfl (Nat.le_of_ble_eq_true rfl) (pa_labelAt_ok (l := 1) (d + 2) hk (by decide) (by decide)) ?_
    refine Zn_istore [some (.long (lN k)), none, some (.int (nI q)), some (.int (nI 3)), some (.int (nI q)), some (.int (nI 1)), some (.int (nI (lab k 1))), none, none] d_pa_characterOf_30 (by decide) rfl ?_
    refine Z_iload d_pa_characterOf_32 rfl ?_
    refine Zn_iconst (nI 1) d_pa_characterOf_34 (by decide) ?_
    refine Zn_icmp_le (a := 1) (b := 1) (tgt := 42) d_pa_characterOf_35 (by decide) (by decide) (by decide) (fun _ => ?_) (fun h => absurd h (by decide))
    refine Zn_iconst (nI 0) d_pa_characterOf_42 (by decide) ?_
    refine Zn_istore [some (.long (lN k)), none, some (.int (nI q)), some (.int (nI 3)), some (.int (nI q)), some (.int (nI 1)), some (.int (nI (lab k 1))), some (.int (nI 0)), none] d_pa_characterOf_43 (by decide) rfl ?_
    refine Z_iload d_pa_characterOf_45 rfl ?_
    refine Z_iload d_pa_characterOf_47 rfl ?_
    refine zTe (As := [.int (nI (lab k 1))]) (by omega) d_pa_characterOf_49 lm_pa_41 rfl (Nat.le_of_ble_eq_true rfl) (pa_digitsOf_ok (d + 1) (by omega)) ?_
    refine Zn_iadd d_pa_characterOf_52 ?_
    refine Z_iload d_pa_characterOf_53 rfl ?_
    refine zTe (As := [.int (nI (lab k 1))]) (by omega) d_pa_characterOf_55 lm_pa_44 rfl (Nat.le_of_ble_eq_true rfl) (pa_lettersOf_ok (d + 1) (by omega)) ?_
    refine Zn_iadd d_pa_characterOf_58 ?_
    refine Zn_istore [some (.long (lN k)), none, some (.int (nI q)), some (.int (nI 3)), some (.int (nI q)), some (.int (nI 1)), some (.int (nI (lab k 1))), some (.int (nI 0)), some (.int (nI ((0 + (digs (lab k 1))) + (lets (lab k 1)))))] d_pa_characterOf_59 (by decide) rfl ?_
    refine Z_iload d_pa_characterOf_61 rfl ?_
    refine Z_iload d_pa_characterOf_63 rfl ?_
    refine Zn_icmp_ge (tgt := 71) d_pa_characterOf_65 (by decide) (by omega) (by omega) (fun h65 => ?_) (fun h65 => ?_)
    · skip
      refine Z_iload d_pa_characterOf_71 rfl ?_
      refine Z_iload d_pa_characterOf_73 rfl ?_
      refine Zn_icmp_ge (tgt := 89) d_pa_characterOf_75 (by decide) (by omega) (by omega) (fun h75 => ?_) (fun h75 => ?_)
      · skip
        refine Z_iload d_pa_characterOf_89 rfl ?_
        refine Z_iload d_pa_characterOf_91 rfl ?_
        refine Z_iload d_pa_characterOf_93 rfl ?_
        refine Zn_iadd d_pa_characterOf_95 ?_
        refine Zn_icmp_ge (tgt := 102) d_pa_characterOf_96 (by decide) (by omega) (by omega) (fun h96 => ?_) (fun h96 => ?_)
        · skip
          refine Z_iload d_pa_characterOf_102 rfl ?_
          refine Z_iload d_pa_characterOf_104 rfl ?_
          refine Z_iload d_pa_characterOf_106 rfl ?_
          refine Zn_iadd d_pa_characterOf_108 ?_
          refine Zn_isub d_pa_characterOf_109 (by omega) ?_
          refine Zn_istore [some (.long (lN k)), none, some (.int (nI q)), some (.int (nI 3)), some (.int (nI (q - (((0 + (digs (lab k 1))) + (lets (lab k 1))) + 0)))), some (.int (nI 1)), some (.int (nI (lab k 1))), some (.int (nI 0)), some (.int (nI ((0 + (digs (lab k 1))) + (lets (lab k 1)))))] d_pa_characterOf_110 (by decide) rfl ?_
          refine Zn_iinc [some (.long (lN k)), none, some (.int (nI q)), some (.int (nI 3)), some (.int (nI (q - (((0 + (digs (lab k 1))) + (lets (lab k 1))) + 0)))), some (.int (nI 2)), some (.int (nI (lab k 1))), some (.int (nI 0)), some (.int (nI ((0 + (digs (lab k 1))) + (lets (lab k 1)))))] (nI 2) d_pa_characterOf_112 rfl (by decide) (nI_add 1 1) rfl ?_
          refine Z_goto (tgt := 18) d_pa_characterOf_115 (by decide) ?_
          refine Z_iload d_pa_characterOf_18 rfl ?_
          refine Z_iload_n d_pa_characterOf_20 rfl ?_
          refine Zn_icmp_gt (a := 2) (b := 3) (tgt := 118) d_pa_characterOf_21 (by decide) (by decide) (by decide) (fun h => absurd h (by decide)) (fun _ => ?_)
          refine Z_lload_n d_pa_characterOf_24 rfl ?_
          refine Z_iload d_pa_characterOf_25 rfl ?_
          refine zTe (As := [.long (lN k), .int (nI 2)]) (by omega) d_pa_characterOf_27 lm_pa_37 rfl (Nat.le_of_ble_eq_true rfl) (pa_labelAt_ok (l := 2) (d + 2) hk (by decide) (by decide)) ?_
          refine Zn_istore [some (.long (lN k)), none, some (.int (nI q)), some (.int (nI 3)), some (.int (nI (q - (((0 + (digs (lab k 1))) + (lets (lab k 1))) + 0)))), some (.int (nI 2)), some (.int (nI (lab k 2))), some (.int (nI 0)), some (.int (nI ((0 + (digs (lab k 1))) + (lets (lab k 1)))))] d_pa_characterOf_30 (by decide) rfl ?_
          refine Z_iload d_pa_characterOf_32 rfl ?_
          refine Zn_iconst (nI 1) d_pa_characterOf_34 (by decide) ?_
          refine Zn_icmp_le (a := 2) (b := 1) (tgt := 42) d_pa_characterOf_35 (by decide) (by decide) (by decide) (fun h => absurd h (by decide)) (fun _ => ?_)
          refine Zn_iconst (nI 1) d_pa_characterOf_38 (by decide) ?_
          refine Z_goto (tgt := 43) d_pa_characterOf_39 (by decide) ?_
          refine Zn_istore [some (.long (lN k)), none, some (.int (nI q)), some (.int (nI 3)), some (.int (nI (q - (((0 + (digs (lab k 1))) + (lets (lab k 1))) + 0)))), some (.int (nI 2)), some (.int (nI (lab k 2))), some (.int (nI 1)), some (.int (nI ((0 + (digs (lab k 1))) + (lets (lab k 1)))))] d_pa_characterOf_43 (by decide) rfl ?_
          refine Z_iload d_pa_characterOf_45 rfl ?_
          refine Z_iload d_pa_characterOf_47 rfl ?_
          refine zTe (As := [.int (nI (lab k 2))]) (by omega) d_pa_characterOf_49 lm_pa_41 rfl (Nat.le_of_ble_eq_true rfl) (pa_digitsOf_ok (d + 1) (by omega)) ?_
          refine Zn_iadd d_pa_characterOf_52 ?_
          refine Z_iload d_pa_characterOf_53 rfl ?_
          refine zTe (As := [.int (nI (lab k 2))]) (by omega) d_pa_characterOf_55 lm_pa_44 rfl (Nat.le_of_ble_eq_true rfl) (pa_lettersOf_ok (d + 1) (by omega)) ?_
          refine Zn_iadd d_pa_characterOf_58 ?_
          refine Zn_istore [some (.long (lN k)), none, some (.int (nI q)), some (.int (nI 3)), some (.int (nI (q - (((0 + (digs (lab k 1))) + (lets (lab k 1))) + 0)))), some (.int (nI 2)), some (.int (nI (lab k 2))), some (.int (nI 1)), some (.int (nI ((1 + (digs (lab k 2))) + (lets (lab k 2)))))] d_pa_characterOf_59 (by decide) rfl ?_
          refine Z_iload d_pa_characterOf_61 rfl ?_
          refine Z_iload d_pa_characterOf_63 rfl ?_
          refine Zn_icmp_ge (tgt := 71) d_pa_characterOf_65 (by decide) (by omega) (by omega) (fun h65 => ?_) (fun h65 => ?_)
          · skip
            refine Z_iload d_pa_characterOf_71 rfl ?_
            refine Z_iload d_pa_characterOf_73 rfl ?_
            refine Zn_icmp_ge (tgt := 89) d_pa_characterOf_75 (by decide) (by omega) (by omega) (fun h75 => ?_) (fun h75 => ?_)
            · skip
              refine Z_iload d_pa_characterOf_89 rfl ?_
              refine Z_iload d_pa_characterOf_91 rfl ?_
              refine Z_iload d_pa_characterOf_93 rfl ?_
              refine Zn_iadd d_pa_characterOf_95 ?_
              refine Zn_icmp_ge (tgt := 102) d_pa_characterOf_96 (by decide) (by omega) (by omega) (fun h96 => ?_) (fun h96 => ?_)
              · skip
                refine Z_iload d_pa_characterOf_102 rfl ?_
                refine Z_iload d_pa_characterOf_104 rfl ?_
                refine Z_iload d_pa_characterOf_106 rfl ?_
                refine Zn_iadd d_pa_characterOf_108 ?_
                refine Zn_isub d_pa_characterOf_109 (by omega) ?_
                refine Zn_istore [some (.long (lN k)), none, some (.int (nI q)), some (.int (nI 3)), some (.int (nI ((q - (((0 + (digs (lab k 1))) + (lets (lab k 1))) + 0)) - (((1 + (digs (lab k 2))) + (lets (lab k 2))) + 1)))), some (.int (nI 2)), some (.int (nI (lab k 2))), some (.int (nI 1)), some (.int (nI ((1 + (digs (lab k 2))) + (lets (lab k 2)))))] d_pa_characterOf_110 (by decide) rfl ?_
                refine Zn_iinc [some (.long (lN k)), none, some (.int (nI q)), some (.int (nI 3)), some (.int (nI ((q - (((0 + (digs (lab k 1))) + (lets (lab k 1))) + 0)) - (((1 + (digs (lab k 2))) + (lets (lab k 2))) + 1)))), some (.int (nI 3)), some (.int (nI (lab k 2))), some (.int (nI 1)), some (.int (nI ((1 + (digs (lab k 2))) + (lets (lab k 2)))))] (nI 3) d_pa_characterOf_112 rfl (by decide) (nI_add 2 1) rfl ?_
                refine Z_goto (tgt := 18) d_pa_characterOf_115 (by decide) ?_
                refine Z_iload d_pa_characterOf_18 rfl ?_
                refine Z_iload_n d_pa_characterOf_20 rfl ?_
                refine Zn_icmp_gt (a := 3) (b := 3) (tgt := 118) d_pa_characterOf_21 (by decide) (by decide) (by decide) (fun h => absurd h (by decide)) (fun _ => ?_)
                refine Z_lload_n d_pa_characterOf_24 rfl ?_
                refine Z_iload d_pa_characterOf_25 rfl ?_
                refine zTe (As := [.long (lN k), .int (nI 3)]) (by omega) d_pa_characterOf_27 lm_pa_37 rfl (Nat.le_of_ble_eq_true rfl) (pa_labelAt_ok (l := 3) (d + 2) hk (by decide) (by decide)) ?_
                refine Zn_istore [some (.long (lN k)), none, some (.int (nI q)), some (.int (nI 3)), some (.int (nI ((q - (((0 + (digs (lab k 1))) + (lets (lab k 1))) + 0)) - (((1 + (digs (lab k 2))) + (lets (lab k 2))) + 1)))), some (.int (nI 3)), some (.int (nI (lab k 3))), some (.int (nI 1)), some (.int (nI ((1 + (digs (lab k 2))) + (lets (lab k 2)))))] d_pa_characterOf_30 (by decide) rfl ?_
                refine Z_iload d_pa_characterOf_32 rfl ?_
                refine Zn_iconst (nI 1) d_pa_characterOf_34 (by decide) ?_
                refine Zn_icmp_le (a := 3) (b := 1) (tgt := 42) d_pa_characterOf_35 (by decide) (by decide) (by decide) (fun h => absurd h (by decide)) (fun _ => ?_)
                refine Zn_iconst (nI 1) d_pa_characterOf_38 (by decide) ?_
                refine Z_goto (tgt := 43) d_pa_characterOf_39 (by decide) ?_
                refine Zn_istore [some (.long (lN k)), none, some (.int (nI q)), some (.int (nI 3)), some (.int (nI ((q - (((0 + (digs (lab k 1))) + (lets (lab k 1))) + 0)) - (((1 + (digs (lab k 2))) + (lets (lab k 2))) + 1)))), some (.int (nI 3)), some (.int (nI (lab k 3))), some (.int (nI 1)), some (.int (nI ((1 + (digs (lab k 2))) + (lets (lab k 2)))))] d_pa_characterOf_43 (by decide) rfl ?_
                refine Z_iload d_pa_characterOf_45 rfl ?_
                refine Z_iload d_pa_characterOf_47 rfl ?_
                refine zTe (As := [.int (nI (lab k 3))]) (by omega) d_pa_characterOf_49 lm_pa_41 rfl (Nat.le_of_ble_eq_true rfl) (pa_digitsOf_ok (d + 1) (by omega)) ?_
                refine Zn_iadd d_pa_characterOf_52 ?_
                refine Z_iload d_pa_characterOf_53 rfl ?_
                refine zTe (As := [.int (nI (lab k 3))]) (by omega) d_pa_characterOf_55 lm_pa_44 rfl (Nat.le_of_ble_eq_true rfl) (pa_lettersOf_ok (d + 1) (by omega)) ?_
                refine Zn_iadd d_pa_characterOf_58 ?_
                refine Zn_istore [some (.long (lN k)), none, some (.int (nI q)), some (.int (nI 3)), some (.int (nI ((q - (((0 + (digs (lab k 1))) + (lets (lab k 1))) + 0)) - (((1 + (digs (lab k 2))) + (lets (lab k 2))) + 1)))), some (.int (nI 3)), some (.int (nI (lab k 3))), some (.int (nI 1)), some (.int (nI ((1 + (digs (lab k 3))) + (lets (lab k 3)))))] d_pa_characterOf_59 (by decide) rfl ?_
                refine Z_iload d_pa_characterOf_61 rfl ?_
                refine Z_iload d_pa_characterOf_63 rfl ?_
                refine Zn_icmp_ge (tgt := 71) d_pa_characterOf_65 (by decide) (by omega) (by omega) (fun h65 => ?_) (fun h65 => ?_)
                · skip
                  refine Z_iload d_pa_characterOf_71 rfl ?_
                  refine Z_iload d_pa_characterOf_73 rfl ?_
                  refine Zn_icmp_ge (tgt := 89) d_pa_characterOf_75 (by decide) (by omega) (by omega) (fun h75 => ?_) (fun h75 => ?_)
                  · skip
                    refine Z_iload d_pa_characterOf_89 rfl ?_
                    refine Z_iload d_pa_characterOf_91 rfl ?_
                    refine Z_iload d_pa_characterOf_93 rfl ?_
                    refine Zn_iadd d_pa_characterOf_95 ?_
                    refine Zn_icmp_ge (tgt := 102) d_pa_characterOf_96 (by decide) (by omega) (by omega) (fun h96 => ?_) (fun h96 => ?_)
                    · skip
                      refine Z_iload d_pa_characterOf_102 rfl ?_
                      refine Z_iload d_pa_characterOf_104 rfl ?_
                      refine Z_iload d_pa_characterOf_106 rfl ?_
                      refine Zn_iadd d_pa_characterOf_108 ?_
                      refine Zn_isub d_pa_characterOf_109 (by omega) ?_
                      refine Zn_istore [some (.long (lN k)), none, some (.int (nI q)), some (.int (nI 3)), some (.int (nI (((q - (((0 + (digs (lab k 1))) + (lets (lab k 1))) + 0)) - (((1 + (digs (lab k 2))) + (lets (lab k 2))) + 1)) - (((1 + (digs (lab k 3))) + (lets (lab k 3))) + 1)))), some (.int (nI 3)), some (.int (nI (lab k 3))), some (.int (nI 1)), some (.int (nI ((1 + (digs (lab k 3))) + (lets (lab k 3)))))] d_pa_characterOf_110 (by decide) rfl ?_
                      refine Zn_iinc [some (.long (lN k)), none, some (.int (nI q)), some (.int (nI 3)), some (.int (nI (((q - (((0 + (digs (lab k 1))) + (lets (lab k 1))) + 0)) - (((1 + (digs (lab k 2))) + (lets (lab k 2))) + 1)) - (((1 + (digs (lab k 3))) + (lets (lab k 3))) + 1)))), some (.int (nI 4)), some (.int (nI (lab k 3))), some (.int (nI 1)), some (.int (nI ((1 + (digs (lab k 3))) + (lets (lab k 3)))))] (nI 4) d_pa_characterOf_112 rfl (by decide) (nI_add 3 1) rfl ?_
                      refine Z_goto (tgt := 18) d_pa_characterOf_115 (by decide) ?_
                      refine Z_iload d_pa_characterOf_18 rfl ?_
                      refine Z_iload_n d_pa_characterOf_20 rfl ?_
                      refine Zn_icmp_gt (a := 4) (b := 3) (tgt := 118) d_pa_characterOf_21 (by decide) (by decide) (by decide) (fun _ => ?_) (fun h => absurd h (by decide))
                      refine Zn_bipush (-9) d_pa_characterOf_118 (by decide) ?_
                      refine Z_iret d_pa_characterOf_120 rfl ?_
                      refine ⟨rfl, ?_⟩
                      unfold labs
                      rw [hv]
                      simp only [Nat.reduceEqDiff, if_true, if_false, chGo]
                      (repeat (first | rw [if_pos (by omega)] | rw [if_neg (by omega)]))
                      all_goals (first | (exfalso; omega) | rfl | (simp [oI, chGo]; done) | (simp [oI, chGo, Nat.add_assoc]; done) | (simp [oI, chGo]; congr 2; omega))
                    · skip
                      refine Zn_bipush (nI 41) d_pa_characterOf_99 (by decide) ?_
                      refine Z_iret d_pa_characterOf_101 rfl ?_
                      refine ⟨rfl, ?_⟩
                      unfold labs
                      rw [hv]
                      simp only [Nat.reduceEqDiff, if_true, if_false, chGo]
                      (repeat (first | rw [if_pos (by omega)] | rw [if_neg (by omega)]))
                      all_goals (first | (exfalso; omega) | rfl | (simp [oI, chGo]; done) | (simp [oI, chGo, Nat.add_assoc]; done) | (simp [oI, chGo]; congr 2; omega))
                  · skip
                    refine Z_iload d_pa_characterOf_78 rfl ?_
                    refine Z_iload d_pa_characterOf_80 rfl ?_
                    refine Z_iload d_pa_characterOf_82 rfl ?_
                    refine Zn_isub d_pa_characterOf_84 (by omega) ?_
                    refine zTe (As := [.int (nI (lab k 3)), .int (nI (((q - (((0 + (digs (lab k 1))) + (lets (lab k 1))) + 0)) - (((1 + (digs (lab k 2))) + (lets (lab k 2))) + 1)) - 1))]) (by omega) d_pa_characterOf_85 lm_pa_47 rfl (Nat.le_of_ble_eq_true rfl) (pa_characterOfLabel_ok d (by omega) (by omega)) ?_
                    refine Z_iret d_pa_characterOf_88 rfl ?_
                    refine ⟨rfl, ?_⟩
                    unfold labs
                    rw [hv]
                    simp only [Nat.reduceEqDiff, if_true, if_false, chGo]
                    (repeat (first | rw [if_pos (by omega)] | rw [if_neg (by omega)]))
                    all_goals (first | (exfalso; omega) | rfl | (simp [oI, chGo]; done) | (simp [oI, chGo, Nat.add_assoc]; done) | (simp [oI, chGo]; congr 2; omega))
                · skip
                  refine Zn_bipush (nI 40) d_pa_characterOf_68 (by decide) ?_
                  refine Z_iret d_pa_characterOf_70 rfl ?_
                  refine ⟨rfl, ?_⟩
                  unfold labs
                  rw [hv]
                  simp only [Nat.reduceEqDiff, if_true, if_false, chGo]
                  (repeat (first | rw [if_pos (by omega)] | rw [if_neg (by omega)]))
                  all_goals (first | (exfalso; omega) | rfl | (simp [oI, chGo]; done) | (simp [oI, chGo, Nat.add_assoc]; done) | (simp [oI, chGo]; congr 2; omega))
              · skip
                refine Zn_bipush (nI 41) d_pa_characterOf_99 (by decide) ?_
                refine Z_iret d_pa_characterOf_101 rfl ?_
                refine ⟨rfl, ?_⟩
                unfold labs
                rw [hv]
                simp only [Nat.reduceEqDiff, if_true, if_false, chGo]
                (repeat (first | rw [if_pos (by omega)] | rw [if_neg (by omega)]))
                all_goals (first | (exfalso; omega) | rfl | (simp [oI, chGo]; done) | (simp [oI, chGo, Nat.add_assoc]; done) | (simp [oI, chGo]; congr 2; omega))
            · skip
              refine Z_iload d_pa_characterOf_78 rfl ?_
              refine Z_iload d_pa_characterOf_80 rfl ?_
              refine Z_iload d_pa_characterOf_82 rfl ?_
              refine Zn_isub d_pa_characterOf_84 (by omega) ?_
              refine zTe (As := [.int (nI (lab k 2)), .int (nI ((q - (((0 + (digs (lab k 1))) + (lets (lab k 1))) + 0)) - 1))]) (by omega) d_pa_characterOf_85 lm_pa_47 rfl (Nat.le_of_ble_eq_true rfl) (pa_characterOfLabel_ok d (by omega) (by omega)) ?_
              refine Z_iret d_pa_characterOf_88 rfl ?_
              refine ⟨rfl, ?_⟩
              unfold labs
              rw [hv]
              simp only [Nat.reduceEqDiff, if_true, if_false, chGo]
              (repeat (first | rw [if_pos (by omega)] | rw [if_neg (by omega)]))
              all_goals (first | (exfalso; omega) | rfl | (simp [oI, chGo]; done) | (simp [oI, chGo, Nat.add_assoc]; done) | (simp [oI, chGo]; congr 2; omega))
          · skip
            refine Zn_bipush (nI 40) d_pa_characterOf_68 (by decide) ?_
            refine Z_iret d_pa_characterOf_70 rfl ?_
            refine ⟨rfl, ?_⟩
            unfold labs
            rw [hv]
            simp only [Nat.reduceEqDiff, if_true, if_false, chGo]
            (repeat (first | rw [if_pos (by omega)] | rw [if_neg (by omega)]))
            all_goals (first | (exfalso; omega) | rfl | (simp [oI, chGo]; done) | (simp [oI, chGo, Nat.add_assoc]; done) | (simp [oI, chGo]; congr 2; omega))
        · skip
          refine Zn_bipush (nI 41) d_pa_characterOf_99 (by decide) ?_
          refine Z_iret d_pa_characterOf_101 rfl ?_
          refine ⟨rfl, ?_⟩
          unfold labs
          rw [hv]
          simp only [Nat.reduceEqDiff, if_true, if_false, chGo]
          (repeat (first | rw [if_pos (by omega)] | rw [if_neg (by omega)]))
          all_goals (first | (exfalso; omega) | rfl | (simp [oI, chGo]; done) | (simp [oI, chGo, Nat.add_assoc]; done) | (simp [oI, chGo]; congr 2; omega))
      · skip
        refine Z_iload d_pa_characterOf_78 rfl ?_
        refine Z_iload d_pa_characterOf_80 rfl ?_
        refine Z_iload d_pa_characterOf_82 rfl ?_
        refine Zn_isub d_pa_characterOf_84 (by omega) ?_
        refine zTe (As := [.int (nI (lab k 1)), .int (nI (q - 0))]) (by omega) d_pa_characterOf_85 lm_pa_47 rfl (Nat.le_of_ble_eq_true rfl) (pa_characterOfLabel_ok d (by omega) (by omega)) ?_
        refine Z_iret d_pa_characterOf_88 rfl ?_
        refine ⟨rfl, ?_⟩
        unfold labs
        rw [hv]
        simp only [Nat.reduceEqDiff, if_true, if_false, chGo]
        (repeat (first | rw [if_pos (by omega)] | rw [if_neg (by omega)]))
        all_goals (first | (exfalso; omega) | rfl | (simp [oI, chGo]; done) | (simp [oI, chGo, Nat.add_assoc]; done) | (simp [oI, chGo]; congr 2; omega))
    · skip
      refine Zn_bipush (nI 40) d_pa_characterOf_68 (by decide) ?_
      refine Z_iret d_pa_characterOf_70 rfl ?_
      refine ⟨rfl, ?_⟩
      unfold labs
      rw [hv]
      simp only [Nat.reduceEqDiff, if_true, if_false, chGo]
      (repeat (first | rw [if_pos (by omega)] | rw [if_neg (by omega)]))
      all_goals (first | (exfalso; omega) | rfl | (simp [oI, chGo]; done) | (simp [oI, chGo, Nat.add_assoc]; done) | (simp [oI, chGo]; congr 2; omega))
