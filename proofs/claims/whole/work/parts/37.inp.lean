/-! the input and its reading -/
def InAt (M : List zE) (len p : Nat) (ch : Nat → Nat) : Prop := M[93]? = some (.inr (1, [.ref 94, .int (nI len), .int (nI p)])) ∧ M[94]? = some (.inl (0, 120, .inl (fun i => nI (ch i))))
theorem InAt.fr {M M1 : List zE} {len p lo w : Nat} {ch : Nat → Nat} (h : InAt M len p ch) (hf : zFr M M1 lo w) (hd : 95 ≤ lo ∨ lo + w ≤ 93) : InAt M1 len p ch := ⟨by rw [hf.2 _ (by omega)]; exact h.1, by rw [hf.2 _ (by omega)]; exact h.2⟩
theorem InAt.pos {M : List zE} {len p p' : Nat} {ch : Nat → Nat} (h : InAt M len p ch) : InAt (M.set 93 (.inr (1, [.ref 94, .int (nI len), .int (nI p')]))) len p' ch := ⟨st_eq h.1, (st_ne (by omega)).trans h.2⟩
/-- what an input is -/
def inOk (len p : Nat) (ch : Nat → Nat) : Prop := len ≤ 120 ∧ p ≤ len ∧ ∀ i, ch i ≤ 126
def pk (len : Nat) (ch : Nat → Nat) (p : Nat) : Option Nat := if p < len then some (ch p) else none
def nb (len : Nat) (ch : Nat → Nat) (p a b : Nat) : Bool := decide (p < len) && (decide (a ≤ ch p) && decide (ch p ≤ b))
def tk (len : Nat) (ch : Nat → Nat) (p c : Nat) : Bool := decide (p < len) && decide (ch p = c)
theorem nb_iff {len : Nat} {ch : Nat → Nat} {p a b : Nat} : nb len ch p a b = true ↔ p < len ∧ a ≤ ch p ∧ ch p ≤ b := by unfold nb; simp
theorem tk_iff {len : Nat} {ch : Nat → Nat} {p c : Nat} : tk len ch p c = true ↔ p < len ∧ ch p = c := by unfold tk; simp
theorem b10_lt {x : Bool} : (if x = true then 1 else 0) < 2147483648 := by split <;> decide
theorem b10_t {x : Bool} (h : ¬ (if x = true then 1 else 0) = 0) : x = true := by cases x; exact absurd rfl h; rfl
theorem b10_f {x : Bool} (h : (if x = true then 1 else 0) = 0) : x = false := by cases x; rfl; exact absurd h (by decide)
def pSuf (len : Nat) (ch : Nat → Nat) : Nat → Nat → Nat → Nat → Nat × Nat
  | 0, _, l, p => (l, p)
  | k + 1, u, l, p => if nb len ch p 65 90 = true then pSuf len ch k (u / 27) (l + (ch p - 65 + 1) * u) (p + 1) else (l, p)
def pNum (len : Nat) (ch : Nat → Nat) (p : Nat) : Nat × Nat := if nb len ch (p + 1) 48 57 = true then ((ch p - 48) * 10 + (ch (p + 1) - 48), p + 1 + 1) else (ch p - 48, p + 1)
def pLab (len : Nat) (ch : Nat → Nat) (p : Nat) : Nat × Nat := if nb len ch p 49 57 = true then pSuf len ch 3 729 ((pNum len ch p).1 * 19683) (pNum len ch p).2 else (0, p)
theorem pNum_ok {len : Nat} {ch : Nat → Nat} {p : Nat} (h : nb len ch p 49 57 = true) : 1 ≤ (pNum len ch p).1 ∧ (pNum len ch p).1 ≤ 99 ∧ p < (pNum len ch p).2 ∧ (pNum len ch p).2 ≤ len := by
  have h1 := nb_iff.mp h
  unfold pNum
  by_cases h2 : nb len ch (p + 1) 48 57 = true
  · have h3 := nb_iff.mp h2
    rw [if_pos h2]
    refine ⟨?_, ?_, ?_, ?_⟩ <;> (dsimp only; omega)
  · rw [if_neg h2]
    refine ⟨?_, ?_, ?_, ?_⟩ <;> (dsimp only; omega)
theorem pLab_ok {len : Nat} {ch : Nat → Nat} {p : Nat} (hp : p ≤ len) : (pLab len ch p).1 < 1968300 ∧ p ≤ (pLab len ch p).2 ∧ (pLab len ch p).2 ≤ len ∧ ((pLab len ch p).1 = 0 ∨ 19683 ≤ (pLab len ch p).1) := by
  unfold pLab
  by_cases h : nb len ch p 49 57 = true
  · rw [if_pos h]
    have h1 := pNum_ok h
    generalize (pNum len ch p).1 = n at h1 ⊢
    generalize (pNum len ch p).2 = q at h1 ⊢
    simp only [pSuf]
    by_cases c1 : nb len ch q 65 90 = true
    · have d1 := nb_iff.mp c1
      rw [if_pos c1]
      by_cases c2 : nb len ch (q + 1) 65 90 = true
      · have d2 := nb_iff.mp c2
        rw [if_pos c2]
        by_cases c3 : nb len ch (q + 1 + 1) 65 90 = true
        · have d3 := nb_iff.mp c3
          rw [if_pos c3]
          refine ⟨?_, ?_, ?_, ?_⟩ <;> (dsimp only; omega)
        · rw [if_neg c3]
          refine ⟨?_, ?_, ?_, ?_⟩ <;> (dsimp only; omega)
      · rw [if_neg c2]
        refine ⟨?_, ?_, ?_, ?_⟩ <;> (dsimp only; omega)
    · rw [if_neg c1]
      refine ⟨?_, ?_, ?_, ?_⟩ <;> (dsimp only; omega)
  · rw [if_neg h]
    refine ⟨?_, ?_, ?_, ?_⟩ <;> (dsimp only; omega)
set_option maxHeartbeats 4000000 in
theorem in_peek_ok {Γ : zCtx} {M : List zE} (d : Nat) {len p : Nat} {ch : Nat → Nat} (hP : InAt M len p ch) (hO : inOk len p ch) : ZM Γ (d + 1) m_inp_peek [.ref 93] M (zEq M (some (.int (oI (pk len ch p) (-1))))) := by
  refine ZM.of mk_inp_peek (Nat.le_of_ble_eq_true rfl) ?_
  have hF : zFr M M 93 2 := zFr.rf
  obtain ⟨hO1, hO2, hO3⟩ := hO
  refine Z_aload_n d_inp_peek_0 rfl ?_
  refine Z_get d_inp_peek_1 lf_inp_15 hP.1 rfl ?_
  refine Zn_if_lt (tgt := 30) d_inp_peek_4 (by decide) (by omega) ?_
  refine Z_aload_n d_inp_peek_7 rfl ?_
  refine Z_get d_inp_peek_8 lf_inp_15 hP.1 rfl ?_
  refine Z_aload_n d_inp_peek_11 rfl ?_
  refine Z_get d_inp_peek_12 lf_inp_58 hP.1 rfl ?_
  refine Zn_icmp_ge (tgt := 30) d_inp_peek_15 (by decide) (by omega) (by omega) (fun h15 => ?_) (fun h15 => ?_)
  · skip
    refine Zn_iconst (-1) d_inp_peek_30 (by decide) ?_
    refine Z_iret d_inp_peek_31 rfl ?_
    refine ⟨rfl, ?_⟩
    unfold pk
    first | (rw [if_pos (by omega)]; rfl) | (rw [if_neg (by omega)]; rfl)
  · skip
    refine Z_aload_n d_inp_peek_18 rfl ?_
    refine Z_get d_inp_peek_19 lf_inp_9 hP.1 rfl ?_
    refine Z_aload_n d_inp_peek_22 rfl ?_
    refine Z_get d_inp_peek_23 lf_inp_15 hP.1 rfl ?_
    refine Zn_iald d_inp_peek_26 hP.2 (by omega) (by omega) ?_
    refine Z_goto (tgt := 31) d_inp_peek_27 (by decide) ?_
    refine Z_iret d_inp_peek_31 rfl ?_
    refine ⟨rfl, ?_⟩
    unfold pk
    first | (rw [if_pos (by omega)]; rfl) | (rw [if_neg (by omega)]; rfl)
theorem pk_some {len : Nat} {ch : Nat → Nat} {p x : Nat} (h : pk len ch p = some x) : p < len ∧ x = ch p := by
  unfold pk at h
  split at h
  · cases h; exact ⟨by assumption, rfl⟩
  · cases h
theorem pk_none {len : Nat} {ch : Nat → Nat} {p : Nat} (h : pk len ch p = none) : len ≤ p := by
  unfold pk at h
  split at h
  · cases h
  · omega
theorem neg_lt {a : Nat} (ha : a < 2147483648) : (-1 : Int32) < nI a := by
  rw [Int32.lt_iff_toInt_lt, nI_toInt ha]
  have : (-1 : Int32).toInt = -1 := by decide
  omega
set_option maxHeartbeats 4000000 in
theorem in_nb_ok {Γ : zCtx} {M : List zE} (d : Nat) {len p : Nat} {ch : Nat → Nat} (hP : InAt M len p ch) (hO : inOk len p ch) {a b : Nat} (ha : a < 2147483648) (hb : b < 2147483648) : ZM Γ (d + 2) m_inp_isNextBetween [.ref 93, .int (nI a), .int (nI b)] M (zEq M (some (.int (nI (if nb len ch p a b = true then 1 else 0))))) := by
  refine ZM.of mk_inp_isNextBetween (Nat.le_of_ble_eq_true rfl) ?_
  obtain ⟨hO1, hO2, hO3⟩ := id hO
  have hc := hO3 p
  by_cases h : p < len
  · have hk : pk len ch p = some (ch p) := if_pos h
    refine Z_aload_n d_inp_isNextBetween_0 rfl ?_
    refine zVe (As := []) (by omega) d_inp_isNextBetween_1 lm_inp_23 hP.1 rfl rfl (Nat.le_of_ble_eq_true rfl) (in_peek_ok d hP hO) ?_
    rw [hk]
    refine Z_iload_n d_inp_isNextBetween_4 rfl ?_
    refine Zn_icmp_lt (a := ch p) (tgt := 20) d_inp_isNextBetween_5 (by decide) (by omega) (by omega) (fun h5 => ?_) (fun h5 => ?_)
    · refine Zn_iconst (nI 0) d_inp_isNextBetween_20 (by decide) ?_
      refine Z_zret d_inp_isNextBetween_21 rfl rfl ⟨rfl, ?_⟩
      rw [if_neg (fun z => by have := nb_iff.mp z; omega)]
    · refine Z_aload_n d_inp_isNextBetween_8 rfl ?_
      refine zVe (As := []) (by omega) d_inp_isNextBetween_9 lm_inp_23 hP.1 rfl rfl (Nat.le_of_ble_eq_true rfl) (in_peek_ok d hP hO) ?_
      rw [hk]
      refine Z_iload_n d_inp_isNextBetween_12 rfl ?_
      refine Zn_icmp_gt (a := ch p) (tgt := 20) d_inp_isNextBetween_13 (by decide) (by omega) (by omega) (fun h13 => ?_) (fun h13 => ?_)
      · refine Zn_iconst (nI 0) d_inp_isNextBetween_20 (by decide) ?_
        refine Z_zret d_inp_isNextBetween_21 rfl rfl ⟨rfl, ?_⟩
        rw [if_neg (fun z => by have := nb_iff.mp z; omega)]
      · refine Zn_iconst (nI 1) d_inp_isNextBetween_16 (by decide) ?_
        refine Z_goto (tgt := 21) d_inp_isNextBetween_17 (by decide) ?_
        refine Z_zret d_inp_isNextBetween_21 rfl rfl ⟨rfl, ?_⟩
        rw [if_pos (nb_iff.mpr (by omega))]
  · have hk : pk len ch p = none := if_neg h
    refine Z_aload_n d_inp_isNextBetween_0 rfl ?_
    refine zVe (As := []) (by omega) d_inp_isNextBetween_1 lm_inp_23 hP.1 rfl rfl (Nat.le_of_ble_eq_true rfl) (in_peek_ok d hP hO) ?_
    rw [hk]
    refine Z_iload_n d_inp_isNextBetween_4 rfl ?_
    refine Z_icmp_lt (x := -1) (tgt := 20) d_inp_isNextBetween_5 (by decide) (fun h5 => ?_) (fun h5 => absurd (neg_lt ha) h5)
    refine Zn_iconst (nI 0) d_inp_isNextBetween_20 (by decide) ?_
    refine Z_zret d_inp_isNextBetween_21 rfl rfl ⟨rfl, ?_⟩
    rw [if_neg (fun z => by have := nb_iff.mp z; omega)]
set_option maxHeartbeats 4000000 in
theorem in_take_ok {Γ : zCtx} {M : List zE} (d : Nat) {len p : Nat} {ch : Nat → Nat} (hP : InAt M len p ch) (hO : inOk len p ch) {c : Nat} (hc : c < 2147483648) : ZM Γ (d + 2) m_inp_take [.ref 93, .int (nI c)] M (fun M1 v => v = some (.int (nI (if tk len ch p c = true then 1 else 0))) ∧ InAt M1 len (if tk len ch p c = true then p + 1 else p) ch ∧ zFr M M1 93 2) := by
  refine ZM.of mk_inp_take (Nat.le_of_ble_eq_true rfl) ?_
  obtain ⟨hO1, hO2, hO3⟩ := id hO
  have hcp := hO3 p
  by_cases h : p < len
  · have hk : pk len ch p = some (ch p) := if_pos h
    refine Z_aload_n d_inp_take_0 rfl ?_
    refine zVe (As := []) (by omega) d_inp_take_1 lm_inp_23 hP.1 rfl rfl (Nat.le_of_ble_eq_true rfl) (in_peek_ok d hP hO) ?_
    rw [hk]
    refine Z_iload_n d_inp_take_4 rfl ?_
    refine Zn_icmp_eq (a := ch p) (tgt := 10) d_inp_take_5 (by decide) (by omega) (by omega) (fun h5 => ?_) (fun h5 => ?_)
    · refine Z_aload_n d_inp_take_10 rfl ?_
      refine Z_dup d_inp_take_11 rfl ?_
      refine Z_get d_inp_take_12 lf_inp_15 hP.1 rfl ?_
      refine Zn_iconst (nI 1) d_inp_take_15 (by decide) ?_
      refine Zn_iadd d_inp_take_16 ?_
      refine Z_puti d_inp_take_17 lf_inp_15 hP.1 rfl rfl (Nat.le_of_ble_eq_true rfl) ?_
      refine Zn_iconst (nI 1) d_inp_take_20 (by decide) ?_
      refine Z_zret d_inp_take_21 rfl rfl ?_
      rw [if_pos (tk_iff.mpr ⟨h, h5⟩), if_pos (tk_iff.mpr ⟨h, h5⟩)]
      exact ⟨rfl, hP.pos, zFr.rf.set (by omega) (by omega)⟩
    · refine Zn_iconst (nI 0) d_inp_take_8 (by decide) ?_
      refine Z_zret d_inp_take_9 rfl rfl ?_
      rw [if_neg (fun z => h5 (tk_iff.mp z).2), if_neg (fun z => h5 (tk_iff.mp z).2)]
      exact ⟨rfl, hP, zFr.rf⟩
  · have hk : pk len ch p = none := if_neg h
    refine Z_aload_n d_inp_take_0 rfl ?_
    refine zVe (As := []) (by omega) d_inp_take_1 lm_inp_23 hP.1 rfl rfl (Nat.le_of_ble_eq_true rfl) (in_peek_ok d hP hO) ?_
    rw [hk]
    refine Z_iload_n d_inp_take_4 rfl ?_
    refine Z_icmp_eq (x := -1) (tgt := 10) d_inp_take_5 (by decide) (fun h5 => absurd h5.symm (zn_m1 hc)) (fun h5 => ?_)
    refine Zn_iconst (nI 0) d_inp_take_8 (by decide) ?_
    refine Z_zret d_inp_take_9 rfl rfl ?_
    rw [if_neg (fun z => h (tk_iff.mp z).1), if_neg (fun z => h (tk_iff.mp z).1)]
    exact ⟨rfl, hP, zFr.rf⟩
set_option maxHeartbeats 4000000 in
theorem in_takeDigit_ok {Γ : zCtx} {M : List zE} (d : Nat) {len p : Nat} {ch : Nat → Nat} (hP : InAt M len p ch) (hO : inOk len p ch) (hlt : p < len) (h48 : 48 ≤ ch p) : ZM Γ (d + 2) m_inp_takeDigit [.ref 93] M (fun M1 v => v = some (.int (nI (ch p - 48))) ∧ InAt M1 len (p + 1) ch ∧ zFr M M1 93 2) := by
  refine ZM.of mk_inp_takeDigit (Nat.le_of_ble_eq_true rfl) ?_
  have hF : zFr M M 93 2 := zFr.rf
  obtain ⟨hO1, hO2, hO3⟩ := hO
  rw [show zEn [.ref 93] = [some (.ref 93)] from rfl]
  refine zPad 1 ?_
  show Z _ _ _ _ _ _ _ [some (.ref 93), none] _ _
  refine Z_aload_n d_inp_takeDigit_0 rfl ?_
  refine zVe (As := []) (by omega) d_inp_takeDigit_1 lm_inp_23 hP.1 rfl rfl (Nat.le_of_ble_eq_true rfl) (in_peek_ok (d + 0) hP ⟨hO1, by omega, hO3⟩) ?_
  rw [show pk len ch p = some (ch p) from if_pos (by omega)]
  refine Zn_bipush (nI 48) d_inp_takeDigit_4 (by decide) ?_
  refine Zn_isub d_inp_takeDigit_6 (by omega) ?_
  refine Zn_istore_n [some (.ref 93), some (.int (nI ((ch p) - 48)))] d_inp_takeDigit_7 (by decide) rfl ?_
  refine Z_aload_n d_inp_takeDigit_8 rfl ?_
  refine Z_dup d_inp_takeDigit_9 rfl ?_
  refine Z_get d_inp_takeDigit_10 lf_inp_15 hP.1 rfl ?_
  refine Zn_iconst (nI 1) d_inp_takeDigit_13 (by decide) ?_
  refine Zn_iadd d_inp_takeDigit_14 ?_
  refine Z_puti d_inp_takeDigit_15 lf_inp_15 hP.1 rfl rfl (Nat.le_of_ble_eq_true rfl) ?_
  have hP := hP.pos (p' := p + 1)
  have hF := hF.set (c := 93) (x := .inr (1, [.ref 94, .int (nI len), .int (nI (p + 1))])) (by omega) (by omega)
  refine Z_iload_n d_inp_takeDigit_18 rfl ?_
  refine Z_iret d_inp_takeDigit_19 rfl ?_
  exact ⟨rfl, hP, hF⟩
set_option maxHeartbeats 4000000 in
theorem in_readLabel_ok {Γ : zCtx} {M : List zE} (d : Nat) {len p : Nat} {ch : Nat → Nat} (hP : InAt M len p ch) (hO : inOk len p ch) : ZM Γ (d + 4) m_inp_readLabel [.ref 93] M (fun M1 v => v = some (.int (nI (pLab len ch p).1)) ∧ InAt M1 len (pLab len ch p).2 ch ∧ zFr M M1 93 2) := by
  refine ZM.of mk_inp_readLabel (Nat.le_of_ble_eq_true rfl) ?_
  have hF : zFr M M 93 2 := zFr.rf
  obtain ⟨hO1, hO2, hO3⟩ := hO
  have hc0 := hO3 p
  have hc1 := hO3 (p + 1)
  have hc2 := hO3 (p + 1 + 1)
  have hc3 := hO3 (p + 1 + 1 + 1)
  have hc4 := hO3 (p + 1 + 1 + 1 + 1)
  rw [show zEn [.ref 93] = [some (.ref 93)] from rfl]
  refine zPad 4 ?_
  show Z _ _ _ _ _ _ _ [some (.ref 93), none, none, none, none] _ _
  refine Z_aload_n d_inp_readLabel_0 rfl ?_
  refine Zn_bipush (nI 49) d_inp_readLabel_1 (by decide) ?_
  refine Zn_bipush (nI 57) d_inp_readLabel_3 (by decide) ?_
  refine zVe (As := [.int (nI 49), .int (nI 57)]) (by omega) d_inp_readLabel_5 lm_inp_105 hP.1 rfl rfl (Nat.le_of_ble_eq_true rfl) (in_nb_ok (d + 1) hP ⟨hO1, by omega, hO3⟩ (by decide) (by decide)) ?_
  have hle := b10_lt (x := nb len ch p 49 57)
  refine Zn_if_ne (tgt := 13) d_inp_readLabel_8 (by decide) (by omega) (fun h8 => ?_) (fun h8 => ?_)
  · skip
    have n_1 : nb len ch p 49 57 = true := b10_t h8
    have in_1 := nb_iff.mp n_1
    refine Z_aload_n d_inp_readLabel_13 rfl ?_
    refine zV (As := []) (by omega) d_inp_readLabel_14 lm_inp_109 hP.1 rfl rfl (Nat.le_of_ble_eq_true rfl) (in_takeDigit_ok (d + 1) hP ⟨hO1, by omega, hO3⟩ (by omega) (by omega)) (fun M1 v hq hlen => ?_)
    obtain ⟨rfl, hP, hF1⟩ := hq
    replace hF := hF.trans hF1
    refine Zn_istore_n [some (.ref 93), some (.int (nI (ch p - 48))), none, none, none] d_inp_readLabel_17 (by decide) rfl ?_
    refine Z_aload_n d_inp_readLabel_18 rfl ?_
    refine Zn_bipush (nI 48) d_inp_readLabel_19 (by decide) ?_
    refine Zn_bipush (nI 57) d_inp_readLabel_21 (by decide) ?_
    refine zVe (As := [.int (nI 48), .int (nI 57)]) (by omega) d_inp_readLabel_23 lm_inp_105 hP.1 rfl rfl (Nat.le_of_ble_eq_true rfl) (in_nb_ok (d + 1) hP ⟨hO1, by omega, hO3⟩ (by decide) (by decide)) ?_
    have hle := b10_lt (x := nb len ch (p + 1) 48 57)
    refine Zn_if_eq (tgt := 39) d_inp_readLabel_26 (by decide) (by omega) (fun h26 => ?_) (fun h26 => ?_)
    · skip
      have n_2 : nb len ch (p + 1) 48 57 = false := b10_f h26
      refine Z_iload_n d_inp_readLabel_39 rfl ?_
      refine zTe (As := [.int (nI (ch p - 48))]) (by omega) d_inp_readLabel_40 lm_inp_112 rfl (Nat.le_of_ble_eq_true rfl) (pa_labelOfNumber_ok (d + 2)) ?_
      refine Zn_istore_n [some (.ref 93), some (.int (nI (ch p - 48))), some (.int (nI ((ch p - 48) * 19683))), none, none] d_inp_readLabel_43 (by decide) rfl ?_
      refine Zn_sipush (nI 729) d_inp_readLabel_44 (by decide) ?_
      refine Zn_istore_n [some (.ref 93), some (.int (nI (ch p - 48))), some (.int (nI ((ch p - 48) * 19683))), some (.int (nI 729)), none] d_inp_readLabel_47 (by decide) rfl ?_
      refine Zn_iconst (nI 0) d_inp_readLabel_48 (by decide) ?_
      refine Zn_istore [some (.ref 93), some (.int (nI (ch p - 48))), some (.int (nI ((ch p - 48) * 19683))), some (.int (nI 729)), some (.int (nI 0))] d_inp_readLabel_49 (by decide) rfl ?_
      refine Z_iload d_inp_readLabel_51 rfl ?_
      refine Zn_iconst (nI 3) d_inp_readLabel_53 (by decide) ?_
      refine Zn_icmp_ge (a := 0) (b := 3) (tgt := 103) d_inp_readLabel_54 (by decide) (by decide) (by decide) (fun h => absurd h (by decide)) (fun _ => ?_)
      refine Z_aload_n d_inp_readLabel_57 rfl ?_
      refine Zn_bipush (nI 65) d_inp_readLabel_58 (by decide) ?_
      refine Zn_bipush (nI 90) d_inp_readLabel_60 (by decide) ?_
      refine zVe (As := [.int (nI 65), .int (nI 90)]) (by omega) d_inp_readLabel_62 lm_inp_105 hP.1 rfl rfl (Nat.le_of_ble_eq_true rfl) (in_nb_ok (d + 1) hP ⟨hO1, by omega, hO3⟩ (by decide) (by decide)) ?_
      have hle := b10_lt (x := nb len ch (p + 1) 65 90)
      refine Zn_if_eq (tgt := 103) d_inp_readLabel_65 (by decide) (by omega) (fun h65 => ?_) (fun h65 => ?_)
      · skip
        have n_3 : nb len ch (p + 1) 65 90 = false := b10_f h65
        refine Z_iload_n d_inp_readLabel_103 rfl ?_
        refine Z_iret d_inp_readLabel_104 rfl ?_
        have hz : pLab len ch p = ((ch p - 48) * 19683, p + 1) := by simp [pLab, pNum, pSuf, n_1, n_2, n_3]
        exact ⟨by rw [hz], by rw [hz]; exact hP, hF⟩
      · skip
        have n_4 : nb len ch (p + 1) 65 90 = true := b10_t h65
        have in_4 := nb_iff.mp n_4
        refine Z_iload_n d_inp_readLabel_68 rfl ?_
        refine Z_aload_n d_inp_readLabel_69 rfl ?_
        refine zVe (As := []) (by omega) d_inp_readLabel_70 lm_inp_23 hP.1 rfl rfl (Nat.le_of_ble_eq_true rfl) (in_peek_ok (d + 2) hP ⟨hO1, by omega, hO3⟩) ?_
        rw [show pk len ch (p + 1) = some (ch (p + 1)) from if_pos (by omega)]
        refine Zn_bipush (nI 65) d_inp_readLabel_73 (by decide) ?_
        refine Zn_isub d_inp_readLabel_75 (by omega) ?_
        refine Zn_iconst (nI 1) d_inp_readLabel_76 (by decide) ?_
        refine Zn_iadd d_inp_readLabel_77 ?_
        refine Z_iload_n d_inp_readLabel_78 rfl ?_
        refine Zn_imul d_inp_readLabel_79 ?_
        refine Zn_iadd d_inp_readLabel_80 ?_
        refine Zn_istore_n [some (.ref 93), some (.int (nI (ch p - 48))), some (.int (nI (((ch p - 48) * 19683) + ((((ch (p + 1)) - 65) + 1) * 729)))), some (.int (nI 729)), some (.int (nI 0))] d_inp_readLabel_81 (by decide) rfl ?_
        refine Z_iload_n d_inp_readLabel_82 rfl ?_
        refine Zn_bipush (nI 27) d_inp_readLabel_83 (by decide) ?_
        refine Zn_idiv d_inp_readLabel_85 (by decide) (by decide) (by decide) ?_
        refine Zn_istore_n [some (.ref 93), some (.int (nI (ch p - 48))), some (.int (nI (((ch p - 48) * 19683) + ((((ch (p + 1)) - 65) + 1) * 729)))), some (.int (nI 27)), some (.int (nI 0))] d_inp_readLabel_86 (by decide) rfl ?_
        refine Z_aload_n d_inp_readLabel_87 rfl ?_
        refine Z_dup d_inp_readLabel_88 rfl ?_
        refine Z_get d_inp_readLabel_89 lf_inp_15 hP.1 rfl ?_
        refine Zn_iconst (nI 1) d_inp_readLabel_92 (by decide) ?_
        refine Zn_iadd d_inp_readLabel_93 ?_
        refine Z_puti d_inp_readLabel_94 lf_inp_15 hP.1 rfl rfl (Nat.le_of_ble_eq_true rfl) ?_
        have hP := hP.pos (p' := (p + 1) + 1)
        have hF := hF.set (c := 93) (x := .inr (1, [.ref 94, .int (nI len), .int (nI ((p + 1) + 1))])) (by omega) (by omega)
        refine Zn_iinc [some (.ref 93), some (.int (nI (ch p - 48))), some (.int (nI (((ch p - 48) * 19683) + ((((ch (p + 1)) - 65) + 1) * 729)))), some (.int (nI 27)), some (.int (nI 1))] (nI 1) d_inp_readLabel_97 rfl (by decide) (nI_add 0 1) rfl ?_
        refine Z_goto (tgt := 51) d_inp_readLabel_100 (by decide) ?_
        refine Z_iload d_inp_readLabel_51 rfl ?_
        refine Zn_iconst (nI 3) d_inp_readLabel_53 (by decide) ?_
        refine Zn_icmp_ge (a := 1) (b := 3) (tgt := 103) d_inp_readLabel_54 (by decide) (by decide) (by decide) (fun h => absurd h (by decide)) (fun _ => ?_)
        refine Z_aload_n d_inp_readLabel_57 rfl ?_
        refine Zn_bipush (nI 65) d_inp_readLabel_58 (by decide) ?_
        refine Zn_bipush (nI 90) d_inp_readLabel_60 (by decide) ?_
        refine zVe (As := [.int (nI 65), .int (nI 90)]) (by omega) d_inp_readLabel_62 lm_inp_105 hP.1 rfl rfl (Nat.le_of_ble_eq_true rfl) (in_nb_ok (d + 1) hP ⟨hO1, by omega, hO3⟩ (by decide) (by decide)) ?_
        have hle := b10_lt (x := nb len ch ((p + 1) + 1) 65 90)
        refine Zn_if_eq (tgt := 103) d_inp_readLabel_65 (by decide) (by omega) (fun h65 => ?_) (fun h65 => ?_)
        · skip
          have n_5 : nb len ch ((p + 1) + 1) 65 90 = false := b10_f h65
          refine Z_iload_n d_inp_readLabel_103 rfl ?_
          refine Z_iret d_inp_readLabel_104 rfl ?_
          have hz : pLab len ch p = (((ch p - 48) * 19683) + ((((ch (p + 1)) - 65) + 1) * 729), (p + 1) + 1) := by simp [pLab, pNum, pSuf, n_1, n_2, n_4, n_5]
          exact ⟨by rw [hz], by rw [hz]; exact hP, hF⟩
        · skip
          have n_6 : nb len ch ((p + 1) + 1) 65 90 = true := b10_t h65
          have in_6 := nb_iff.mp n_6
          refine Z_iload_n d_inp_readLabel_68 rfl ?_
          refine Z_aload_n d_inp_readLabel_69 rfl ?_
          refine zVe (As := []) (by omega) d_inp_readLabel_70 lm_inp_23 hP.1 rfl rfl (Nat.le_of_ble_eq_true rfl) (in_peek_ok (d + 2) hP ⟨hO1, by omega, hO3⟩) ?_
          rw [show pk len ch ((p + 1) + 1) = some (ch ((p + 1) + 1)) from if_pos (by omega)]
          refine Zn_bipush (nI 65) d_inp_readLabel_73 (by decide) ?_
          refine Zn_isub d_inp_readLabel_75 (by omega) ?_
          refine Zn_iconst (nI 1) d_inp_readLabel_76 (by decide) ?_
          refine Zn_iadd d_inp_readLabel_77 ?_
          refine Z_iload_n d_inp_readLabel_78 rfl ?_
          refine Zn_imul d_inp_readLabel_79 ?_
          refine Zn_iadd d_inp_readLabel_80 ?_
          refine Zn_istore_n [some (.ref 93), some (.int (nI (ch p - 48))), some (.int (nI ((((ch p - 48) * 19683) + ((((ch (p + 1)) - 65) + 1) * 729)) + ((((ch ((p + 1) + 1)) - 65) + 1) * 27)))), some (.int (nI 27)), some (.int (nI 1))] d_inp_readLabel_81 (by decide) rfl ?_
          refine Z_iload_n d_inp_readLabel_82 rfl ?_
          refine Zn_bipush (nI 27) d_inp_readLabel_83 (by decide) ?_
          refine Zn_idiv d_inp_readLabel_85 (by decide) (by decide) (by decide) ?_
          refine Zn_istore_n [some (.ref 93), some (.int (nI (ch p - 48))), some (.int (nI ((((ch p - 48) * 19683) + ((((ch (p + 1)) - 65) + 1) * 729)) + ((((ch ((p + 1) + 1)) - 65) + 1) * 27)))), some (.int (nI 1)), some (.int (nI 1))] d_inp_readLabel_86 (by decide) rfl ?_
          refine Z_aload_n d_inp_readLabel_87 rfl ?_
          refine Z_dup d_inp_readLabel_88 rfl ?_
          refine Z_get d_inp_readLabel_89 lf_inp_15 hP.1 rfl ?_
          refine Zn_iconst (nI 1) d_inp_readLabel_92 (by decide) ?_
          refine Zn_iadd d_inp_readLabel_93 ?_
          refine Z_puti d_inp_readLabel_94 lf_inp_15 hP.1 rfl rfl (Nat.le_of_ble_eq_true rfl) ?_
          have hP := hP.pos (p' := ((p + 1) + 1) + 1)
          have hF := hF.set (c := 93) (x := .inr (1, [.ref 94, .int (nI len), .int (nI (((p + 1) + 1) + 1))])) (by omega) (by omega)
          refine Zn_iinc [some (.ref 93), some (.int (nI (ch p - 48))), some (.int (nI ((((ch p - 48) * 19683) + ((((ch (p + 1)) - 65) + 1) * 729)) + ((((ch ((p + 1) + 1)) - 65) + 1) * 27)))), some (.int (nI 1)), some (.int (nI 2))] (nI 2) d_inp_readLabel_97 rfl (by decide) (nI_add 1 1) rfl ?_
          refine Z_goto (tgt := 51) d_inp_readLabel_100 (by decide) ?_
          refine Z_iload d_inp_readLabel_51 rfl ?_
          refine Zn_iconst (nI 3) d_inp_readLabel_53 (by decide) ?_
          refine Zn_icmp_ge (a := 2) (b := 3) (tgt := 103) d_inp_readLabel_54 (by decide) (by decide) (by decide) (fun h => absurd h (by decide)) (fun _ => ?_)
          refine Z_aload_n d_inp_readLabel_57 rfl ?_
          refine Zn_bipush (nI 65) d_inp_readLabel_58 (by decide) ?_
          refine Zn_bipush (nI 90) d_inp_readLabel_60 (by decide) ?_
          refine zVe (As := [.int (nI 65), .int (nI 90)]) (by omega) d_inp_readLabel_62 lm_inp_105 hP.1 rfl rfl (Nat.le_of_ble_eq_true rfl) (in_nb_ok (d + 1) hP ⟨hO1, by omega, hO3⟩ (by decide) (by decide)) ?_
          have hle := b10_lt (x := nb len ch (((p + 1) + 1) + 1) 65 90)
          refine Zn_if_eq (tgt := 103) d_inp_readLabel_65 (by decide) (by omega) (fun h65 => ?_) (fun h65 => ?_)
          · skip
            have n_7 : nb len ch (((p + 1) + 1) + 1) 65 90 = false := b10_f h65
            refine Z_iload_n d_inp_readLabel_103 rfl ?_
            refine Z_iret d_inp_readLabel_104 rfl ?_
            have hz : pLab len ch p = ((((ch p - 48) * 19683) + ((((ch (p + 1)) - 65) + 1) * 729)) + ((((ch ((p + 1) + 1)) - 65) + 1) * 27), ((p + 1) + 1) + 1) := by simp [pLab, pNum, pSuf, n_1, n_2, n_4, n_6, n_7]
            exact ⟨by rw [hz], by rw [hz]; exact hP, hF⟩
          · skip
            have n_8 : nb len ch (((p + 1) + 1) + 1) 65 90 = true := b10_t h65
            have in_8 := nb_iff.mp n_8
            refine Z_iload_n d_inp_readLabel_68 rfl ?_
            refine Z_aload_n d_inp_readLabel_69 rfl ?_
            refine zVe (As := []) (by omega) d_inp_readLabel_70 lm_inp_23 hP.1 rfl rfl (Nat.le_of_ble_eq_true rfl) (in_peek_ok (d + 2) hP ⟨hO1, by omega, hO3⟩) ?_
            rw [show pk len ch (((p + 1) + 1) + 1) = some (ch (((p + 1) + 1) + 1)) from if_pos (by omega)]
            refine Zn_bipush (nI 65) d_inp_readLabel_73 (by decide) ?_
            refine Zn_isub d_inp_readLabel_75 (by omega) ?_
            refine Zn_iconst (nI 1) d_inp_readLabel_76 (by decide) ?_
            refine Zn_iadd d_inp_readLabel_77 ?_
            refine Z_iload_n d_inp_readLabel_78 rfl ?_
            refine Zn_imul d_inp_readLabel_79 ?_
            refine Zn_iadd d_inp_readLabel_80 ?_
            refine Zn_istore_n [some (.ref 93), some (.int (nI (ch p - 48))), some (.int (nI (((((ch p - 48) * 19683) + ((((ch (p + 1)) - 65) + 1) * 729)) + ((((ch ((p + 1) + 1)) - 65) + 1) * 27)) + ((((ch (((p + 1) + 1) + 1)) - 65) + 1) * 1)))), some (.int (nI 1)), some (.int (nI 2))] d_inp_readLabel_81 (by decide) rfl ?_
            refine Z_iload_n d_inp_readLabel_82 rfl ?_
            refine Zn_bipush (nI 27) d_inp_readLabel_83 (by decide) ?_
            refine Zn_idiv d_inp_readLabel_85 (by decide) (by decide) (by decide) ?_
            refine Zn_istore_n [some (.ref 93), some (.int (nI (ch p - 48))), some (.int (nI (((((ch p - 48) * 19683) + ((((ch (p + 1)) - 65) + 1) * 729)) + ((((ch ((p + 1) + 1)) - 65) + 1) * 27)) + ((((ch (((p + 1) + 1) + 1)) - 65) + 1) * 1)))), some (.int (nI 0)), some (.int (nI 2))] d_inp_readLabel_86 (by decide) rfl ?_
            refine Z_aload_n d_inp_readLabel_87 rfl ?_
            refine Z_dup d_inp_readLabel_88 rfl ?_
            refine Z_get d_inp_readLabel_89 lf_inp_15 hP.1 rfl ?_
            refine Zn_iconst (nI 1) d_inp_readLabel_92 (by decide) ?_
            refine Zn_iadd d_inp_readLabel_93 ?_
            refine Z_puti d_inp_readLabel_94 lf_inp_15 hP.1 rfl rfl (Nat.le_of_ble_eq_true rfl) ?_
            have hP := hP.pos (p' := (((p + 1) + 1) + 1) + 1)
            have hF := hF.set (c := 93) (x := .inr (1, [.ref 94, .int (nI len), .int (nI ((((p + 1) + 1) + 1) + 1))])) (by omega) (by omega)
            refine Zn_iinc [some (.ref 93), some (.int (nI (ch p - 48))), some (.int (nI (((((ch p - 48) * 19683) + ((((ch (p + 1)) - 65) + 1) * 729)) + ((((ch ((p + 1) + 1)) - 65) + 1) * 27)) + ((((ch (((p + 1) + 1) + 1)) - 65) + 1) * 1)))), some (.int (nI 0)), some (.int (nI 3))] (nI 3) d_inp_readLabel_97 rfl (by decide) (nI_add 2 1) rfl ?_
            refine Z_goto (tgt := 51) d_inp_readLabel_100 (by decide) ?_
            refine Z_iload d_inp_readLabel_51 rfl ?_
            refine Zn_iconst (nI 3) d_inp_readLabel_53 (by decide) ?_
            refine Zn_icmp_ge (a := 3) (b := 3) (tgt := 103) d_inp_readLabel_54 (by decide) (by decide) (by decide) (fun _ => ?_) (fun h => absurd h (by decide))
            refine Z_iload_n d_inp_readLabel_103 rfl ?_
            refine Z_iret d_inp_readLabel_104 rfl ?_
            have hz : pLab len ch p = (((((ch p - 48) * 19683) + ((((ch (p + 1)) - 65) + 1) * 729)) + ((((ch ((p + 1) + 1)) - 65) + 1) * 27)) + ((((ch (((p + 1) + 1) + 1)) - 65) + 1) * 1), (((p + 1) + 1) + 1) + 1) := by simp [pLab, pNum, pSuf, n_1, n_2, n_4, n_6, n_8]
            exact ⟨by rw [hz], by rw [hz]; exact hP, hF⟩
    · skip
      have n_9 : nb len ch (p + 1) 48 57 = true := b10_t h26
      have in_9 := nb_iff.mp n_9
      refine Z_iload_n d_inp_readLabel_29 rfl ?_
      refine Zn_bipush (nI 10) d_inp_readLabel_30 (by decide) ?_
      refine Zn_imul d_inp_readLabel_32 ?_
      refine Z_aload_n d_inp_readLabel_33 rfl ?_
      refine zV (As := []) (by omega) d_inp_readLabel_34 lm_inp_109 hP.1 rfl rfl (Nat.le_of_ble_eq_true rfl) (in_takeDigit_ok (d + 1) hP ⟨hO1, by omega, hO3⟩ (by omega) (by omega)) (fun M1 v hq hlen => ?_)
      obtain ⟨rfl, hP, hF1⟩ := hq
      replace hF := hF.trans hF1
      refine Zn_iadd d_inp_readLabel_37 ?_
      refine Zn_istore_n [some (.ref 93), some (.int (nI (((ch p - 48) * 10) + (ch (p + 1) - 48)))), none, none, none] d_inp_readLabel_38 (by decide) rfl ?_
      refine Z_iload_n d_inp_readLabel_39 rfl ?_
      refine zTe (As := [.int (nI (((ch p - 48) * 10) + (ch (p + 1) - 48)))]) (by omega) d_inp_readLabel_40 lm_inp_112 rfl (Nat.le_of_ble_eq_true rfl) (pa_labelOfNumber_ok (d + 2)) ?_
      refine Zn_istore_n [some (.ref 93), some (.int (nI (((ch p - 48) * 10) + (ch (p + 1) - 48)))), some (.int (nI ((((ch p - 48) * 10) + (ch (p + 1) - 48)) * 19683))), none, none] d_inp_readLabel_43 (by decide) rfl ?_
      refine Zn_sipush (nI 729) d_inp_readLabel_44 (by decide) ?_
      refine Zn_istore_n [some (.ref 93), some (.int (nI (((ch p - 48) * 10) + (ch (p + 1) - 48)))), some (.int (nI ((((ch p - 48) * 10) + (ch (p + 1) - 48)) * 19683))), some (.int (nI 729)), none] d_inp_readLabel_47 (by decide) rfl ?_
      refine Zn_iconst (nI 0) d_inp_readLabel_48 (by decide) ?_
      refine Zn_istore [some (.ref 93), some (.int (nI (((ch p - 48) * 10) + (ch (p + 1) - 48)))), some (.int (nI ((((ch p - 48) * 10) + (ch (p + 1) - 48)) * 19683))), some (.int (nI 729)), some (.int (nI 0))] d_inp_readLabel_49 (by decide) rfl ?_
      refine Z_iload d_inp_readLabel_51 rfl ?_
      refine Zn_iconst (nI 3) d_inp_readLabel_53 (by decide) ?_
      refine Zn_icmp_ge (a := 0) (b := 3) (tgt := 103) d_inp_readLabel_54 (by decide) (by decide) (by decide) (fun h => absurd h (by decide)) (fun _ => ?_)
      refine Z_aload_n d_inp_readLabel_57 rfl ?_
      refine Zn_bipush (nI 65) d_inp_readLabel_58 (by decide) ?_
      refine Zn_bipush (nI 90) d_inp_readLabel_60 (by decide) ?_
      refine zVe (As := [.int (nI 65), .int (nI 90)]) (by omega) d_inp_readLabel_62 lm_inp_105 hP.1 rfl rfl (Nat.le_of_ble_eq_true rfl) (in_nb_ok (d + 1) hP ⟨hO1, by omega, hO3⟩ (by decide) (by decide)) ?_
      have hle := b10_lt (x := nb len ch ((p + 1) + 1) 65 90)
      refine Zn_if_eq (tgt := 103) d_inp_readLabel_65 (by decide) (by omega) (fun h65 => ?_) (fun h65 => ?_)
      · skip
        have n_10 : nb len ch ((p + 1) + 1) 65 90 = false := b10_f h65
        refine Z_iload_n d_inp_readLabel_103 rfl ?_
        refine Z_iret d_inp_readLabel_104 rfl ?_
        have hz : pLab len ch p = ((((ch p - 48) * 10) + (ch (p + 1) - 48)) * 19683, (p + 1) + 1) := by simp [pLab, pNum, pSuf, n_1, n_9, n_10]
        exact ⟨by rw [hz], by rw [hz]; exact hP, hF⟩
      · skip
        have n_11 : nb len ch ((p + 1) + 1) 65 90 = true := b10_t h65
        have in_11 := nb_iff.mp n_11
        refine Z_iload_n d_inp_readLabel_68 rfl ?_
        refine Z_aload_n d_inp_readLabel_69 rfl ?_
        refine zVe (As := []) (by omega) d_inp_readLabel_70 lm_inp_23 hP.1 rfl rfl (Nat.le_of_ble_eq_true rfl) (in_peek_ok (d + 2) hP ⟨hO1, by omega, hO3⟩) ?_
        rw [show pk len ch ((p + 1) + 1) = some (ch ((p + 1) + 1)) from if_pos (by omega)]
        refine Zn_bipush (nI 65) d_inp_readLabel_73 (by decide) ?_
        refine Zn_isub d_inp_readLabel_75 (by omega) ?_
        refine Zn_iconst (nI 1) d_inp_readLabel_76 (by decide) ?_
        refine Zn_iadd d_inp_readLabel_77 ?_
        refine Z_iload_n d_inp_readLabel_78 rfl ?_
        refine Zn_imul d_inp_readLabel_79 ?_
        refine Zn_iadd d_inp_readLabel_80 ?_
        refine Zn_istore_n [some (.ref 93), some (.int (nI (((ch p - 48) * 10) + (ch (p + 1) - 48)))), some (.int (nI (((((ch p - 48) * 10) + (ch (p + 1) - 48)) * 19683) + ((((ch ((p + 1) + 1)) - 65) + 1) * 729)))), some (.int (nI 729)), some (.int (nI 0))] d_inp_readLabel_81 (by decide) rfl ?_
        refine Z_iload_n d_inp_readLabel_82 rfl ?_
        refine Zn_bipush (nI 27) d_inp_readLabel_83 (by decide) ?_
        refine Zn_idiv d_inp_readLabel_85 (by decide) (by decide) (by decide) ?_
        refine Zn_istore_n [some (.ref 93), some (.int (nI (((ch p - 48) * 10) + (ch (p + 1) - 48)))), some (.int (nI (((((ch p - 48) * 10) + (ch (p + 1) - 48)) * 19683) + ((((ch ((p + 1) + 1)) - 65) + 1) * 729)))), some (.int (nI 27)), some (.int (nI 0))] d_inp_readLabel_86 (by decide) rfl ?_
        refine Z_aload_n d_inp_readLabel_87 rfl ?_
        refine Z_dup d_inp_readLabel_88 rfl ?_
        refine Z_get d_inp_readLabel_89 lf_inp_15 hP.1 rfl ?_
        refine Zn_iconst (nI 1) d_inp_readLabel_92 (by decide) ?_
        refine Zn_iadd d_inp_readLabel_93 ?_
        refine Z_puti d_inp_readLabel_94 lf_inp_15 hP.1 rfl rfl (Nat.le_of_ble_eq_true rfl) ?_
        have hP := hP.pos (p' := ((p + 1) + 1) + 1)
        have hF := hF.set (c := 93) (x := .inr (1, [.ref 94, .int (nI len), .int (nI (((p + 1) + 1) + 1))])) (by omega) (by omega)
        refine Zn_iinc [some (.ref 93), some (.int (nI (((ch p - 48) * 10) + (ch (p + 1) - 48)))), some (.int (nI (((((ch p - 48) * 10) + (ch (p + 1) - 48)) * 19683) + ((((ch ((p + 1) + 1)) - 65) + 1) * 729)))), some (.int (nI 27)), some (.int (nI 1))] (nI 1) d_inp_readLabel_97 rfl (by decide) (nI_add 0 1) rfl ?_
        refine Z_goto (tgt := 51) d_inp_readLabel_100 (by decide) ?_
        refine Z_iload d_inp_readLabel_51 rfl ?_
        refine Zn_iconst (nI 3) d_inp_readLabel_53 (by decide) ?_
        refine Zn_icmp_ge (a := 1) (b := 3) (tgt := 103) d_inp_readLabel_54 (by decide) (by decide) (by decide) (fun h => absurd h (by decide)) (fun _ => ?_)
        refine Z_aload_n d_inp_readLabel_57 rfl ?_
        refine Zn_bipush (nI 65) d_inp_readLabel_58 (by decide) ?_
        refine Zn_bipush (nI 90) d_inp_readLabel_60 (by decide) ?_
        refine zVe (As := [.int (nI 65), .int (nI 90)]) (by omega) d_inp_readLabel_62 lm_inp_105 hP.1 rfl rfl (Nat.le_of_ble_eq_true rfl) (in_nb_ok (d + 1) hP ⟨hO1, by omega, hO3⟩ (by decide) (by decide)) ?_
        have hle := b10_lt (x := nb len ch (((p + 1) + 1) + 1) 65 90)
        refine Zn_if_eq (tgt := 103) d_inp_readLabel_65 (by decide) (by omega) (fun h65 => ?_) (fun h65 => ?_)
        · skip
          have n_12 : nb len ch (((p + 1) + 1) + 1) 65 90 = false := b10_f h65
          refine Z_iload_n d_inp_readLabel_103 rfl ?_
          refine Z_iret d_inp_readLabel_104 rfl ?_
          have hz : pLab len ch p = (((((ch p - 48) * 10) + (ch (p + 1) - 48)) * 19683) + ((((ch ((p + 1) + 1)) - 65) + 1) * 729), ((p + 1) + 1) + 1) := by simp [pLab, pNum, pSuf, n_1, n_9, n_11, n_12]
          exact ⟨by rw [hz], by rw [hz]; exact hP, hF⟩
        · skip
          have n_13 : nb len ch (((p + 1) + 1) + 1) 65 90 = true := b10_t h65
          have in_13 := nb_iff.mp n_13
          refine Z_iload_n d_inp_readLabel_68 rfl ?_
          refine Z_aload_n d_inp_readLabel_69 rfl ?_
          refine zVe (As := []) (by omega) d_inp_readLabel_70 lm_inp_23 hP.1 rfl rfl (Nat.le_of_ble_eq_true rfl) (in_peek_ok (d + 2) hP ⟨hO1, by omega, hO3⟩) ?_
          rw [show pk len ch (((p + 1) + 1) + 1) = some (ch (((p + 1) + 1) + 1)) from if_pos (by omega)]
          refine Zn_bipush (nI 65) d_inp_readLabel_73 (by decide) ?_
          refine Zn_isub d_inp_readLabel_75 (by omega) ?_
          refine Zn_iconst (nI 1) d_inp_readLabel_76 (by decide) ?_
          refine Zn_iadd d_inp_readLabel_77 ?_
          refine Z_iload_n d_inp_readLabel_78 rfl ?_
          refine Zn_imul d_inp_readLabel_79 ?_
          refine Zn_iadd d_inp_readLabel_80 ?_
          refine Zn_istore_n [some (.ref 93), some (.int (nI (((ch p - 48) * 10) + (ch (p + 1) - 48)))), some (.int (nI ((((((ch p - 48) * 10) + (ch (p + 1) - 48)) * 19683) + ((((ch ((p + 1) + 1)) - 65) + 1) * 729)) + ((((ch (((p + 1) + 1) + 1)) - 65) + 1) * 27)))), some (.int (nI 27)), some (.int (nI 1))] d_inp_readLabel_81 (by decide) rfl ?_
          refine Z_iload_n d_inp_readLabel_82 rfl ?_
          refine Zn_bipush (nI 27) d_inp_readLabel_83 (by decide) ?_
          refine Zn_idiv d_inp_readLabel_85 (by decide) (by decide) (by decide) ?_
          refine Zn_istore_n [some (.ref 93), some (.int (nI (((ch p - 48) * 10) + (ch (p + 1) - 48)))), some (.int (nI ((((((ch p - 48) * 10) + (ch (p + 1) - 48)) * 19683) + ((((ch ((p + 1) + 1)) - 65) + 1) * 729)) + ((((ch (((p + 1) + 1) + 1)) - 65) + 1) * 27)))), some (.int (nI 1)), some (.int (nI 1))] d_inp_readLabel_86 (by decide) rfl ?_
          refine Z_aload_n d_inp_readLabel_87 rfl ?_
          refine Z_dup d_inp_readLabel_88 rfl ?_
          refine Z_get d_inp_readLabel_89 lf_inp_15 hP.1 rfl ?_
          refine Zn_iconst (nI 1) d_inp_readLabel_92 (by decide) ?_
          refine Zn_iadd d_inp_readLabel_93 ?_
          refine Z_puti d_inp_readLabel_94 lf_inp_15 hP.1 rfl rfl (Nat.le_of_ble_eq_true rfl) ?_
          have hP := hP.pos (p' := (((p + 1) + 1) + 1) + 1)
          have hF := hF.set (c := 93) (x := .inr (1, [.ref 94, .int (nI len), .int (nI ((((p + 1) + 1) + 1) + 1))])) (by omega) (by omega)
          refine Zn_iinc [some (.ref 93), some (.int (nI (((ch p - 48) * 10) + (ch (p + 1) - 48)))), some (.int (nI ((((((ch p - 48) * 10) + (ch (p + 1) - 48)) * 19683) + ((((ch ((p + 1) + 1)) - 65) + 1) * 729)) + ((((ch (((p + 1) + 1) + 1)) - 65) + 1) * 27)))), some (.int (nI 1)), some (.int (nI 2))] (nI 2) d_inp_readLabel_97 rfl (by decide) (nI_add 1 1) rfl ?_
          refine Z_goto (tgt := 51) d_inp_readLabel_100 (by decide) ?_
          refine Z_iload d_inp_readLabel_51 rfl ?_
          refine Zn_iconst (nI 3) d_inp_readLabel_53 (by decide) ?_
          refine Zn_icmp_ge (a := 2) (b := 3) (tgt := 103) d_inp_readLabel_54 (by decide) (by decide) (by decide) (fun h => absurd h (by decide)) (fun _ => ?_)
          refine Z_aload_n d_inp_readLabel_57 rfl ?_
          refine Zn_bipush (nI 65) d_inp_readLabel_58 (by decide) ?_
          refine Zn_bipush (nI 90) d_inp_readLabel_60 (by decide) ?_
          refine zVe (As := [.int (nI 65), .int (nI 90)]) (by omega) d_inp_readLabel_62 lm_inp_105 hP.1 rfl rfl (Nat.le_of_ble_eq_true rfl) (in_nb_ok (d + 1) hP ⟨hO1, by omega, hO3⟩ (by decide) (by decide)) ?_
          have hle := b10_lt (x := nb len ch ((((p + 1) + 1) + 1) + 1) 65 90)
          refine Zn_if_eq (tgt := 103) d_inp_readLabel_65 (by decide) (by omega) (fun h65 => ?_) (fun h65 => ?_)
          · skip
            have n_14 : nb len ch ((((p + 1) + 1) + 1) + 1) 65 90 = false := b10_f h65
            refine Z_iload_n d_inp_readLabel_103 rfl ?_
            refine Z_iret d_inp_readLabel_104 rfl ?_
            have hz : pLab len ch p = ((((((ch p - 48) * 10) + (ch (p + 1) - 48)) * 19683) + ((((ch ((p + 1) + 1)) - 65) + 1) * 729)) + ((((ch (((p + 1) + 1) + 1)) - 65) + 1) * 27), (((p + 1) + 1) + 1) + 1) := by simp [pLab, pNum, pSuf, n_1, n_9, n_11, n_13, n_14]
            exact ⟨by rw [hz], by rw [hz]; exact hP, hF⟩
          · skip
            have n_15 : nb len ch ((((p + 1) + 1) + 1) + 1) 65 90 = true := b10_t h65
            have in_15 := nb_iff.mp n_15
            refine Z_iload_n d_inp_readLabel_68 rfl ?_
            refine Z_aload_n d_inp_readLabel_69 rfl ?_
            refine zVe (As := []) (by omega) d_inp_readLabel_70 lm_inp_23 hP.1 rfl rfl (Nat.le_of_ble_eq_true rfl) (in_peek_ok (d + 2) hP ⟨hO1, by omega, hO3⟩) ?_
            rw [show pk len ch ((((p + 1) + 1) + 1) + 1) = some (ch ((((p + 1) + 1) + 1) + 1)) from if_pos (by omega)]
            refine Zn_bipush (nI 65) d_inp_readLabel_73 (by decide) ?_
            refine Zn_isub d_inp_readLabel_75 (by omega) ?_
            refine Zn_iconst (nI 1) d_inp_readLabel_76 (by decide) ?_
            refine Zn_iadd d_inp_readLabel_77 ?_
            refine Z_iload_n d_inp_readLabel_78 rfl ?_
            refine Zn_imul d_inp_readLabel_79 ?_
            refine Zn_iadd d_inp_readLabel_80 ?_
            refine Zn_istore_n [some (.ref 93), some (.int (nI (((ch p - 48) * 10) + (ch (p + 1) - 48)))), some (.int (nI (((((((ch p - 48) * 10) + (ch (p + 1) - 48)) * 19683) + ((((ch ((p + 1) + 1)) - 65) + 1) * 729)) + ((((ch (((p + 1) + 1) + 1)) - 65) + 1) * 27)) + ((((ch ((((p + 1) + 1) + 1) + 1)) - 65) + 1) * 1)))), some (.int (nI 1)), some (.int (nI 2))] d_inp_readLabel_81 (by decide) rfl ?_
            refine Z_iload_n d_inp_readLabel_82 rfl ?_
            refine Zn_bipush (nI 27) d_inp_readLabel_83 (by decide) ?_
            refine Zn_idiv d_inp_readLabel_85 (by decide) (by decide) (by decide) ?_
            refine Zn_istore_n [some (.ref 93), some (.int (nI (((ch p - 48) * 10) + (ch (p + 1) - 48)))), some (.int (nI (((((((ch p - 48) * 10) + (ch (p + 1) - 48)) * 19683) + ((((ch ((p + 1) + 1)) - 65) + 1) * 729)) + ((((ch (((p + 1) + 1) + 1)) - 65) + 1) * 27)) + ((((ch ((((p + 1) + 1) + 1) + 1)) - 65) + 1) * 1)))), some (.int (nI 0)), some (.int (nI 2))] d_inp_readLabel_86 (by decide) rfl ?_
            refine Z_aload_n d_inp_readLabel_87 rfl ?_
            refine Z_dup d_inp_readLabel_88 rfl ?_
            refine Z_get d_inp_readLabel_89 lf_inp_15 hP.1 rfl ?_
            refine Zn_iconst (nI 1) d_inp_readLabel_92 (by decide) ?_
            refine Zn_iadd d_inp_readLabel_93 ?_
            refine Z_puti d_inp_readLabel_94 lf_inp_15 hP.1 rfl rfl (Nat.le_of_ble_eq_true rfl) ?_
            have hP := hP.pos (p' := ((((p + 1) + 1) + 1) + 1) + 1)
            have hF := hF.set (c := 93) (x := .inr (1, [.ref 94, .int (nI len), .int (nI (((((p + 1) + 1) + 1) + 1) + 1))])) (by omega) (by omega)
            refine Zn_iinc [some (.ref 93), some (.int (nI (((ch p - 48) * 10) + (ch (p + 1) - 48)))), some (.int (nI (((((((ch p - 48) * 10) + (ch (p + 1) - 48)) * 19683) + ((((ch ((p + 1) + 1)) - 65) + 1) * 729)) + ((((ch (((p + 1) + 1) + 1)) - 65) + 1) * 27)) + ((((ch ((((p + 1) + 1) + 1) + 1)) - 65) + 1) * 1)))), some (.int (nI 0)), some (.int (nI 3))] (nI 3) d_inp_readLabel_97 rfl (by decide) (nI_add 2 1) rfl ?_
            refine Z_goto (tgt := 51) d_inp_readLabel_100 (by decide) ?_
            refine Z_iload d_inp_readLabel_51 rfl ?_
            refine Zn_iconst (nI 3) d_inp_readLabel_53 (by decide) ?_
            refine Zn_icmp_ge (a := 3) (b := 3) (tgt := 103) d_inp_readLabel_54 (by decide) (by decide) (by decide) (fun _ => ?_) (fun h => absurd h (by decide))
            refine Z_iload_n d_inp_readLabel_103 rfl ?_
            refine Z_iret d_inp_readLabel_104 rfl ?_
            have hz : pLab len ch p = (((((((ch p - 48) * 10) + (ch (p + 1) - 48)) * 19683) + ((((ch ((p + 1) + 1)) - 65) + 1) * 729)) + ((((ch (((p + 1) + 1) + 1)) - 65) + 1) * 27)) + ((((ch ((((p + 1) + 1) + 1) + 1)) - 65) + 1) * 1), ((((p + 1) + 1) + 1) + 1) + 1) := by simp [pLab, pNum, pSuf, n_1, n_9, n_11, n_13, n_15]
            exact ⟨by rw [hz], by rw [hz]; exact hP, hF⟩
  · skip
    have n_16 : nb len ch p 49 57 = false := b10_f h8
    refine Zn_iconst (nI 0) d_inp_readLabel_11 (by decide) ?_
    refine Z_iret d_inp_readLabel_12 rfl ?_
    have hz : pLab len ch p = (0, p) := by simp [pLab, pNum, pSuf, n_16]
    exact ⟨by rw [hz], by rw [hz]; exact hP, hF⟩
