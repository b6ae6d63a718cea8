/-! texts of provisions, paths -/
def pDig (len : Nat) (ch : Nat → Nat) : Nat → Nat → Nat → Nat × Nat
  | 0, v, p => (v, p)
  | k + 1, v, p => if nb len ch p 48 57 = true then pDig len ch k (v * 10 + (ch p - 48)) (p + 1) else (v, p)
def pTx (len : Nat) (ch : Nat → Nat) (p : Nat) : Option Nat × Nat := if nb len ch p 48 57 = true then (some (pDig len ch 4 0 p).1, (pDig len ch 4 0 p).2) else (none, p)
theorem pDig_ok {len : Nat} {ch : Nat → Nat} : ∀ (k v p : Nat), p ≤ len → (pDig len ch k v p).1 < (v + 1) * 10 ^ k ∧ p ≤ (pDig len ch k v p).2 ∧ (pDig len ch k v p).2 ≤ len
  | 0, v, p, h => by simp [pDig, h]
  | k + 1, v, p, h => by
    unfold pDig
    by_cases c : nb len ch p 48 57 = true
    · have d := nb_iff.mp c
      rw [if_pos c]
      have ih := pDig_ok (len := len) (ch := ch) k (v * 10 + (ch p - 48)) (p + 1) (by omega)
      refine ⟨Nat.lt_of_lt_of_le ih.1 ?_, by omega, ih.2.2⟩
      rw [Nat.pow_succ, Nat.mul_comm (10 ^ k) 10, ← Nat.mul_assoc]
      exact Nat.mul_le_mul_right _ (by omega)
    · rw [if_neg c]
      refine ⟨?_, Nat.le_refl _, h⟩
      have : 1 ≤ 10 ^ (k + 1) := Nat.one_le_pow _ _ (by decide)
      calc v < v + 1 := by omega
        _ = (v + 1) * 1 := by omega
        _ ≤ (v + 1) * 10 ^ (k + 1) := Nat.mul_le_mul_left _ this
theorem pTx_ok {len : Nat} {ch : Nat → Nat} {p : Nat} (h : p ≤ len) : (∀ t, (pTx len ch p).1 = some t → t ≤ 9999 ∧ p < (pTx len ch p).2) ∧ p ≤ (pTx len ch p).2 ∧ (pTx len ch p).2 ≤ len := by
  unfold pTx
  by_cases c : nb len ch p 48 57 = true
  · have g := pDig_ok (len := len) (ch := ch) 4 0 p h
    have d := nb_iff.mp c
    have g2 := pDig_ok (len := len) (ch := ch) 3 (0 * 10 + (ch p - 48)) (p + 1) (by omega)
    have e : (pDig len ch 4 0 p) = pDig len ch 3 (0 * 10 + (ch p - 48)) (p + 1) := by
      show (if nb len ch p 48 57 = true then _ else _) = _
      rw [if_pos c]
    rw [if_pos c]
    refine ⟨fun t ht => ?_, g.2⟩
    cases ht
    refine ⟨?_, ?_⟩
    · have := g.1; omega
    · dsimp only; rw [e]; omega
  · rw [if_neg c]
    exact ⟨fun t ht => by simp at ht, Nat.le_refl _, h⟩
def kk (a b c : Nat) : Nat := a * 4398046511104 + b * 2097152 + c
theorem lev_kk {a b c : Nat} (ha : a < 2097152) (hb : b < 2097152) (hc : c < 2097152) : lev (kk a b c) = if c ≠ 0 then 3 else if b ≠ 0 then 2 else if a ≠ 0 then 1 else 0 := by
  have e1 : kk a b c % 2097152 = c := by unfold kk; omega
  have e2 : kk a b c % 4398046511104 = b * 2097152 + c := by unfold kk; omega
  unfold lev
  rw [e1, e2]
  by_cases h1 : c = 0
  · subst h1
    by_cases h2 : b = 0
    · subst h2
      by_cases h3 : a = 0
      · subst h3; rfl
      · have : kk a 0 0 ≠ 0 := by unfold kk; omega
        rw [if_neg (by decide), if_neg (by decide), if_neg this, if_neg (by decide), if_neg (by decide), if_pos h3]
    · have : b * 2097152 + 0 ≠ 0 := by omega
      rw [if_neg (by decide), if_pos this, if_neg (by decide), if_pos h2]
  · rw [if_pos h1, if_pos h1]
theorem putl_a {a : Nat} : putl 0 (lev 0 + 1) a = kk a 0 0 := by
  show putl 0 1 a = _
  unfold putl kk
  rw [un_1]; omega
theorem putl_b {a b : Nat} (h : a ≠ 0) (ha : a < 2097152) (hb : b < 2097152) : putl (kk a 0 0) (lev (kk a 0 0) + 1) b = kk a b 0 := by
  rw [lev_kk ha (by decide) (by decide), if_neg (by decide), if_neg (by decide), if_pos h]
  show putl _ 2 b = _
  unfold putl kk
  rw [un_2]; omega
theorem putl_c {a b c : Nat} (h : b ≠ 0) (ha : a < 2097152) (hb : b < 2097152) (hc : c < 2097152) : putl (kk a b 0) (lev (kk a b 0) + 1) c = kk a b c := by
  rw [lev_kk ha hb (by decide), if_neg (by decide), if_pos h]
  show putl _ 3 c = _
  unfold putl kk
  rw [un_3]; omega
theorem kk_lt {a b c : Nat} (ha : a < 2097152) (hb : b < 2097152) (hc : c < 2097152) : kk a b c < 2 ^ 63 := by unfold kk; omega
theorem pa_childOf_a {Γ : zCtx} {M : List zE} (d : Nat) {a : Nat} (ha : a < 2097152) : ZM Γ (d + 2) m_pa_childOf [.long 0, .int (nI a)] M (zEq M (some (.long (lN (kk a 0 0))))) := by
  rw [← putl_a]
  exact pa_childOf_ok d (by decide) (by decide) ha
theorem pa_childOf_b {Γ : zCtx} {M : List zE} (d : Nat) {a b : Nat} (h : a ≠ 0) (ha : a < 2097152) (hb : b < 2097152) : ZM Γ (d + 2) m_pa_childOf [.long (lN (kk a 0 0)), .int (nI b)] M (zEq M (some (.long (lN (kk a b 0))))) := by
  rw [← putl_b h ha hb]
  exact pa_childOf_ok d (kk_lt ha (by decide) (by decide)) (by rw [lev_kk ha (by decide) (by decide), if_neg (by decide), if_neg (by decide), if_pos h]; decide) hb
theorem pa_childOf_c {Γ : zCtx} {M : List zE} (d : Nat) {a b c : Nat} (h : b ≠ 0) (ha : a < 2097152) (hb : b < 2097152) (hc : c < 2097152) : ZM Γ (d + 2) m_pa_childOf [.long (lN (kk a b 0)), .int (nI c)] M (zEq M (some (.long (lN (kk a b c))))) := by
  rw [← putl_c h ha hb hc]
  exact pa_childOf_ok d (kk_lt ha hb (by decide)) (by rw [lev_kk ha hb (by decide), if_neg (by decide), if_pos h]; decide) hc
def pPth (len : Nat) (ch : Nat → Nat) (p : Nat) : Bool × (Nat × Nat × Nat) × Nat :=
  if (pLab len ch p).1 = 0 then (false, (0, 0, 0), (pLab len ch p).2)
  else if tk len ch (pLab len ch p).2 40 = true then
    (if (pLab len ch ((pLab len ch p).2 + 1)).1 = 0 then (false, (0, 0, 0), (pLab len ch ((pLab len ch p).2 + 1)).2)
     else if tk len ch (pLab len ch ((pLab len ch p).2 + 1)).2 41 = true then
       (if tk len ch ((pLab len ch ((pLab len ch p).2 + 1)).2 + 1) 40 = true then
          (if (pLab len ch ((pLab len ch ((pLab len ch p).2 + 1)).2 + 1 + 1)).1 = 0 then (false, (0, 0, 0), (pLab len ch ((pLab len ch ((pLab len ch p).2 + 1)).2 + 1 + 1)).2)
           else if tk len ch (pLab len ch ((pLab len ch ((pLab len ch p).2 + 1)).2 + 1 + 1)).2 41 = true then (true, ((pLab len ch p).1, (pLab len ch ((pLab len ch p).2 + 1)).1, (pLab len ch ((pLab len ch ((pLab len ch p).2 + 1)).2 + 1 + 1)).1), (pLab len ch ((pLab len ch ((pLab len ch p).2 + 1)).2 + 1 + 1)).2 + 1)
           else (false, (0, 0, 0), (pLab len ch ((pLab len ch ((pLab len ch p).2 + 1)).2 + 1 + 1)).2))
        else (true, ((pLab len ch p).1, (pLab len ch ((pLab len ch p).2 + 1)).1, 0), (pLab len ch ((pLab len ch p).2 + 1)).2 + 1))
     else (false, (0, 0, 0), (pLab len ch ((pLab len ch p).2 + 1)).2))
  else (true, ((pLab len ch p).1, 0, 0), (pLab len ch p).2)
def pKey (len : Nat) (ch : Nat → Nat) (p : Nat) : Nat := kk (pPth len ch p).2.1.1 (pPth len ch p).2.1.2.1 (pPth len ch p).2.1.2.2
theorem pLab_gt {len : Nat} {ch : Nat → Nat} {p : Nat} (h : (pLab len ch p).1 ≠ 0) : p < (pLab len ch p).2 := by
  unfold pLab at h ⊢
  by_cases c : nb len ch p 49 57 = true
  · rw [if_pos c]
    have h1 := pNum_ok c
    generalize (pNum len ch p).1 = n at h1 ⊢
    generalize (pNum len ch p).2 = q at h1 ⊢
    simp only [pSuf]
    repeat' split
    all_goals (dsimp only; omega)
  · rw [if_neg c] at h
    exact absurd rfl h
theorem pPth_ok {len : Nat} {ch : Nat → Nat} {p : Nat} (hp : p ≤ len) : p ≤ (pPth len ch p).2.2 ∧ (pPth len ch p).2.2 ≤ len ∧ (pPth len ch p).2.1.1 < 1968300 ∧ (pPth len ch p).2.1.2.1 < 1968300 ∧ (pPth len ch p).2.1.2.2 < 1968300 ∧ ((pPth len ch p).1 = true → p < (pPth len ch p).2.2 ∧ 19683 ≤ (pPth len ch p).2.1.1) := by
  have a1 := pLab_ok (ch := ch) hp
  have b1 := @pLab_gt len ch p
  unfold pPth
  generalize (pLab len ch p).1 = l1 at a1 b1 ⊢
  generalize (pLab len ch p).2 = p1 at a1 b1 ⊢
  by_cases c1 : l1 = 0
  · rw [if_pos c1]; simp; omega
  rw [if_neg c1]
  by_cases c2 : tk len ch p1 40 = true
  · rw [if_pos c2]
    have i2 := tk_iff.mp c2
    have a2 := pLab_ok (ch := ch) (p := p1 + 1) (len := len) (by omega)
    generalize (pLab len ch (p1 + 1)).1 = l2 at a2 ⊢
    generalize (pLab len ch (p1 + 1)).2 = p2 at a2 ⊢
    by_cases c3 : l2 = 0
    · rw [if_pos c3]; simp; omega
    rw [if_neg c3]
    by_cases c4 : tk len ch p2 41 = true
    · rw [if_pos c4]
      have i4 := tk_iff.mp c4
      by_cases c5 : tk len ch (p2 + 1) 40 = true
      · rw [if_pos c5]
        have i5 := tk_iff.mp c5
        have a3 := pLab_ok (ch := ch) (p := p2 + 1 + 1) (len := len) (by omega)
        generalize (pLab len ch (p2 + 1 + 1)).1 = l3 at a3 ⊢
        generalize (pLab len ch (p2 + 1 + 1)).2 = p3 at a3 ⊢
        by_cases c6 : l3 = 0
        · rw [if_pos c6]; simp; omega
        rw [if_neg c6]
        by_cases c7 : tk len ch p3 41 = true
        · rw [if_pos c7]
          have i7 := tk_iff.mp c7
          simp; omega
        · rw [if_neg c7]; simp; omega
      · rw [if_neg c5]; simp; omega
    · rw [if_neg c4]; simp; omega
  · rw [if_neg c2]; simp; omega
set_option maxHeartbeats 4000000 in
theorem in_readText_ok {Γ : zCtx} {M : List zE} (d : Nat) {len p : Nat} {ch : Nat → Nat} (hP : InAt M len p ch) (hO : inOk len p ch) : ZM Γ (d + 4) m_inp_readText [.ref 93] M (fun M1 v => v = some (.int (oI (pTx len ch p).1 (-1))) ∧ InAt M1 len (pTx len ch p).2 ch ∧ zFr M M1 93 2) := by
  refine ZM.of mk_inp_readText (Nat.le_of_ble_eq_true rfl) ?_
  have hF : zFr M M 93 2 := zFr.rf
  obtain ⟨hO1, hO2, hO3⟩ := hO
  have hc0 := hO3 (p)
  have hc1 := hO3 (p + 1)
  have hc2 := hO3 (p + 1 + 1)
  have hc3 := hO3 (p + 1 + 1 + 1)
  have hc4 := hO3 (p + 1 + 1 + 1 + 1)
  rw [show zEn [.ref 93] = [some (.ref 93)] from rfl]
  refine zPad 2 ?_
  show Z _ _ _ _ _ _ _ [some (.ref 93), none, none] _ _
  refine Z_aload_n d_inp_readText_0 rfl ?_
  refine Zn_bipush (nI 48) d_inp_readText_1 (by decide) ?_
  refine Zn_bipush (nI 57) d_inp_readText_3 (by decide) ?_
  refine zVe (As := [.int (nI 48), .int (nI 57)]) (by omega) d_inp_readText_5 lm_inp_105 hP.1 rfl rfl (Nat.le_of_ble_eq_true rfl) (in_nb_ok (d + 1) hP ⟨hO1, by omega, hO3⟩ (by decide) (by decide)) ?_
  have hle := b10_lt (x := nb len ch p 48 57)
  refine Zn_if_ne (tgt := 13) d_inp_readText_8 (by decide) (by omega) (fun h8 => ?_) (fun h8 => ?_)
  · skip
    have n_17 : nb len ch p 48 57 = true := b10_t h8
    have in_17 := nb_iff.mp n_17
    refine Zn_iconst (nI 0) d_inp_readText_13 (by decide) ?_
    refine Zn_istore_n [some (.ref 93), some (.int (nI 0)), none] d_inp_readText_14 (by decide) rfl ?_
    refine Zn_iconst (nI 0) d_inp_readText_15 (by decide) ?_
    refine Zn_istore_n [some (.ref 93), some (.int (nI 0)), some (.int (nI 0))] d_inp_readText_16 (by decide) rfl ?_
    refine Z_iload_n d_inp_readText_17 rfl ?_
    refine Zn_iconst (nI 4) d_inp_readText_18 (by decide) ?_
    refine Zn_icmp_ge (a := 0) (b := 4) (tgt := 49) d_inp_readText_19 (by decide) (by decide) (by decide) (fun h => absurd h (by decide)) (fun _ => ?_)
    refine Z_aload_n d_inp_readText_22 rfl ?_
    refine Zn_bipush (nI 48) d_inp_readText_23 (by decide) ?_
    refine Zn_bipush (nI 57) d_inp_readText_25 (by decide) ?_
    refine zVe (As := [.int (nI 48), .int (nI 57)]) (by omega) d_inp_readText_27 lm_inp_105 hP.1 rfl rfl (Nat.le_of_ble_eq_true rfl) (in_nb_ok (d + 1) hP ⟨hO1, by omega, hO3⟩ (by decide) (by decide)) ?_
    have hle := b10_lt (x := nb len ch p 48 57)
    refine Zn_if_eq (tgt := 49) d_inp_readText_30 (by decide) (by omega) (fun h30 => ?_) (fun h30 => ?_)
    · skip
      have n_18 : nb len ch p 48 57 = false := b10_f h30
      exact absurd (n_18.symm.trans n_17) (by decide) -- end
    · skip
      have n_19 : nb len ch p 48 57 = true := b10_t h30
      have in_19 := nb_iff.mp n_19
      refine Z_iload_n d_inp_readText_33 rfl ?_
      refine Zn_bipush (nI 10) d_inp_readText_34 (by decide) ?_
      refine Zn_imul d_inp_readText_36 ?_
      refine Z_aload_n d_inp_readText_37 rfl ?_
      refine zV (As := []) (by omega) d_inp_readText_38 lm_inp_109 hP.1 rfl rfl (Nat.le_of_ble_eq_true rfl) (in_takeDigit_ok (d + 1) hP ⟨hO1, by omega, hO3⟩ (by omega) (by omega)) (fun M1 v hq hlen => ?_)
      obtain ⟨rfl, hP, hF1⟩ := hq
      replace hF := hF.trans hF1
      refine Zn_iadd d_inp_readText_41 ?_
      refine Zn_istore_n [some (.ref 93), some (.int (nI (0 + (ch p - 48)))), some (.int (nI 0))] d_inp_readText_42 (by decide) rfl ?_
      refine Zn_iinc [some (.ref 93), some (.int (nI (0 + (ch p - 48)))), some (.int (nI 1))] (nI 1) d_inp_readText_43 rfl (by decide) (nI_add 0 1) rfl ?_
      refine Z_goto (tgt := 17) d_inp_readText_46 (by decide) ?_
      refine Z_iload_n d_inp_readText_17 rfl ?_
      refine Zn_iconst (nI 4) d_inp_readText_18 (by decide) ?_
      refine Zn_icmp_ge (a := 1) (b := 4) (tgt := 49) d_inp_readText_19 (by decide) (by decide) (by decide) (fun h => absurd h (by decide)) (fun _ => ?_)
      refine Z_aload_n d_inp_readText_22 rfl ?_
      refine Zn_bipush (nI 48) d_inp_readText_23 (by decide) ?_
      refine Zn_bipush (nI 57) d_inp_readText_25 (by decide) ?_
      refine zVe (As := [.int (nI 48), .int (nI 57)]) (by omega) d_inp_readText_27 lm_inp_105 hP.1 rfl rfl (Nat.le_of_ble_eq_true rfl) (in_nb_ok (d + 1) hP ⟨hO1, by omega, hO3⟩ (by decide) (by decide)) ?_
      have hle := b10_lt (x := nb len ch (p + 1) 48 57)
      refine Zn_if_eq (tgt := 49) d_inp_readText_30 (by decide) (by omega) (fun h30 => ?_) (fun h30 => ?_)
      · skip
        have n_20 : nb len ch (p + 1) 48 57 = false := b10_f h30
        refine Z_iload_n d_inp_readText_49 rfl ?_
        refine Z_iret d_inp_readText_50 rfl ?_
        have hz : pTx len ch p = (some (0 + (ch p - 48)), p + 1) := by simp [pTx, pDig, n_17, n_19, n_20]
        exact ⟨by rw [hz]; rfl, by rw [hz]; exact hP, hF⟩
      · skip
        have n_21 : nb len ch (p + 1) 48 57 = true := b10_t h30
        have in_21 := nb_iff.mp n_21
        refine Z_iload_n d_inp_readText_33 rfl ?_
        refine Zn_bipush (nI 10) d_inp_readText_34 (by decide) ?_
        refine Zn_imul d_inp_readText_36 ?_
        refine Z_aload_n d_inp_readText_37 rfl ?_
        refine zV (As := []) (by omega) d_inp_readText_38 lm_inp_109 hP.1 rfl rfl (Nat.le_of_ble_eq_true rfl) (in_takeDigit_ok (d + 1) hP ⟨hO1, by omega, hO3⟩ (by omega) (by omega)) (fun M1 v hq hlen => ?_)
        obtain ⟨rfl, hP, hF1⟩ := hq
        replace hF := hF.trans hF1
        refine Zn_iadd d_inp_readText_41 ?_
        refine Zn_istore_n [some (.ref 93), some (.int (nI (((0 + (ch p - 48)) * 10) + (ch (p + 1) - 48)))), some (.int (nI 1))] d_inp_readText_42 (by decide) rfl ?_
        refine Zn_iinc [some (.ref 93), some (.int (nI (((0 + (ch p - 48)) * 10) + (ch (p + 1) - 48)))), some (.int (nI 2))] (nI 2) d_inp_readText_43 rfl (by decide) (nI_add 1 1) rfl ?_
        refine Z_goto (tgt := 17) d_inp_readText_46 (by decide) ?_
        refine Z_iload_n d_inp_readText_17 rfl ?_
        refine Zn_iconst (nI 4) d_inp_readText_18 (by decide) ?_
        refine Zn_icmp_ge (a := 2) (b := 4) (tgt := 49) d_inp_readText_19 (by decide) (by decide) (by decide) (fun h => absurd h (by decide)) (fun _ => ?_)
        refine Z_aload_n d_inp_readText_22 rfl ?_
        refine Zn_bipush (nI 48) d_inp_readText_23 (by decide) ?_
        refine Zn_bipush (nI 57) d_inp_readText_25 (by decide) ?_
        refine zVe (As := [.int (nI 48), .int (nI 57)]) (by omega) d_inp_readText_27 lm_inp_105 hP.1 rfl rfl (Nat.le_of_ble_eq_true rfl) (in_nb_ok (d + 1) hP ⟨hO1, by omega, hO3⟩ (by decide) (by decide)) ?_
        have hle := b10_lt (x := nb len ch ((p + 1) + 1) 48 57)
        refine Zn_if_eq (tgt := 49) d_inp_readText_30 (by decide) (by omega) (fun h30 => ?_) (fun h30 => ?_)
        · skip
          have n_22 : nb len ch ((p + 1) + 1) 48 57 = false := b10_f h30
          refine Z_iload_n d_inp_readText_49 rfl ?_
          refine Z_iret d_inp_readText_50 rfl ?_
          have hz : pTx len ch p = (some (((0 + (ch p - 48)) * 10) + (ch (p + 1) - 48)), (p + 1) + 1) := by simp [pTx, pDig, n_17, n_19, n_21, n_22]
          exact ⟨by rw [hz]; rfl, by rw [hz]; exact hP, hF⟩
        · skip
          have n_23 : nb len ch ((p + 1) + 1) 48 57 = true := b10_t h30
          have in_23 := nb_iff.mp n_23
          refine Z_iload_n d_inp_readText_33 rfl ?_
          refine Zn_bipush (nI 10) d_inp_readText_34 (by decide) ?_
          refine Zn_imul d_inp_readText_36 ?_
          refine Z_aload_n d_inp_readText_37 rfl ?_
          refine zV (As := []) (by omega) d_inp_readText_38 lm_inp_109 hP.1 rfl rfl (Nat.le_of_ble_eq_true rfl) (in_takeDigit_ok (d + 1) hP ⟨hO1, by omega, hO3⟩ (by omega) (by omega)) (fun M1 v hq hlen => ?_)
          obtain ⟨rfl, hP, hF1⟩ := hq
          replace hF := hF.trans hF1
          refine Zn_iadd d_inp_readText_41 ?_
          refine Zn_istore_n [some (.ref 93), some (.int (nI (((((0 + (ch p - 48)) * 10) + (ch (p + 1) - 48)) * 10) + (ch ((p + 1) + 1) - 48)))), some (.int (nI 2))] d_inp_readText_42 (by decide) rfl ?_
          refine Zn_iinc [some (.ref 93), some (.int (nI (((((0 + (ch p - 48)) * 10) + (ch (p + 1) - 48)) * 10) + (ch ((p + 1) + 1) - 48)))), some (.int (nI 3))] (nI 3) d_inp_readText_43 rfl (by decide) (nI_add 2 1) rfl ?_
          refine Z_goto (tgt := 17) d_inp_readText_46 (by decide) ?_
          refine Z_iload_n d_inp_readText_17 rfl ?_
          refine Zn_iconst (nI 4) d_inp_readText_18 (by decide) ?_
          refine Zn_icmp_ge (a := 3) (b := 4) (tgt := 49) d_inp_readText_19 (by decide) (by decide) (by decide) (fun h => absurd h (by decide)) (fun _ => ?_)
          refine Z_aload_n d_inp_readText_22 rfl ?_
          refine Zn_bipush (nI 48) d_inp_readText_23 (by decide) ?_
          refine Zn_bipush (nI 57) d_inp_readText_25 (by decide) ?_
          refine zVe (As := [.int (nI 48), .int (nI 57)]) (by omega) d_inp_readText_27 lm_inp_105 hP.1 rfl rfl (Nat.le_of_ble_eq_true rfl) (in_nb_ok (d + 1) hP ⟨hO1, by omega, hO3⟩ (by decide) (by decide)) ?_
          have hle := b10_lt (x := nb len ch (((p + 1) + 1) + 1) 48 57)
          refine Zn_if_eq (tgt := 49) d_inp_readText_30 (by decide) (by omega) (fun h30 => ?_) (fun h30 => ?_)
          · skip
            have n_24 : nb len ch (((p + 1) + 1) + 1) 48 57 = false := b10_f h30
            refine Z_iload_n d_inp_readText_49 rfl ?_
            refine Z_iret d_inp_readText_50 rfl ?_
            have hz : pTx len ch p = (some (((((0 + (ch p - 48)) * 10) + (ch (p + 1) - 48)) * 10) + (ch ((p + 1) + 1) - 48)), ((p + 1) + 1) + 1) := by simp [pTx, pDig, n_17, n_19, n_21, n_23, n_24]
            exact ⟨by rw [hz]; rfl, by rw [hz]; exact hP, hF⟩
          · skip
            have n_25 : nb len ch (((p + 1) + 1) + 1) 48 57 = true := b10_t h30
            have in_25 := nb_iff.mp n_25
            refine Z_iload_n d_inp_readText_33 rfl ?_
            refine Zn_bipush (nI 10) d_inp_readText_34 (by decide) ?_
            refine Zn_imul d_inp_readText_36 ?_
            refine Z_aload_n d_inp_readText_37 rfl ?_
            refine zV (As := []) (by omega) d_inp_readText_38 lm_inp_109 hP.1 rfl rfl (Nat.le_of_ble_eq_true rfl) (in_takeDigit_ok (d + 1) hP ⟨hO1, by omega, hO3⟩ (by omega) (by omega)) (fun M1 v hq hlen => ?_)
            obtain ⟨rfl, hP, hF1⟩ := hq
            replace hF := hF.trans hF1
            refine Zn_iadd d_inp_readText_41 ?_
            refine Zn_istore_n [some (.ref 93), some (.int (nI (((((((0 + (ch p - 48)) * 10) + (ch (p + 1) - 48)) * 10) + (ch ((p + 1) + 1) - 48)) * 10) + (ch (((p + 1) + 1) + 1) - 48)))), some (.int (nI 3))] d_inp_readText_42 (by decide) rfl ?_
            refine Zn_iinc [some (.ref 93), some (.int (nI (((((((0 + (ch p - 48)) * 10) + (ch (p + 1) - 48)) * 10) + (ch ((p + 1) + 1) - 48)) * 10) + (ch (((p + 1) + 1) + 1) - 48)))), some (.int (nI 4))] (nI 4) d_inp_readText_43 rfl (by decide) (nI_add 3 1) rfl ?_
            refine Z_goto (tgt := 17) d_inp_readText_46 (by decide) ?_
            refine Z_iload_n d_inp_readText_17 rfl ?_
            refine Zn_iconst (nI 4) d_inp_readText_18 (by decide) ?_
            refine Zn_icmp_ge (a := 4) (b := 4) (tgt := 49) d_inp_readText_19 (by decide) (by decide) (by decide) (fun _ => ?_) (fun h => absurd h (by decide))
            refine Z_iload_n d_inp_readText_49 rfl ?_
            refine Z_iret d_inp_readText_50 rfl ?_
            have hz : pTx len ch p = (some (((((((0 + (ch p - 48)) * 10) + (ch (p + 1) - 48)) * 10) + (ch ((p + 1) + 1) - 48)) * 10) + (ch (((p + 1) + 1) + 1) - 48)), (((p + 1) + 1) + 1) + 1) := by simp [pTx, pDig, n_17, n_19, n_21, n_23, n_25]
            exact ⟨by rw [hz]; rfl, by rw [hz]; exact hP, hF⟩
  · skip
    have n_26 : nb len ch p 48 57 = false := b10_f h8
    refine Zn_iconst (-1) d_inp_readText_11 (by decide) ?_
    refine Z_iret d_inp_readText_12 rfl ?_
    have hz : pTx len ch p = (none, p) := by simp [pTx, pDig, n_26]
    exact ⟨by rw [hz]; rfl, by rw [hz]; exact hP, hF⟩
set_option maxHeartbeats 4000000 in
theorem in_readPath_ok {Γ : zCtx} {M : List zE} (d : Nat) {len p : Nat} {ch : Nat → Nat} (hP : InAt M len p ch) (hO : inOk len p ch) : ZM Γ (d + 5) m_inp_readPath [.ref 93] M (fun M1 v => v = some (.long (lN (pKey len ch p))) ∧ InAt M1 len (pPth len ch p).2.2 ch ∧ zFr M M1 93 2) := by
  refine ZM.of mk_inp_readPath (Nat.le_of_ble_eq_true rfl) ?_
  have hF : zFr M M 93 2 := zFr.rf
  obtain ⟨hO1, hO2, hO3⟩ := hO
  rw [show zEn [.ref 93] = [some (.ref 93)] from rfl]
  refine zPad 4 ?_
  show Z _ _ _ _ _ _ _ [some (.ref 93), none, none, none, none] _ _
  refine Z_aload_n d_inp_readPath_0 rfl ?_
  refine zV (As := []) (by omega) d_inp_readPath_1 lm_inp_98 hP.1 rfl rfl (Nat.le_of_ble_eq_true rfl) (in_readLabel_ok (d + 0) hP ⟨hO1, by omega, hO3⟩) (fun M1 v hq hlen => ?_)
  have g_27 := pLab_ok (len := len) (ch := ch) (p := p) (by omega)
  rcases e_27 : pLab len ch p with ⟨l_27, q_27⟩
  rw [e_27] at hq g_27
  dsimp only at hq g_27
  obtain ⟨rfl, hP, hF1⟩ := hq
  replace hF := hF.trans hF1
  refine Zn_istore_n [some (.ref 93), some (.int (nI l_27)), none, none, none] d_inp_readPath_4 (by decide) rfl ?_
  refine Z_iload_n d_inp_readPath_5 rfl ?_
  refine Zn_if_ne (tgt := 11) d_inp_readPath_6 (by decide) (by omega) (fun h6 => ?_) (fun h6 => ?_)
  · skip
    have h6_1 := h6
    refine Zn_lconst (0) d_inp_readPath_11 (by decide) ?_
    refine Z_iload_n d_inp_readPath_12 rfl ?_
    refine zTe (As := [.long 0, .int (nI l_27)]) (by omega) d_inp_readPath_13 lm_inp_101 rfl (Nat.le_of_ble_eq_true rfl) (pa_childOf_a (d + 2) (by omega)) ?_
    refine Zn_lstore_n [some (.ref 93), some (.int (nI l_27)), some (.long (lN (kk l_27 0 0))), none, none] d_inp_readPath_16 (by decide) rfl ?_
    refine Zn_iconst (nI 2) d_inp_readPath_17 (by decide) ?_
    refine Zn_istore [some (.ref 93), some (.int (nI l_27)), some (.long (lN (kk l_27 0 0))), none, some (.int (nI 2))] d_inp_readPath_18 (by decide) rfl ?_
    refine Z_iload d_inp_readPath_20 rfl ?_
    refine Zn_iconst (nI 3) d_inp_readPath_22 (by decide) ?_
    refine Zn_icmp_gt (a := 2) (b := 3) (tgt := 67) d_inp_readPath_23 (by decide) (by decide) (by decide) (fun h => absurd h (by decide)) (fun _ => ?_)
    refine Z_aload_n d_inp_readPath_26 rfl ?_
    refine Zn_bipush (nI 40) d_inp_readPath_27 (by decide) ?_
    refine zV (As := [.int (nI 40)]) (by omega) d_inp_readPath_29 lm_inp_27 hP.1 rfl rfl (Nat.le_of_ble_eq_true rfl) (in_take_ok (d + 2) hP ⟨hO1, by omega, hO3⟩ (by decide)) (fun M1 v hq hlen => ?_)
    obtain ⟨rfl, hP, hF1⟩ := hq
    replace hF := hF.trans hF1
    have hle := b10_lt (x := tk len ch q_27 40)
    refine Zn_if_eq (tgt := 67) d_inp_readPath_32 (by decide) (by omega) (fun h32 => ?_) (fun h32 => ?_)
    · skip
      have n_28 : tk len ch q_27 40 = false := b10_f h32
      rw [if_neg (fun z => absurd (n_28.symm.trans z) (by decide))] at hP
      refine Z_lload_n d_inp_readPath_67 rfl ?_
      refine Z_lret d_inp_readPath_68 rfl ?_
      have hz : pPth len ch p = (true, (l_27, 0, 0), q_27) := by simp [pPth, e_27, h6_1, n_28]
      exact ⟨by unfold pKey; rw [hz], by rw [hz]; exact hP, hF⟩
    · skip
      have n_29 : tk len ch q_27 40 = true := b10_t h32
      have in_29 := tk_iff.mp n_29
      rw [if_pos n_29] at hP
      refine Z_aload_n d_inp_readPath_35 rfl ?_
      refine zV (As := []) (by omega) d_inp_readPath_36 lm_inp_98 hP.1 rfl rfl (Nat.le_of_ble_eq_true rfl) (in_readLabel_ok (d + 0) hP ⟨hO1, by omega, hO3⟩) (fun M1 v hq hlen => ?_)
      have g_30 := pLab_ok (len := len) (ch := ch) (p := q_27 + 1) (by omega)
      rcases e_30 : pLab len ch (q_27 + 1) with ⟨l_30, q_30⟩
      rw [e_30] at hq g_30
      dsimp only at hq g_30
      obtain ⟨rfl, hP, hF1⟩ := hq
      replace hF := hF.trans hF1
      refine Zn_istore_n [some (.ref 93), some (.int (nI l_30)), some (.long (lN (kk l_27 0 0))), none, some (.int (nI 2))] d_inp_readPath_39 (by decide) rfl ?_
      refine Z_iload_n d_inp_readPath_40 rfl ?_
      refine Zn_if_eq (tgt := 53) d_inp_readPath_41 (by decide) (by omega) (fun h41 => ?_) (fun h41 => ?_)
      · skip
        have h41_2 := h41
        refine Zn_lconst (0) d_inp_readPath_53 (by decide) ?_
        refine Z_lret d_inp_readPath_54 rfl ?_
        have hz : pPth len ch p = (false, (0, 0, 0), q_30) := by simp [pPth, e_27, h6_1, n_29, e_30, h41_2]
        exact ⟨by unfold pKey; rw [hz, show kk (0, 0, 0).1 (0, 0, 0).2.1 (0, 0, 0).2.2 = 0 from rfl]; rfl, by rw [hz]; exact hP, hF⟩
      · skip
        have h41_2 := h41
        refine Z_aload_n d_inp_readPath_44 rfl ?_
        refine Zn_bipush (nI 41) d_inp_readPath_45 (by decide) ?_
        refine zV (As := [.int (nI 41)]) (by omega) d_inp_readPath_47 lm_inp_27 hP.1 rfl rfl (Nat.le_of_ble_eq_true rfl) (in_take_ok (d + 2) hP ⟨hO1, by omega, hO3⟩ (by decide)) (fun M1 v hq hlen => ?_)
        obtain ⟨rfl, hP, hF1⟩ := hq
        replace hF := hF.trans hF1
        have hle := b10_lt (x := tk len ch q_30 41)
        refine Zn_if_ne (tgt := 55) d_inp_readPath_50 (by decide) (by omega) (fun h50 => ?_) (fun h50 => ?_)
        · skip
          have n_31 : tk len ch q_30 41 = true := b10_t h50
          have in_31 := tk_iff.mp n_31
          rw [if_pos n_31] at hP
          refine Z_lload_n d_inp_readPath_55 rfl ?_
          refine Z_iload_n d_inp_readPath_56 rfl ?_
          refine zTe (As := [.long (lN (kk l_27 0 0)), .int (nI l_30)]) (by omega) d_inp_readPath_57 lm_inp_101 rfl (Nat.le_of_ble_eq_true rfl) (pa_childOf_b (d + 2) (by omega) (by omega) (by omega)) ?_
          refine Zn_lstore_n [some (.ref 93), some (.int (nI l_30)), some (.long (lN (kk l_27 l_30 0))), none, some (.int (nI 2))] d_inp_readPath_60 (by decide) rfl ?_
          refine Zn_iinc [some (.ref 93), some (.int (nI l_30)), some (.long (lN (kk l_27 l_30 0))), none, some (.int (nI 3))] (nI 3) d_inp_readPath_61 rfl (by decide) (nI_add 2 1) rfl ?_
          refine Z_goto (tgt := 20) d_inp_readPath_64 (by decide) ?_
          refine Z_iload d_inp_readPath_20 rfl ?_
          refine Zn_iconst (nI 3) d_inp_readPath_22 (by decide) ?_
          refine Zn_icmp_gt (a := 3) (b := 3) (tgt := 67) d_inp_readPath_23 (by decide) (by decide) (by decide) (fun h => absurd h (by decide)) (fun _ => ?_)
          refine Z_aload_n d_inp_readPath_26 rfl ?_
          refine Zn_bipush (nI 40) d_inp_readPath_27 (by decide) ?_
          refine zV (As := [.int (nI 40)]) (by omega) d_inp_readPath_29 lm_inp_27 hP.1 rfl rfl (Nat.le_of_ble_eq_true rfl) (in_take_ok (d + 2) hP ⟨hO1, by omega, hO3⟩ (by decide)) (fun M1 v hq hlen => ?_)
          obtain ⟨rfl, hP, hF1⟩ := hq
          replace hF := hF.trans hF1
          have hle := b10_lt (x := tk len ch (q_30 + 1) 40)
          refine Zn_if_eq (tgt := 67) d_inp_readPath_32 (by decide) (by omega) (fun h32 => ?_) (fun h32 => ?_)
          · skip
            have n_32 : tk len ch (q_30 + 1) 40 = false := b10_f h32
            rw [if_neg (fun z => absurd (n_32.symm.trans z) (by decide))] at hP
            refine Z_lload_n d_inp_readPath_67 rfl ?_
            refine Z_lret d_inp_readPath_68 rfl ?_
            have hz : pPth len ch p = (true, (l_27, l_30, 0), q_30 + 1) := by simp [pPth, e_27, h6_1, n_29, e_30, h41_2, n_31, n_32]
            exact ⟨by unfold pKey; rw [hz], by rw [hz]; exact hP, hF⟩
          · skip
            have n_33 : tk len ch (q_30 + 1) 40 = true := b10_t h32
            have in_33 := tk_iff.mp n_33
            rw [if_pos n_33] at hP
            refine Z_aload_n d_inp_readPath_35 rfl ?_
            refine zV (As := []) (by omega) d_inp_readPath_36 lm_inp_98 hP.1 rfl rfl (Nat.le_of_ble_eq_true rfl) (in_readLabel_ok (d + 0) hP ⟨hO1, by omega, hO3⟩) (fun M1 v hq hlen => ?_)
            have g_34 := pLab_ok (len := len) (ch := ch) (p := (q_30 + 1) + 1) (by omega)
            rcases e_34 : pLab len ch ((q_30 + 1) + 1) with ⟨l_34, q_34⟩
            rw [e_34] at hq g_34
            dsimp only at hq g_34
            obtain ⟨rfl, hP, hF1⟩ := hq
            replace hF := hF.trans hF1
            refine Zn_istore_n [some (.ref 93), some (.int (nI l_34)), some (.long (lN (kk l_27 l_30 0))), none, some (.int (nI 3))] d_inp_readPath_39 (by decide) rfl ?_
            refine Z_iload_n d_inp_readPath_40 rfl ?_
            refine Zn_if_eq (tgt := 53) d_inp_readPath_41 (by decide) (by omega) (fun h41 => ?_) (fun h41 => ?_)
            · skip
              have h41_3 := h41
              refine Zn_lconst (0) d_inp_readPath_53 (by decide) ?_
              refine Z_lret d_inp_readPath_54 rfl ?_
              have hz : pPth len ch p = (false, (0, 0, 0), q_34) := by simp [pPth, e_27, h6_1, n_29, e_30, h41_2, n_31, n_33, e_34, h41_3]
              exact ⟨by unfold pKey; rw [hz, show kk (0, 0, 0).1 (0, 0, 0).2.1 (0, 0, 0).2.2 = 0 from rfl]; rfl, by rw [hz]; exact hP, hF⟩
            · skip
              have h41_3 := h41
              refine Z_aload_n d_inp_readPath_44 rfl ?_
              refine Zn_bipush (nI 41) d_inp_readPath_45 (by decide) ?_
              refine zV (As := [.int (nI 41)]) (by omega) d_inp_readPath_47 lm_inp_27 hP.1 rfl rfl (Nat.le_of_ble_eq_true rfl) (in_take_ok (d + 2) hP ⟨hO1, by omega, hO3⟩ (by decide)) (fun M1 v hq hlen => ?_)
              obtain ⟨rfl, hP, hF1⟩ := hq
              replace hF := hF.trans hF1
              have hle := b10_lt (x := tk len ch q_34 41)
              refine Zn_if_ne (tgt := 55) d_inp_readPath_50 (by decide) (by omega) (fun h50 => ?_) (fun h50 => ?_)
              · skip
                have n_35 : tk len ch q_34 41 = true := b10_t h50
                have in_35 := tk_iff.mp n_35
                rw [if_pos n_35] at hP
                refine Z_lload_n d_inp_readPath_55 rfl ?_
                refine Z_iload_n d_inp_readPath_56 rfl ?_
                refine zTe (As := [.long (lN (kk l_27 l_30 0)), .int (nI l_34)]) (by omega) d_inp_readPath_57 lm_inp_101 rfl (Nat.le_of_ble_eq_true rfl) (pa_childOf_c (d + 2) (by omega) (by omega) (by omega) (by omega)) ?_
                refine Zn_lstore_n [some (.ref 93), some (.int (nI l_34)), some (.long (lN (kk l_27 l_30 l_34))), none, some (.int (nI 3))] d_inp_readPath_60 (by decide) rfl ?_
                refine Zn_iinc [some (.ref 93), some (.int (nI l_34)), some (.long (lN (kk l_27 l_30 l_34))), none, some (.int (nI 4))] (nI 4) d_inp_readPath_61 rfl (by decide) (nI_add 3 1) rfl ?_
                refine Z_goto (tgt := 20) d_inp_readPath_64 (by decide) ?_
                refine Z_iload d_inp_readPath_20 rfl ?_
                refine Zn_iconst (nI 3) d_inp_readPath_22 (by decide) ?_
                refine Zn_icmp_gt (a := 4) (b := 3) (tgt := 67) d_inp_readPath_23 (by decide) (by decide) (by decide) (fun _ => ?_) (fun h => absurd h (by decide))
                refine Z_lload_n d_inp_readPath_67 rfl ?_
                refine Z_lret d_inp_readPath_68 rfl ?_
                have hz : pPth len ch p = (true, (l_27, l_30, l_34), q_34 + 1) := by simp [pPth, e_27, h6_1, n_29, e_30, h41_2, n_31, n_33, e_34, h41_3, n_35]
                exact ⟨by unfold pKey; rw [hz], by rw [hz]; exact hP, hF⟩
              · skip
                have n_36 : tk len ch q_34 41 = false := b10_f h50
                rw [if_neg (fun z => absurd (n_36.symm.trans z) (by decide))] at hP
                refine Zn_lconst (0) d_inp_readPath_53 (by decide) ?_
                refine Z_lret d_inp_readPath_54 rfl ?_
                have hz : pPth len ch p = (false, (0, 0, 0), q_34) := by simp [pPth, e_27, h6_1, n_29, e_30, h41_2, n_31, n_33, e_34, h41_3, n_36]
                exact ⟨by unfold pKey; rw [hz, show kk (0, 0, 0).1 (0, 0, 0).2.1 (0, 0, 0).2.2 = 0 from rfl]; rfl, by rw [hz]; exact hP, hF⟩
        · skip
          have n_37 : tk len ch q_30 41 = false := b10_f h50
          rw [if_neg (fun z => absurd (n_37.symm.trans z) (by decide))] at hP
          refine Zn_lconst (0) d_inp_readPath_53 (by decide) ?_
          refine Z_lret d_inp_readPath_54 rfl ?_
          have hz : pPth len ch p = (false, (0, 0, 0), q_30) := by simp [pPth, e_27, h6_1, n_29, e_30, h41_2, n_37]
          exact ⟨by unfold pKey; rw [hz, show kk (0, 0, 0).1 (0, 0, 0).2.1 (0, 0, 0).2.2 = 0 from rfl]; rfl, by rw [hz]; exact hP, hF⟩
  · skip
    have h6_1 := h6
    refine Zn_lconst (0) d_inp_readPath_9 (by decide) ?_
    refine Z_lret d_inp_readPath_10 rfl ?_
    have hz : pPth len ch p = (false, (0, 0, 0), q_27) := by simp [pPth, e_27, h6_1]
    exact ⟨by unfold pKey; rw [hz, show kk (0, 0, 0).1 (0, 0, 0).2.1 (0, 0, 0).2.2 = 0 from rfl]; rfl, by rw [hz]; exact hP, hF⟩
