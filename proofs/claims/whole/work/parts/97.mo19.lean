/-! reading in the reference -/
def pst (s : Nat → Nat) (p w : Nat) : Nat → Nat := nup (nup s 7 p) 8 w
theorem pst_7 {s : Nat → Nat} {p w q : Nat} : nup (pst s p w) 7 q = pst s q w := by
  funext j
  unfold pst
  by_cases h7 : j = 7
  · rw [h7, nup_s, nup_n (by decide), nup_s]
  · rw [nup_n h7]
    by_cases h8 : j = 8
    · rw [h8, nup_s, nup_s]
    · rw [nup_n h8, nup_n h8, nup_n h7, nup_n h7]
theorem pst_8 {s : Nat → Nat} {p w v : Nat} : nup (pst s p w) 8 v = pst s p v := nup_nup
theorem inI_nb {a b x : Nat} (ha : a < 2147483648) (hb : b < 2147483648) (hx : x < 2147483648) : inI (nI x) (nI a) (nI b) = (decide (a ≤ x) && decide (x ≤ b)) := by
  unfold inI
  have e1 := zn_lt (a := x) (b := a) hx ha
  have e2 := zn_le (a := x) (b := b) hx hb
  by_cases h1 : a ≤ x
  · by_cases h2 : x ≤ b
    · rw [decide_eq_true ⟨fun z => by have := e1.mp z; omega, e2.mpr h2⟩, decide_eq_true h1, decide_eq_true h2]; rfl
    · rw [decide_eq_false (fun z => h2 (e2.mp z.2)), decide_eq_true h1, decide_eq_false h2]; rfl
  · rw [decide_eq_false (fun z => z.1 (e1.mpr (by omega))), decide_eq_false h1]; rfl
set_option maxHeartbeats 4000000 in
theorem mo_isNext_ok {Γ : zCtx} {M : List zE} (d : Nat) {M0 : List zE} {s : Nat → Nat} {G : Nat → Nat → Nat} {p w : Nat} (hF : FW M0 M (pst s p w) G) (h120 : s 5 ≤ 120) (hp : p ≤ s 5) (hch : ∀ i, G 22 i ≤ 126) {a b : Nat} (ha : a < 2147483648) (hb : b < 2147483648)  : ZM Γ (d + 2) m_mo_isNext [.ref 123, .int (nI a), .int (nI b)] M (zEq M (some (.int (nI (if nb (s 5) (G 22) p a b = true then 1 else 0))))) := by
  refine ZM.of mk_mo_isNext (Nat.le_of_ble_eq_true rfl) ?_
  refine Z_aload_n d_mo_isNext_0 rfl ?_
  refine Z_get (v := .int (nI p)) d_mo_isNext_1 lf_mo_218 hF.1 rfl ?_
  refine Z_aload_n d_mo_isNext_4 rfl ?_
  refine Z_get (v := .int (nI (s 5))) d_mo_isNext_5 lf_mo_215 hF.1 rfl ?_
  refine Zn_icmp_ge (tgt := 32) d_mo_isNext_8 (by decide) (by omega) (by omega) (fun h8 => ?_) (fun h8 => ?_)
  · skip
    refine Zn_iconst (nI 0) d_mo_isNext_32 (by decide) ?_
    refine Z_zret d_mo_isNext_33 rfl rfl ?_
    refine ⟨rfl, ?_⟩
    unfold nb
    first | (rw [decide_eq_true (show p < s 5 by omega), hq]; rfl) | (rw [decide_eq_false (show ¬ p < s 5 by omega)]; rfl)
  · skip
    refine Z_aload_n d_mo_isNext_11 rfl ?_
    refine Z_get (v := .ref 146) d_mo_isNext_12 lf_mo_77 hF.1 rfl ?_
    refine Z_aload_n d_mo_isNext_15 rfl ?_
    refine Z_get (v := .int (nI p)) d_mo_isNext_16 lf_mo_218 hF.1 rfl ?_
    refine Zn_iald d_mo_isNext_19 hF.a22 (by omega) (by omega) ?_
    refine Z_iload_n d_mo_isNext_20 rfl ?_
    refine Z_iload_n d_mo_isNext_21 rfl ?_
    have hcp := hch p
    refine zTe (As := [.int (nI (G 22 p)), .int (nI a), .int (nI b)]) (by omega) d_mo_isNext_22 lm_mo_189 rfl (Nat.le_of_ble_eq_true rfl) (mo_in_ok d _ _ _) ?_
    rw [inI_nb ha hb (by omega)]
    rcases hq : (decide (a ≤ G 22 p) && decide (G 22 p ≤ b)) with _ | _
    · skip
      refine Zn_if_eq (a := 0) (tgt := 32) d_mo_isNext_25 (by decide) (by decide) (fun _ => ?_) (fun h => absurd h (by decide))
      refine Zn_iconst (nI 0) d_mo_isNext_32 (by decide) ?_
      refine Z_zret d_mo_isNext_33 rfl rfl ?_
      refine ⟨rfl, ?_⟩
      unfold nb
      first | (rw [decide_eq_true (show p < s 5 by omega), hq]; rfl) | (rw [decide_eq_false (show ¬ p < s 5 by omega)]; rfl)
    · skip
      refine Zn_if_eq (a := 1) (tgt := 32) d_mo_isNext_25 (by decide) (by decide) (fun h => absurd h (by decide)) (fun _ => ?_)
      refine Zn_iconst (nI 1) d_mo_isNext_28 (by decide) ?_
      refine Z_goto (tgt := 33) d_mo_isNext_29 (by decide) ?_
      refine Z_zret d_mo_isNext_33 rfl rfl ?_
      refine ⟨rfl, ?_⟩
      unfold nb
      first | (rw [decide_eq_true (show p < s 5 by omega), hq]; rfl) | (rw [decide_eq_false (show ¬ p < s 5 by omega)]; rfl)
theorem nb_tk {len : Nat} {ch : Nat → Nat} {p c : Nat} : nb len ch p c c = tk len ch p c := by
  unfold nb tk
  by_cases h1 : p < len <;> by_cases h2 : ch p = c <;> simp [h1, h2] <;> omega
set_option maxHeartbeats 4000000 in
theorem mo_accept_ok {Γ : zCtx} {M : List zE} (d : Nat) {M0 : List zE} {s : Nat → Nat} {G : Nat → Nat → Nat} {p : Nat} (hF : FW M0 M (pst s p 0) G) (h120 : s 5 ≤ 120) (hp : p ≤ s 5) (hch : ∀ i, G 22 i ≤ 126) {c : Nat} (hc : c < 2147483648)  : ZM Γ (d + 3) m_mo_accept [.ref 123, .int (nI c)] M (fun M1 v => v = some (.int (nI (if tk (s 5) (G 22) p c = true then 1 else 0))) ∧ FW M0 M1 (pst s (if tk (s 5) (G 22) p c = true then p + 1 else p) 0) G) := by
  refine ZM.of mk_mo_accept (Nat.le_of_ble_eq_true rfl) ?_
  refine Z_aload_n d_mo_accept_0 rfl ?_
  refine Z_get (v := .int (nI 0)) d_mo_accept_1 lf_mo_221 hF.1 rfl ?_
  refine Zn_if_ne (a := 0) (tgt := 16) d_mo_accept_4 (by decide) (by decide) (fun h => absurd h (by decide)) (fun _ => ?_)
  refine Z_aload_n d_mo_accept_7 rfl ?_
  refine Z_iload_n d_mo_accept_8 rfl ?_
  refine Z_iload_n d_mo_accept_9 rfl ?_
  refine zVe (As := [.int (nI c), .int (nI c)]) (by omega) d_mo_accept_10 lm_mo_225 hF.1 rfl rfl (Nat.le_of_ble_eq_true rfl) (mo_isNext_ok (p := p) d hF h120 (by omega) hch (by omega) (by omega)) ?_
  rcases ht : nb (s 5) (G 22) p c c with _ | _
  · skip
    have htk : tk (s 5) (G 22) p c = false := by rw [← nb_tk]; exact ht
    refine Zn_if_ne (a := 0) (tgt := 18) d_mo_accept_13 (by decide) (by decide) (fun h => absurd h (by decide)) (fun _ => ?_)
    refine Zn_iconst (nI 0) d_mo_accept_16 (by decide) ?_
    refine Z_zret d_mo_accept_17 rfl rfl ?_
    rw [htk]
    exact ⟨rfl, hF⟩
  · skip
    have htk : tk (s 5) (G 22) p c = true := by rw [← nb_tk]; exact ht
    refine Zn_if_ne (a := 1) (tgt := 18) d_mo_accept_13 (by decide) (by decide) (fun _ => ?_) (fun h => absurd h (by decide))
    refine Z_aload_n d_mo_accept_18 rfl ?_
    refine Z_dup d_mo_accept_19 rfl ?_
    refine Z_get (v := .int (nI p)) d_mo_accept_20 lf_mo_218 hF.1 rfl ?_
    refine Zn_iconst (nI 1) d_mo_accept_23 (by decide) ?_
    refine Zn_iadd d_mo_accept_24 ?_
    refine Z_puti d_mo_accept_25 lf_mo_218 hF.1 rfl rfl (Nat.le_of_ble_eq_true rfl) ?_
    replace hF := hF.u7 (p + 1)
    rw [pst_7] at hF
    refine Zn_iconst (nI 1) d_mo_accept_28 (by decide) ?_
    refine Z_zret d_mo_accept_29 rfl rfl ?_
    rw [htk]
    exact ⟨rfl, hF⟩
set_option maxHeartbeats 4000000 in
theorem mo_accept_no {Γ : zCtx} {M : List zE} (d : Nat) {M0 : List zE} {s : Nat → Nat} {G : Nat → Nat → Nat} {p : Nat} (hF : FW M0 M (pst s p 1) G) {c : Nat}  : ZM Γ (d + 3) m_mo_accept [.ref 123, .int (nI c)] M (zEq M (some (.int (nI 0)))) := by
  refine ZM.of mk_mo_accept (Nat.le_of_ble_eq_true rfl) ?_
  refine Z_aload_n d_mo_accept_0 rfl ?_
  refine Z_get (v := .int (nI 1)) d_mo_accept_1 lf_mo_221 hF.1 rfl ?_
  refine Zn_if_ne (a := 1) (tgt := 16) d_mo_accept_4 (by decide) (by decide) (fun _ => ?_) (fun h => absurd h (by decide))
  refine Zn_iconst (nI 0) d_mo_accept_16 (by decide) ?_
  refine Z_zret d_mo_accept_17 rfl rfl ?_
  exact ⟨rfl, rfl⟩
set_option maxHeartbeats 4000000 in
theorem mo_expect_ok {Γ : zCtx} {M : List zE} (d : Nat) {M0 : List zE} {s : Nat → Nat} {G : Nat → Nat → Nat} {p : Nat} (hF : FW M0 M (pst s p 0) G) (h120 : s 5 ≤ 120) (hp : p ≤ s 5) (hch : ∀ i, G 22 i ≤ 126) {c : Nat} (hc : c < 2147483648)  : ZM Γ (d + 4) m_mo_expect [.ref 123, .int (nI c)] M (fun M1 v => v = none ∧ FW M0 M1 (if tk (s 5) (G 22) p c = true then pst s (p + 1) 0 else pst s p 1) G) := by
  refine ZM.of mk_mo_expect (Nat.le_of_ble_eq_true rfl) ?_
  refine Z_aload_n d_mo_expect_0 rfl ?_
  refine Z_aload_n d_mo_expect_1 rfl ?_
  refine Z_iload_n d_mo_expect_2 rfl ?_
  refine zV (As := [.int (nI c)]) (by omega) d_mo_expect_3 lm_mo_229 hF.1 rfl rfl (Nat.le_of_ble_eq_true rfl) (mo_accept_ok (p := p) d hF h120 (by omega) hch (by omega)) (fun M1 v hq hlen => ?_)
  obtain ⟨rfl, hF⟩ := hq
  rcases ht : tk (s 5) (G 22) p c with _ | _
  · skip
    rw [ht, if_neg (by decide)] at hF
    refine Zn_if_ne (a := 0) (tgt := 13) d_mo_expect_6 (by decide) (by decide) (fun h => absurd h (by decide)) (fun _ => ?_)
    refine Zn_iconst (nI 1) d_mo_expect_9 (by decide) ?_
    refine Z_goto (tgt := 14) d_mo_expect_10 (by decide) ?_
    refine Z_putz d_mo_expect_14 lf_mo_221 hF.1 rfl rfl (by first | exact Or.inl rfl | exact Or.inr rfl) (Nat.le_of_ble_eq_true rfl) ?_
    replace hF := hF.u8 1
    rw [pst_8] at hF
    refine Z_vret d_mo_expect_17 rfl ?_
    exact ⟨rfl, hF⟩
  · skip
    rw [ht, if_pos rfl] at hF
    have htg := tk_iff.mp ht
    refine Zn_if_ne (a := 1) (tgt := 13) d_mo_expect_6 (by decide) (by decide) (fun _ => ?_) (fun h => absurd h (by decide))
    refine Zn_iconst (nI 0) d_mo_expect_13 (by decide) ?_
    refine Z_putz d_mo_expect_14 lf_mo_221 hF.1 rfl rfl (by first | exact Or.inl rfl | exact Or.inr rfl) (Nat.le_of_ble_eq_true rfl) ?_
    replace hF := hF.u8 0
    rw [pst_8] at hF
    refine Z_vret d_mo_expect_17 rfl ?_
    exact ⟨rfl, hF⟩
theorem pSuf_s {len : Nat} {ch : Nat → Nat} {k u l p : Nat} : pSuf len ch (k + 1) u l p = if nb len ch p 65 90 = true then pSuf len ch k (u / 27) (l + (ch p - 65 + 1) * u) (p + 1) else (l, p) := rfl
set_option maxHeartbeats 4000000 in
theorem mo_parseLabel_ok {Γ : zCtx} {M : List zE} (d : Nat) {M0 : List zE} {s : Nat → Nat} {G : Nat → Nat → Nat} {p : Nat} (hF : FW M0 M (pst s p 0) G) (h120 : s 5 ≤ 120) (hp : p ≤ s 5) (hch : ∀ i, G 22 i ≤ 126)  : ZM Γ (d + 3) m_mo_parseLabel [.ref 123] M (fun M1 v => v = some (.int (nI (pLab (s 5) (G 22) p).1)) ∧ FW M0 M1 (pst s (pLab (s 5) (G 22) p).2 (if (pLab (s 5) (G 22) p).1 = 0 then 1 else 0)) G) := by
  refine ZM.of mk_mo_parseLabel (Nat.le_of_ble_eq_true rfl) ?_
  rw [show zEn [.ref 123] = [some (.ref 123)] from rfl]
  refine zPad 3 ?_
  show Z _ _ _ _ _ _ _ [some (.ref 123), none, none, none] _ _
  refine Z_aload_n d_mo_parseLabel_0 rfl ?_
  refine Z_get (v := .int (nI 0)) d_mo_parseLabel_1 lf_mo_221 hF.1 rfl ?_
  refine Zn_if_ne (a := 0) (tgt := 18) d_mo_parseLabel_4 (by decide) (by decide) (fun h => absurd h (by decide)) (fun _ => ?_)
  refine Z_aload_n d_mo_parseLabel_7 rfl ?_
  refine Zn_bipush (nI 49) d_mo_parseLabel_8 (by decide) ?_
  refine Zn_bipush (nI 57) d_mo_parseLabel_10 (by decide) ?_
  refine zVe (As := [.int (nI 49), .int (nI 57)]) (by omega) d_mo_parseLabel_12 lm_mo_225 hF.1 rfl rfl (Nat.le_of_ble_eq_true rfl) (mo_isNext_ok (p := p) d hF h120 (by omega) hch (by omega) (by omega)) ?_
  rcases h1 : nb (s 5) (G 22) p 49 57 with _ | _
  · skip
    refine Zn_if_ne (a := 0) (tgt := 25) d_mo_parseLabel_15 (by decide) (by decide) (fun h => absurd h (by decide)) (fun _ => ?_)
    refine Z_aload_n d_mo_parseLabel_18 rfl ?_
    refine Zn_iconst (nI 1) d_mo_parseLabel_19 (by decide) ?_
    refine Z_putz d_mo_parseLabel_20 lf_mo_221 hF.1 rfl rfl (by first | exact Or.inl rfl | exact Or.inr rfl) (Nat.le_of_ble_eq_true rfl) ?_
    replace hF := hF.u8 1
    rw [pst_8] at hF
    refine Zn_iconst (nI 0) d_mo_parseLabel_23 (by decide) ?_
    refine Z_iret d_mo_parseLabel_24 rfl ?_
    have el : pLab (s 5) (G 22) p = (0, p) := by unfold pLab; exact if_neg (by rw [h1]; decide)
    refine ⟨?_, ?_⟩
    · rw [el]
    · rw [el, if_pos rfl]; exact hF
  · skip
    have h1g := nb_iff.mp h1
    refine Zn_if_ne (a := 1) (tgt := 25) d_mo_parseLabel_15 (by decide) (by decide) (fun _ => ?_) (fun h => absurd h (by decide))
    refine Z_aload_n d_mo_parseLabel_25 rfl ?_
    refine Z_get (v := .ref 146) d_mo_parseLabel_26 lf_mo_77 hF.1 rfl ?_
    refine Z_aload_n d_mo_parseLabel_29 rfl ?_
    refine Z_get (v := .int (nI p)) d_mo_parseLabel_30 lf_mo_218 hF.1 rfl ?_
    refine Zn_iald d_mo_parseLabel_33 hF.a22 (by omega) (by omega) ?_
    have hc0 := hch p
    refine Zn_bipush (nI 48) d_mo_parseLabel_34 (by decide) ?_
    refine Zn_isub d_mo_parseLabel_36 (by omega) ?_
    refine Zn_istore_n [some (.ref 123), some (.int (nI ((G 22 p) - 48))), none, none] d_mo_parseLabel_37 (by decide) rfl ?_
    refine Z_aload_n d_mo_parseLabel_38 rfl ?_
    refine Z_dup d_mo_parseLabel_39 rfl ?_
    refine Z_get (v := .int (nI p)) d_mo_parseLabel_40 lf_mo_218 hF.1 rfl ?_
    refine Zn_iconst (nI 1) d_mo_parseLabel_43 (by decide) ?_
    refine Zn_iadd d_mo_parseLabel_44 ?_
    refine Z_puti d_mo_parseLabel_45 lf_mo_218 hF.1 rfl rfl (Nat.le_of_ble_eq_true rfl) ?_
    replace hF := hF.u7 (p + 1)
    rw [pst_7] at hF
    refine Z_aload_n d_mo_parseLabel_48 rfl ?_
    refine Zn_bipush (nI 48) d_mo_parseLabel_49 (by decide) ?_
    refine Zn_bipush (nI 57) d_mo_parseLabel_51 (by decide) ?_
    refine zVe (As := [.int (nI 48), .int (nI 57)]) (by omega) d_mo_parseLabel_53 lm_mo_225 hF.1 rfl rfl (Nat.le_of_ble_eq_true rfl) (mo_isNext_ok (p := (p + 1)) d hF h120 (by omega) hch (by omega) (by omega)) ?_
    rcases h2 : nb (s 5) (G 22) (p + 1) 48 57 with _ | _
    · skip
      refine Zn_if_eq (a := 0) (tgt := 87) d_mo_parseLabel_56 (by decide) (by decide) (fun _ => ?_) (fun h => absurd h (by decide))
      refine Zn_iconst (nI 0) d_mo_parseLabel_87 (by decide) ?_
      refine Zn_istore_n [some (.ref 123), some (.int (nI ((G 22 p) - 48))), some (.int (nI 0)), none] d_mo_parseLabel_88 (by decide) rfl ?_
      refine Zn_sipush (nI 729) d_mo_parseLabel_89 (by decide) ?_
      refine Zn_istore_n [some (.ref 123), some (.int (nI ((G 22 p) - 48))), some (.int (nI 0)), some (.int (nI 729))] d_mo_parseLabel_92 (by decide) rfl ?_
      refine Z_iload_n d_mo_parseLabel_93 rfl ?_
      refine Zn_if_le (a := 729) (tgt := 145) d_mo_parseLabel_94 (by decide) (by decide) (fun h => absurd h (by decide)) (fun _ => ?_)
      refine Z_aload_n d_mo_parseLabel_97 rfl ?_
      refine Zn_bipush (nI 65) d_mo_parseLabel_98 (by decide) ?_
      refine Zn_bipush (nI 90) d_mo_parseLabel_100 (by decide) ?_
      refine zVe (As := [.int (nI 65), .int (nI 90)]) (by omega) d_mo_parseLabel_102 lm_mo_225 hF.1 rfl rfl (Nat.le_of_ble_eq_true rfl) (mo_isNext_ok (p := (p + 1)) d hF h120 (by omega) hch (by omega) (by omega)) ?_
      rcases hl1 : nb (s 5) (G 22) (p + 1) 65 90 with _ | _
      · skip
        refine Zn_if_eq (a := 0) (tgt := 145) d_mo_parseLabel_105 (by decide) (by decide) (fun _ => ?_) (fun h => absurd h (by decide))
        refine Zn_sipush (nI 19683) d_mo_parseLabel_145 (by decide) ?_
        refine Z_iload_n d_mo_parseLabel_148 rfl ?_
        refine Zn_imul d_mo_parseLabel_149 ?_
        refine Z_iload_n d_mo_parseLabel_150 rfl ?_
        refine Zn_iadd d_mo_parseLabel_151 ?_
        refine Z_iret d_mo_parseLabel_152 rfl ?_
        have en : pNum (s 5) (G 22) p = (G 22 p - 48, p + 1) := by
          unfold pNum
          rw [if_neg (by rw [h2]; decide)]
        have el : pLab (s 5) (G 22) p = ((19683 * ((G 22 p) - 48)) + 0, p + 1) := by
          unfold pLab
          rw [if_pos h1, en]
          show pSuf _ _ 3 729 _ _ = _
          rw [pSuf_s, if_neg (by rw [hl1]; decide)]
          refine Prod.ext ?_ rfl
          show _ = _
          dsimp only
          omega
        refine ⟨?_, ?_⟩
        · rw [el]
        · rw [el, if_neg (by dsimp only; omega)]; exact hF
      · skip
        have hl1g := nb_iff.mp hl1
        refine Zn_if_eq (a := 1) (tgt := 145) d_mo_parseLabel_105 (by decide) (by decide) (fun h => absurd h (by decide)) (fun _ => ?_)
        refine Z_iload_n d_mo_parseLabel_108 rfl ?_
        refine Z_iload_n d_mo_parseLabel_109 rfl ?_
        refine Z_aload_n d_mo_parseLabel_110 rfl ?_
        refine Z_get (v := .ref 146) d_mo_parseLabel_111 lf_mo_77 hF.1 rfl ?_
        refine Z_aload_n d_mo_parseLabel_114 rfl ?_
        refine Z_get (v := .int (nI (p + 1))) d_mo_parseLabel_115 lf_mo_218 hF.1 rfl ?_
        refine Zn_iald d_mo_parseLabel_118 hF.a22 (by omega) (by omega) ?_
        refine Zn_bipush (nI 65) d_mo_parseLabel_119 (by decide) ?_
        refine Zn_isub d_mo_parseLabel_121 (by omega) ?_
        refine Zn_iconst (nI 1) d_mo_parseLabel_122 (by decide) ?_
        refine Zn_iadd d_mo_parseLabel_123 ?_
        refine Zn_imul d_mo_parseLabel_124 ?_
        refine Zn_iadd d_mo_parseLabel_125 ?_
        refine Zn_istore_n [some (.ref 123), some (.int (nI ((G 22 p) - 48))), some (.int (nI (0 + (729 * (((G 22 (p + 1)) - 65) + 1))))), some (.int (nI 729))] d_mo_parseLabel_126 (by decide) rfl ?_
        refine Z_aload_n d_mo_parseLabel_127 rfl ?_
        refine Z_dup d_mo_parseLabel_128 rfl ?_
        refine Z_get (v := .int (nI (p + 1))) d_mo_parseLabel_129 lf_mo_218 hF.1 rfl ?_
        refine Zn_iconst (nI 1) d_mo_parseLabel_132 (by decide) ?_
        refine Zn_iadd d_mo_parseLabel_133 ?_
        refine Z_puti d_mo_parseLabel_134 lf_mo_218 hF.1 rfl rfl (Nat.le_of_ble_eq_true rfl) ?_
        replace hF := hF.u7 ((p + 1) + 1)
        rw [pst_7] at hF
        refine Z_iload_n d_mo_parseLabel_137 rfl ?_
        refine Zn_bipush (nI 27) d_mo_parseLabel_138 (by decide) ?_
        refine Zn_idiv d_mo_parseLabel_140 (by decide) (by decide) (by decide) ?_
        refine Zn_istore_n [some (.ref 123), some (.int (nI ((G 22 p) - 48))), some (.int (nI (0 + (729 * (((G 22 (p + 1)) - 65) + 1))))), some (.int (nI 27))] d_mo_parseLabel_141 (by decide) rfl ?_
        refine Z_goto (tgt := 93) d_mo_parseLabel_142 (by decide) ?_
        refine Z_iload_n d_mo_parseLabel_93 rfl ?_
        refine Zn_if_le (a := 27) (tgt := 145) d_mo_parseLabel_94 (by decide) (by decide) (fun h => absurd h (by decide)) (fun _ => ?_)
        refine Z_aload_n d_mo_parseLabel_97 rfl ?_
        refine Zn_bipush (nI 65) d_mo_parseLabel_98 (by decide) ?_
        refine Zn_bipush (nI 90) d_mo_parseLabel_100 (by decide) ?_
        refine zVe (As := [.int (nI 65), .int (nI 90)]) (by omega) d_mo_parseLabel_102 lm_mo_225 hF.1 rfl rfl (Nat.le_of_ble_eq_true rfl) (mo_isNext_ok (p := ((p + 1) + 1)) d hF h120 (by omega) hch (by omega) (by omega)) ?_
        rcases hl2 : nb (s 5) (G 22) ((p + 1) + 1) 65 90 with _ | _
        · skip
          refine Zn_if_eq (a := 0) (tgt := 145) d_mo_parseLabel_105 (by decide) (by decide) (fun _ => ?_) (fun h => absurd h (by decide))
          refine Zn_sipush (nI 19683) d_mo_parseLabel_145 (by decide) ?_
          refine Z_iload_n d_mo_parseLabel_148 rfl ?_
          refine Zn_imul d_mo_parseLabel_149 ?_
          refine Z_iload_n d_mo_parseLabel_150 rfl ?_
          refine Zn_iadd d_mo_parseLabel_151 ?_
          refine Z_iret d_mo_parseLabel_152 rfl ?_
          have en : pNum (s 5) (G 22) p = (G 22 p - 48, p + 1) := by
            unfold pNum
            rw [if_neg (by rw [h2]; decide)]
          have el : pLab (s 5) (G 22) p = ((19683 * ((G 22 p) - 48)) + (0 + (729 * (((G 22 (p + 1)) - 65) + 1))), (p + 1) + 1) := by
            unfold pLab
            rw [if_pos h1, en]
            show pSuf _ _ 3 729 _ _ = _
            rw [pSuf_s, if_pos hl1]
            rw [pSuf_s, if_neg (by rw [hl2]; decide)]
            refine Prod.ext ?_ rfl
            show _ = _
            dsimp only
            omega
          refine ⟨?_, ?_⟩
          · rw [el]
          · rw [el, if_neg (by dsimp only; omega)]; exact hF
        · skip
          have hl2g := nb_iff.mp hl2
          refine Zn_if_eq (a := 1) (tgt := 145) d_mo_parseLabel_105 (by decide) (by decide) (fun h => absurd h (by decide)) (fun _ => ?_)
          refine Z_iload_n d_mo_parseLabel_108 rfl ?_
          refine Z_iload_n d_mo_parseLabel_109 rfl ?_
          refine Z_aload_n d_mo_parseLabel_110 rfl ?_
          refine Z_get (v := .ref 146) d_mo_parseLabel_111 lf_mo_77 hF.1 rfl ?_
          refine Z_aload_n d_mo_parseLabel_114 rfl ?_
          refine Z_get (v := .int (nI ((p + 1) + 1))) d_mo_parseLabel_115 lf_mo_218 hF.1 rfl ?_
          refine Zn_iald d_mo_parseLabel_118 hF.a22 (by omega) (by omega) ?_
          refine Zn_bipush (nI 65) d_mo_parseLabel_119 (by decide) ?_
          refine Zn_isub d_mo_parseLabel_121 (by omega) ?_
          refine Zn_iconst (nI 1) d_mo_parseLabel_122 (by decide) ?_
          refine Zn_iadd d_mo_parseLabel_123 ?_
          refine Zn_imul d_mo_parseLabel_124 ?_
          refine Zn_iadd d_mo_parseLabel_125 ?_
          refine Zn_istore_n [some (.ref 123), some (.int (nI ((G 22 p) - 48))), some (.int (nI ((0 + (729 * (((G 22 (p + 1)) - 65) + 1))) + (27 * (((G 22 ((p + 1) + 1)) - 65) + 1))))), some (.int (nI 27))] d_mo_parseLabel_126 (by decide) rfl ?_
          refine Z_aload_n d_mo_parseLabel_127 rfl ?_
          refine Z_dup d_mo_parseLabel_128 rfl ?_
          refine Z_get (v := .int (nI ((p + 1) + 1))) d_mo_parseLabel_129 lf_mo_218 hF.1 rfl ?_
          refine Zn_iconst (nI 1) d_mo_parseLabel_132 (by decide) ?_
          refine Zn_iadd d_mo_parseLabel_133 ?_
          refine Z_puti d_mo_parseLabel_134 lf_mo_218 hF.1 rfl rfl (Nat.le_of_ble_eq_true rfl) ?_
          replace hF := hF.u7 (((p + 1) + 1) + 1)
          rw [pst_7] at hF
          refine Z_iload_n d_mo_parseLabel_137 rfl ?_
          refine Zn_bipush (nI 27) d_mo_parseLabel_138 (by decide) ?_
          refine Zn_idiv d_mo_parseLabel_140 (by decide) (by decide) (by decide) ?_
          refine Zn_istore_n [some (.ref 123), some (.int (nI ((G 22 p) - 48))), some (.int (nI ((0 + (729 * (((G 22 (p + 1)) - 65) + 1))) + (27 * (((G 22 ((p + 1) + 1)) - 65) + 1))))), some (.int (nI 1))] d_mo_parseLabel_141 (by decide) rfl ?_
          refine Z_goto (tgt := 93) d_mo_parseLabel_142 (by decide) ?_
          refine Z_iload_n d_mo_parseLabel_93 rfl ?_
          refine Zn_if_le (a := 1) (tgt := 145) d_mo_parseLabel_94 (by decide) (by decide) (fun h => absurd h (by decide)) (fun _ => ?_)
          refine Z_aload_n d_mo_parseLabel_97 rfl ?_
          refine Zn_bipush (nI 65) d_mo_parseLabel_98 (by decide) ?_
          refine Zn_bipush (nI 90) d_mo_parseLabel_100 (by decide) ?_
          refine zVe (As := [.int (nI 65), .int (nI 90)]) (by omega) d_mo_parseLabel_102 lm_mo_225 hF.1 rfl rfl (Nat.le_of_ble_eq_true rfl) (mo_isNext_ok (p := (((p + 1) + 1) + 1)) d hF h120 (by omega) hch (by omega) (by omega)) ?_
          rcases hl3 : nb (s 5) (G 22) (((p + 1) + 1) + 1) 65 90 with _ | _
          · skip
            refine Zn_if_eq (a := 0) (tgt := 145) d_mo_parseLabel_105 (by decide) (by decide) (fun _ => ?_) (fun h => absurd h (by decide))
            refine Zn_sipush (nI 19683) d_mo_parseLabel_145 (by decide) ?_
            refine Z_iload_n d_mo_parseLabel_148 rfl ?_
            refine Zn_imul d_mo_parseLabel_149 ?_
            refine Z_iload_n d_mo_parseLabel_150 rfl ?_
            refine Zn_iadd d_mo_parseLabel_151 ?_
            refine Z_iret d_mo_parseLabel_152 rfl ?_
            have en : pNum (s 5) (G 22) p = (G 22 p - 48, p + 1) := by
              unfold pNum
              rw [if_neg (by rw [h2]; decide)]
            have el : pLab (s 5) (G 22) p = ((19683 * ((G 22 p) - 48)) + ((0 + (729 * (((G 22 (p + 1)) - 65) + 1))) + (27 * (((G 22 ((p + 1) + 1)) - 65) + 1))), ((p + 1) + 1) + 1) := by
              unfold pLab
              rw [if_pos h1, en]
              show pSuf _ _ 3 729 _ _ = _
              rw [pSuf_s, if_pos hl1]
              rw [pSuf_s, if_pos hl2]
              rw [pSuf_s, if_neg (by rw [hl3]; decide)]
              refine Prod.ext ?_ rfl
              show _ = _
              dsimp only
              omega
            refine ⟨?_, ?_⟩
            · rw [el]
            · rw [el, if_neg (by dsimp only; omega)]; exact hF
          · skip
            have hl3g := nb_iff.mp hl3
            refine Zn_if_eq (a := 1) (tgt := 145) d_mo_parseLabel_105 (by decide) (by decide) (fun h => absurd h (by decide)) (fun _ => ?_)
            refine Z_iload_n d_mo_parseLabel_108 rfl ?_
            refine Z_iload_n d_mo_parseLabel_109 rfl ?_
            refine Z_aload_n d_mo_parseLabel_110 rfl ?_
            refine Z_get (v := .ref 146) d_mo_parseLabel_111 lf_mo_77 hF.1 rfl ?_
            refine Z_aload_n d_mo_parseLabel_114 rfl ?_
            refine Z_get (v := .int (nI (((p + 1) + 1) + 1))) d_mo_parseLabel_115 lf_mo_218 hF.1 rfl ?_
            refine Zn_iald d_mo_parseLabel_118 hF.a22 (by omega) (by omega) ?_
            refine Zn_bipush (nI 65) d_mo_parseLabel_119 (by decide) ?_
            refine Zn_isub d_mo_parseLabel_121 (by omega) ?_
            refine Zn_iconst (nI 1) d_mo_parseLabel_122 (by decide) ?_
            refine Zn_iadd d_mo_parseLabel_123 ?_
            refine Zn_imul d_mo_parseLabel_124 ?_
            refine Zn_iadd d_mo_parseLabel_125 ?_
            refine Zn_istore_n [some (.ref 123), some (.int (nI ((G 22 p) - 48))), some (.int (nI (((0 + (729 * (((G 22 (p + 1)) - 65) + 1))) + (27 * (((G 22 ((p + 1) + 1)) - 65) + 1))) + (1 * (((G 22 (((p + 1) + 1) + 1)) - 65) + 1))))), some (.int (nI 1))] d_mo_parseLabel_126 (by decide) rfl ?_
            refine Z_aload_n d_mo_parseLabel_127 rfl ?_
            refine Z_dup d_mo_parseLabel_128 rfl ?_
            refine Z_get (v := .int (nI (((p + 1) + 1) + 1))) d_mo_parseLabel_129 lf_mo_218 hF.1 rfl ?_
            refine Zn_iconst (nI 1) d_mo_parseLabel_132 (by decide) ?_
            refine Zn_iadd d_mo_parseLabel_133 ?_
            refine Z_puti d_mo_parseLabel_134 lf_mo_218 hF.1 rfl rfl (Nat.le_of_ble_eq_true rfl) ?_
            replace hF := hF.u7 ((((p + 1) + 1) + 1) + 1)
            rw [pst_7] at hF
            refine Z_iload_n d_mo_parseLabel_137 rfl ?_
            refine Zn_bipush (nI 27) d_mo_parseLabel_138 (by decide) ?_
            refine Zn_idiv d_mo_parseLabel_140 (by decide) (by decide) (by decide) ?_
            refine Zn_istore_n [some (.ref 123), some (.int (nI ((G 22 p) - 48))), some (.int (nI (((0 + (729 * (((G 22 (p + 1)) - 65) + 1))) + (27 * (((G 22 ((p + 1) + 1)) - 65) + 1))) + (1 * (((G 22 (((p + 1) + 1) + 1)) - 65) + 1))))), some (.int (nI 0))] d_mo_parseLabel_141 (by decide) rfl ?_
            refine Z_goto (tgt := 93) d_mo_parseLabel_142 (by decide) ?_
            refine Z_iload_n d_mo_parseLabel_93 rfl ?_
            refine Zn_if_le (a := 0) (tgt := 145) d_mo_parseLabel_94 (by decide) (by decide) (fun _ => ?_) (fun h => absurd h (by decide))
            refine Zn_sipush (nI 19683) d_mo_parseLabel_145 (by decide) ?_
            refine Z_iload_n d_mo_parseLabel_148 rfl ?_
            refine Zn_imul d_mo_parseLabel_149 ?_
            refine Z_iload_n d_mo_parseLabel_150 rfl ?_
            refine Zn_iadd d_mo_parseLabel_151 ?_
            refine Z_iret d_mo_parseLabel_152 rfl ?_
            have en : pNum (s 5) (G 22) p = (G 22 p - 48, p + 1) := by
              unfold pNum
              rw [if_neg (by rw [h2]; decide)]
            have el : pLab (s 5) (G 22) p = ((19683 * ((G 22 p) - 48)) + (((0 + (729 * (((G 22 (p + 1)) - 65) + 1))) + (27 * (((G 22 ((p + 1) + 1)) - 65) + 1))) + (1 * (((G 22 (((p + 1) + 1) + 1)) - 65) + 1))), (((p + 1) + 1) + 1) + 1) := by
              unfold pLab
              rw [if_pos h1, en]
              show pSuf _ _ 3 729 _ _ = _
              rw [pSuf_s, if_pos hl1]
              rw [pSuf_s, if_pos hl2]
              rw [pSuf_s, if_pos hl3]
              show (_, _) = _
              refine Prod.ext ?_ rfl
              show _ = _
              dsimp only
              omega
            refine ⟨?_, ?_⟩
            · rw [el]
            · rw [el, if_neg (by dsimp only; omega)]; exact hF
    · skip
      have h2g := nb_iff.mp h2
      refine Zn_if_eq (a := 1) (tgt := 87) d_mo_parseLabel_56 (by decide) (by decide) (fun h => absurd h (by decide)) (fun _ => ?_)
      refine Zn_bipush (nI 10) d_mo_parseLabel_59 (by decide) ?_
      refine Z_iload_n d_mo_parseLabel_61 rfl ?_
      refine Zn_imul d_mo_parseLabel_62 ?_
      refine Z_aload_n d_mo_parseLabel_63 rfl ?_
      refine Z_get (v := .ref 146) d_mo_parseLabel_64 lf_mo_77 hF.1 rfl ?_
      refine Z_aload_n d_mo_parseLabel_67 rfl ?_
      refine Z_get (v := .int (nI (p + 1))) d_mo_parseLabel_68 lf_mo_218 hF.1 rfl ?_
      refine Zn_iald d_mo_parseLabel_71 hF.a22 (by omega) (by omega) ?_
      have hc1 := hch (p + 1)
      refine Zn_iadd d_mo_parseLabel_72 ?_
      refine Zn_bipush (nI 48) d_mo_parseLabel_73 (by decide) ?_
      refine Zn_isub d_mo_parseLabel_75 (by omega) ?_
      refine Zn_istore_n [some (.ref 123), some (.int (nI (((10 * ((G 22 p) - 48)) + (G 22 (p + 1))) - 48))), none, none] d_mo_parseLabel_76 (by decide) rfl ?_
      refine Z_aload_n d_mo_parseLabel_77 rfl ?_
      refine Z_dup d_mo_parseLabel_78 rfl ?_
      refine Z_get (v := .int (nI (p + 1))) d_mo_parseLabel_79 lf_mo_218 hF.1 rfl ?_
      refine Zn_iconst (nI 1) d_mo_parseLabel_82 (by decide) ?_
      refine Zn_iadd d_mo_parseLabel_83 ?_
      refine Z_puti d_mo_parseLabel_84 lf_mo_218 hF.1 rfl rfl (Nat.le_of_ble_eq_true rfl) ?_
      replace hF := hF.u7 ((p + 1) + 1)
      rw [pst_7] at hF
      refine Zn_iconst (nI 0) d_mo_parseLabel_87 (by decide) ?_
      refine Zn_istore_n [some (.ref 123), some (.int (nI (((10 * ((G 22 p) - 48)) + (G 22 (p + 1))) - 48))), some (.int (nI 0)), none] d_mo_parseLabel_88 (by decide) rfl ?_
      refine Zn_sipush (nI 729) d_mo_parseLabel_89 (by decide) ?_
      refine Zn_istore_n [some (.ref 123), some (.int (nI (((10 * ((G 22 p) - 48)) + (G 22 (p + 1))) - 48))), some (.int (nI 0)), some (.int (nI 729))] d_mo_parseLabel_92 (by decide) rfl ?_
      refine Z_iload_n d_mo_parseLabel_93 rfl ?_
      refine Zn_if_le (a := 729) (tgt := 145) d_mo_parseLabel_94 (by decide) (by decide) (fun h => absurd h (by decide)) (fun _ => ?_)
      refine Z_aload_n d_mo_parseLabel_97 rfl ?_
      refine Zn_bipush (nI 65) d_mo_parseLabel_98 (by decide) ?_
      refine Zn_bipush (nI 90) d_mo_parseLabel_100 (by decide) ?_
      refine zVe (As := [.int (nI 65), .int (nI 90)]) (by omega) d_mo_parseLabel_102 lm_mo_225 hF.1 rfl rfl (Nat.le_of_ble_eq_true rfl) (mo_isNext_ok (p := ((p + 1) + 1)) d hF h120 (by omega) hch (by omega) (by omega)) ?_
      rcases hl1 : nb (s 5) (G 22) ((p + 1) + 1) 65 90 with _ | _
      · skip
        refine Zn_if_eq (a := 0) (tgt := 145) d_mo_parseLabel_105 (by decide) (by decide) (fun _ => ?_) (fun h => absurd h (by decide))
        refine Zn_sipush (nI 19683) d_mo_parseLabel_145 (by decide) ?_
        refine Z_iload_n d_mo_parseLabel_148 rfl ?_
        refine Zn_imul d_mo_parseLabel_149 ?_
        refine Z_iload_n d_mo_parseLabel_150 rfl ?_
        refine Zn_iadd d_mo_parseLabel_151 ?_
        refine Z_iret d_mo_parseLabel_152 rfl ?_
        have en : pNum (s 5) (G 22) p = ((G 22 p - 48) * 10 + (G 22 (p + 1) - 48), p + 1 + 1) := by
          unfold pNum
          rw [if_pos h2]
        have el : pLab (s 5) (G 22) p = ((19683 * (((10 * ((G 22 p) - 48)) + (G 22 (p + 1))) - 48)) + 0, (p + 1) + 1) := by
          unfold pLab
          rw [if_pos h1, en]
          show pSuf _ _ 3 729 _ _ = _
          rw [pSuf_s, if_neg (by rw [hl1]; decide)]
          refine Prod.ext ?_ rfl
          show _ = _
          dsimp only
          omega
        refine ⟨?_, ?_⟩
        · rw [el]
        · rw [el, if_neg (by dsimp only; omega)]; exact hF
      · skip
        have hl1g := nb_iff.mp hl1
        refine Zn_if_eq (a := 1) (tgt := 145) d_mo_parseLabel_105 (by decide) (by decide) (fun h => absurd h (by decide)) (fun _ => ?_)
        refine Z_iload_n d_mo_parseLabel_108 rfl ?_
        refine Z_iload_n d_mo_parseLabel_109 rfl ?_
        refine Z_aload_n d_mo_parseLabel_110 rfl ?_
        refine Z_get (v := .ref 146) d_mo_parseLabel_111 lf_mo_77 hF.1 rfl ?_
        refine Z_aload_n d_mo_parseLabel_114 rfl ?_
        refine Z_get (v := .int (nI ((p + 1) + 1))) d_mo_parseLabel_115 lf_mo_218 hF.1 rfl ?_
        refine Zn_iald d_mo_parseLabel_118 hF.a22 (by omega) (by omega) ?_
        refine Zn_bipush (nI 65) d_mo_parseLabel_119 (by decide) ?_
        refine Zn_isub d_mo_parseLabel_121 (by omega) ?_
        refine Zn_iconst (nI 1) d_mo_parseLabel_122 (by decide) ?_
        refine Zn_iadd d_mo_parseLabel_123 ?_
        refine Zn_imul d_mo_parseLabel_124 ?_
        refine Zn_iadd d_mo_parseLabel_125 ?_
        refine Zn_istore_n [some (.ref 123), some (.int (nI (((10 * ((G 22 p) - 48)) + (G 22 (p + 1))) - 48))), some (.int (nI (0 + (729 * (((G 22 ((p + 1) + 1)) - 65) + 1))))), some (.int (nI 729))] d_mo_parseLabel_126 (by decide) rfl ?_
        refine Z_aload_n d_mo_parseLabel_127 rfl ?_
        refine Z_dup d_mo_parseLabel_128 rfl ?_
        refine Z_get (v := .int (nI ((p + 1) + 1))) d_mo_parseLabel_129 lf_mo_218 hF.1 rfl ?_
        refine Zn_iconst (nI 1) d_mo_parseLabel_132 (by decide) ?_
        refine Zn_iadd d_mo_parseLabel_133 ?_
        refine Z_puti d_mo_parseLabel_134 lf_mo_218 hF.1 rfl rfl (Nat.le_of_ble_eq_true rfl) ?_
        replace hF := hF.u7 (((p + 1) + 1) + 1)
        rw [pst_7] at hF
        refine Z_iload_n d_mo_parseLabel_137 rfl ?_
        refine Zn_bipush (nI 27) d_mo_parseLabel_138 (by decide) ?_
        refine Zn_idiv d_mo_parseLabel_140 (by decide) (by decide) (by decide) ?_
        refine Zn_istore_n [some (.ref 123), some (.int (nI (((10 * ((G 22 p) - 48)) + (G 22 (p + 1))) - 48))), some (.int (nI (0 + (729 * (((G 22 ((p + 1) + 1)) - 65) + 1))))), some (.int (nI 27))] d_mo_parseLabel_141 (by decide) rfl ?_
        refine Z_goto (tgt := 93) d_mo_parseLabel_142 (by decide) ?_
        refine Z_iload_n d_mo_parseLabel_93 rfl ?_
        refine Zn_if_le (a := 27) (tgt := 145) d_mo_parseLabel_94 (by decide) (by decide) (fun h => absurd h (by decide)) (fun _ => ?_)
        refine Z_aload_n d_mo_parseLabel_97 rfl ?_
        refine Zn_bipush (nI 65) d_mo_parseLabel_98 (by decide) ?_
        refine Zn_bipush (nI 90) d_mo_parseLabel_100 (by decide) ?_
        refine zVe (As := [.int (nI 65), .int (nI 90)]) (by omega) d_mo_parseLabel_102 lm_mo_225 hF.1 rfl rfl (Nat.le_of_ble_eq_true rfl) (mo_isNext_ok (p := (((p + 1) + 1) + 1)) d hF h120 (by omega) hch (by omega) (by omega)) ?_
        rcases hl2 : nb (s 5) (G 22) (((p + 1) + 1) + 1) 65 90 with _ | _
        · skip
          refine Zn_if_eq (a := 0) (tgt := 145) d_mo_parseLabel_105 (by decide) (by decide) (fun _ => ?_) (fun h => absurd h (by decide))
          refine Zn_sipush (nI 19683) d_mo_parseLabel_145 (by decide) ?_
          refine Z_iload_n d_mo_parseLabel_148 rfl ?_
          refine Zn_imul d_mo_parseLabel_149 ?_
          refine Z_iload_n d_mo_parseLabel_150 rfl ?_
          refine Zn_iadd d_mo_parseLabel_151 ?_
          refine Z_iret d_mo_parseLabel_152 rfl ?_
          have en : pNum (s 5) (G 22) p = ((G 22 p - 48) * 10 + (G 22 (p + 1) - 48), p + 1 + 1) := by
            unfold pNum
            rw [if_pos h2]
          have el : pLab (s 5) (G 22) p = ((19683 * (((10 * ((G 22 p) - 48)) + (G 22 (p + 1))) - 48)) + (0 + (729 * (((G 22 ((p + 1) + 1)) - 65) + 1))), ((p + 1) + 1) + 1) := by
            unfold pLab
            rw [if_pos h1, en]
            show pSuf _ _ 3 729 _ _ = _
            rw [pSuf_s, if_pos hl1]
            rw [pSuf_s, if_neg (by rw [hl2]; decide)]
            refine Prod.ext ?_ rfl
            show _ = _
            dsimp only
            omega
          refine ⟨?_, ?_⟩
          · rw [el]
          · rw [el, if_neg (by dsimp only; omega)]; exact hF
        · skip
          have hl2g := nb_iff.mp hl2
          refine Zn_if_eq (a := 1) (tgt := 145) d_mo_parseLabel_105 (by decide) (by decide) (fun h => absurd h (by decide)) (fun _ => ?_)
          refine Z_iload_n d_mo_parseLabel_108 rfl ?_
          refine Z_iload_n d_mo_parseLabel_109 rfl ?_
          refine Z_aload_n d_mo_parseLabel_110 rfl ?_
          refine Z_get (v := .ref 146) d_mo_parseLabel_111 lf_mo_77 hF.1 rfl ?_
          refine Z_aload_n d_mo_parseLabel_114 rfl ?_
          refine Z_get (v := .int (nI (((p + 1) + 1) + 1))) d_mo_parseLabel_115 lf_mo_218 hF.1 rfl ?_
          refine Zn_iald d_mo_parseLabel_118 hF.a22 (by omega) (by omega) ?_
          refine Zn_bipush (nI 65) d_mo_parseLabel_119 (by decide) ?_
          refine Zn_isub d_mo_parseLabel_121 (by omega) ?_
          refine Zn_iconst (nI 1) d_mo_parseLabel_122 (by decide) ?_
          refine Zn_iadd d_mo_parseLabel_123 ?_
          refine Zn_imul d_mo_parseLabel_124 ?_
          refine Zn_iadd d_mo_parseLabel_125 ?_
          refine Zn_istore_n [some (.ref 123), some (.int (nI (((10 * ((G 22 p) - 48)) + (G 22 (p + 1))) - 48))), some (.int (nI ((0 + (729 * (((G 22 ((p + 1) + 1)) - 65) + 1))) + (27 * (((G 22 (((p + 1) + 1) + 1)) - 65) + 1))))), some (.int (nI 27))] d_mo_parseLabel_126 (by decide) rfl ?_
          refine Z_aload_n d_mo_parseLabel_127 rfl ?_
          refine Z_dup d_mo_parseLabel_128 rfl ?_
          refine Z_get (v := .int (nI (((p + 1) + 1) + 1))) d_mo_parseLabel_129 lf_mo_218 hF.1 rfl ?_
          refine Zn_iconst (nI 1) d_mo_parseLabel_132 (by decide) ?_
          refine Zn_iadd d_mo_parseLabel_133 ?_
          refine Z_puti d_mo_parseLabel_134 lf_mo_218 hF.1 rfl rfl (Nat.le_of_ble_eq_true rfl) ?_
          replace hF := hF.u7 ((((p + 1) + 1) + 1) + 1)
          rw [pst_7] at hF
          refine Z_iload_n d_mo_parseLabel_137 rfl ?_
          refine Zn_bipush (nI 27) d_mo_parseLabel_138 (by decide) ?_
          refine Zn_idiv d_mo_parseLabel_140 (by decide) (by decide) (by decide) ?_
          refine Zn_istore_n [some (.ref 123), some (.int (nI (((10 * ((G 22 p) - 48)) + (G 22 (p + 1))) - 48))), some (.int (nI ((0 + (729 * (((G 22 ((p + 1) + 1)) - 65) + 1))) + (27 * (((G 22 (((p + 1) + 1) + 1)) - 65) + 1))))), some (.int (nI 1))] d_mo_parseLabel_141 (by decide) rfl ?_
          refine Z_goto (tgt := 93) d_mo_parseLabel_142 (by decide) ?_
          refine Z_iload_n d_mo_parseLabel_93 rfl ?_
          refine Zn_if_le (a := 1) (tgt := 145) d_mo_parseLabel_94 (by decide) (by decide) (fun h => absurd h (by decide)) (fun _ => ?_)
          refine Z_aload_n d_mo_parseLabel_97 rfl ?_
          refine Zn_bipush (nI 65) d_mo_parseLabel_98 (by decide) ?_
          refine Zn_bipush (nI 90) d_mo_parseLabel_100 (by decide) ?_
          refine zVe (As := [.int (nI 65), .int (nI 90)]) (by omega) d_mo_parseLabel_102 lm_mo_225 hF.1 rfl rfl (Nat.le_of_ble_eq_true rfl) (mo_isNext_ok (p := ((((p + 1) + 1) + 1) + 1)) d hF h120 (by omega) hch (by omega) (by omega)) ?_
          rcases hl3 : nb (s 5) (G 22) ((((p + 1) + 1) + 1) + 1) 65 90 with _ | _
          · skip
            refine Zn_if_eq (a := 0) (tgt := 145) d_mo_parseLabel_105 (by decide) (by decide) (fun _ => ?_) (fun h => absurd h (by decide))
            refine Zn_sipush (nI 19683) d_mo_parseLabel_145 (by decide) ?_
            refine Z_iload_n d_mo_parseLabel_148 rfl ?_
            refine Zn_imul d_mo_parseLabel_149 ?_
            refine Z_iload_n d_mo_parseLabel_150 rfl ?_
            refine Zn_iadd d_mo_parseLabel_151 ?_
            refine Z_iret d_mo_parseLabel_152 rfl ?_
            have en : pNum (s 5) (G 22) p = ((G 22 p - 48) * 10 + (G 22 (p + 1) - 48), p + 1 + 1) := by
              unfold pNum
              rw [if_pos h2]
            have el : pLab (s 5) (G 22) p = ((19683 * (((10 * ((G 22 p) - 48)) + (G 22 (p + 1))) - 48)) + ((0 + (729 * (((G 22 ((p + 1) + 1)) - 65) + 1))) + (27 * (((G 22 (((p + 1) + 1) + 1)) - 65) + 1))), (((p + 1) + 1) + 1) + 1) := by
              unfold pLab
              rw [if_pos h1, en]
              show pSuf _ _ 3 729 _ _ = _
              rw [pSuf_s, if_pos hl1]
              rw [pSuf_s, if_pos hl2]
              rw [pSuf_s, if_neg (by rw [hl3]; decide)]
              refine Prod.ext ?_ rfl
              show _ = _
              dsimp only
              omega
            refine ⟨?_, ?_⟩
            · rw [el]
            · rw [el, if_neg (by dsimp only; omega)]; exact hF
          · skip
            have hl3g := nb_iff.mp hl3
            refine Zn_if_eq (a := 1) (tgt := 145) d_mo_parseLabel_105 (by decide) (by decide) (fun h => absurd h (by decide)) (fun _ => ?_)
            refine Z_iload_n d_mo_parseLabel_108 rfl ?_
            refine Z_iload_n d_mo_parseLabel_109 rfl ?_
            refine Z_aload_n d_mo_parseLabel_110 rfl ?_
            refine Z_get (v := .ref 146) d_mo_parseLabel_111 lf_mo_77 hF.1 rfl ?_
            refine Z_aload_n d_mo_parseLabel_114 rfl ?_
            refine Z_get (v := .int (nI ((((p + 1) + 1) + 1) + 1))) d_mo_parseLabel_115 lf_mo_218 hF.1 rfl ?_
            refine Zn_iald d_mo_parseLabel_118 hF.a22 (by omega) (by omega) ?_
            refine Zn_bipush (nI 65) d_mo_parseLabel_119 (by decide) ?_
            refine Zn_isub d_mo_parseLabel_121 (by omega) ?_
            refine Zn_iconst (nI 1) d_mo_parseLabel_122 (by decide) ?_
            refine Zn_iadd d_mo_parseLabel_123 ?_
            refine Zn_imul d_mo_parseLabel_124 ?_
            refine Zn_iadd d_mo_parseLabel_125 ?_
            refine Zn_istore_n [some (.ref 123), some (.int (nI (((10 * ((G 22 p) - 48)) + (G 22 (p + 1))) - 48))), some (.int (nI (((0 + (729 * (((G 22 ((p + 1) + 1)) - 65) + 1))) + (27 * (((G 22 (((p + 1) + 1) + 1)) - 65) + 1))) + (1 * (((G 22 ((((p + 1) + 1) + 1) + 1)) - 65) + 1))))), some (.int (nI 1))] d_mo_parseLabel_126 (by decide) rfl ?_
            refine Z_aload_n d_mo_parseLabel_127 rfl ?_
            refine Z_dup d_mo_parseLabel_128 rfl ?_
            refine Z_get (v := .int (nI ((((p + 1) + 1) + 1) + 1))) d_mo_parseLabel_129 lf_mo_218 hF.1 rfl ?_
            refine Zn_iconst (nI 1) d_mo_parseLabel_132 (by decide) ?_
            refine Zn_iadd d_mo_parseLabel_133 ?_
            refine Z_puti d_mo_parseLabel_134 lf_mo_218 hF.1 rfl rfl (Nat.le_of_ble_eq_true rfl) ?_
            replace hF := hF.u7 (((((p + 1) + 1) + 1) + 1) + 1)
            rw [pst_7] at hF
            refine Z_iload_n d_mo_parseLabel_137 rfl ?_
            refine Zn_bipush (nI 27) d_mo_parseLabel_138 (by decide) ?_
            refine Zn_idiv d_mo_parseLabel_140 (by decide) (by decide) (by decide) ?_
            refine Zn_istore_n [some (.ref 123), some (.int (nI (((10 * ((G 22 p) - 48)) + (G 22 (p + 1))) - 48))), some (.int (nI (((0 + (729 * (((G 22 ((p + 1) + 1)) - 65) + 1))) + (27 * (((G 22 (((p + 1) + 1) + 1)) - 65) + 1))) + (1 * (((G 22 ((((p + 1) + 1) + 1) + 1)) - 65) + 1))))), some (.int (nI 0))] d_mo_parseLabel_141 (by decide) rfl ?_
            refine Z_goto (tgt := 93) d_mo_parseLabel_142 (by decide) ?_
            refine Z_iload_n d_mo_parseLabel_93 rfl ?_
            refine Zn_if_le (a := 0) (tgt := 145) d_mo_parseLabel_94 (by decide) (by decide) (fun _ => ?_) (fun h => absurd h (by decide))
            refine Zn_sipush (nI 19683) d_mo_parseLabel_145 (by decide) ?_
            refine Z_iload_n d_mo_parseLabel_148 rfl ?_
            refine Zn_imul d_mo_parseLabel_149 ?_
            refine Z_iload_n d_mo_parseLabel_150 rfl ?_
            refine Zn_iadd d_mo_parseLabel_151 ?_
            refine Z_iret d_mo_parseLabel_152 rfl ?_
            have en : pNum (s 5) (G 22) p = ((G 22 p - 48) * 10 + (G 22 (p + 1) - 48), p + 1 + 1) := by
              unfold pNum
              rw [if_pos h2]
            have el : pLab (s 5) (G 22) p = ((19683 * (((10 * ((G 22 p) - 48)) + (G 22 (p + 1))) - 48)) + (((0 + (729 * (((G 22 ((p + 1) + 1)) - 65) + 1))) + (27 * (((G 22 (((p + 1) + 1) + 1)) - 65) + 1))) + (1 * (((G 22 ((((p + 1) + 1) + 1) + 1)) - 65) + 1))), ((((p + 1) + 1) + 1) + 1) + 1) := by
              unfold pLab
              rw [if_pos h1, en]
              show pSuf _ _ 3 729 _ _ = _
              rw [pSuf_s, if_pos hl1]
              rw [pSuf_s, if_pos hl2]
              rw [pSuf_s, if_pos hl3]
              show (_, _) = _
              refine Prod.ext ?_ rfl
              show _ = _
              dsimp only
              omega
            refine ⟨?_, ?_⟩
            · rw [el]
            · rw [el, if_neg (by dsimp only; omega)]; exact hF
set_option maxHeartbeats 4000000 in
theorem mo_parseLabel_no {Γ : zCtx} {M : List zE} (d : Nat) {M0 : List zE} {s : Nat → Nat} {G : Nat → Nat → Nat} {p : Nat} (hF : FW M0 M (pst s p 1) G)  : ZM Γ (d + 3) m_mo_parseLabel [.ref 123] M (fun M1 v => v = some (.int (nI 0)) ∧ FW M0 M1 (pst s p 1) G) := by
  refine ZM.of mk_mo_parseLabel (Nat.le_of_ble_eq_true rfl) ?_
  rw [show zEn [.ref 123] = [some (.ref 123)] from rfl]
  refine zPad 3 ?_
  show Z _ _ _ _ _ _ _ [some (.ref 123), none, none, none] _ _
  refine Z_aload_n d_mo_parseLabel_0 rfl ?_
  refine Z_get (v := .int (nI 1)) d_mo_parseLabel_1 lf_mo_221 hF.1 rfl ?_
  refine Zn_if_ne (a := 1) (tgt := 18) d_mo_parseLabel_4 (by decide) (by decide) (fun _ => ?_) (fun h => absurd h (by decide))
  refine Z_aload_n d_mo_parseLabel_18 rfl ?_
  refine Zn_iconst (nI 1) d_mo_parseLabel_19 (by decide) ?_
  refine Z_putz d_mo_parseLabel_20 lf_mo_221 hF.1 rfl rfl (by first | exact Or.inl rfl | exact Or.inr rfl) (Nat.le_of_ble_eq_true rfl) ?_
  replace hF := hF.u8 1
  rw [pst_8] at hF
  refine Zn_iconst (nI 0) d_mo_parseLabel_23 (by decide) ?_
  refine Z_iret d_mo_parseLabel_24 rfl ?_
  exact ⟨rfl, hF⟩
theorem pDig_s {len : Nat} {ch : Nat → Nat} {k v p : Nat} : pDig len ch (k + 1) v p = if nb len ch p 48 57 = true then pDig len ch k (v * 10 + (ch p - 48)) (p + 1) else (v, p) := rfl
set_option maxHeartbeats 4000000 in
theorem mo_parseNumber_ok {Γ : zCtx} {M : List zE} (d : Nat) {M0 : List zE} {s : Nat → Nat} {G : Nat → Nat → Nat} {p : Nat} (hF : FW M0 M (pst s p 0) G) (h120 : s 5 ≤ 120) (hp : p ≤ s 5) (hch : ∀ i, G 22 i ≤ 126)  : ZM Γ (d + 3) m_mo_parseNumber [.ref 123] M (fun M1 v => v = some (.int (nI ((pTx (s 5) (G 22) p).1.getD 0))) ∧ FW M0 M1 (pst s (pTx (s 5) (G 22) p).2 (if (pTx (s 5) (G 22) p).1.isSome = true then 0 else 1)) G) := by
  refine ZM.of mk_mo_parseNumber (Nat.le_of_ble_eq_true rfl) ?_
  rw [show zEn [.ref 123] = [some (.ref 123)] from rfl]
  refine zPad 2 ?_
  show Z _ _ _ _ _ _ _ [some (.ref 123), none, none] _ _
  refine Z_aload_n d_mo_parseNumber_0 rfl ?_
  refine Z_get (v := .int (nI 0)) d_mo_parseNumber_1 lf_mo_221 hF.1 rfl ?_
  refine Zn_if_ne (a := 0) (tgt := 18) d_mo_parseNumber_4 (by decide) (by decide) (fun h => absurd h (by decide)) (fun _ => ?_)
  refine Z_aload_n d_mo_parseNumber_7 rfl ?_
  refine Zn_bipush (nI 48) d_mo_parseNumber_8 (by decide) ?_
  refine Zn_bipush (nI 57) d_mo_parseNumber_10 (by decide) ?_
  refine zVe (As := [.int (nI 48), .int (nI 57)]) (by omega) d_mo_parseNumber_12 lm_mo_225 hF.1 rfl rfl (Nat.le_of_ble_eq_true rfl) (mo_isNext_ok (p := p) d hF h120 (by omega) hch (by omega) (by omega)) ?_
  rcases h1 : nb (s 5) (G 22) p 48 57 with _ | _
  · skip
    refine Zn_if_ne (a := 0) (tgt := 25) d_mo_parseNumber_15 (by decide) (by decide) (fun h => absurd h (by decide)) (fun _ => ?_)
    refine Z_aload_n d_mo_parseNumber_18 rfl ?_
    refine Zn_iconst (nI 1) d_mo_parseNumber_19 (by decide) ?_
    refine Z_putz d_mo_parseNumber_20 lf_mo_221 hF.1 rfl rfl (by first | exact Or.inl rfl | exact Or.inr rfl) (Nat.le_of_ble_eq_true rfl) ?_
    replace hF := hF.u8 1
    rw [pst_8] at hF
    refine Zn_iconst (nI 0) d_mo_parseNumber_23 (by decide) ?_
    refine Z_iret d_mo_parseNumber_24 rfl ?_
    have et : pTx (s 5) (G 22) p = (none, p) := by unfold pTx; exact if_neg (by rw [h1]; decide)
    refine ⟨?_, ?_⟩
    · rw [et]; rfl
    · rw [et]; exact hF
  · skip
    have h1g := nb_iff.mp h1
    refine Zn_if_ne (a := 1) (tgt := 25) d_mo_parseNumber_15 (by decide) (by decide) (fun _ => ?_) (fun h => absurd h (by decide))
    refine Zn_iconst (nI 0) d_mo_parseNumber_25 (by decide) ?_
    refine Zn_istore_n [some (.ref 123), some (.int (nI 0)), none] d_mo_parseNumber_26 (by decide) rfl ?_
    refine Zn_iconst (nI 0) d_mo_parseNumber_27 (by decide) ?_
    refine Zn_istore_n [some (.ref 123), some (.int (nI 0)), some (.int (nI 0))] d_mo_parseNumber_28 (by decide) rfl ?_
    refine Z_iload_n d_mo_parseNumber_29 rfl ?_
    refine Zn_iconst (nI 4) d_mo_parseNumber_30 (by decide) ?_
    refine Zn_icmp_ge (a := 0) (b := 4) (tgt := 79) d_mo_parseNumber_31 (by decide) (by decide) (by decide) (fun h => absurd h (by decide)) (fun _ => ?_)
    refine Z_aload_n d_mo_parseNumber_34 rfl ?_
    refine Zn_bipush (nI 48) d_mo_parseNumber_35 (by decide) ?_
    refine Zn_bipush (nI 57) d_mo_parseNumber_37 (by decide) ?_
    refine zVe (As := [.int (nI 48), .int (nI 57)]) (by omega) d_mo_parseNumber_39 lm_mo_225 hF.1 rfl rfl (Nat.le_of_ble_eq_true rfl) (mo_isNext_ok (p := p) d hF h120 (by omega) hch (by omega) (by omega)) ?_
    rcases hd1 : nb (s 5) (G 22) p 48 57 with _ | _
    · skip
      refine Zn_if_eq (a := 0) (tgt := 79) d_mo_parseNumber_42 (by decide) (by decide) (fun _ => ?_) (fun h => absurd h (by decide))
      refine Z_iload_n d_mo_parseNumber_79 rfl ?_
      refine Z_iret d_mo_parseNumber_80 rfl ?_
      exact absurd h1 (by rw [hd1]; decide)
    · skip
      have hd1g := nb_iff.mp hd1
      refine Zn_if_eq (a := 1) (tgt := 79) d_mo_parseNumber_42 (by decide) (by decide) (fun h => absurd h (by decide)) (fun _ => ?_)
      refine Zn_bipush (nI 10) d_mo_parseNumber_45 (by decide) ?_
      refine Z_iload_n d_mo_parseNumber_47 rfl ?_
      refine Zn_imul d_mo_parseNumber_48 ?_
      refine Z_aload_n d_mo_parseNumber_49 rfl ?_
      refine Z_get (v := .ref 146) d_mo_parseNumber_50 lf_mo_77 hF.1 rfl ?_
      refine Z_aload_n d_mo_parseNumber_53 rfl ?_
      refine Z_get (v := .int (nI p)) d_mo_parseNumber_54 lf_mo_218 hF.1 rfl ?_
      refine Zn_iald d_mo_parseNumber_57 hF.a22 (by omega) (by omega) ?_
      refine Zn_iadd d_mo_parseNumber_58 ?_
      refine Zn_bipush (nI 48) d_mo_parseNumber_59 (by decide) ?_
      refine Zn_isub d_mo_parseNumber_61 (by omega) ?_
      refine Zn_istore_n [some (.ref 123), some (.int (nI ((0 + (G 22 p)) - 48))), some (.int (nI 0))] d_mo_parseNumber_62 (by decide) rfl ?_
      refine Z_aload_n d_mo_parseNumber_63 rfl ?_
      refine Z_dup d_mo_parseNumber_64 rfl ?_
      refine Z_get (v := .int (nI p)) d_mo_parseNumber_65 lf_mo_218 hF.1 rfl ?_
      refine Zn_iconst (nI 1) d_mo_parseNumber_68 (by decide) ?_
      refine Zn_iadd d_mo_parseNumber_69 ?_
      refine Z_puti d_mo_parseNumber_70 lf_mo_218 hF.1 rfl rfl (Nat.le_of_ble_eq_true rfl) ?_
      replace hF := hF.u7 (p + 1)
      rw [pst_7] at hF
      refine Zn_iinc [some (.ref 123), some (.int (nI ((0 + (G 22 p)) - 48))), some (.int (nI 1))] (nI 1) d_mo_parseNumber_73 rfl (by decide) (nI_add 0 1) rfl ?_
      refine Z_goto (tgt := 29) d_mo_parseNumber_76 (by decide) ?_
      refine Z_iload_n d_mo_parseNumber_29 rfl ?_
      refine Zn_iconst (nI 4) d_mo_parseNumber_30 (by decide) ?_
      refine Zn_icmp_ge (a := 1) (b := 4) (tgt := 79) d_mo_parseNumber_31 (by decide) (by decide) (by decide) (fun h => absurd h (by decide)) (fun _ => ?_)
      refine Z_aload_n d_mo_parseNumber_34 rfl ?_
      refine Zn_bipush (nI 48) d_mo_parseNumber_35 (by decide) ?_
      refine Zn_bipush (nI 57) d_mo_parseNumber_37 (by decide) ?_
      refine zVe (As := [.int (nI 48), .int (nI 57)]) (by omega) d_mo_parseNumber_39 lm_mo_225 hF.1 rfl rfl (Nat.le_of_ble_eq_true rfl) (mo_isNext_ok (p := (p + 1)) d hF h120 (by omega) hch (by omega) (by omega)) ?_
      rcases hd2 : nb (s 5) (G 22) (p + 1) 48 57 with _ | _
      · skip
        refine Zn_if_eq (a := 0) (tgt := 79) d_mo_parseNumber_42 (by decide) (by decide) (fun _ => ?_) (fun h => absurd h (by decide))
        refine Z_iload_n d_mo_parseNumber_79 rfl ?_
        refine Z_iret d_mo_parseNumber_80 rfl ?_
        have el : pDig (s 5) (G 22) 4 0 p = ((0 + (G 22 p)) - 48, p + 1) := by
          rw [pDig_s, if_pos hd1]
          rw [pDig_s, if_neg (by rw [hd2]; decide)]
          refine Prod.ext ?_ rfl
          show _ = _
          dsimp only
          omega
        have et : pTx (s 5) (G 22) p = (some (pDig (s 5) (G 22) 4 0 p).1, (pDig (s 5) (G 22) 4 0 p).2) := by unfold pTx; exact if_pos h1
        refine ⟨?_, ?_⟩
        · rw [et, el]; rfl
        · rw [et, el]; exact hF
      · skip
        have hd2g := nb_iff.mp hd2
        refine Zn_if_eq (a := 1) (tgt := 79) d_mo_parseNumber_42 (by decide) (by decide) (fun h => absurd h (by decide)) (fun _ => ?_)
        refine Zn_bipush (nI 10) d_mo_parseNumber_45 (by decide) ?_
        refine Z_iload_n d_mo_parseNumber_47 rfl ?_
        refine Zn_imul d_mo_parseNumber_48 ?_
        refine Z_aload_n d_mo_parseNumber_49 rfl ?_
        refine Z_get (v := .ref 146) d_mo_parseNumber_50 lf_mo_77 hF.1 rfl ?_
        refine Z_aload_n d_mo_parseNumber_53 rfl ?_
        refine Z_get (v := .int (nI (p + 1))) d_mo_parseNumber_54 lf_mo_218 hF.1 rfl ?_
        refine Zn_iald d_mo_parseNumber_57 hF.a22 (by omega) (by omega) ?_
        refine Zn_iadd d_mo_parseNumber_58 ?_
        refine Zn_bipush (nI 48) d_mo_parseNumber_59 (by decide) ?_
        refine Zn_isub d_mo_parseNumber_61 (by omega) ?_
        refine Zn_istore_n [some (.ref 123), some (.int (nI (((10 * ((0 + (G 22 p)) - 48)) + (G 22 (p + 1))) - 48))), some (.int (nI 1))] d_mo_parseNumber_62 (by decide) rfl ?_
        refine Z_aload_n d_mo_parseNumber_63 rfl ?_
        refine Z_dup d_mo_parseNumber_64 rfl ?_
        refine Z_get (v := .int (nI (p + 1))) d_mo_parseNumber_65 lf_mo_218 hF.1 rfl ?_
        refine Zn_iconst (nI 1) d_mo_parseNumber_68 (by decide) ?_
        refine Zn_iadd d_mo_parseNumber_69 ?_
        refine Z_puti d_mo_parseNumber_70 lf_mo_218 hF.1 rfl rfl (Nat.le_of_ble_eq_true rfl) ?_
        replace hF := hF.u7 ((p + 1) + 1)
        rw [pst_7] at hF
        refine Zn_iinc [some (.ref 123), some (.int (nI (((10 * ((0 + (G 22 p)) - 48)) + (G 22 (p + 1))) - 48))), some (.int (nI 2))] (nI 2) d_mo_parseNumber_73 rfl (by decide) (nI_add 1 1) rfl ?_
        refine Z_goto (tgt := 29) d_mo_parseNumber_76 (by decide) ?_
        refine Z_iload_n d_mo_parseNumber_29 rfl ?_
        refine Zn_iconst (nI 4) d_mo_parseNumber_30 (by decide) ?_
        refine Zn_icmp_ge (a := 2) (b := 4) (tgt := 79) d_mo_parseNumber_31 (by decide) (by decide) (by decide) (fun h => absurd h (by decide)) (fun _ => ?_)
        refine Z_aload_n d_mo_parseNumber_34 rfl ?_
        refine Zn_bipush (nI 48) d_mo_parseNumber_35 (by decide) ?_
        refine Zn_bipush (nI 57) d_mo_parseNumber_37 (by decide) ?_
        refine zVe (As := [.int (nI 48), .int (nI 57)]) (by omega) d_mo_parseNumber_39 lm_mo_225 hF.1 rfl rfl (Nat.le_of_ble_eq_true rfl) (mo_isNext_ok (p := ((p + 1) + 1)) d hF h120 (by omega) hch (by omega) (by omega)) ?_
        rcases hd3 : nb (s 5) (G 22) ((p + 1) + 1) 48 57 with _ | _
        · skip
          refine Zn_if_eq (a := 0) (tgt := 79) d_mo_parseNumber_42 (by decide) (by decide) (fun _ => ?_) (fun h => absurd h (by decide))
          refine Z_iload_n d_mo_parseNumber_79 rfl ?_
          refine Z_iret d_mo_parseNumber_80 rfl ?_
          have el : pDig (s 5) (G 22) 4 0 p = (((10 * ((0 + (G 22 p)) - 48)) + (G 22 (p + 1))) - 48, (p + 1) + 1) := by
            rw [pDig_s, if_pos hd1]
            rw [pDig_s, if_pos hd2]
            rw [pDig_s, if_neg (by rw [hd3]; decide)]
            refine Prod.ext ?_ rfl
            show _ = _
            dsimp only
            omega
          have et : pTx (s 5) (G 22) p = (some (pDig (s 5) (G 22) 4 0 p).1, (pDig (s 5) (G 22) 4 0 p).2) := by unfold pTx; exact if_pos h1
          refine ⟨?_, ?_⟩
          · rw [et, el]; rfl
          · rw [et, el]; exact hF
        · skip
          have hd3g := nb_iff.mp hd3
          refine Zn_if_eq (a := 1) (tgt := 79) d_mo_parseNumber_42 (by decide) (by decide) (fun h => absurd h (by decide)) (fun _ => ?_)
          refine Zn_bipush (nI 10) d_mo_parseNumber_45 (by decide) ?_
          refine Z_iload_n d_mo_parseNumber_47 rfl ?_
          refine Zn_imul d_mo_parseNumber_48 ?_
          refine Z_aload_n d_mo_parseNumber_49 rfl ?_
          refine Z_get (v := .ref 146) d_mo_parseNumber_50 lf_mo_77 hF.1 rfl ?_
          refine Z_aload_n d_mo_parseNumber_53 rfl ?_
          refine Z_get (v := .int (nI ((p + 1) + 1))) d_mo_parseNumber_54 lf_mo_218 hF.1 rfl ?_
          refine Zn_iald d_mo_parseNumber_57 hF.a22 (by omega) (by omega) ?_
          refine Zn_iadd d_mo_parseNumber_58 ?_
          refine Zn_bipush (nI 48) d_mo_parseNumber_59 (by decide) ?_
          refine Zn_isub d_mo_parseNumber_61 (by omega) ?_
          refine Zn_istore_n [some (.ref 123), some (.int (nI (((10 * (((10 * ((0 + (G 22 p)) - 48)) + (G 22 (p + 1))) - 48)) + (G 22 ((p + 1) + 1))) - 48))), some (.int (nI 2))] d_mo_parseNumber_62 (by decide) rfl ?_
          refine Z_aload_n d_mo_parseNumber_63 rfl ?_
          refine Z_dup d_mo_parseNumber_64 rfl ?_
          refine Z_get (v := .int (nI ((p + 1) + 1))) d_mo_parseNumber_65 lf_mo_218 hF.1 rfl ?_
          refine Zn_iconst (nI 1) d_mo_parseNumber_68 (by decide) ?_
          refine Zn_iadd d_mo_parseNumber_69 ?_
          refine Z_puti d_mo_parseNumber_70 lf_mo_218 hF.1 rfl rfl (Nat.le_of_ble_eq_true rfl) ?_
          replace hF := hF.u7 (((p + 1) + 1) + 1)
          rw [pst_7] at hF
          refine Zn_iinc [some (.ref 123), some (.int (nI (((10 * (((10 * ((0 + (G 22 p)) - 48)) + (G 22 (p + 1))) - 48)) + (G 22 ((p + 1) + 1))) - 48))), some (.int (nI 3))] (nI 3) d_mo_parseNumber_73 rfl (by decide) (nI_add 2 1) rfl ?_
          refine Z_goto (tgt := 29) d_mo_parseNumber_76 (by decide) ?_
          refine Z_iload_n d_mo_parseNumber_29 rfl ?_
          refine Zn_iconst (nI 4) d_mo_parseNumber_30 (by decide) ?_
          refine Zn_icmp_ge (a := 3) (b := 4) (tgt := 79) d_mo_parseNumber_31 (by decide) (by decide) (by decide) (fun h => absurd h (by decide)) (fun _ => ?_)
          refine Z_aload_n d_mo_parseNumber_34 rfl ?_
          refine Zn_bipush (nI 48) d_mo_parseNumber_35 (by decide) ?_
          refine Zn_bipush (nI 57) d_mo_parseNumber_37 (by decide) ?_
          refine zVe (As := [.int (nI 48), .int (nI 57)]) (by omega) d_mo_parseNumber_39 lm_mo_225 hF.1 rfl rfl (Nat.le_of_ble_eq_true rfl) (mo_isNext_ok (p := (((p + 1) + 1) + 1)) d hF h120 (by omega) hch (by omega) (by omega)) ?_
          rcases hd4 : nb (s 5) (G 22) (((p + 1) + 1) + 1) 48 57 with _ | _
          · skip
            refine Zn_if_eq (a := 0) (tgt := 79) d_mo_parseNumber_42 (by decide) (by decide) (fun _ => ?_) (fun h => absurd h (by decide))
            refine Z_iload_n d_mo_parseNumber_79 rfl ?_
            refine Z_iret d_mo_parseNumber_80 rfl ?_
            have el : pDig (s 5) (G 22) 4 0 p = (((10 * (((10 * ((0 + (G 22 p)) - 48)) + (G 22 (p + 1))) - 48)) + (G 22 ((p + 1) + 1))) - 48, ((p + 1) + 1) + 1) := by
              rw [pDig_s, if_pos hd1]
              rw [pDig_s, if_pos hd2]
              rw [pDig_s, if_pos hd3]
              rw [pDig_s, if_neg (by rw [hd4]; decide)]
              refine Prod.ext ?_ rfl
              show _ = _
              dsimp only
              omega
            have et : pTx (s 5) (G 22) p = (some (pDig (s 5) (G 22) 4 0 p).1, (pDig (s 5) (G 22) 4 0 p).2) := by unfold pTx; exact if_pos h1
            refine ⟨?_, ?_⟩
            · rw [et, el]; rfl
            · rw [et, el]; exact hF
          · skip
            have hd4g := nb_iff.mp hd4
            refine Zn_if_eq (a := 1) (tgt := 79) d_mo_parseNumber_42 (by decide) (by decide) (fun h => absurd h (by decide)) (fun _ => ?_)
            refine Zn_bipush (nI 10) d_mo_parseNumber_45 (by decide) ?_
            refine Z_iload_n d_mo_parseNumber_47 rfl ?_
            refine Zn_imul d_mo_parseNumber_48 ?_
            refine Z_aload_n d_mo_parseNumber_49 rfl ?_
            refine Z_get (v := .ref 146) d_mo_parseNumber_50 lf_mo_77 hF.1 rfl ?_
            refine Z_aload_n d_mo_parseNumber_53 rfl ?_
            refine Z_get (v := .int (nI (((p + 1) + 1) + 1))) d_mo_parseNumber_54 lf_mo_218 hF.1 rfl ?_
            refine Zn_iald d_mo_parseNumber_57 hF.a22 (by omega) (by omega) ?_
            refine Zn_iadd d_mo_parseNumber_58 ?_
            refine Zn_bipush (nI 48) d_mo_parseNumber_59 (by decide) ?_
            refine Zn_isub d_mo_parseNumber_61 (by omega) ?_
            refine Zn_istore_n [some (.ref 123), some (.int (nI (((10 * (((10 * (((10 * ((0 + (G 22 p)) - 48)) + (G 22 (p + 1))) - 48)) + (G 22 ((p + 1) + 1))) - 48)) + (G 22 (((p + 1) + 1) + 1))) - 48))), some (.int (nI 3))] d_mo_parseNumber_62 (by decide) rfl ?_
            refine Z_aload_n d_mo_parseNumber_63 rfl ?_
            refine Z_dup d_mo_parseNumber_64 rfl ?_
            refine Z_get (v := .int (nI (((p + 1) + 1) + 1))) d_mo_parseNumber_65 lf_mo_218 hF.1 rfl ?_
            refine Zn_iconst (nI 1) d_mo_parseNumber_68 (by decide) ?_
            refine Zn_iadd d_mo_parseNumber_69 ?_
            refine Z_puti d_mo_parseNumber_70 lf_mo_218 hF.1 rfl rfl (Nat.le_of_ble_eq_true rfl) ?_
            replace hF := hF.u7 ((((p + 1) + 1) + 1) + 1)
            rw [pst_7] at hF
            refine Zn_iinc [some (.ref 123), some (.int (nI (((10 * (((10 * (((10 * ((0 + (G 22 p)) - 48)) + (G 22 (p + 1))) - 48)) + (G 22 ((p + 1) + 1))) - 48)) + (G 22 (((p + 1) + 1) + 1))) - 48))), some (.int (nI 4))] (nI 4) d_mo_parseNumber_73 rfl (by decide) (nI_add 3 1) rfl ?_
            refine Z_goto (tgt := 29) d_mo_parseNumber_76 (by decide) ?_
            refine Z_iload_n d_mo_parseNumber_29 rfl ?_
            refine Zn_iconst (nI 4) d_mo_parseNumber_30 (by decide) ?_
            refine Zn_icmp_ge (a := 4) (b := 4) (tgt := 79) d_mo_parseNumber_31 (by decide) (by decide) (by decide) (fun _ => ?_) (fun h => absurd h (by decide))
            refine Z_iload_n d_mo_parseNumber_79 rfl ?_
            refine Z_iret d_mo_parseNumber_80 rfl ?_
            have el : pDig (s 5) (G 22) 4 0 p = (((10 * (((10 * (((10 * ((0 + (G 22 p)) - 48)) + (G 22 (p + 1))) - 48)) + (G 22 ((p + 1) + 1))) - 48)) + (G 22 (((p + 1) + 1) + 1))) - 48, (((p + 1) + 1) + 1) + 1) := by
              rw [pDig_s, if_pos hd1]
              rw [pDig_s, if_pos hd2]
              rw [pDig_s, if_pos hd3]
              rw [pDig_s, if_pos hd4]
              refine Prod.ext ?_ rfl
              show _ = _
              simp only [pDig]
              omega
            have et : pTx (s 5) (G 22) p = (some (pDig (s 5) (G 22) 4 0 p).1, (pDig (s 5) (G 22) 4 0 p).2) := by unfold pTx; exact if_pos h1
            refine ⟨?_, ?_⟩
            · rw [et, el]; rfl
            · rw [et, el]; exact hF
set_option maxHeartbeats 4000000 in
theorem mo_parseNumber_no {Γ : zCtx} {M : List zE} (d : Nat) {M0 : List zE} {s : Nat → Nat} {G : Nat → Nat → Nat} {p : Nat} (hF : FW M0 M (pst s p 1) G)  : ZM Γ (d + 3) m_mo_parseNumber [.ref 123] M (fun M1 v => v = some (.int (nI 0)) ∧ FW M0 M1 (pst s p 1) G) := by
  refine ZM.of mk_mo_parseNumber (Nat.le_of_ble_eq_true rfl) ?_
  rw [show zEn [.ref 123] = [some (.ref 123)] from rfl]
  refine zPad 2 ?_
  show Z _ _ _ _ _ _ _ [some (.ref 123), none, none] _ _
  refine Z_aload_n d_mo_parseNumber_0 rfl ?_
  refine Z_get (v := .int (nI 1)) d_mo_parseNumber_1 lf_mo_221 hF.1 rfl ?_
  refine Zn_if_ne (a := 1) (tgt := 18) d_mo_parseNumber_4 (by decide) (by decide) (fun _ => ?_) (fun h => absurd h (by decide))
  refine Z_aload_n d_mo_parseNumber_18 rfl ?_
  refine Zn_iconst (nI 1) d_mo_parseNumber_19 (by decide) ?_
  refine Z_putz d_mo_parseNumber_20 lf_mo_221 hF.1 rfl rfl (by first | exact Or.inl rfl | exact Or.inr rfl) (Nat.le_of_ble_eq_true rfl) ?_
  replace hF := hF.u8 1
  rw [pst_8] at hF
  refine Zn_iconst (nI 0) d_mo_parseNumber_23 (by decide) ?_
  refine Z_iret d_mo_parseNumber_24 rfl ?_
  exact ⟨rfl, hF⟩
