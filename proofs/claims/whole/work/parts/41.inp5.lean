theorem kdR_some {len : Nat} {ch : Nat → Nat} {p k : Nat} (h : (kdR len ch p).1 = some k) : p + 3 ≤ (kdR len ch p).2 ∧ (k = 3 ∨ k = 5 → p + 6 ≤ (kdR len ch p).2) := by
  unfold kdR at h ⊢
  simp only [kGo] at h ⊢
  repeat' split at h
  all_goals (first | (cases h; done) | skip)
  all_goals (cases h; simp_all [kw0, kw1, kw2, kw3, kw4, kw5])
theorem pKw_ok {len : Nat} {ch : Nat → Nat} {p : Nat} (hp : p ≤ len) : p ≤ (pKw len ch p).2 ∧ (pKw len ch p).2 ≤ len ∧ ∀ k, (pKw len ch p).1 = some k → k < 6 ∧ p + 4 ≤ (pKw len ch p).2 ∧ (k = 3 ∨ k = 5 → p + 7 ≤ (pKw len ch p).2) := by
  have h1 := kdR_ok (ch := ch) hp
  have h2 := @kdR_some len ch p
  unfold pKw
  rcases e : kdR len ch p with ⟨o, q⟩
  rw [e] at h1 h2
  rcases o with _ | k
  · exact ⟨h1.1, h1.2.1, fun k hk => by cases hk⟩
  · dsimp only at h1 h2 ⊢
    have h3 := h2 rfl
    by_cases c : tk len ch q 32 = true
    · have g := tk_iff.mp c
      rw [if_pos c]
      refine ⟨by dsimp only; omega, by dsimp only; omega, fun k' hk => ?_⟩
      cases hk
      exact ⟨h1.2.2 k rfl, by dsimp only; omega, fun z => by have := h3.2 z; dsimp only; omega⟩
    · rw [if_neg c]
      exact ⟨h1.1, h1.2.1, fun k' hk => by cases hk⟩
theorem pIns_ok {len : Nat} {ch : Nat → Nat} {p : Nat} (hp : p ≤ len) : p ≤ (pIns len ch p).2 ∧ (pIns len ch p).2 ≤ len ∧ ∀ i, (pIns len ch p).1 = some i → p + 7 ≤ (pIns len ch p).2 ∧ i.1 < 6 ∧ i.2.2.2 ≤ 9999 ∧ (i.2.1.1 < 1968300 ∧ i.2.1.2.1 < 1968300 ∧ i.2.1.2.2 < 1968300) ∧ (i.2.2.1.1 < 1968300 ∧ i.2.2.1.2.1 < 1968300 ∧ i.2.2.1.2.2 < 1968300) ∧ 19683 ≤ i.2.1.1 ∧ (i.1 = 4 → 19683 ≤ i.2.2.1.1) := by
  have h1 := pKw_ok (ch := ch) hp
  unfold pIns
  rcases e : pKw len ch p with ⟨o, q⟩
  rw [e] at h1
  rcases o with _ | k
  · exact ⟨h1.1, h1.2.1, fun k hk => by cases hk⟩
  dsimp only at h1 ⊢
  have h2 := pPth_ok (ch := ch) (p := q) (len := len) (by omega)
  have h3 := h1.2.2 k rfl
  rcases e2 : pPth len ch q with ⟨b, l, q2⟩
  rw [e2] at h2
  dsimp only at h2
  rcases b with _ | _
  · exact ⟨by dsimp only; omega, by dsimp only; omega, fun k hk => by cases hk⟩
  dsimp only
  have h4 := h2.2.2.2.2.2 rfl
  by_cases c1 : k = 3 ∨ k = 5
  · rw [if_pos c1]
    have h5 := h3.2.2 c1
    refine ⟨by dsimp only; omega, by dsimp only; omega, fun i hi => ?_⟩
    cases hi
    dsimp only
    omega
  rw [if_neg c1]
  by_cases c2 : tk len ch q2 32 = true
  · have g := tk_iff.mp c2
    rw [if_pos c2]
    by_cases c3 : k = 4
    · rw [if_pos c3]
      have h6 := pPth_ok (ch := ch) (p := q2 + 1) (len := len) (by omega)
      rcases e3 : pPth len ch (q2 + 1) with ⟨b, l', q3⟩
      rw [e3] at h6
      dsimp only at h6
      rcases b with _ | _
      · exact ⟨by dsimp only; omega, by dsimp only; omega, fun k hk => by cases hk⟩
      have h7 := h6.2.2.2.2.2 rfl
      refine ⟨by dsimp only; omega, by dsimp only; omega, fun i hi => ?_⟩
      cases hi
      dsimp only
      omega
    · rw [if_neg c3]
      have h6 := pTx_ok (ch := ch) (p := q2 + 1) (len := len) (by omega)
      rcases e3 : pTx len ch (q2 + 1) with ⟨o, q3⟩
      rw [e3] at h6
      dsimp only at h6
      rcases o with _ | t
      · exact ⟨by dsimp only; omega, by dsimp only; omega, fun k hk => by cases hk⟩
      have h7 := h6.1 t rfl
      refine ⟨by dsimp only; omega, by dsimp only; omega, fun i hi => ?_⟩
      cases hi
      dsimp only
      omega
  · rw [if_neg c2]
    exact ⟨by dsimp only; omega, by dsimp only; omega, fun k hk => by cases hk⟩
theorem pAll_len {len : Nat} {ch : Nat → Nat} : ∀ (f p : Nat) (l : List zIns) (q : Nat), pAll len ch f p = (some l, q) → l.length ≤ f ∧ 1 ≤ l.length
  | 0, p, l, q, h => by simp [pAll] at h
  | f + 1, p, l, q, h => by
    unfold pAll at h
    rcases e : pIns len ch p with ⟨o, q1⟩
    rw [e] at h
    rcases o with _ | i
    · simp at h
    dsimp only at h
    split at h
    · simp at h; rw [← h.1]; simp
    split at h
    · rcases e2 : pAll len ch f (q1 + 1) with ⟨o2, q2⟩
      rw [e2] at h
      rcases o2 with _ | l2
      · simp at h
      · have ih := pAll_len f (q1 + 1) l2 q2 e2
        simp at h
        rw [← h.1]
        simp; omega
    · simp at h
def aI (s : Nat) (o : Option (List zIns)) : Int32 := match o with
  | none => -1
  | some l => nI (s + l.length)
theorem slS.tr {kd pt gl kd' pt' gl' kd'' pt'' gl'' : Nat → Nat} {tx tx' tx'' : Nat → Int32} {j : Nat} (h : slS kd pt gl tx kd' pt' gl' tx' j) (h' : slS kd' pt' gl' tx' kd'' pt'' gl'' tx'' j) : slS kd pt gl tx kd'' pt'' gl'' tx'' j := ⟨h'.1.trans h.1, h'.2.1.trans h.2.1, h'.2.2.1.trans h.2.2.1, h'.2.2.2.trans h.2.2.2⟩
theorem slA.to {kd pt gl kd' pt' gl' : Nat → Nat} {tx tx' : Nat → Int32} {j : Nat} {i : zIns} (h : slA kd pt gl tx j i) (h' : slS kd pt gl tx kd' pt' gl' tx' j) : slA kd' pt' gl' tx' j i := ⟨h'.1.trans h.1, h'.2.1.trans h.2.1, h'.2.2.1.trans h.2.2.1, h'.2.2.2.trans h.2.2.2⟩
set_option maxHeartbeats 4000000 in
theorem in_readInstructions_loop {Γ : zCtx} (d : Nat) {len m f0 : Nat} {ch : Nat → Nat} {dy sz : Nat → Nat} (hO1 : len ≤ 120) (hO3 : ∀ i, ch i ≤ 126) (hf0 : f0 + 15 ≤ 120) : ∀ (f p s : Nat) (M : List zE) {kd pt gl : Nat → Nat} {tx : Nat → Int32}, InAt M len p ch → AmAt M 40 m dy sz kd pt gl tx → p ≤ len → s + f = 15 → ∀ Q : List zE → Option Value → Prop, (∀ M1 kd1 pt1 gl1 tx1, AmAt M1 40 m dy sz kd1 pt1 gl1 tx1 → InAt M1 len (pAll len ch f p).2 ch → (∀ j, (j < f0 + s ∨ f0 + 15 ≤ j) → slS kd pt gl tx kd1 pt1 gl1 tx1 j) → (∀ l, (pAll len ch f p).1 = some l → ∀ (i : Nat) (hi : i < l.length), slA kd1 pt1 gl1 tx1 (f0 + s + i) l[i]) → zFi M M1 → Q M1 (some (.int (aI s (pAll len ch f p).1)))) → Z Γ (zRm (d + 8) m_inp_readInstructions) m_inp_readInstructions (zPh Γ m_inp_readInstructions Q) 0 0 7 [some (.ref 93), some (.ref 40), some (.int (nI f0)), some (.int (nI s))] [] M := by
  intro f
  induction f with
  | zero =>
    intro p s M kd pt gl tx hP hA hO2 hs Q hQ
    obtain rfl : s = 15 := by omega
    refine Z_iload_n d_inp_readInstructions_7 rfl ?_
    refine Zn_bipush (nI 15) d_inp_readInstructions_8 (by decide) ?_
    refine Zn_icmp_ge (a := 15) (b := 15) (tgt := 55) d_inp_readInstructions_10 (by decide) (by decide) (by decide) (fun _ => ?_) (fun h => absurd (by decide) h)
    refine Zn_iconst (-1) d_inp_readInstructions_55 (by decide) ?_
    refine Z_iret d_inp_readInstructions_56 rfl ?_
    exact hQ M kd pt gl tx hA hP (fun _ _ => ⟨rfl, rfl, rfl, rfl⟩) (fun l hl => by cases hl) zFi.rf
  | succ f ih =>
    intro p s M kd pt gl tx hP hA hO2 hs Q hQ
    have hF : zFi M M := zFi.rf
    refine Z_iload_n d_inp_readInstructions_7 rfl ?_
    refine Zn_bipush (nI 15) d_inp_readInstructions_8 (by decide) ?_
    refine Zn_icmp_ge (tgt := 55) d_inp_readInstructions_10 (by decide) (by omega) (by omega) (fun h10 => ?_) (fun h10 => ?_)
    · skip
      exact absurd h10 (by omega) -- end
    · skip
      refine Z_aload_n d_inp_readInstructions_13 rfl ?_
      refine Z_aload_n d_inp_readInstructions_14 rfl ?_
      refine Z_iload_n d_inp_readInstructions_15 rfl ?_
      refine Z_iload_n d_inp_readInstructions_16 rfl ?_
      refine Zn_iadd d_inp_readInstructions_17 ?_
      refine zV (As := [.ref 40, .int (nI (f0 + s))]) (by omega) d_inp_readInstructions_18 lm_inp_19 hP.1 rfl rfl (Nat.le_of_ble_eq_true rfl) (in_readInstruction_ok d hP ⟨hO1, by omega, hO3⟩ hA (by omega)) (fun M1 v hq hlen => ?_)
      have gi := pIns_ok (len := len) (ch := ch) (p := p) (by omega)
      rcases ei : pIns len ch p with ⟨oi, q1⟩
      rw [ei] at hq gi
      dsimp only at hq gi
      obtain ⟨rfl, hP, kd1, pt1, gl1, tx1, hA, hS1, hS2, hF1⟩ := hq
      replace hF := hF.trans hF1
      have hle0 := b10_lt (x := oi.isSome)
      refine Zn_if_ne (tgt := 26) d_inp_readInstructions_21 (by decide) (by omega) (fun h21 => ?_) (fun h21 => ?_)
      · skip
        obtain ⟨ins, rfl⟩ : ∃ x, oi = some x := by cases oi with
          | none => exact absurd (b10_t h21) (by simp)
          | some x => exact ⟨x, rfl⟩
        have gi2 := gi.2.2 ins rfl
        refine Z_aload_n d_inp_readInstructions_26 rfl ?_
        refine zVe (As := []) (by omega) d_inp_readInstructions_27 lm_inp_23 hP.1 rfl rfl (Nat.le_of_ble_eq_true rfl) (in_peek_ok (d + 6) hP ⟨hO1, by omega, hO3⟩) ?_
        rcases hk : pk len ch q1 with _ | x
        · skip
          have hk2 := pk_none hk
          refine Zn_iconst (-1) d_inp_readInstructions_30 (by decide) ?_
          refine Z_icmp_ne (tgt := 38) d_inp_readInstructions_31 (by decide) (fun h31 => ?_) (fun h31 => ?_)
          · skip
            exact absurd rfl h31 -- end
          · skip
            skip
            refine Z_iload_n d_inp_readInstructions_34 rfl ?_
            refine Zn_iconst (nI 1) d_inp_readInstructions_35 (by decide) ?_
            refine Zn_iadd d_inp_readInstructions_36 ?_
            refine Z_iret d_inp_readInstructions_37 rfl ?_
            rw [show pAll len ch (f + 1) p = (some [ins], q1) from by simp [pAll, ei, hk2]] at hQ
            refine hQ M1 kd1 pt1 gl1 tx1 hA hP (fun j hj => hS1 j (by omega)) (fun l hl i hi => ?_) hF
            cases hl
            have h0 : i = 0 := by simpa using hi
            subst h0
            exact hS2 ins rfl
        · skip
          have hk2 := pk_some hk
          have hcq := hO3 q1
          refine Zn_iconst (-1) d_inp_readInstructions_30 (by decide) ?_
          refine Z_icmp_ne (tgt := 38) d_inp_readInstructions_31 (by decide) (fun h31 => ?_) (fun h31 => ?_)
          · skip
            skip
            refine Z_aload_n d_inp_readInstructions_38 rfl ?_
            refine Zn_bipush (nI 59) d_inp_readInstructions_39 (by decide) ?_
            refine zV (As := [.int (nI 59)]) (by omega) d_inp_readInstructions_41 lm_inp_27 hP.1 rfl rfl (Nat.le_of_ble_eq_true rfl) (in_take_ok (d + 5) hP ⟨hO1, by omega, hO3⟩ (by decide)) (fun M1 v hq hlen => ?_)
            obtain ⟨rfl, hP, hF1⟩ := hq
            replace hA := hA.fr hF1 (by omega)
            replace hF := hF.trans hF1.fi
            have hle := b10_lt (x := tk len ch q1 59)
            refine Zn_if_ne (tgt := 49) d_inp_readInstructions_44 (by decide) (by omega) (fun h44 => ?_) (fun h44 => ?_)
            · skip
              have n_44 : tk len ch q1 59 = true := b10_t h44
              have in_44 := tk_iff.mp n_44
              rw [if_pos n_44] at hP
              refine Zn_iinc [some (.ref 93), some (.ref 40), some (.int (nI f0)), some (.int (nI (s + 1)))] (nI (s + 1)) d_inp_readInstructions_49 rfl (by decide) (nI_add s 1) rfl ?_
              refine Z_goto (tgt := 7) d_inp_readInstructions_52 (by decide) ?_
              refine ih (q1 + 1) (s + 1) _ hP hA (by omega) (by omega) Q (fun M2 kd2 pt2 gl2 tx2 hA2 hP2 hS3 hS4 hF2 => ?_)
              rcases e2 : pAll len ch f (q1 + 1) with ⟨o2, q2⟩
              rw [e2] at hP2 hS4
              have e3 : pAll len ch (f + 1) p = ((match o2 with | none => none | some l => some (ins :: l)), q2) := by
                rcases o2 with _ | l <;> simp [pAll, ei, n_44, show ¬ len ≤ q1 by omega, e2]
              rw [e3] at hQ
              rcases o2 with _ | l
              · exact hQ M2 kd2 pt2 gl2 tx2 hA2 hP2 (fun j hj => (hS1 j (by omega)).tr (hS3 j (by omega))) (fun l hl => by cases hl) (hF.trans hF2)
              · refine (show aI (s + 1) (some l) = aI s (some (ins :: l)) from ?_) ▸ hQ M2 kd2 pt2 gl2 tx2 hA2 hP2 (fun j hj => (hS1 j (by omega)).tr (hS3 j (by omega))) (fun l' hl i hi => ?_) (hF.trans hF2)
                · show nI (s + 1 + l.length) = nI (s + (l.length + 1))
                  rw [show s + 1 + l.length = s + (l.length + 1) by omega]
                · cases hl
                  rcases i with _ | i
                  · exact (hS2 ins rfl).to (hS3 (f0 + s) (by omega))
                  · have := hS4 l rfl i (by simpa using hi)
                    rw [show f0 + s + (i + 1) = f0 + (s + 1) + i by omega]
                    simpa using this
            · skip
              have n_45 : tk len ch q1 59 = false := b10_f h44
              rw [if_neg (fun z => absurd (n_45.symm.trans z) (by decide))] at hP
              refine Zn_iconst (-1) d_inp_readInstructions_47 (by decide) ?_
              refine Z_iret d_inp_readInstructions_48 rfl ?_
              rw [show pAll len ch (f + 1) p = (none, q1) from by simp [pAll, ei, n_45, show ¬ len ≤ q1 by omega]] at hQ
              exact hQ _ kd1 pt1 gl1 tx1 hA hP (fun j hj => hS1 j (by omega)) (fun l hl => by cases hl) hF
          · skip
            exact absurd h31 (zn_m1 (by omega)) -- end
      · skip
        have no : oi = none := by cases oi with
          | none => rfl
          | some x => exact absurd (b10_f h21) (by simp)
        subst no
        refine Zn_iconst (-1) d_inp_readInstructions_24 (by decide) ?_
        refine Z_iret d_inp_readInstructions_25 rfl ?_
        rw [show pAll len ch (f + 1) p = (none, q1) from by simp [pAll, ei]] at hQ
        exact hQ M1 kd1 pt1 gl1 tx1 hA hP (fun j hj => hS1 j (by omega)) (fun l hl => by cases hl) hF
set_option maxHeartbeats 4000000 in
theorem in_readInstructions_ok {Γ : zCtx} {M : List zE} (d : Nat) {len p : Nat} {ch : Nat → Nat} (hP : InAt M len p ch) (hO1 : len ≤ 120) (hO3 : ∀ i, ch i ≤ 126) {m : Nat} {dy sz kd pt gl : Nat → Nat} {tx : Nat → Int32} (hA : AmAt M 40 m dy sz kd pt gl tx) {f0 : Nat} (hf0 : f0 + 15 ≤ 120) : ZM Γ (d + 8) m_inp_readInstructions [.ref 93, .ref 40, .int (nI f0)] M (fun M1 v => v = some (.int (aI 0 (pAll len ch 15 0).1)) ∧ InAt M1 len (pAll len ch 15 0).2 ch ∧ ∃ kd1 pt1 gl1 tx1, AmAt M1 40 m dy sz kd1 pt1 gl1 tx1 ∧ (∀ j, (j < f0 + 0 ∨ f0 + 15 ≤ j) → slS kd pt gl tx kd1 pt1 gl1 tx1 j) ∧ (∀ l, (pAll len ch 15 0).1 = some l → ∀ (i : Nat) (hi : i < l.length), slA kd1 pt1 gl1 tx1 (f0 + 0 + i) l[i]) ∧ zFi M M1) := by
  refine ZM.of mk_inp_readInstructions (Nat.le_of_ble_eq_true rfl) ?_
  have hF : zFr M M 93 2 := zFr.rf
  rw [show zEn [.ref 93, .ref 40, .int (nI f0)] = [some (.ref 93), some (.ref 40), some (.int (nI f0))] from rfl]
  refine zPad 1 ?_
  show Z _ _ _ _ _ _ _ [some (.ref 93), some (.ref 40), some (.int (nI f0)), none] _ _
  refine Z_aload_n d_inp_readInstructions_0 rfl ?_
  refine Zn_iconst (nI 0) d_inp_readInstructions_1 (by decide) ?_
  refine Z_puti d_inp_readInstructions_2 lf_inp_15 hP.1 rfl rfl (Nat.le_of_ble_eq_true rfl) ?_
  have hP := hP.pos (p' := 0)
  have hF := hF.set (c := 93) (x := .inr (1, [.ref 94, .int (nI len), .int (nI 0)])) (by omega) (by omega)
  refine Zn_iconst (nI 0) d_inp_readInstructions_5 (by decide) ?_
  refine Zn_istore_n [some (.ref 93), some (.ref 40), some (.int (nI f0)), some (.int (nI 0))] d_inp_readInstructions_6 (by decide) rfl ?_
  exact in_readInstructions_loop d hO1 hO3 hf0 15 0 0 _ hP (hA.fr hF (by omega)) (by omega) rfl _ (fun M1 kd1 pt1 gl1 tx1 a1 a2 a3 a4 a5 => ⟨rfl, a2, kd1, pt1, gl1, tx1, a1, a3, a4, hF.fi.trans a5⟩)
def pOnly (len : Nat) (ch : Nat → Nat) : Nat := if len ≤ (pPth len ch 0).2.2 then pKey len ch 0 else 0
set_option maxHeartbeats 4000000 in
theorem in_readOnlyPath_ok {Γ : zCtx} {M : List zE} (d : Nat) {len p : Nat} {ch : Nat → Nat} (hP : InAt M len p ch) (hO1 : len ≤ 120) (hO3 : ∀ i, ch i ≤ 126) : ZM Γ (d + 6) m_inp_readOnlyPath [.ref 93] M (fun M1 v => v = some (.long (lN (pOnly len ch))) ∧ InAt M1 len (pPth len ch 0).2.2 ch ∧ zFr M M1 93 2) := by
  refine ZM.of mk_inp_readOnlyPath (Nat.le_of_ble_eq_true rfl) ?_
  have hF : zFr M M 93 2 := zFr.rf
  rw [show zEn [.ref 93] = [some (.ref 93)] from rfl]
  refine zPad 2 ?_
  show Z _ _ _ _ _ _ _ [some (.ref 93), none, none] _ _
  refine Z_aload_n d_inp_readOnlyPath_0 rfl ?_
  refine Zn_iconst (nI 0) d_inp_readOnlyPath_1 (by decide) ?_
  refine Z_puti d_inp_readOnlyPath_2 lf_inp_15 hP.1 rfl rfl (Nat.le_of_ble_eq_true rfl) ?_
  have hP := hP.pos (p' := 0)
  have hF := hF.set (c := 93) (x := .inr (1, [.ref 94, .int (nI len), .int (nI 0)])) (by omega) (by omega)
  refine Z_aload_n d_inp_readOnlyPath_5 rfl ?_
  refine zV (As := []) (by omega) d_inp_readOnlyPath_6 lm_inp_34 hP.1 rfl rfl (Nat.le_of_ble_eq_true rfl) (in_readPath_ok d hP ⟨hO1, by omega, hO3⟩) (fun M1 v hq hlen => ?_)
  have g1 := (pPth_ok (len := len) (ch := ch) (p := 0) (by omega))
  obtain ⟨rfl, hP, hF1⟩ := hq
  replace hF := hF.trans hF1
  refine Zn_lstore_n [some (.ref 93), some (.long (lN (pKey len ch 0))), none] d_inp_readOnlyPath_9 (by decide) rfl ?_
  refine Z_aload_n d_inp_readOnlyPath_10 rfl ?_
  refine zVe (As := []) (by omega) d_inp_readOnlyPath_11 lm_inp_23 hP.1 rfl rfl (Nat.le_of_ble_eq_true rfl) (in_peek_ok (d + 4) hP ⟨hO1, by omega, hO3⟩) ?_
  rcases hk : pk len ch (pPth len ch 0).2.2 with _ | x
  · skip
    have hk2 := pk_none hk
    refine Zn_iconst (-1) d_inp_readOnlyPath_14 (by decide) ?_
    refine Z_icmp_ne (tgt := 22) d_inp_readOnlyPath_15 (by decide) (fun h15 => ?_) (fun h15 => ?_)
    · skip
      exact absurd rfl h15 -- end
    · skip
      skip
      refine Z_lload_n d_inp_readOnlyPath_18 rfl ?_
      refine Z_goto (tgt := 23) d_inp_readOnlyPath_19 (by decide) ?_
      refine Z_lret d_inp_readOnlyPath_23 rfl ?_
      refine ⟨?_, hP, hF⟩
      unfold pOnly
      first | rw [if_pos (by omega)] | (rw [if_neg (by omega)]; rfl)
  · skip
    have hk2 := pk_some hk
    have hcq := hO3 (pPth len ch 0).2.2
    refine Zn_iconst (-1) d_inp_readOnlyPath_14 (by decide) ?_
    refine Z_icmp_ne (tgt := 22) d_inp_readOnlyPath_15 (by decide) (fun h15 => ?_) (fun h15 => ?_)
    · skip
      skip
      refine Zn_lconst (0) d_inp_readOnlyPath_22 (by decide) ?_
      refine Z_lret d_inp_readOnlyPath_23 rfl ?_
      refine ⟨?_, hP, hF⟩
      unfold pOnly
      first | rw [if_pos (by omega)] | (rw [if_neg (by omega)]; rfl)
    · skip
      exact absurd h15 (zn_m1 (by omega)) -- end
