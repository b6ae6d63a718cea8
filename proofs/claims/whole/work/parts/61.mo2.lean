/-! nodes -/
def nwG (G : Nat → Nat → Nat) (v a l b t o c : Nat) : Nat → Nat → Nat := gup (gup (gup (gup (gup (gup (gup (gup G 10 v a) 11 v l) 12 v b) 13 v t) 14 v o) 15 v c) 16 v 0) 17 v 1
def nwN (s : Nat → Nat) : Nat → Nat := nup (nup s 2 (s 2 + 1)) 3 (s 3 + 1)
set_option maxHeartbeats 4000000 in
theorem mo_newNode_ok {Γ : zCtx} {M : List zE} (d : Nat) {M0 : List zE} {s : Nat → Nat} {G : Nat → Nat → Nat} (hF : FW M0 M s G) (hN : s 2 < 160) {a l b t o c : Nat} : ZM Γ (d + 1) m_mo_newNode [.ref 123, .int (mI a), .int (nI l), .int (nI b), .int (nI t), .int (kI o), .int (kI c)] M (fun M1 v => v = some (.int (nI (s 2))) ∧ FW M0 M1 (nwN s) (nwG G (s 2) a l b t o c)) := by
  refine ZM.of mk_mo_newNode (Nat.le_of_ble_eq_true rfl) ?_
  rw [show zEn [.ref 123, .int (mI a), .int (nI l), .int (nI b), .int (nI t), .int (kI o), .int (kI c)] = [some (.ref 123), some (.int (mI a)), some (.int (nI l)), some (.int (nI b)), some (.int (nI t)), some (.int (kI o)), some (.int (kI c))] from rfl]
  refine zPad 1 ?_
  show Z _ _ _ _ _ _ _ [some (.ref 123), some (.int (mI a)), some (.int (nI l)), some (.int (nI b)), some (.int (nI t)), some (.int (kI o)), some (.int (kI c)), none] _ _
  refine Z_aload_n d_mo_newNode_0 rfl ?_
  refine Z_get (v := .int (nI (s 2))) d_mo_newNode_1 lf_mo_144 hF.1 rfl ?_
  refine Zn_istore [some (.ref 123), some (.int (mI a)), some (.int (nI l)), some (.int (nI b)), some (.int (nI t)), some (.int (kI o)), some (.int (kI c)), some (.int (nI (s 2)))] d_mo_newNode_4 (by decide) rfl ?_
  refine Z_aload_n d_mo_newNode_6 rfl ?_
  refine Z_get (v := .ref 134) d_mo_newNode_7 lf_mo_40 hF.1 rfl ?_
  refine Z_iload d_mo_newNode_10 rfl ?_
  refine Z_iload_n d_mo_newNode_12 rfl ?_
  refine Zn_iast d_mo_newNode_13 hF.a10 (by omega) (by omega) ?_
  replace hF := hF.p10 (s 2) a
  refine Z_aload_n d_mo_newNode_14 rfl ?_
  refine Z_get (v := .ref 135) d_mo_newNode_15 lf_mo_43 hF.1 rfl ?_
  refine Z_iload d_mo_newNode_18 rfl ?_
  refine Z_iload_n d_mo_newNode_20 rfl ?_
  refine Zn_iast d_mo_newNode_21 hF.a11 (by omega) (by omega) ?_
  replace hF := hF.p11 (s 2) l
  refine Z_aload_n d_mo_newNode_22 rfl ?_
  refine Z_get (v := .ref 136) d_mo_newNode_23 lf_mo_46 hF.1 rfl ?_
  refine Z_iload d_mo_newNode_26 rfl ?_
  refine Z_iload_n d_mo_newNode_28 rfl ?_
  refine Zn_iast d_mo_newNode_29 hF.a12 (by omega) (by omega) ?_
  replace hF := hF.p12 (s 2) b
  refine Z_aload_n d_mo_newNode_30 rfl ?_
  refine Z_get (v := .ref 137) d_mo_newNode_31 lf_mo_49 hF.1 rfl ?_
  refine Z_iload d_mo_newNode_34 rfl ?_
  refine Z_iload d_mo_newNode_36 rfl ?_
  refine Zn_iast d_mo_newNode_38 hF.a13 (by omega) (by omega) ?_
  replace hF := hF.p13 (s 2) t
  refine Z_aload_n d_mo_newNode_39 rfl ?_
  refine Z_get (v := .ref 138) d_mo_newNode_40 lf_mo_52 hF.1 rfl ?_
  refine Z_iload d_mo_newNode_43 rfl ?_
  refine Z_iload d_mo_newNode_45 rfl ?_
  refine Zn_iast d_mo_newNode_47 hF.a14 (by omega) (by omega) ?_
  replace hF := hF.p14 (s 2) o
  refine Z_aload_n d_mo_newNode_48 rfl ?_
  refine Z_get (v := .ref 139) d_mo_newNode_49 lf_mo_55 hF.1 rfl ?_
  refine Z_iload d_mo_newNode_52 rfl ?_
  refine Z_iload d_mo_newNode_54 rfl ?_
  refine Zn_iast d_mo_newNode_56 hF.a15 (by omega) (by omega) ?_
  replace hF := hF.p15 (s 2) c
  refine Z_aload_n d_mo_newNode_57 rfl ?_
  refine Z_get (v := .ref 140) d_mo_newNode_58 lf_mo_58 hF.1 rfl ?_
  refine Z_iload d_mo_newNode_61 rfl ?_
  refine Zn_iconst (nI 0) d_mo_newNode_63 (by decide) ?_
  refine Zn_zast (x := nI 0) d_mo_newNode_64 hF.a16 (by omega) (by omega) (by first | exact Or.inl rfl | exact Or.inr rfl) ?_
  replace hF := hF.p16 (s 2) 0
  refine Z_aload_n d_mo_newNode_65 rfl ?_
  refine Z_get (v := .ref 141) d_mo_newNode_66 lf_mo_62 hF.1 rfl ?_
  refine Z_iload d_mo_newNode_69 rfl ?_
  refine Zn_iconst (nI 1) d_mo_newNode_71 (by decide) ?_
  refine Zn_zast (x := nI 1) d_mo_newNode_72 hF.a17 (by omega) (by omega) (by first | exact Or.inl rfl | exact Or.inr rfl) ?_
  replace hF := hF.p17 (s 2) 1
  refine Z_aload_n d_mo_newNode_73 rfl ?_
  refine Z_dup d_mo_newNode_74 rfl ?_
  refine Z_get (v := .int (nI (s 2))) d_mo_newNode_75 lf_mo_144 hF.1 rfl ?_
  refine Zn_iconst (nI 1) d_mo_newNode_78 (by decide) ?_
  refine Zn_iadd d_mo_newNode_79 ?_
  refine Z_puti d_mo_newNode_80 lf_mo_144 hF.1 rfl rfl (Nat.le_of_ble_eq_true rfl) ?_
  replace hF := hF.u2 ((s 2) + 1)
  refine Z_aload_n d_mo_newNode_83 rfl ?_
  refine Z_dup d_mo_newNode_84 rfl ?_
  refine Z_get (v := .int (nI (s 3))) d_mo_newNode_85 lf_mo_148 hF.1 rfl ?_
  refine Zn_iconst (nI 1) d_mo_newNode_88 (by decide) ?_
  refine Zn_iadd d_mo_newNode_89 ?_
  refine Z_puti d_mo_newNode_90 lf_mo_148 hF.1 rfl rfl (Nat.le_of_ble_eq_true rfl) ?_
  replace hF := hF.u3 ((s 3) + 1)
  refine Z_iload d_mo_newNode_93 rfl ?_
  refine Z_iret d_mo_newNode_95 rfl ?_
  exact ⟨rfl, hF⟩
/-- L counts the levels of the originals -/
def lvOK (n : Nat) (P L : Nat → Nat) : Prop := ∀ i, i < n → L i ≤ 3 ∧ (P i = 0 → L i = 1) ∧ ∀ q, P i = q + 1 → q < n ∧ L i = L q + 1
theorem lvOK.pos {n : Nat} {P L : Nat → Nat} (h : lvOK n P L) {i : Nat} (hi : i < n) : 1 ≤ L i := by
  have h1 := h i hi
  rcases hx : P i with _ | q
  · rw [h1.2.1 hx]; omega
  · rw [(h1.2.2 q hx).2]; omega
set_option maxHeartbeats 4000000 in
theorem mo_levelOf_loop {Γ : zCtx} (d : Nat) {M : List zE} {M0 : List zE} {s : Nat → Nat} {G : Nat → Nat → Nat} (hF : FW M0 M s G) {n : Nat} (hn : n ≤ 30) {L : Nat → Nat} (hL : lvOK n (G 0) L) {i t : Nat} : ∀ (f : Nat) (x c r : Nat), r < f → c + r = t → (x = 0 → r = 0) → (∀ q, x = q + 1 → q < n ∧ r = L q) → ∀ Q : List zE → Option Value → Prop, Q M (some (.int (nI t))) → Z Γ (zRm (d + 1) m_mo_levelOf) m_mo_levelOf (zPh Γ m_mo_levelOf Q) 0 0 9 [some (.ref 123), some (.int (nI i)), some (.int (nI c)), some (.int (mI x))] [] M := by
  intro f
  induction f with
  | zero => intro x c r hr; exact absurd hr (by omega)
  | succ f ih =>
    intro x c r hr hc hx1 hx2 Q hQ
    rcases x with _ | q
    · skip
      refine Z_iload_n d_mo_levelOf_9 rfl ?_
      refine Z_if_lt (tgt := 26) d_mo_levelOf_10 (by decide) (fun h10 => ?_) (fun h10 => ?_)
      · skip
        skip
        refine Z_iload_n d_mo_levelOf_26 rfl ?_
        refine Z_iret d_mo_levelOf_27 rfl ?_
        have e := hx1 rfl
        rw [show c = t by omega]
        exact hQ
      · skip
        exact absurd (by decide) h10 -- end
    · skip
      obtain ⟨hq1, hq2⟩ := hx2 q rfl
      have hlq := hL q hq1
      have hl1 := hL.pos hq1
      refine Z_iload_n d_mo_levelOf_9 rfl ?_
      refine Z_if_lt (tgt := 26) d_mo_levelOf_10 (by decide) (fun h10 => ?_) (fun h10 => ?_)
      · skip
        exact absurd h10 (nI_pos (by omega)) -- end
      · skip
        skip
        refine Zn_iinc [some (.ref 123), some (.int (nI i)), some (.int (nI (c + 1))), some (.int (nI q))] (nI (c + 1)) d_mo_levelOf_13 rfl (by decide) (nI_add c 1) rfl ?_
        refine Z_aload_n d_mo_levelOf_16 rfl ?_
        refine Z_get (v := .ref 124) d_mo_levelOf_17 lf_mo_9 hF.1 rfl ?_
        refine Z_iload_n d_mo_levelOf_20 rfl ?_
        refine Zn_iald d_mo_levelOf_21 hF.a0 (by omega) (by omega) ?_
        refine Zn_istore_n [some (.ref 123), some (.int (nI i)), some (.int (nI (c + 1))), some (.int (mI (G 0 q)))] d_mo_levelOf_22 (by decide) rfl ?_
        refine Z_goto (tgt := 9) d_mo_levelOf_23 (by decide) ?_
        exact ih (G 0 q) (c + 1) (L q - 1) (by omega) (by omega) (fun z => by have := hlq.2.1 z; omega) (fun r hr => by have := hlq.2.2 r hr; omega) Q hQ
set_option maxHeartbeats 4000000 in
theorem mo_levelOf_ok {Γ : zCtx} {M : List zE} (d : Nat) {M0 : List zE} {s : Nat → Nat} {G : Nat → Nat → Nat} (hF : FW M0 M s G) {n : Nat} (hn : n ≤ 30) {L : Nat → Nat} (hL : lvOK n (G 0) L) {i : Nat} (hi0 : i < n) : ZM Γ (d + 1) m_mo_levelOf [.ref 123, .int (nI i)] M (zEq M (some (.int (nI (L i))))) := by
  refine ZM.of mk_mo_levelOf (Nat.le_of_ble_eq_true rfl) ?_
  have hi := hL i hi0
  have hl1 : 1 ≤ L i := by
    rcases hx : G 0 i with _ | q
    · rw [hi.2.1 hx]; omega
    · rw [(hi.2.2 q hx).2]; omega
  rw [show zEn [.ref 123, .int (nI i)] = [some (.ref 123), some (.int (nI i))] from rfl]
  refine zPad 2 ?_
  show Z _ _ _ _ _ _ _ [some (.ref 123), some (.int (nI i)), none, none] _ _
  refine Zn_iconst (nI 1) d_mo_levelOf_0 (by decide) ?_
  refine Zn_istore_n [some (.ref 123), some (.int (nI i)), some (.int (nI 1)), none] d_mo_levelOf_1 (by decide) rfl ?_
  refine Z_aload_n d_mo_levelOf_2 rfl ?_
  refine Z_get (v := .ref 124) d_mo_levelOf_3 lf_mo_9 hF.1 rfl ?_
  refine Z_iload_n d_mo_levelOf_6 rfl ?_
  refine Zn_iald d_mo_levelOf_7 hF.a0 (by omega) (by omega) ?_
  refine Zn_istore_n [some (.ref 123), some (.int (nI i)), some (.int (nI 1)), some (.int (mI (G 0 i)))] d_mo_levelOf_8 (by decide) rfl ?_
  exact mo_levelOf_loop d hF hn hL 4 (G 0 i) 1 (L i - 1) (by omega) (by omega) (fun z => by have := hi.2.1 z; omega) (fun r hr => by have := hi.2.2 r hr; omega) _ ⟨rfl, rfl⟩
def bgR (n : Nat) (L : Nat → Nat) (G G' : Nat → Nat → Nat) (i : Nat) : Prop := (∀ k, (k < 10 ∨ 18 ≤ k) → G' k = G k) ∧ ∀ j, j < i → G' 10 j = G 0 j ∧ G' 11 j = L j ∧ G' 12 j = G 1 j ∧ G' 13 j = G 2 j ∧ G' 14 j = j + 1 ∧ G' 15 j = 0 ∧ G' 16 j = 0 ∧ G' 17 j = 1
theorem bgR.step {n : Nat} {L : Nat → Nat} {G G' : Nat → Nat → Nat} {i : Nat} (h : bgR n L G G' i) : bgR n L G (nwG G' i (G' 0 i) (L i) (G' 1 i) (G' 2 i) (i + 1) 0) (i + 1) := by
  obtain ⟨h1, h2⟩ := h
  refine ⟨fun k hk => ?_, fun j hj => ?_⟩
  · unfold nwG
    rw [gup_n (by omega), gup_n (by omega), gup_n (by omega), gup_n (by omega), gup_n (by omega), gup_n (by omega), gup_n (by omega), gup_n (by omega), h1 k hk]
  · rw [h1 0 (by omega), h1 1 (by omega), h1 2 (by omega)]
    by_cases hji : j = i
    · subst hji
      simp [nwG, gup, nup]
    · have := h2 j (by omega)
      simp [nwG, gup, nup, hji, this]
def bgS (s s' : Nat → Nat) (i : Nat) : Prop := s' 2 = i ∧ s' 3 = i ∧ s' 4 = 0 ∧ ∀ j, j ≠ 2 → j ≠ 3 → j ≠ 4 → s' j = s j
theorem bgS.step {s s' : Nat → Nat} {i : Nat} (h : bgS s s' i) : bgS s (nwN s') (i + 1) := by
  obtain ⟨h1, h2, h3, h4⟩ := h
  refine ⟨?_, ?_, ?_, fun j a b c => ?_⟩
  · simp [nwN, nup, h1]
  · simp [nwN, nup, h2]
  · simp [nwN, nup, h3]
  · simp [nwN, nup, a, b]; exact h4 j a b c
set_option maxHeartbeats 4000000 in
theorem mo_begin_loop {Γ : zCtx} (d : Nat) {M0 : List zE} {s : Nat → Nat} {G : Nat → Nat → Nat} (hn : s 0 ≤ 30) {L : Nat → Nat} (hL : lvOK (s 0) (G 0) L) : ∀ (f : Nat) (i : Nat) (M : List zE) (s1 : Nat → Nat) (G1 : Nat → Nat → Nat) (y : Option Value), i ≤ s 0 → s 0 < i + f → FW M0 M s1 G1 → bgR (s 0) L G G1 i → bgS s s1 i → ∀ Q : List zE → Option Value → Prop, (∀ M1 s2 G2, FW M0 M1 s2 G2 → bgR (s 0) L G G2 (s 0) → bgS s s2 (s 0) → Q M1 none) → Z Γ (zRm (d + 2) m_mo_beginVersion) m_mo_beginVersion (zPh Γ m_mo_beginVersion Q) 0 0 17 [some (.ref 123), some (.int (nI i)), y] [] M := by
  intro f
  induction f with
  | zero => intro i M s1 G1 y hi hf; exact absurd hf (by omega)
  | succ f ih =>
    intro i M s1 G1 y hi hf hF hb hs Q hQ
    have h2i := hs.1
    refine Z_iload_n d_mo_beginVersion_17 rfl ?_
    refine Z_aload_n d_mo_beginVersion_18 rfl ?_
    refine Z_get (v := .int (nI (s1 0))) d_mo_beginVersion_19 lf_mo_154 hF.1 rfl ?_
    have hs0 : s1 0 = s 0 := hs.2.2.2 0 (by decide) (by decide) (by decide)
    refine Zn_icmp_ge (tgt := 62) d_mo_beginVersion_22 (by decide) (by omega) (by omega) (fun h22 => ?_) (fun h22 => ?_)
    · skip
      obtain rfl : i = s 0 := by omega
      refine Z_vret d_mo_beginVersion_62 rfl ?_
      exact hQ _ s1 G1 hF hb hs
    · skip
      refine Z_aload_n d_mo_beginVersion_25 rfl ?_
      refine Z_aload_n d_mo_beginVersion_26 rfl ?_
      refine Z_get (v := .ref 124) d_mo_beginVersion_27 lf_mo_9 hF.1 rfl ?_
      refine Z_iload_n d_mo_beginVersion_30 rfl ?_
      refine Zn_iald d_mo_beginVersion_31 hF.a0 (by omega) (by omega) ?_
      refine Z_aload_n d_mo_beginVersion_32 rfl ?_
      refine Z_iload_n d_mo_beginVersion_33 rfl ?_
      refine zVe (As := [.int (nI i)]) (by omega) d_mo_beginVersion_34 lm_mo_157 hF.1 rfl rfl (Nat.le_of_ble_eq_true rfl) (mo_levelOf_ok (n := s 0) d hF hn (by rw [hb.1 0 (by omega)]; exact hL) (by omega)) ?_
      refine Z_aload_n d_mo_beginVersion_37 rfl ?_
      refine Z_get (v := .ref 125) d_mo_beginVersion_38 lf_mo_13 hF.1 rfl ?_
      refine Z_iload_n d_mo_beginVersion_41 rfl ?_
      refine Zn_iald d_mo_beginVersion_42 hF.a1 (by omega) (by omega) ?_
      refine Z_aload_n d_mo_beginVersion_43 rfl ?_
      refine Z_get (v := .ref 126) d_mo_beginVersion_44 lf_mo_16 hF.1 rfl ?_
      refine Z_iload_n d_mo_beginVersion_47 rfl ?_
      refine Zn_iald d_mo_beginVersion_48 hF.a2 (by omega) (by omega) ?_
      refine Z_iload_n d_mo_beginVersion_49 rfl ?_
      refine Zn_bipush (-9) d_mo_beginVersion_50 (by decide) ?_
      refine zV (As := [.int (mI (G1 0 i)), .int (nI (L i)), .int (nI (G1 1 i)), .int (nI (G1 2 i)), .int (kI (i + 1)), .int (kI 0)]) (by omega) d_mo_beginVersion_52 lm_mo_161 hF.1 rfl rfl (Nat.le_of_ble_eq_true rfl) (mo_newNode_ok d hF (by show s1 2 < 160; omega)) (fun M1 v hq hlen => ?_)
      obtain ⟨rfl, hF⟩ := hq
      skip
      refine Zn_istore_n [some (.ref 123), some (.int (nI i)), some (.int (nI (s1 2)))] d_mo_beginVersion_55 (by decide) rfl ?_
      refine Zn_iinc [some (.ref 123), some (.int (nI (i + 1))), some (.int (nI (s1 2)))] (nI (i + 1)) d_mo_beginVersion_56 rfl (by decide) (nI_add i 1) rfl ?_
      refine Z_goto (tgt := 17) d_mo_beginVersion_59 (by decide) ?_
      rw [hs.1] at hF
      exact ih (i + 1) _ _ _ _ (by omega) (by omega) hF hb.step hs.step Q hQ
set_option maxHeartbeats 4000000 in
theorem mo_begin_ok {Γ : zCtx} {M : List zE} (d : Nat) {M0 : List zE} {s : Nat → Nat} {G : Nat → Nat → Nat} (hF : FW M0 M s G) (hn : s 0 ≤ 30) {L : Nat → Nat} (hL : lvOK (s 0) (G 0) L) : ZM Γ (d + 2) m_mo_beginVersion [.ref 123] M (fun M1 v => v = none ∧ ∃ s' G', FW M0 M1 s' G' ∧ bgR (s 0) L G G' (s 0) ∧ bgS s s' (s 0)) := by
  refine ZM.of mk_mo_beginVersion (Nat.le_of_ble_eq_true rfl) ?_
  rw [show zEn [.ref 123] = [some (.ref 123)] from rfl]
  refine zPad 2 ?_
  show Z _ _ _ _ _ _ _ [some (.ref 123), none, none] _ _
  refine Z_aload_n d_mo_beginVersion_0 rfl ?_
  refine Zn_iconst (nI 0) d_mo_beginVersion_1 (by decide) ?_
  refine Z_puti d_mo_beginVersion_2 lf_mo_144 hF.1 rfl rfl (Nat.le_of_ble_eq_true rfl) ?_
  replace hF := hF.u2 0
  refine Z_aload_n d_mo_beginVersion_5 rfl ?_
  refine Zn_iconst (nI 0) d_mo_beginVersion_6 (by decide) ?_
  refine Z_puti d_mo_beginVersion_7 lf_mo_148 hF.1 rfl rfl (Nat.le_of_ble_eq_true rfl) ?_
  replace hF := hF.u3 0
  refine Z_aload_n d_mo_beginVersion_10 rfl ?_
  refine Zn_iconst (nI 0) d_mo_beginVersion_11 (by decide) ?_
  refine Z_puti d_mo_beginVersion_12 lf_mo_151 hF.1 rfl rfl (Nat.le_of_ble_eq_true rfl) ?_
  replace hF := hF.u4 0
  refine Zn_iconst (nI 0) d_mo_beginVersion_15 (by decide) ?_
  refine Zn_istore_n [some (.ref 123), some (.int (nI 0)), none] d_mo_beginVersion_16 (by decide) rfl ?_
  exact mo_begin_loop d hn hL (s 0 + 1) 0 _ _ _ _ (by omega) (by omega) hF ⟨fun _ _ => rfl, fun j hj => absurd hj (by omega)⟩ ⟨by simp [nup], by simp [nup], by simp [nup], fun j a b c => by simp [nup, a, b, c]⟩ _ (fun M1 s2 G2 a1 a2 a3 => ⟨rfl, s2, G2, a1, a2, a3⟩)
