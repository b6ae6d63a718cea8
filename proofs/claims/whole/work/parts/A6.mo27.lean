/-! snapshots of the reference -/
set_option maxHeartbeats 4000000 in
theorem mo_exchange_1 {Γ : zCtx} {M : List zE} (d : Nat) {r q n : Nat} {f g : Nat → Int32} (hM0 : M[r]? = some (.inl (0, n, .inl f))) (hM1 : M[q]? = some (.inl (0, n, .inl g))) (hn : n < 2147483648)  : ZM Γ (d + 1) m_mo_exchange [.ref r, .ref q, .int (nI 1)] M (fun M1 v => v = none ∧ M1 = M.set q (.inl (0, n, .inl (va_cpy f g 0 0 n)))) := by
  refine ZM.of mk_mo_exchange (Nat.le_of_ble_eq_true rfl) ?_
  refine Z_iload_n d_mo_exchange_0 rfl ?_
  refine Zn_if_eq (a := 1) (tgt := 8) d_mo_exchange_1 (by decide) (by decide) (fun h => absurd h (by decide)) (fun _ => ?_)
  refine Z_aload_n d_mo_exchange_4 rfl ?_
  refine Z_goto (tgt := 9) d_mo_exchange_5 (by decide) ?_
  refine Zn_iconst (nI 0) d_mo_exchange_9 (by decide) ?_
  refine Z_iload_n d_mo_exchange_10 rfl ?_
  refine Zn_if_eq (a := 1) (tgt := 18) d_mo_exchange_11 (by decide) (by decide) (fun h => absurd h (by decide)) (fun _ => ?_)
  refine Z_aload_n d_mo_exchange_14 rfl ?_
  refine Z_goto (tgt := 19) d_mo_exchange_15 (by decide) ?_
  refine Zn_iconst (nI 0) d_mo_exchange_19 (by decide) ?_
  refine Z_aload_n d_mo_exchange_20 rfl ?_
  refine Z_alen d_mo_exchange_21 hM0 (by decide) (fun f h => by cases h) ?_
  refine zCpi (sp := 0) (dp := 0) (n := n) (by omega) d_mo_exchange_22 lc_mo_377 hM0 hM1 (by omega) (by omega) hn hn (Nat.le_of_ble_eq_true rfl) ?_
  refine Z_vret d_mo_exchange_25 rfl ?_
  exact ⟨rfl, rfl⟩
set_option maxHeartbeats 4000000 in
theorem mo_exchange_0 {Γ : zCtx} {M : List zE} (d : Nat) {r q n : Nat} {f g : Nat → Int32} (hM0 : M[r]? = some (.inl (0, n, .inl f))) (hM1 : M[q]? = some (.inl (0, n, .inl g))) (hn : n < 2147483648)  : ZM Γ (d + 1) m_mo_exchange [.ref r, .ref q, .int (nI 0)] M (fun M1 v => v = none ∧ M1 = M.set r (.inl (0, n, .inl (va_cpy g f 0 0 n)))) := by
  refine ZM.of mk_mo_exchange (Nat.le_of_ble_eq_true rfl) ?_
  refine Z_iload_n d_mo_exchange_0 rfl ?_
  refine Zn_if_eq (a := 0) (tgt := 8) d_mo_exchange_1 (by decide) (by decide) (fun _ => ?_) (fun h => absurd h (by decide))
  refine Z_aload_n d_mo_exchange_8 rfl ?_
  refine Zn_iconst (nI 0) d_mo_exchange_9 (by decide) ?_
  refine Z_iload_n d_mo_exchange_10 rfl ?_
  refine Zn_if_eq (a := 0) (tgt := 18) d_mo_exchange_11 (by decide) (by decide) (fun _ => ?_) (fun h => absurd h (by decide))
  refine Z_aload_n d_mo_exchange_18 rfl ?_
  refine Zn_iconst (nI 0) d_mo_exchange_19 (by decide) ?_
  refine Z_aload_n d_mo_exchange_20 rfl ?_
  refine Z_alen d_mo_exchange_21 hM0 (by decide) (fun f h => by cases h) ?_
  refine zCpi (sp := 0) (dp := 0) (n := n) (by omega) d_mo_exchange_22 lc_mo_377 hM1 hM0 (by omega) (by omega) hn hn (Nat.le_of_ble_eq_true rfl) ?_
  refine Z_vret d_mo_exchange_25 rfl ?_
  exact ⟨rfl, rfl⟩
def exS (G G' : Nat → Nat → Nat) (i : Nat) : Prop := (∀ k, k < i → G' (33 + k) = cpN (G k) (G (33 + k)) 0 0 (moN k)) ∧ ∀ b, (b < 33 ∨ 33 + i ≤ b) → G' b = G b
def exL (G G' : Nat → Nat → Nat) (i : Nat) : Prop := (∀ k, k < i → G' k = cpN (G (33 + k)) (G k) 0 0 (moN k)) ∧ ∀ b, i ≤ b → G' b = G b
theorem exS.step {G G1 : Nat → Nat → Nat} {i : Nat} (h : exS G G1 i) (hi : i < 10) : exS G (gset G1 (33 + i) (cpN (G1 i) (G1 (33 + i)) 0 0 (moN i))) (i + 1) := by
  refine ⟨fun k hk => ?_, fun b hb => ?_⟩
  · by_cases e : k = i
    · rw [e, gset_s, h.2 i (by omega), h.2 (33 + i) (by omega)]
    · rw [gset_n (by omega)]; exact h.1 k (by omega)
  · rw [gset_n (by omega)]; exact h.2 b (by omega)
theorem exL.step {G G1 : Nat → Nat → Nat} {i : Nat} (h : exL G G1 i) (hi : i < 10) : exL G (gset G1 i (cpN (G1 (33 + i)) (G1 i) 0 0 (moN i))) (i + 1) := by
  refine ⟨fun k hk => ?_, fun b hb => ?_⟩
  · by_cases e : k = i
    · rw [e, gset_s, h.2 i (by omega), h.2 (33 + i) (by omega)]
    · rw [gset_n (by omega)]; exact h.1 k (by omega)
  · rw [gset_n (by omega)]; exact h.2 b (by omega)
set_option maxHeartbeats 4000000 in
theorem mo_exchangeAll_1 {Γ : zCtx} {M : List zE} (d : Nat) {M0 : List zE} {s : Nat → Nat} {G : Nat → Nat → Nat} (hF : FW M0 M s G)  : ZM Γ (d + 2) m_mo_exchangeAll [.ref 123, .int (nI 1)] M (fun M1 v => v = none ∧ ∃ G', FW M0 M1 s G' ∧ exS G G' 10) := by
  refine ZM.of mk_mo_exchangeAll (Nat.le_of_ble_eq_true rfl) ?_
  have hE : exS G G 0 := ⟨fun k hk => by omega, fun _ _ => rfl⟩
  refine Z_aload_n d_mo_exchangeAll_0 rfl ?_
  refine Z_get (v := .ref 124) d_mo_exchangeAll_1 lf_mo_9 hF.1 rfl ?_
  refine Z_aload_n d_mo_exchangeAll_4 rfl ?_
  refine Z_get (v := .ref 157) d_mo_exchangeAll_5 lf_mo_114 hF.1 rfl ?_
  refine Z_iload_n d_mo_exchangeAll_8 rfl ?_
  refine zT (As := [.ref 124, .ref 157, .int (nI 1)]) (by omega) d_mo_exchangeAll_9 lm_mo_383 rfl (Nat.le_of_ble_eq_true rfl) (mo_exchange_1 d hF.a0 hF.a33 (by decide)) (fun M1 v hq hlen => ?_)
  obtain ⟨rfl, rfl⟩ := hq
  replace hF := hF.row 33 (by decide) (va_cpy (fun i => mI (G 0 i)) (fun i => mI (G 33 i)) 0 0 30) (cpN (G 0) (G 33) 0 0 30) (fun i => cpN_d (D := mI) i)
  replace hE := hE.step (by decide)
  obtain ⟨G1, hG1⟩ : ∃ X, X = gset G 33 (cpN (G 0) (G 33) 0 0 30) := ⟨_, rfl⟩
  rw [← hG1] at hF
  replace hE : exS G G1 1 := by rw [hG1]; exact hE
  refine Z_aload_n d_mo_exchangeAll_12 rfl ?_
  refine Z_get (v := .ref 125) d_mo_exchangeAll_13 lf_mo_13 hF.1 rfl ?_
  refine Z_aload_n d_mo_exchangeAll_16 rfl ?_
  refine Z_get (v := .ref 158) d_mo_exchangeAll_17 lf_mo_117 hF.1 rfl ?_
  refine Z_iload_n d_mo_exchangeAll_20 rfl ?_
  refine zT (As := [.ref 125, .ref 158, .int (nI 1)]) (by omega) d_mo_exchangeAll_21 lm_mo_383 rfl (Nat.le_of_ble_eq_true rfl) (mo_exchange_1 d hF.a1 hF.a34 (by decide)) (fun M1 v hq hlen => ?_)
  obtain ⟨rfl, rfl⟩ := hq
  replace hF := hF.row 34 (by decide) (va_cpy (fun i => nI (G1 1 i)) (fun i => nI (G1 34 i)) 0 0 30) (cpN (G1 1) (G1 34) 0 0 30) (fun i => cpN_d (D := nI) i)
  replace hE := hE.step (by decide)
  obtain ⟨G2, hG2⟩ : ∃ X, X = gset G1 34 (cpN (G1 1) (G1 34) 0 0 30) := ⟨_, rfl⟩
  rw [← hG2] at hF
  replace hE : exS G G2 2 := by rw [hG2]; exact hE
  refine Z_aload_n d_mo_exchangeAll_24 rfl ?_
  refine Z_get (v := .ref 126) d_mo_exchangeAll_25 lf_mo_16 hF.1 rfl ?_
  refine Z_aload_n d_mo_exchangeAll_28 rfl ?_
  refine Z_get (v := .ref 159) d_mo_exchangeAll_29 lf_mo_120 hF.1 rfl ?_
  refine Z_iload_n d_mo_exchangeAll_32 rfl ?_
  refine zT (As := [.ref 126, .ref 159, .int (nI 1)]) (by omega) d_mo_exchangeAll_33 lm_mo_383 rfl (Nat.le_of_ble_eq_true rfl) (mo_exchange_1 d hF.a2 hF.a35 (by decide)) (fun M1 v hq hlen => ?_)
  obtain ⟨rfl, rfl⟩ := hq
  replace hF := hF.row 35 (by decide) (va_cpy (fun i => nI (G2 2 i)) (fun i => nI (G2 35 i)) 0 0 30) (cpN (G2 2) (G2 35) 0 0 30) (fun i => cpN_d (D := nI) i)
  replace hE := hE.step (by decide)
  obtain ⟨G3, hG3⟩ : ∃ X, X = gset G2 35 (cpN (G2 2) (G2 35) 0 0 30) := ⟨_, rfl⟩
  rw [← hG3] at hF
  replace hE : exS G G3 3 := by rw [hG3]; exact hE
  refine Z_aload_n d_mo_exchangeAll_36 rfl ?_
  refine Z_get (v := .ref 127) d_mo_exchangeAll_37 lf_mo_19 hF.1 rfl ?_
  refine Z_aload_n d_mo_exchangeAll_40 rfl ?_
  refine Z_get (v := .ref 160) d_mo_exchangeAll_41 lf_mo_123 hF.1 rfl ?_
  refine Z_iload_n d_mo_exchangeAll_44 rfl ?_
  refine zT (As := [.ref 127, .ref 160, .int (nI 1)]) (by omega) d_mo_exchangeAll_45 lm_mo_383 rfl (Nat.le_of_ble_eq_true rfl) (mo_exchange_1 d hF.a3 hF.a36 (by decide)) (fun M1 v hq hlen => ?_)
  obtain ⟨rfl, rfl⟩ := hq
  replace hF := hF.row 36 (by decide) (va_cpy (fun i => nI (G3 3 i)) (fun i => nI (G3 36 i)) 0 0 30) (cpN (G3 3) (G3 36) 0 0 30) (fun i => cpN_d (D := nI) i)
  replace hE := hE.step (by decide)
  obtain ⟨G4, hG4⟩ : ∃ X, X = gset G3 36 (cpN (G3 3) (G3 36) 0 0 30) := ⟨_, rfl⟩
  rw [← hG4] at hF
  replace hE : exS G G4 4 := by rw [hG4]; exact hE
  refine Z_aload_n d_mo_exchangeAll_48 rfl ?_
  refine Z_get (v := .ref 128) d_mo_exchangeAll_49 lf_mo_22 hF.1 rfl ?_
  refine Z_aload_n d_mo_exchangeAll_52 rfl ?_
  refine Z_get (v := .ref 161) d_mo_exchangeAll_53 lf_mo_126 hF.1 rfl ?_
  refine Z_iload_n d_mo_exchangeAll_56 rfl ?_
  refine zT (As := [.ref 128, .ref 161, .int (nI 1)]) (by omega) d_mo_exchangeAll_57 lm_mo_383 rfl (Nat.le_of_ble_eq_true rfl) (mo_exchange_1 d hF.a4 hF.a37 (by decide)) (fun M1 v hq hlen => ?_)
  obtain ⟨rfl, rfl⟩ := hq
  replace hF := hF.row 37 (by decide) (va_cpy (fun i => nI (G4 4 i)) (fun i => nI (G4 37 i)) 0 0 120) (cpN (G4 4) (G4 37) 0 0 120) (fun i => cpN_d (D := nI) i)
  replace hE := hE.step (by decide)
  obtain ⟨G5, hG5⟩ : ∃ X, X = gset G4 37 (cpN (G4 4) (G4 37) 0 0 120) := ⟨_, rfl⟩
  rw [← hG5] at hF
  replace hE : exS G G5 5 := by rw [hG5]; exact hE
  refine Z_aload_n d_mo_exchangeAll_60 rfl ?_
  refine Z_get (v := .ref 129) d_mo_exchangeAll_61 lf_mo_25 hF.1 rfl ?_
  refine Z_aload_n d_mo_exchangeAll_64 rfl ?_
  refine Z_get (v := .ref 162) d_mo_exchangeAll_65 lf_mo_129 hF.1 rfl ?_
  refine Z_iload_n d_mo_exchangeAll_68 rfl ?_
  refine zT (As := [.ref 129, .ref 162, .int (nI 1)]) (by omega) d_mo_exchangeAll_69 lm_mo_383 rfl (Nat.le_of_ble_eq_true rfl) (mo_exchange_1 d hF.a5 hF.a38 (by decide)) (fun M1 v hq hlen => ?_)
  obtain ⟨rfl, rfl⟩ := hq
  replace hF := hF.row 38 (by decide) (va_cpy (fun i => nI (G5 5 i)) (fun i => nI (G5 38 i)) 0 0 8) (cpN (G5 5) (G5 38) 0 0 8) (fun i => cpN_d (D := nI) i)
  replace hE := hE.step (by decide)
  obtain ⟨G6, hG6⟩ : ∃ X, X = gset G5 38 (cpN (G5 5) (G5 38) 0 0 8) := ⟨_, rfl⟩
  rw [← hG6] at hF
  replace hE : exS G G6 6 := by rw [hG6]; exact hE
  refine Z_aload_n d_mo_exchangeAll_72 rfl ?_
  refine Z_get (v := .ref 130) d_mo_exchangeAll_73 lf_mo_28 hF.1 rfl ?_
  refine Z_aload_n d_mo_exchangeAll_76 rfl ?_
  refine Z_get (v := .ref 163) d_mo_exchangeAll_77 lf_mo_132 hF.1 rfl ?_
  refine Z_iload_n d_mo_exchangeAll_80 rfl ?_
  refine zT (As := [.ref 130, .ref 163, .int (nI 1)]) (by omega) d_mo_exchangeAll_81 lm_mo_383 rfl (Nat.le_of_ble_eq_true rfl) (mo_exchange_1 d hF.a6 hF.a39 (by decide)) (fun M1 v hq hlen => ?_)
  obtain ⟨rfl, rfl⟩ := hq
  replace hF := hF.row 39 (by decide) (va_cpy (fun i => nI (G6 6 i)) (fun i => nI (G6 39 i)) 0 0 8) (cpN (G6 6) (G6 39) 0 0 8) (fun i => cpN_d (D := nI) i)
  replace hE := hE.step (by decide)
  obtain ⟨G7, hG7⟩ : ∃ X, X = gset G6 39 (cpN (G6 6) (G6 39) 0 0 8) := ⟨_, rfl⟩
  rw [← hG7] at hF
  replace hE : exS G G7 7 := by rw [hG7]; exact hE
  refine Z_aload_n d_mo_exchangeAll_84 rfl ?_
  refine Z_get (v := .ref 131) d_mo_exchangeAll_85 lf_mo_31 hF.1 rfl ?_
  refine Z_aload_n d_mo_exchangeAll_88 rfl ?_
  refine Z_get (v := .ref 164) d_mo_exchangeAll_89 lf_mo_135 hF.1 rfl ?_
  refine Z_iload_n d_mo_exchangeAll_92 rfl ?_
  refine zT (As := [.ref 131, .ref 164, .int (nI 1)]) (by omega) d_mo_exchangeAll_93 lm_mo_383 rfl (Nat.le_of_ble_eq_true rfl) (mo_exchange_1 d hF.a7 hF.a40 (by decide)) (fun M1 v hq hlen => ?_)
  obtain ⟨rfl, rfl⟩ := hq
  replace hF := hF.row 40 (by decide) (va_cpy (fun i => mI (G7 7 i)) (fun i => mI (G7 40 i)) 0 0 128) (cpN (G7 7) (G7 40) 0 0 128) (fun i => cpN_d (D := mI) i)
  replace hE := hE.step (by decide)
  obtain ⟨G8, hG8⟩ : ∃ X, X = gset G7 40 (cpN (G7 7) (G7 40) 0 0 128) := ⟨_, rfl⟩
  rw [← hG8] at hF
  replace hE : exS G G8 8 := by rw [hG8]; exact hE
  refine Z_aload_n d_mo_exchangeAll_96 rfl ?_
  refine Z_get (v := .ref 132) d_mo_exchangeAll_97 lf_mo_34 hF.1 rfl ?_
  refine Z_aload_n d_mo_exchangeAll_100 rfl ?_
  refine Z_get (v := .ref 165) d_mo_exchangeAll_101 lf_mo_138 hF.1 rfl ?_
  refine Z_iload_n d_mo_exchangeAll_104 rfl ?_
  refine zT (As := [.ref 132, .ref 165, .int (nI 1)]) (by omega) d_mo_exchangeAll_105 lm_mo_383 rfl (Nat.le_of_ble_eq_true rfl) (mo_exchange_1 d hF.a8 hF.a41 (by decide)) (fun M1 v hq hlen => ?_)
  obtain ⟨rfl, rfl⟩ := hq
  replace hF := hF.row 41 (by decide) (va_cpy (fun i => nI (G8 8 i)) (fun i => nI (G8 41 i)) 0 0 128) (cpN (G8 8) (G8 41) 0 0 128) (fun i => cpN_d (D := nI) i)
  replace hE := hE.step (by decide)
  obtain ⟨G9, hG9⟩ : ∃ X, X = gset G8 41 (cpN (G8 8) (G8 41) 0 0 128) := ⟨_, rfl⟩
  rw [← hG9] at hF
  replace hE : exS G G9 9 := by rw [hG9]; exact hE
  refine Z_aload_n d_mo_exchangeAll_108 rfl ?_
  refine Z_get (v := .ref 133) d_mo_exchangeAll_109 lf_mo_37 hF.1 rfl ?_
  refine Z_aload_n d_mo_exchangeAll_112 rfl ?_
  refine Z_get (v := .ref 166) d_mo_exchangeAll_113 lf_mo_141 hF.1 rfl ?_
  refine Z_iload_n d_mo_exchangeAll_116 rfl ?_
  refine zT (As := [.ref 133, .ref 166, .int (nI 1)]) (by omega) d_mo_exchangeAll_117 lm_mo_383 rfl (Nat.le_of_ble_eq_true rfl) (mo_exchange_1 d hF.a9 hF.a42 (by decide)) (fun M1 v hq hlen => ?_)
  obtain ⟨rfl, rfl⟩ := hq
  replace hF := hF.row 42 (by decide) (va_cpy (fun i => nI (G9 9 i)) (fun i => nI (G9 42 i)) 0 0 768) (cpN (G9 9) (G9 42) 0 0 768) (fun i => cpN_d (D := nI) i)
  replace hE := hE.step (by decide)
  obtain ⟨G10, hG10⟩ : ∃ X, X = gset G9 42 (cpN (G9 9) (G9 42) 0 0 768) := ⟨_, rfl⟩
  rw [← hG10] at hF
  replace hE : exS G G10 10 := by rw [hG10]; exact hE
  refine Z_vret d_mo_exchangeAll_120 rfl ?_
  exact ⟨rfl, _, hF, hE⟩
set_option maxHeartbeats 4000000 in
theorem mo_exchangeAll_0 {Γ : zCtx} {M : List zE} (d : Nat) {M0 : List zE} {s : Nat → Nat} {G : Nat → Nat → Nat} (hF : FW M0 M s G)  : ZM Γ (d + 2) m_mo_exchangeAll [.ref 123, .int (nI 0)] M (fun M1 v => v = none ∧ ∃ G', FW M0 M1 s G' ∧ exL G G' 10) := by
  refine ZM.of mk_mo_exchangeAll (Nat.le_of_ble_eq_true rfl) ?_
  have hE : exL G G 0 := ⟨fun k hk => by omega, fun _ _ => rfl⟩
  refine Z_aload_n d_mo_exchangeAll_0 rfl ?_
  refine Z_get (v := .ref 124) d_mo_exchangeAll_1 lf_mo_9 hF.1 rfl ?_
  refine Z_aload_n d_mo_exchangeAll_4 rfl ?_
  refine Z_get (v := .ref 157) d_mo_exchangeAll_5 lf_mo_114 hF.1 rfl ?_
  refine Z_iload_n d_mo_exchangeAll_8 rfl ?_
  refine zT (As := [.ref 124, .ref 157, .int (nI 0)]) (by omega) d_mo_exchangeAll_9 lm_mo_383 rfl (Nat.le_of_ble_eq_true rfl) (mo_exchange_0 d hF.a0 hF.a33 (by decide)) (fun M1 v hq hlen => ?_)
  obtain ⟨rfl, rfl⟩ := hq
  replace hF := hF.row 0 (by decide) (va_cpy (fun i => mI (G 33 i)) (fun i => mI (G 0 i)) 0 0 30) (cpN (G 33) (G 0) 0 0 30) (fun i => cpN_d (D := mI) i)
  replace hE := hE.step (by decide)
  obtain ⟨G1, hG1⟩ : ∃ X, X = gset G 0 (cpN (G 33) (G 0) 0 0 30) := ⟨_, rfl⟩
  rw [← hG1] at hF
  replace hE : exL G G1 1 := by rw [hG1]; exact hE
  refine Z_aload_n d_mo_exchangeAll_12 rfl ?_
  refine Z_get (v := .ref 125) d_mo_exchangeAll_13 lf_mo_13 hF.1 rfl ?_
  refine Z_aload_n d_mo_exchangeAll_16 rfl ?_
  refine Z_get (v := .ref 158) d_mo_exchangeAll_17 lf_mo_117 hF.1 rfl ?_
  refine Z_iload_n d_mo_exchangeAll_20 rfl ?_
  refine zT (As := [.ref 125, .ref 158, .int (nI 0)]) (by omega) d_mo_exchangeAll_21 lm_mo_383 rfl (Nat.le_of_ble_eq_true rfl) (mo_exchange_0 d hF.a1 hF.a34 (by decide)) (fun M1 v hq hlen => ?_)
  obtain ⟨rfl, rfl⟩ := hq
  replace hF := hF.row 1 (by decide) (va_cpy (fun i => nI (G1 34 i)) (fun i => nI (G1 1 i)) 0 0 30) (cpN (G1 34) (G1 1) 0 0 30) (fun i => cpN_d (D := nI) i)
  replace hE := hE.step (by decide)
  obtain ⟨G2, hG2⟩ : ∃ X, X = gset G1 1 (cpN (G1 34) (G1 1) 0 0 30) := ⟨_, rfl⟩
  rw [← hG2] at hF
  replace hE : exL G G2 2 := by rw [hG2]; exact hE
  refine Z_aload_n d_mo_exchangeAll_24 rfl ?_
  refine Z_get (v := .ref 126) d_mo_exchangeAll_25 lf_mo_16 hF.1 rfl ?_
  refine Z_aload_n d_mo_exchangeAll_28 rfl ?_
  refine Z_get (v := .ref 159) d_mo_exchangeAll_29 lf_mo_120 hF.1 rfl ?_
  refine Z_iload_n d_mo_exchangeAll_32 rfl ?_
  refine zT (As := [.ref 126, .ref 159, .int (nI 0)]) (by omega) d_mo_exchangeAll_33 lm_mo_383 rfl (Nat.le_of_ble_eq_true rfl) (mo_exchange_0 d hF.a2 hF.a35 (by decide)) (fun M1 v hq hlen => ?_)
  obtain ⟨rfl, rfl⟩ := hq
  replace hF := hF.row 2 (by decide) (va_cpy (fun i => nI (G2 35 i)) (fun i => nI (G2 2 i)) 0 0 30) (cpN (G2 35) (G2 2) 0 0 30) (fun i => cpN_d (D := nI) i)
  replace hE := hE.step (by decide)
  obtain ⟨G3, hG3⟩ : ∃ X, X = gset G2 2 (cpN (G2 35) (G2 2) 0 0 30) := ⟨_, rfl⟩
  rw [← hG3] at hF
  replace hE : exL G G3 3 := by rw [hG3]; exact hE
  refine Z_aload_n d_mo_exchangeAll_36 rfl ?_
  refine Z_get (v := .ref 127) d_mo_exchangeAll_37 lf_mo_19 hF.1 rfl ?_
  refine Z_aload_n d_mo_exchangeAll_40 rfl ?_
  refine Z_get (v := .ref 160) d_mo_exchangeAll_41 lf_mo_123 hF.1 rfl ?_
  refine Z_iload_n d_mo_exchangeAll_44 rfl ?_
  refine zT (As := [.ref 127, .ref 160, .int (nI 0)]) (by omega) d_mo_exchangeAll_45 lm_mo_383 rfl (Nat.le_of_ble_eq_true rfl) (mo_exchange_0 d hF.a3 hF.a36 (by decide)) (fun M1 v hq hlen => ?_)
  obtain ⟨rfl, rfl⟩ := hq
  replace hF := hF.row 3 (by decide) (va_cpy (fun i => nI (G3 36 i)) (fun i => nI (G3 3 i)) 0 0 30) (cpN (G3 36) (G3 3) 0 0 30) (fun i => cpN_d (D := nI) i)
  replace hE := hE.step (by decide)
  obtain ⟨G4, hG4⟩ : ∃ X, X = gset G3 3 (cpN (G3 36) (G3 3) 0 0 30) := ⟨_, rfl⟩
  rw [← hG4] at hF
  replace hE : exL G G4 4 := by rw [hG4]; exact hE
  refine Z_aload_n d_mo_exchangeAll_48 rfl ?_
  refine Z_get (v := .ref 128) d_mo_exchangeAll_49 lf_mo_22 hF.1 rfl ?_
  refine Z_aload_n d_mo_exchangeAll_52 rfl ?_
  refine Z_get (v := .ref 161) d_mo_exchangeAll_53 lf_mo_126 hF.1 rfl ?_
  refine Z_iload_n d_mo_exchangeAll_56 rfl ?_
  refine zT (As := [.ref 128, .ref 161, .int (nI 0)]) (by omega) d_mo_exchangeAll_57 lm_mo_383 rfl (Nat.le_of_ble_eq_true rfl) (mo_exchange_0 d hF.a4 hF.a37 (by decide)) (fun M1 v hq hlen => ?_)
  obtain ⟨rfl, rfl⟩ := hq
  replace hF := hF.row 4 (by decide) (va_cpy (fun i => nI (G4 37 i)) (fun i => nI (G4 4 i)) 0 0 120) (cpN (G4 37) (G4 4) 0 0 120) (fun i => cpN_d (D := nI) i)
  replace hE := hE.step (by decide)
  obtain ⟨G5, hG5⟩ : ∃ X, X = gset G4 4 (cpN (G4 37) (G4 4) 0 0 120) := ⟨_, rfl⟩
  rw [← hG5] at hF
  replace hE : exL G G5 5 := by rw [hG5]; exact hE
  refine Z_aload_n d_mo_exchangeAll_60 rfl ?_
  refine Z_get (v := .ref 129) d_mo_exchangeAll_61 lf_mo_25 hF.1 rfl ?_
  refine Z_aload_n d_mo_exchangeAll_64 rfl ?_
  refine Z_get (v := .ref 162) d_mo_exchangeAll_65 lf_mo_129 hF.1 rfl ?_
  refine Z_iload_n d_mo_exchangeAll_68 rfl ?_
  refine zT (As := [.ref 129, .ref 162, .int (nI 0)]) (by omega) d_mo_exchangeAll_69 lm_mo_383 rfl (Nat.le_of_ble_eq_true rfl) (mo_exchange_0 d hF.a5 hF.a38 (by decide)) (fun M1 v hq hlen => ?_)
  obtain ⟨rfl, rfl⟩ := hq
  replace hF := hF.row 5 (by decide) (va_cpy (fun i => nI (G5 38 i)) (fun i => nI (G5 5 i)) 0 0 8) (cpN (G5 38) (G5 5) 0 0 8) (fun i => cpN_d (D := nI) i)
  replace hE := hE.step (by decide)
  obtain ⟨G6, hG6⟩ : ∃ X, X = gset G5 5 (cpN (G5 38) (G5 5) 0 0 8) := ⟨_, rfl⟩
  rw [← hG6] at hF
  replace hE : exL G G6 6 := by rw [hG6]; exact hE
  refine Z_aload_n d_mo_exchangeAll_72 rfl ?_
  refine Z_get (v := .ref 130) d_mo_exchangeAll_73 lf_mo_28 hF.1 rfl ?_
  refine Z_aload_n d_mo_exchangeAll_76 rfl ?_
  refine Z_get (v := .ref 163) d_mo_exchangeAll_77 lf_mo_132 hF.1 rfl ?_
  refine Z_iload_n d_mo_exchangeAll_80 rfl ?_
  refine zT (As := [.ref 130, .ref 163, .int (nI 0)]) (by omega) d_mo_exchangeAll_81 lm_mo_383 rfl (Nat.le_of_ble_eq_true rfl) (mo_exchange_0 d hF.a6 hF.a39 (by decide)) (fun M1 v hq hlen => ?_)
  obtain ⟨rfl, rfl⟩ := hq
  replace hF := hF.row 6 (by decide) (va_cpy (fun i => nI (G6 39 i)) (fun i => nI (G6 6 i)) 0 0 8) (cpN (G6 39) (G6 6) 0 0 8) (fun i => cpN_d (D := nI) i)
  replace hE := hE.step (by decide)
  obtain ⟨G7, hG7⟩ : ∃ X, X = gset G6 6 (cpN (G6 39) (G6 6) 0 0 8) := ⟨_, rfl⟩
  rw [← hG7] at hF
  replace hE : exL G G7 7 := by rw [hG7]; exact hE
  refine Z_aload_n d_mo_exchangeAll_84 rfl ?_
  refine Z_get (v := .ref 131) d_mo_exchangeAll_85 lf_mo_31 hF.1 rfl ?_
  refine Z_aload_n d_mo_exchangeAll_88 rfl ?_
  refine Z_get (v := .ref 164) d_mo_exchangeAll_89 lf_mo_135 hF.1 rfl ?_
  refine Z_iload_n d_mo_exchangeAll_92 rfl ?_
  refine zT (As := [.ref 131, .ref 164, .int (nI 0)]) (by omega) d_mo_exchangeAll_93 lm_mo_383 rfl (Nat.le_of_ble_eq_true rfl) (mo_exchange_0 d hF.a7 hF.a40 (by decide)) (fun M1 v hq hlen => ?_)
  obtain ⟨rfl, rfl⟩ := hq
  replace hF := hF.row 7 (by decide) (va_cpy (fun i => mI (G7 40 i)) (fun i => mI (G7 7 i)) 0 0 128) (cpN (G7 40) (G7 7) 0 0 128) (fun i => cpN_d (D := mI) i)
  replace hE := hE.step (by decide)
  obtain ⟨G8, hG8⟩ : ∃ X, X = gset G7 7 (cpN (G7 40) (G7 7) 0 0 128) := ⟨_, rfl⟩
  rw [← hG8] at hF
  replace hE : exL G G8 8 := by rw [hG8]; exact hE
  refine Z_aload_n d_mo_exchangeAll_96 rfl ?_
  refine Z_get (v := .ref 132) d_mo_exchangeAll_97 lf_mo_34 hF.1 rfl ?_
  refine Z_aload_n d_mo_exchangeAll_100 rfl ?_
  refine Z_get (v := .ref 165) d_mo_exchangeAll_101 lf_mo_138 hF.1 rfl ?_
  refine Z_iload_n d_mo_exchangeAll_104 rfl ?_
  refine zT (As := [.ref 132, .ref 165, .int (nI 0)]) (by omega) d_mo_exchangeAll_105 lm_mo_383 rfl (Nat.le_of_ble_eq_true rfl) (mo_exchange_0 d hF.a8 hF.a41 (by decide)) (fun M1 v hq hlen => ?_)
  obtain ⟨rfl, rfl⟩ := hq
  replace hF := hF.row 8 (by decide) (va_cpy (fun i => nI (G8 41 i)) (fun i => nI (G8 8 i)) 0 0 128) (cpN (G8 41) (G8 8) 0 0 128) (fun i => cpN_d (D := nI) i)
  replace hE := hE.step (by decide)
  obtain ⟨G9, hG9⟩ : ∃ X, X = gset G8 8 (cpN (G8 41) (G8 8) 0 0 128) := ⟨_, rfl⟩
  rw [← hG9] at hF
  replace hE : exL G G9 9 := by rw [hG9]; exact hE
  refine Z_aload_n d_mo_exchangeAll_108 rfl ?_
  refine Z_get (v := .ref 133) d_mo_exchangeAll_109 lf_mo_37 hF.1 rfl ?_
  refine Z_aload_n d_mo_exchangeAll_112 rfl ?_
  refine Z_get (v := .ref 166) d_mo_exchangeAll_113 lf_mo_141 hF.1 rfl ?_
  refine Z_iload_n d_mo_exchangeAll_116 rfl ?_
  refine zT (As := [.ref 133, .ref 166, .int (nI 0)]) (by omega) d_mo_exchangeAll_117 lm_mo_383 rfl (Nat.le_of_ble_eq_true rfl) (mo_exchange_0 d hF.a9 hF.a42 (by decide)) (fun M1 v hq hlen => ?_)
  obtain ⟨rfl, rfl⟩ := hq
  replace hF := hF.row 9 (by decide) (va_cpy (fun i => nI (G9 42 i)) (fun i => nI (G9 9 i)) 0 0 768) (cpN (G9 42) (G9 9) 0 0 768) (fun i => cpN_d (D := nI) i)
  replace hE := hE.step (by decide)
  obtain ⟨G10, hG10⟩ : ∃ X, X = gset G9 9 (cpN (G9 42) (G9 9) 0 0 768) := ⟨_, rfl⟩
  rw [← hG10] at hF
  replace hE : exL G G10 10 := by rw [hG10]; exact hE
  refine Z_vret d_mo_exchangeAll_120 rfl ?_
  exact ⟨rfl, _, hF, hE⟩
set_option maxHeartbeats 4000000 in
theorem mo_saveSnapshot_ok {Γ : zCtx} {M : List zE} (d : Nat) {M0 : List zE} {s : Nat → Nat} {G : Nat → Nat → Nat} (hF : FW M0 M s G)  : ZM Γ (d + 3) m_mo_saveSnapshot [.ref 123] M (fun M1 v => v = some (.int (nI (s 0))) ∧ ∃ G', FW M0 M1 (nup (nup (nup s 11 (s 0)) 12 (s 1)) 13 1) G' ∧ exS G G' 10) := by
  refine ZM.of mk_mo_saveSnapshot (Nat.le_of_ble_eq_true rfl) ?_
  refine Z_aload_n d_mo_saveSnapshot_0 rfl ?_
  refine Zn_iconst (nI 1) d_mo_saveSnapshot_1 (by decide) ?_
  refine zV (As := [.int (nI 1)]) (by omega) d_mo_saveSnapshot_2 lm_mo_387 hF.1 rfl rfl (Nat.le_of_ble_eq_true rfl) (mo_exchangeAll_1 d hF) (fun M1 v hq hlen => ?_)
  obtain ⟨rfl, G1, hF, hE⟩ := hq
  refine Z_aload_n d_mo_saveSnapshot_5 rfl ?_
  refine Z_aload_n d_mo_saveSnapshot_6 rfl ?_
  refine Z_get (v := .int (nI (s 0))) d_mo_saveSnapshot_7 lf_mo_154 hF.1 rfl ?_
  refine Z_puti d_mo_saveSnapshot_10 lf_mo_391 hF.1 rfl rfl (Nat.le_of_ble_eq_true rfl) ?_
  replace hF := hF.u11 (s 0)
  refine Z_aload_n d_mo_saveSnapshot_13 rfl ?_
  refine Z_aload_n d_mo_saveSnapshot_14 rfl ?_
  refine Z_get (v := .int (nI (s 1))) d_mo_saveSnapshot_15 lf_mo_209 hF.1 rfl ?_
  refine Z_puti d_mo_saveSnapshot_18 lf_mo_394 hF.1 rfl rfl (Nat.le_of_ble_eq_true rfl) ?_
  replace hF := hF.u12 (s 1)
  refine Z_aload_n d_mo_saveSnapshot_21 rfl ?_
  refine Zn_iconst (nI 1) d_mo_saveSnapshot_22 (by decide) ?_
  refine Z_putz d_mo_saveSnapshot_23 lf_mo_397 hF.1 rfl rfl (by first | exact Or.inl rfl | exact Or.inr rfl) (Nat.le_of_ble_eq_true rfl) ?_
  replace hF := hF.u13 1
  refine Z_aload_n d_mo_saveSnapshot_26 rfl ?_
  refine Z_get (v := .int (nI (s 0))) d_mo_saveSnapshot_27 lf_mo_154 hF.1 rfl ?_
  refine Z_iret d_mo_saveSnapshot_30 rfl ?_
  exact ⟨rfl, G1, hF, hE⟩
set_option maxHeartbeats 4000000 in
theorem mo_restoreSnapshot_no {Γ : zCtx} {M : List zE} (d : Nat) {M0 : List zE} {s : Nat → Nat} {G : Nat → Nat → Nat} (hF : FW M0 M s G) (h13 : s 13 = 0)  : ZM Γ (d + 3) m_mo_restoreSnapshot [.ref 123] M (zEq M (some (.int (-9)))) := by
  refine ZM.of mk_mo_restoreSnapshot (Nat.le_of_ble_eq_true rfl) ?_
  refine Z_aload_n d_mo_restoreSnapshot_0 rfl ?_
  refine Z_get (v := .int (nI (s 13))) d_mo_restoreSnapshot_1 lf_mo_397 hF.1 rfl ?_
  refine Zn_if_ne (tgt := 10) d_mo_restoreSnapshot_4 (by decide) (by omega) (fun h4 => ?_) (fun h4 => ?_)
  · skip
    exact absurd h13 h4 -- end
  · skip
    refine Zn_bipush (-9) d_mo_restoreSnapshot_7 (by decide) ?_
    refine Z_iret d_mo_restoreSnapshot_9 rfl ?_
    exact ⟨rfl, rfl⟩
set_option maxHeartbeats 4000000 in
theorem mo_restoreSnapshot_ok {Γ : zCtx} {M : List zE} (d : Nat) {M0 : List zE} {s : Nat → Nat} {G : Nat → Nat → Nat} (hF : FW M0 M s G) (h13 : s 13 = 1)  : ZM Γ (d + 3) m_mo_restoreSnapshot [.ref 123] M (fun M1 v => v = some (.int (nI (s 11))) ∧ ∃ G', FW M0 M1 (nup (nup s 0 (s 11)) 1 (s 12)) (gup (gup (gup G' 30 0 0) 30 1 0) 30 2 0) ∧ exL G G' 10) := by
  refine ZM.of mk_mo_restoreSnapshot (Nat.le_of_ble_eq_true rfl) ?_
  refine Z_aload_n d_mo_restoreSnapshot_0 rfl ?_
  refine Z_get (v := .int (nI (s 13))) d_mo_restoreSnapshot_1 lf_mo_397 hF.1 rfl ?_
  refine Zn_if_ne (tgt := 10) d_mo_restoreSnapshot_4 (by decide) (by omega) (fun h4 => ?_) (fun h4 => ?_)
  · skip
    refine Z_aload_n d_mo_restoreSnapshot_10 rfl ?_
    refine Zn_iconst (nI 0) d_mo_restoreSnapshot_11 (by decide) ?_
    refine zV (As := [.int (nI 0)]) (by omega) d_mo_restoreSnapshot_12 lm_mo_387 hF.1 rfl rfl (Nat.le_of_ble_eq_true rfl) (mo_exchangeAll_0 d hF) (fun M1 v hq hlen => ?_)
    obtain ⟨rfl, G1, hF, hE⟩ := hq
    refine Z_aload_n d_mo_restoreSnapshot_15 rfl ?_
    refine Z_aload_n d_mo_restoreSnapshot_16 rfl ?_
    refine Z_get (v := .int (nI (s 11))) d_mo_restoreSnapshot_17 lf_mo_391 hF.1 rfl ?_
    refine Z_puti d_mo_restoreSnapshot_20 lf_mo_154 hF.1 rfl rfl (Nat.le_of_ble_eq_true rfl) ?_
    replace hF := hF.u0 (s 11)
    refine Z_aload_n d_mo_restoreSnapshot_23 rfl ?_
    refine Z_aload_n d_mo_restoreSnapshot_24 rfl ?_
    refine Z_get (v := .int (nI (s 12))) d_mo_restoreSnapshot_25 lf_mo_394 hF.1 rfl ?_
    refine Z_puti d_mo_restoreSnapshot_28 lf_mo_209 hF.1 rfl rfl (Nat.le_of_ble_eq_true rfl) ?_
    replace hF := hF.u1 (s 12)
    refine Z_aload_n d_mo_restoreSnapshot_31 rfl ?_
    refine zV (As := []) (by omega) d_mo_restoreSnapshot_32 lm_mo_212 hF.1 rfl rfl (Nat.le_of_ble_eq_true rfl) (mo_emptyShelves_ok d hF) (fun M1 v hq hlen => ?_)
    obtain ⟨rfl, hF⟩ := hq
    refine Z_aload_n d_mo_restoreSnapshot_35 rfl ?_
    refine Z_get (v := .int (nI (s 11))) d_mo_restoreSnapshot_36 lf_mo_154 hF.1 rfl ?_
    refine Z_iret d_mo_restoreSnapshot_39 rfl ?_
    exact ⟨rfl, G1, hF, hE⟩
  · skip
    exact absurd h13 (by omega) -- end
