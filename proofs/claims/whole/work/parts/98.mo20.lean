/-! reading paths in the reference -/
def ppR (A f : Nat) (G G' : Nat → Nat → Nat) (a b c : Nat) : Prop := (∀ k, k ≠ A → G' k = G k) ∧ (∀ j, (j < f ∨ f + 3 ≤ j) → G' A j = G A j) ∧ G' A f = a ∧ G' A (f + 1) = b ∧ G' A (f + 2) = c
theorem ppR.init {A f a : Nat} {G : Nat → Nat → Nat} : ppR A f G (gup (gup (gup G A f a) A (f + 1) 0) A (f + 2) 0) a 0 0 := by
  refine ⟨fun k hk => by rw [gup_n hk, gup_n hk, gup_n hk], fun j hj => ?_, ?_, ?_, ?_⟩
  · rw [gup_s, gup_s, gup_s, nup_n (by omega), nup_n (by omega), nup_n (by omega)]
  · rw [gup_s, gup_s, gup_s, nup_n (by omega), nup_n (by omega), nup_s]
  · rw [gup_s, gup_s, gup_s, nup_n (by omega), nup_s]
  · rw [gup_s, gup_s, gup_s, nup_s]
theorem ppR.s1 {A f a b c x : Nat} {G G1 : Nat → Nat → Nat} (h : ppR A f G G1 a b c) : ppR A f G (gup G1 A (f + 1) x) a x c := by
  obtain ⟨h1, h2, h3, h4, h5⟩ := h
  refine ⟨fun k hk => by rw [gup_n hk]; exact h1 k hk, fun j hj => ?_, ?_, ?_, ?_⟩
  · rw [gup_s, nup_n (by omega)]; exact h2 j hj
  · rw [gup_s, nup_n (by omega)]; exact h3
  · rw [gup_s, nup_s]
  · rw [gup_s, nup_n (by omega)]; exact h5
theorem ppR.s2 {A f a b c x : Nat} {G G1 : Nat → Nat → Nat} (h : ppR A f G G1 a b c) : ppR A f G (gup G1 A (f + 2) x) a b x := by
  obtain ⟨h1, h2, h3, h4, h5⟩ := h
  refine ⟨fun k hk => by rw [gup_n hk]; exact h1 k hk, fun j hj => ?_, ?_, ?_, ?_⟩
  · rw [gup_s, nup_n (by omega)]; exact h2 j hj
  · rw [gup_s, nup_n (by omega)]; exact h3
  · rw [gup_s, nup_n (by omega)]; exact h4
  · rw [gup_s, nup_s]
/-- what reading a path leaves -/
def ppQ (M0 : List zE) (s : Nat → Nat) (G : Nat → Nat → Nat) (A f p : Nat) (M1 : List zE) : Prop := ∃ G' a b c, FW M0 M1 (pst s (pPth (s 5) (G 22) p).2.2 (if (pPth (s 5) (G 22) p).1 = true then 0 else 1)) G' ∧ ppR A f G G' a b c ∧ (a < 2097152 ∧ b < 2097152 ∧ c < 2097152) ∧ ((pPth (s 5) (G 22) p).1 = true → (pPth (s 5) (G 22) p).2.1 = (a, b, c))
set_option maxHeartbeats 4000000 in
theorem mo_parsePath_9 {Γ : zCtx} {M : List zE} (d : Nat) {M0 : List zE} {s : Nat → Nat} {G : Nat → Nat → Nat} {p : Nat} (hF : FW M0 M (pst s p 0) G) (h120 : s 5 ≤ 120) (hp : p ≤ s 5) (hch : ∀ i, G 22 i ≤ 126) {f : Nat} (hf : f + 3 ≤ 768)  : ZM Γ (d + 5) m_mo_parsePath [.ref 123, .ref 133, .int (nI f)] M (fun M1 v => v = none ∧ ppQ M0 s G 9 f p M1) := by
  refine ZM.of mk_mo_parsePath (Nat.le_of_ble_eq_true rfl) ?_
  rw [show zEn [.ref 123, .ref 133, .int (nI f)] = [some (.ref 123), some (.ref 133), some (.int (nI f))] from rfl]
  refine zPad 1 ?_
  show Z _ _ _ _ _ _ _ [some (.ref 123), some (.ref 133), some (.int (nI f)), none] _ _
  refine Z_aload_n d_mo_parsePath_0 rfl ?_
  refine Z_iload_n d_mo_parsePath_1 rfl ?_
  refine Z_aload_n d_mo_parsePath_2 rfl ?_
  refine zV (As := []) (by omega) d_mo_parsePath_3 lm_mo_232 hF.1 rfl rfl (Nat.le_of_ble_eq_true rfl) (mo_parseLabel_ok (p := p) (d + 1) hF h120 (by omega) hch) (fun M1 v hq hlen => ?_)
  obtain ⟨a1, q1, hl1⟩ : ∃ a q, pLab (s 5) (G 22) p = (a, q) := ⟨_, _, rfl⟩
  have hok1 := pLab_ok (len := s 5) (ch := G 22) (p := p) (by omega)
  rw [hl1] at hq hok1
  obtain ⟨rfl, hF⟩ := hq
  replace hF : FW M0 M1 (pst s q1 (if a1 = 0 then 1 else 0)) G := hF
  replace hok1 : a1 < 1968300 ∧ p ≤ q1 ∧ q1 ≤ s 5 ∧ (a1 = 0 ∨ 19683 ≤ a1) := hok1
  rcases Nat.eq_zero_or_pos a1 with hz1 | hz1
  · skip
    rw [if_pos hz1] at hF
    refine Zn_iast d_mo_parsePath_6 hF.a9 (by omega) (by omega) ?_
    replace hF := hF.p9 f a1
    refine Z_aload_n d_mo_parsePath_7 rfl ?_
    refine Z_iload_n d_mo_parsePath_8 rfl ?_
    refine Zn_iconst (nI 1) d_mo_parsePath_9 (by decide) ?_
    refine Zn_iadd d_mo_parsePath_10 ?_
    refine Zn_iconst (nI 0) d_mo_parsePath_11 (by decide) ?_
    refine Zn_iast d_mo_parsePath_12 hF.a9 (by omega) (by omega) ?_
    replace hF := hF.p9 (f + 1) 0
    refine Z_aload_n d_mo_parsePath_13 rfl ?_
    refine Z_iload_n d_mo_parsePath_14 rfl ?_
    refine Zn_iconst (nI 2) d_mo_parsePath_15 (by decide) ?_
    refine Zn_iadd d_mo_parsePath_16 ?_
    refine Zn_iconst (nI 0) d_mo_parsePath_17 (by decide) ?_
    refine Zn_iast d_mo_parsePath_18 hF.a9 (by omega) (by omega) ?_
    replace hF := hF.p9 (f + 2) 0
    obtain ⟨G1, hG1⟩ : ∃ G1, G1 = (gup (gup (gup G 9 f a1) 9 (f + 1) 0) 9 (f + 2) 0) := ⟨_, rfl⟩
    rw [← hG1] at hF
    have hR : ppR 9 f G G1 a1 0 0 := by rw [hG1]; exact ppR.init
    have e22 : G1 22 = G 22 := hR.1 22 (by decide)
    refine Zn_iconst (nI 1) d_mo_parsePath_19 (by decide) ?_
    refine Zn_istore_n [some (.ref 123), some (.ref 133), some (.int (nI f)), some (.int (nI 1))] d_mo_parsePath_20 (by decide) rfl ?_
    refine Z_iload_n d_mo_parsePath_21 rfl ?_
    refine Zn_iconst (nI 3) d_mo_parsePath_22 (by decide) ?_
    refine Zn_icmp_ge (a := 1) (b := 3) (tgt := 63) d_mo_parsePath_23 (by decide) (by decide) (by decide) (fun h => absurd h (by decide)) (fun _ => ?_)
    refine Z_aload_n d_mo_parsePath_26 rfl ?_
    refine Zn_bipush (nI 40) d_mo_parsePath_27 (by decide) ?_
    refine zVe (As := [.int (nI 40)]) (by omega) d_mo_parsePath_29 lm_mo_229 hF.1 rfl rfl (Nat.le_of_ble_eq_true rfl) (mo_accept_no (d + 1) hF) ?_
    refine Zn_if_eq (a := 0) (tgt := 63) d_mo_parsePath_32 (by decide) (by decide) (fun _ => ?_) (fun h => absurd h (by decide))
    refine Z_vret d_mo_parsePath_63 rfl ?_
    have eP : pPth (s 5) (G 22) p = (false, (0, 0, 0), q1) := by
      unfold pPth
      rw [hl1]
      dsimp only
      rw [if_pos hz1]
    refine ⟨rfl, _, a1, 0, 0, ?_, hR, ⟨by omega, by omega, by omega⟩, ?_⟩
    · rw [eP]; exact hF
    · rw [eP]; exact (fun z => by cases z)
  · skip
    rw [if_neg (show ¬ a1 = 0 by omega)] at hF
    refine Zn_iast d_mo_parsePath_6 hF.a9 (by omega) (by omega) ?_
    replace hF := hF.p9 f a1
    refine Z_aload_n d_mo_parsePath_7 rfl ?_
    refine Z_iload_n d_mo_parsePath_8 rfl ?_
    refine Zn_iconst (nI 1) d_mo_parsePath_9 (by decide) ?_
    refine Zn_iadd d_mo_parsePath_10 ?_
    refine Zn_iconst (nI 0) d_mo_parsePath_11 (by decide) ?_
    refine Zn_iast d_mo_parsePath_12 hF.a9 (by omega) (by omega) ?_
    replace hF := hF.p9 (f + 1) 0
    refine Z_aload_n d_mo_parsePath_13 rfl ?_
    refine Z_iload_n d_mo_parsePath_14 rfl ?_
    refine Zn_iconst (nI 2) d_mo_parsePath_15 (by decide) ?_
    refine Zn_iadd d_mo_parsePath_16 ?_
    refine Zn_iconst (nI 0) d_mo_parsePath_17 (by decide) ?_
    refine Zn_iast d_mo_parsePath_18 hF.a9 (by omega) (by omega) ?_
    replace hF := hF.p9 (f + 2) 0
    obtain ⟨G1, hG1⟩ : ∃ G1, G1 = (gup (gup (gup G 9 f a1) 9 (f + 1) 0) 9 (f + 2) 0) := ⟨_, rfl⟩
    rw [← hG1] at hF
    have hR : ppR 9 f G G1 a1 0 0 := by rw [hG1]; exact ppR.init
    have e22 : G1 22 = G 22 := hR.1 22 (by decide)
    refine Zn_iconst (nI 1) d_mo_parsePath_19 (by decide) ?_
    refine Zn_istore_n [some (.ref 123), some (.ref 133), some (.int (nI f)), some (.int (nI 1))] d_mo_parsePath_20 (by decide) rfl ?_
    refine Z_iload_n d_mo_parsePath_21 rfl ?_
    refine Zn_iconst (nI 3) d_mo_parsePath_22 (by decide) ?_
    refine Zn_icmp_ge (a := 1) (b := 3) (tgt := 63) d_mo_parsePath_23 (by decide) (by decide) (by decide) (fun h => absurd h (by decide)) (fun _ => ?_)
    refine Z_aload_n d_mo_parsePath_26 rfl ?_
    refine Zn_bipush (nI 40) d_mo_parsePath_27 (by decide) ?_
    refine zV (As := [.int (nI 40)]) (by omega) d_mo_parsePath_29 lm_mo_229 hF.1 rfl rfl (Nat.le_of_ble_eq_true rfl) (mo_accept_ok (p := q1) (d + 1) hF h120 (by omega) (by rw [e22]; exact hch) (by omega)) (fun M1 v hq hlen => ?_)
    rw [e22] at hq
    obtain ⟨rfl, hF⟩ := hq
    rcases ht1 : tk (s 5) (G 22) q1 40 with _ | _
    · skip
      rw [ht1, if_neg (by decide)] at hF
      refine Zn_if_eq (a := 0) (tgt := 63) d_mo_parsePath_32 (by decide) (by decide) (fun _ => ?_) (fun h => absurd h (by decide))
      refine Z_vret d_mo_parsePath_63 rfl ?_
      have eP : pPth (s 5) (G 22) p = (true, (a1, 0, 0), q1) := by
        unfold pPth
        rw [hl1]
        dsimp only
        rw [if_neg (show ¬ a1 = 0 by omega)]
        rw [if_neg (by rw [ht1]; decide)]
      refine ⟨rfl, _, a1, 0, 0, ?_, hR, ⟨by omega, by omega, by omega⟩, ?_⟩
      · rw [eP]; exact hF
      · rw [eP]; exact fun _ => rfl
    · skip
      rw [ht1, if_pos rfl] at hF
      have ht1g := tk_iff.mp ht1
      refine Zn_if_eq (a := 1) (tgt := 63) d_mo_parsePath_32 (by decide) (by decide) (fun h => absurd h (by decide)) (fun _ => ?_)
      refine Z_aload_n d_mo_parsePath_35 rfl ?_
      refine Z_iload_n d_mo_parsePath_36 rfl ?_
      refine Z_iload_n d_mo_parsePath_37 rfl ?_
      refine Zn_iadd d_mo_parsePath_38 ?_
      refine Z_aload_n d_mo_parsePath_39 rfl ?_
      refine zV (As := []) (by omega) d_mo_parsePath_40 lm_mo_232 hF.1 rfl rfl (Nat.le_of_ble_eq_true rfl) (mo_parseLabel_ok (p := (q1 + 1)) (d + 1) hF h120 (by omega) (by rw [e22]; exact hch)) (fun M1 v hq hlen => ?_)
      rw [e22] at hq
      obtain ⟨a2, q2, hl2⟩ : ∃ a q, pLab (s 5) (G 22) (q1 + 1) = (a, q) := ⟨_, _, rfl⟩
      have hok2 := pLab_ok (len := s 5) (ch := G 22) (p := (q1 + 1)) (by omega)
      rw [hl2] at hq hok2
      obtain ⟨rfl, hF⟩ := hq
      replace hF : FW M0 M1 (pst s q2 (if a2 = 0 then 1 else 0)) G1 := hF
      replace hok2 : a2 < 1968300 ∧ q1 + 1 ≤ q2 ∧ q2 ≤ s 5 ∧ (a2 = 0 ∨ 19683 ≤ a2) := hok2
      rcases Nat.eq_zero_or_pos a2 with hz2 | hz2
      · skip
        rw [if_pos hz2] at hF
        refine Zn_iast d_mo_parsePath_43 hF.a9 (by omega) (by omega) ?_
        replace hF := hF.p9 (f + 1) a2
        obtain ⟨G2, hG2⟩ : ∃ G2, G2 = (gup G1 9 (f + 1) a2) := ⟨_, rfl⟩
        rw [← hG2] at hF
        replace hR : ppR 9 f G G2 a1 a2 0 := by rw [hG2]; exact hR.s1
        have e22 : G2 22 = G 22 := hR.1 22 (by decide)
        refine Z_aload_n d_mo_parsePath_44 rfl ?_
        refine Z_get (v := .int (nI 1)) d_mo_parsePath_45 lf_mo_221 hF.1 rfl ?_
        refine Zn_if_ne (a := 1) (tgt := 57) d_mo_parsePath_48 (by decide) (by decide) (fun _ => ?_) (fun h => absurd h (by decide))
        refine Zn_iinc [some (.ref 123), some (.ref 133), some (.int (nI f)), some (.int (nI 2))] (nI 2) d_mo_parsePath_57 rfl (by decide) (nI_add 1 1) rfl ?_
        refine Z_goto (tgt := 21) d_mo_parsePath_60 (by decide) ?_
        refine Z_iload_n d_mo_parsePath_21 rfl ?_
        refine Zn_iconst (nI 3) d_mo_parsePath_22 (by decide) ?_
        refine Zn_icmp_ge (a := 2) (b := 3) (tgt := 63) d_mo_parsePath_23 (by decide) (by decide) (by decide) (fun h => absurd h (by decide)) (fun _ => ?_)
        refine Z_aload_n d_mo_parsePath_26 rfl ?_
        refine Zn_bipush (nI 40) d_mo_parsePath_27 (by decide) ?_
        refine zVe (As := [.int (nI 40)]) (by omega) d_mo_parsePath_29 lm_mo_229 hF.1 rfl rfl (Nat.le_of_ble_eq_true rfl) (mo_accept_no (d + 1) hF) ?_
        refine Zn_if_eq (a := 0) (tgt := 63) d_mo_parsePath_32 (by decide) (by decide) (fun _ => ?_) (fun h => absurd h (by decide))
        refine Z_vret d_mo_parsePath_63 rfl ?_
        have eP : pPth (s 5) (G 22) p = (false, (0, 0, 0), q2) := by
          unfold pPth
          rw [hl1]
          dsimp only
          rw [if_neg (show ¬ a1 = 0 by omega)]
          rw [if_pos ht1]
          rw [hl2]
          dsimp only
          rw [if_pos hz2]
        refine ⟨rfl, _, a1, a2, 0, ?_, hR, ⟨by omega, by omega, by omega⟩, ?_⟩
        · rw [eP]; exact hF
        · rw [eP]; exact (fun z => by cases z)
      · skip
        rw [if_neg (show ¬ a2 = 0 by omega)] at hF
        refine Zn_iast d_mo_parsePath_43 hF.a9 (by omega) (by omega) ?_
        replace hF := hF.p9 (f + 1) a2
        obtain ⟨G2, hG2⟩ : ∃ G2, G2 = (gup G1 9 (f + 1) a2) := ⟨_, rfl⟩
        rw [← hG2] at hF
        replace hR : ppR 9 f G G2 a1 a2 0 := by rw [hG2]; exact hR.s1
        have e22 : G2 22 = G 22 := hR.1 22 (by decide)
        refine Z_aload_n d_mo_parsePath_44 rfl ?_
        refine Z_get (v := .int (nI 0)) d_mo_parsePath_45 lf_mo_221 hF.1 rfl ?_
        refine Zn_if_ne (a := 0) (tgt := 57) d_mo_parsePath_48 (by decide) (by decide) (fun h => absurd h (by decide)) (fun _ => ?_)
        refine Z_aload_n d_mo_parsePath_51 rfl ?_
        refine Zn_bipush (nI 41) d_mo_parsePath_52 (by decide) ?_
        refine zV (As := [.int (nI 41)]) (by omega) d_mo_parsePath_54 lm_mo_236 hF.1 rfl rfl (Nat.le_of_ble_eq_true rfl) (mo_expect_ok (p := q2) d hF h120 (by omega) (by rw [e22]; exact hch) (by omega)) (fun M1 v hq hlen => ?_)
        rw [e22] at hq
        obtain ⟨rfl, hF⟩ := hq
        rcases hx2 : tk (s 5) (G 22) q2 41 with _ | _
        · skip
          rw [hx2, if_neg (by decide)] at hF
          refine Zn_iinc [some (.ref 123), some (.ref 133), some (.int (nI f)), some (.int (nI 2))] (nI 2) d_mo_parsePath_57 rfl (by decide) (nI_add 1 1) rfl ?_
          refine Z_goto (tgt := 21) d_mo_parsePath_60 (by decide) ?_
          refine Z_iload_n d_mo_parsePath_21 rfl ?_
          refine Zn_iconst (nI 3) d_mo_parsePath_22 (by decide) ?_
          refine Zn_icmp_ge (a := 2) (b := 3) (tgt := 63) d_mo_parsePath_23 (by decide) (by decide) (by decide) (fun h => absurd h (by decide)) (fun _ => ?_)
          refine Z_aload_n d_mo_parsePath_26 rfl ?_
          refine Zn_bipush (nI 40) d_mo_parsePath_27 (by decide) ?_
          refine zVe (As := [.int (nI 40)]) (by omega) d_mo_parsePath_29 lm_mo_229 hF.1 rfl rfl (Nat.le_of_ble_eq_true rfl) (mo_accept_no (d + 1) hF) ?_
          refine Zn_if_eq (a := 0) (tgt := 63) d_mo_parsePath_32 (by decide) (by decide) (fun _ => ?_) (fun h => absurd h (by decide))
          refine Z_vret d_mo_parsePath_63 rfl ?_
          have eP : pPth (s 5) (G 22) p = (false, (0, 0, 0), q2) := by
            unfold pPth
            rw [hl1]
            dsimp only
            rw [if_neg (show ¬ a1 = 0 by omega)]
            rw [if_pos ht1]
            rw [hl2]
            dsimp only
            rw [if_neg (show ¬ a2 = 0 by omega)]
            rw [if_neg (by rw [hx2]; decide)]
          refine ⟨rfl, _, a1, a2, 0, ?_, hR, ⟨by omega, by omega, by omega⟩, ?_⟩
          · rw [eP]; exact hF
          · rw [eP]; exact (fun z => by cases z)
        · skip
          rw [hx2, if_pos rfl] at hF
          have hx2g := tk_iff.mp hx2
          refine Zn_iinc [some (.ref 123), some (.ref 133), some (.int (nI f)), some (.int (nI 2))] (nI 2) d_mo_parsePath_57 rfl (by decide) (nI_add 1 1) rfl ?_
          refine Z_goto (tgt := 21) d_mo_parsePath_60 (by decide) ?_
          refine Z_iload_n d_mo_parsePath_21 rfl ?_
          refine Zn_iconst (nI 3) d_mo_parsePath_22 (by decide) ?_
          refine Zn_icmp_ge (a := 2) (b := 3) (tgt := 63) d_mo_parsePath_23 (by decide) (by decide) (by decide) (fun h => absurd h (by decide)) (fun _ => ?_)
          refine Z_aload_n d_mo_parsePath_26 rfl ?_
          refine Zn_bipush (nI 40) d_mo_parsePath_27 (by decide) ?_
          refine zV (As := [.int (nI 40)]) (by omega) d_mo_parsePath_29 lm_mo_229 hF.1 rfl rfl (Nat.le_of_ble_eq_true rfl) (mo_accept_ok (p := (q2 + 1)) (d + 1) hF h120 (by omega) (by rw [e22]; exact hch) (by omega)) (fun M1 v hq hlen => ?_)
          rw [e22] at hq
          obtain ⟨rfl, hF⟩ := hq
          rcases ht2 : tk (s 5) (G 22) (q2 + 1) 40 with _ | _
          · skip
            rw [ht2, if_neg (by decide)] at hF
            refine Zn_if_eq (a := 0) (tgt := 63) d_mo_parsePath_32 (by decide) (by decide) (fun _ => ?_) (fun h => absurd h (by decide))
            refine Z_vret d_mo_parsePath_63 rfl ?_
            have eP : pPth (s 5) (G 22) p = (true, (a1, a2, 0), q2 + 1) := by
              unfold pPth
              rw [hl1]
              dsimp only
              rw [if_neg (show ¬ a1 = 0 by omega)]
              rw [if_pos ht1]
              rw [hl2]
              dsimp only
              rw [if_neg (show ¬ a2 = 0 by omega)]
              rw [if_pos hx2]
              rw [if_neg (by rw [ht2]; decide)]
            refine ⟨rfl, _, a1, a2, 0, ?_, hR, ⟨by omega, by omega, by omega⟩, ?_⟩
            · rw [eP]; exact hF
            · rw [eP]; exact fun _ => rfl
          · skip
            rw [ht2, if_pos rfl] at hF
            have ht2g := tk_iff.mp ht2
            refine Zn_if_eq (a := 1) (tgt := 63) d_mo_parsePath_32 (by decide) (by decide) (fun h => absurd h (by decide)) (fun _ => ?_)
            refine Z_aload_n d_mo_parsePath_35 rfl ?_
            refine Z_iload_n d_mo_parsePath_36 rfl ?_
            refine Z_iload_n d_mo_parsePath_37 rfl ?_
            refine Zn_iadd d_mo_parsePath_38 ?_
            refine Z_aload_n d_mo_parsePath_39 rfl ?_
            refine zV (As := []) (by omega) d_mo_parsePath_40 lm_mo_232 hF.1 rfl rfl (Nat.le_of_ble_eq_true rfl) (mo_parseLabel_ok (p := ((q2 + 1) + 1)) (d + 1) hF h120 (by omega) (by rw [e22]; exact hch)) (fun M1 v hq hlen => ?_)
            rw [e22] at hq
            obtain ⟨a3, q3, hl3⟩ : ∃ a q, pLab (s 5) (G 22) ((q2 + 1) + 1) = (a, q) := ⟨_, _, rfl⟩
            have hok3 := pLab_ok (len := s 5) (ch := G 22) (p := ((q2 + 1) + 1)) (by omega)
            rw [hl3] at hq hok3
            obtain ⟨rfl, hF⟩ := hq
            replace hF : FW M0 M1 (pst s q3 (if a3 = 0 then 1 else 0)) G2 := hF
            replace hok3 : a3 < 1968300 ∧ (q2 + 1) + 1 ≤ q3 ∧ q3 ≤ s 5 ∧ (a3 = 0 ∨ 19683 ≤ a3) := hok3
            rcases Nat.eq_zero_or_pos a3 with hz3 | hz3
            · skip
              rw [if_pos hz3] at hF
              refine Zn_iast d_mo_parsePath_43 hF.a9 (by omega) (by omega) ?_
              replace hF := hF.p9 (f + 2) a3
              obtain ⟨G3, hG3⟩ : ∃ G3, G3 = (gup G2 9 (f + 2) a3) := ⟨_, rfl⟩
              rw [← hG3] at hF
              replace hR : ppR 9 f G G3 a1 a2 a3 := by rw [hG3]; exact hR.s2
              have e22 : G3 22 = G 22 := hR.1 22 (by decide)
              refine Z_aload_n d_mo_parsePath_44 rfl ?_
              refine Z_get (v := .int (nI 1)) d_mo_parsePath_45 lf_mo_221 hF.1 rfl ?_
              refine Zn_if_ne (a := 1) (tgt := 57) d_mo_parsePath_48 (by decide) (by decide) (fun _ => ?_) (fun h => absurd h (by decide))
              refine Zn_iinc [some (.ref 123), some (.ref 133), some (.int (nI f)), some (.int (nI 3))] (nI 3) d_mo_parsePath_57 rfl (by decide) (nI_add 2 1) rfl ?_
              refine Z_goto (tgt := 21) d_mo_parsePath_60 (by decide) ?_
              refine Z_iload_n d_mo_parsePath_21 rfl ?_
              refine Zn_iconst (nI 3) d_mo_parsePath_22 (by decide) ?_
              refine Zn_icmp_ge (a := 3) (b := 3) (tgt := 63) d_mo_parsePath_23 (by decide) (by decide) (by decide) (fun _ => ?_) (fun h => absurd h (by decide))
              refine Z_vret d_mo_parsePath_63 rfl ?_
              have eP : pPth (s 5) (G 22) p = (false, (0, 0, 0), q3) := by
                unfold pPth
                rw [hl1]
                dsimp only
                rw [if_neg (show ¬ a1 = 0 by omega)]
                rw [if_pos ht1]
                rw [hl2]
                dsimp only
                rw [if_neg (show ¬ a2 = 0 by omega)]
                rw [if_pos hx2]
                rw [if_pos ht2]
                rw [hl3]
                dsimp only
                rw [if_pos hz3]
              refine ⟨rfl, _, a1, a2, a3, ?_, hR, ⟨by omega, by omega, by omega⟩, ?_⟩
              · rw [eP]; exact hF
              · rw [eP]; exact (fun z => by cases z)
            · skip
              rw [if_neg (show ¬ a3 = 0 by omega)] at hF
              refine Zn_iast d_mo_parsePath_43 hF.a9 (by omega) (by omega) ?_
              replace hF := hF.p9 (f + 2) a3
              obtain ⟨G3, hG3⟩ : ∃ G3, G3 = (gup G2 9 (f + 2) a3) := ⟨_, rfl⟩
              rw [← hG3] at hF
              replace hR : ppR 9 f G G3 a1 a2 a3 := by rw [hG3]; exact hR.s2
              have e22 : G3 22 = G 22 := hR.1 22 (by decide)
              refine Z_aload_n d_mo_parsePath_44 rfl ?_
              refine Z_get (v := .int (nI 0)) d_mo_parsePath_45 lf_mo_221 hF.1 rfl ?_
              refine Zn_if_ne (a := 0) (tgt := 57) d_mo_parsePath_48 (by decide) (by decide) (fun h => absurd h (by decide)) (fun _ => ?_)
              refine Z_aload_n d_mo_parsePath_51 rfl ?_
              refine Zn_bipush (nI 41) d_mo_parsePath_52 (by decide) ?_
              refine zV (As := [.int (nI 41)]) (by omega) d_mo_parsePath_54 lm_mo_236 hF.1 rfl rfl (Nat.le_of_ble_eq_true rfl) (mo_expect_ok (p := q3) d hF h120 (by omega) (by rw [e22]; exact hch) (by omega)) (fun M1 v hq hlen => ?_)
              rw [e22] at hq
              obtain ⟨rfl, hF⟩ := hq
              rcases hx3 : tk (s 5) (G 22) q3 41 with _ | _
              · skip
                rw [hx3, if_neg (by decide)] at hF
                refine Zn_iinc [some (.ref 123), some (.ref 133), some (.int (nI f)), some (.int (nI 3))] (nI 3) d_mo_parsePath_57 rfl (by decide) (nI_add 2 1) rfl ?_
                refine Z_goto (tgt := 21) d_mo_parsePath_60 (by decide) ?_
                refine Z_iload_n d_mo_parsePath_21 rfl ?_
                refine Zn_iconst (nI 3) d_mo_parsePath_22 (by decide) ?_
                refine Zn_icmp_ge (a := 3) (b := 3) (tgt := 63) d_mo_parsePath_23 (by decide) (by decide) (by decide) (fun _ => ?_) (fun h => absurd h (by decide))
                refine Z_vret d_mo_parsePath_63 rfl ?_
                have eP : pPth (s 5) (G 22) p = (false, (0, 0, 0), q3) := by
                  unfold pPth
                  rw [hl1]
                  dsimp only
                  rw [if_neg (show ¬ a1 = 0 by omega)]
                  rw [if_pos ht1]
                  rw [hl2]
                  dsimp only
                  rw [if_neg (show ¬ a2 = 0 by omega)]
                  rw [if_pos hx2]
                  rw [if_pos ht2]
                  rw [hl3]
                  dsimp only
                  rw [if_neg (show ¬ a3 = 0 by omega)]
                  rw [if_neg (by rw [hx3]; decide)]
                refine ⟨rfl, _, a1, a2, a3, ?_, hR, ⟨by omega, by omega, by omega⟩, ?_⟩
                · rw [eP]; exact hF
                · rw [eP]; exact (fun z => by cases z)
              · skip
                rw [hx3, if_pos rfl] at hF
                have hx3g := tk_iff.mp hx3
                refine Zn_iinc [some (.ref 123), some (.ref 133), some (.int (nI f)), some (.int (nI 3))] (nI 3) d_mo_parsePath_57 rfl (by decide) (nI_add 2 1) rfl ?_
                refine Z_goto (tgt := 21) d_mo_parsePath_60 (by decide) ?_
                refine Z_iload_n d_mo_parsePath_21 rfl ?_
                refine Zn_iconst (nI 3) d_mo_parsePath_22 (by decide) ?_
                refine Zn_icmp_ge (a := 3) (b := 3) (tgt := 63) d_mo_parsePath_23 (by decide) (by decide) (by decide) (fun _ => ?_) (fun h => absurd h (by decide))
                refine Z_vret d_mo_parsePath_63 rfl ?_
                have eP : pPth (s 5) (G 22) p = (true, (a1, a2, a3), q3 + 1) := by
                  unfold pPth
                  rw [hl1]
                  dsimp only
                  rw [if_neg (show ¬ a1 = 0 by omega)]
                  rw [if_pos ht1]
                  rw [hl2]
                  dsimp only
                  rw [if_neg (show ¬ a2 = 0 by omega)]
                  rw [if_pos hx2]
                  rw [if_pos ht2]
                  rw [hl3]
                  dsimp only
                  rw [if_neg (show ¬ a3 = 0 by omega)]
                  rw [if_pos hx3]
                refine ⟨rfl, _, a1, a2, a3, ?_, hR, ⟨by omega, by omega, by omega⟩, ?_⟩
                · rw [eP]; exact hF
                · rw [eP]; exact fun _ => rfl
set_option maxHeartbeats 4000000 in
theorem mo_parsePath_no9 {Γ : zCtx} {M : List zE} (d : Nat) {M0 : List zE} {s : Nat → Nat} {G : Nat → Nat → Nat} {p : Nat} (hF : FW M0 M (pst s p 1) G) {f : Nat} (hf : f + 3 ≤ 768)  : ZM Γ (d + 5) m_mo_parsePath [.ref 123, .ref 133, .int (nI f)] M (fun M1 v => v = none ∧ ∃ G', FW M0 M1 (pst s p 1) G' ∧ ppR 9 f G G' 0 0 0) := by
  refine ZM.of mk_mo_parsePath (Nat.le_of_ble_eq_true rfl) ?_
  rw [show zEn [.ref 123, .ref 133, .int (nI f)] = [some (.ref 123), some (.ref 133), some (.int (nI f))] from rfl]
  refine zPad 1 ?_
  show Z _ _ _ _ _ _ _ [some (.ref 123), some (.ref 133), some (.int (nI f)), none] _ _
  refine Z_aload_n d_mo_parsePath_0 rfl ?_
  refine Z_iload_n d_mo_parsePath_1 rfl ?_
  refine Z_aload_n d_mo_parsePath_2 rfl ?_
  refine zV (As := []) (by omega) d_mo_parsePath_3 lm_mo_232 hF.1 rfl rfl (Nat.le_of_ble_eq_true rfl) (mo_parseLabel_no (d + 1) hF) (fun M1 v hq hlen => ?_)
  obtain ⟨rfl, hF⟩ := hq
  refine Zn_iast d_mo_parsePath_6 hF.a9 (by omega) (by omega) ?_
  replace hF := hF.p9 f 0
  refine Z_aload_n d_mo_parsePath_7 rfl ?_
  refine Z_iload_n d_mo_parsePath_8 rfl ?_
  refine Zn_iconst (nI 1) d_mo_parsePath_9 (by decide) ?_
  refine Zn_iadd d_mo_parsePath_10 ?_
  refine Zn_iconst (nI 0) d_mo_parsePath_11 (by decide) ?_
  refine Zn_iast d_mo_parsePath_12 hF.a9 (by omega) (by omega) ?_
  replace hF := hF.p9 (f + 1) 0
  refine Z_aload_n d_mo_parsePath_13 rfl ?_
  refine Z_iload_n d_mo_parsePath_14 rfl ?_
  refine Zn_iconst (nI 2) d_mo_parsePath_15 (by decide) ?_
  refine Zn_iadd d_mo_parsePath_16 ?_
  refine Zn_iconst (nI 0) d_mo_parsePath_17 (by decide) ?_
  refine Zn_iast d_mo_parsePath_18 hF.a9 (by omega) (by omega) ?_
  replace hF := hF.p9 (f + 2) 0
  refine Zn_iconst (nI 1) d_mo_parsePath_19 (by decide) ?_
  refine Zn_istore_n [some (.ref 123), some (.ref 133), some (.int (nI f)), some (.int (nI 1))] d_mo_parsePath_20 (by decide) rfl ?_
  refine Z_iload_n d_mo_parsePath_21 rfl ?_
  refine Zn_iconst (nI 3) d_mo_parsePath_22 (by decide) ?_
  refine Zn_icmp_ge (a := 1) (b := 3) (tgt := 63) d_mo_parsePath_23 (by decide) (by decide) (by decide) (fun h => absurd h (by decide)) (fun _ => ?_)
  refine Z_aload_n d_mo_parsePath_26 rfl ?_
  refine Zn_bipush (nI 40) d_mo_parsePath_27 (by decide) ?_
  refine zVe (As := [.int (nI 40)]) (by omega) d_mo_parsePath_29 lm_mo_229 hF.1 rfl rfl (Nat.le_of_ble_eq_true rfl) (mo_accept_no (d + 1) hF) ?_
  refine Zn_if_eq (a := 0) (tgt := 63) d_mo_parsePath_32 (by decide) (by decide) (fun _ => ?_) (fun h => absurd h (by decide))
  refine Z_vret d_mo_parsePath_63 rfl ?_
  exact ⟨rfl, _, hF, ppR.init⟩
set_option maxHeartbeats 4000000 in
theorem mo_parsePath_25 {Γ : zCtx} {M : List zE} (d : Nat) {M0 : List zE} {s : Nat → Nat} {G : Nat → Nat → Nat} {p : Nat} (hF : FW M0 M (pst s p 0) G) (h120 : s 5 ≤ 120) (hp : p ≤ s 5) (hch : ∀ i, G 22 i ≤ 126) {f : Nat} (hf : f + 3 ≤ 3)  : ZM Γ (d + 5) m_mo_parsePath [.ref 123, .ref 149, .int (nI f)] M (fun M1 v => v = none ∧ ppQ M0 s G 25 f p M1) := by
  refine ZM.of mk_mo_parsePath (Nat.le_of_ble_eq_true rfl) ?_
  rw [show zEn [.ref 123, .ref 149, .int (nI f)] = [some (.ref 123), some (.ref 149), some (.int (nI f))] from rfl]
  refine zPad 1 ?_
  show Z _ _ _ _ _ _ _ [some (.ref 123), some (.ref 149), some (.int (nI f)), none] _ _
  refine Z_aload_n d_mo_parsePath_0 rfl ?_
  refine Z_iload_n d_mo_parsePath_1 rfl ?_
  refine Z_aload_n d_mo_parsePath_2 rfl ?_
  refine zV (As := []) (by omega) d_mo_parsePath_3 lm_mo_232 hF.1 rfl rfl (Nat.le_of_ble_eq_true rfl) (mo_parseLabel_ok (p := p) (d + 1) hF h120 (by omega) hch) (fun M1 v hq hlen => ?_)
  obtain ⟨a1, q1, hl1⟩ : ∃ a q, pLab (s 5) (G 22) p = (a, q) := ⟨_, _, rfl⟩
  have hok1 := pLab_ok (len := s 5) (ch := G 22) (p := p) (by omega)
  rw [hl1] at hq hok1
  obtain ⟨rfl, hF⟩ := hq
  replace hF : FW M0 M1 (pst s q1 (if a1 = 0 then 1 else 0)) G := hF
  replace hok1 : a1 < 1968300 ∧ p ≤ q1 ∧ q1 ≤ s 5 ∧ (a1 = 0 ∨ 19683 ≤ a1) := hok1
  rcases Nat.eq_zero_or_pos a1 with hz1 | hz1
  · skip
    rw [if_pos hz1] at hF
    refine Zn_iast d_mo_parsePath_6 hF.a25 (by omega) (by omega) ?_
    replace hF := hF.p25 f a1
    refine Z_aload_n d_mo_parsePath_7 rfl ?_
    refine Z_iload_n d_mo_parsePath_8 rfl ?_
    refine Zn_iconst (nI 1) d_mo_parsePath_9 (by decide) ?_
    refine Zn_iadd d_mo_parsePath_10 ?_
    refine Zn_iconst (nI 0) d_mo_parsePath_11 (by decide) ?_
    refine Zn_iast d_mo_parsePath_12 hF.a25 (by omega) (by omega) ?_
    replace hF := hF.p25 (f + 1) 0
    refine Z_aload_n d_mo_parsePath_13 rfl ?_
    refine Z_iload_n d_mo_parsePath_14 rfl ?_
    refine Zn_iconst (nI 2) d_mo_parsePath_15 (by decide) ?_
    refine Zn_iadd d_mo_parsePath_16 ?_
    refine Zn_iconst (nI 0) d_mo_parsePath_17 (by decide) ?_
    refine Zn_iast d_mo_parsePath_18 hF.a25 (by omega) (by omega) ?_
    replace hF := hF.p25 (f + 2) 0
    obtain ⟨G1, hG1⟩ : ∃ G1, G1 = (gup (gup (gup G 25 f a1) 25 (f + 1) 0) 25 (f + 2) 0) := ⟨_, rfl⟩
    rw [← hG1] at hF
    have hR : ppR 25 f G G1 a1 0 0 := by rw [hG1]; exact ppR.init
    have e22 : G1 22 = G 22 := hR.1 22 (by decide)
    refine Zn_iconst (nI 1) d_mo_parsePath_19 (by decide) ?_
    refine Zn_istore_n [some (.ref 123), some (.ref 149), some (.int (nI f)), some (.int (nI 1))] d_mo_parsePath_20 (by decide) rfl ?_
    refine Z_iload_n d_mo_parsePath_21 rfl ?_
    refine Zn_iconst (nI 3) d_mo_parsePath_22 (by decide) ?_
    refine Zn_icmp_ge (a := 1) (b := 3) (tgt := 63) d_mo_parsePath_23 (by decide) (by decide) (by decide) (fun h => absurd h (by decide)) (fun _ => ?_)
    refine Z_aload_n d_mo_parsePath_26 rfl ?_
    refine Zn_bipush (nI 40) d_mo_parsePath_27 (by decide) ?_
    refine zVe (As := [.int (nI 40)]) (by omega) d_mo_parsePath_29 lm_mo_229 hF.1 rfl rfl (Nat.le_of_ble_eq_true rfl) (mo_accept_no (d + 1) hF) ?_
    refine Zn_if_eq (a := 0) (tgt := 63) d_mo_parsePath_32 (by decide) (by decide) (fun _ => ?_) (fun h => absurd h (by decide))
    refine Z_vret d_mo_parsePath_63 rfl ?_
    have eP : pPth (s 5) (G 22) p = (false, (0, 0, 0), q1) := by
      unfold pPth
      rw [hl1]
      dsimp only
      rw [if_pos hz1]
    refine ⟨rfl, _, a1, 0, 0, ?_, hR, ⟨by omega, by omega, by omega⟩, ?_⟩
    · rw [eP]; exact hF
    · rw [eP]; exact (fun z => by cases z)
  · skip
    rw [if_neg (show ¬ a1 = 0 by omega)] at hF
    refine Zn_iast d_mo_parsePath_6 hF.a25 (by omega) (by omega) ?_
    replace hF := hF.p25 f a1
    refine Z_aload_n d_mo_parsePath_7 rfl ?_
    refine Z_iload_n d_mo_parsePath_8 rfl ?_
    refine Zn_iconst (nI 1) d_mo_parsePath_9 (by decide) ?_
    refine Zn_iadd d_mo_parsePath_10 ?_
    refine Zn_iconst (nI 0) d_mo_parsePath_11 (by decide) ?_
    refine Zn_iast d_mo_parsePath_12 hF.a25 (by omega) (by omega) ?_
    replace hF := hF.p25 (f + 1) 0
    refine Z_aload_n d_mo_parsePath_13 rfl ?_
    refine Z_iload_n d_mo_parsePath_14 rfl ?_
    refine Zn_iconst (nI 2) d_mo_parsePath_15 (by decide) ?_
    refine Zn_iadd d_mo_parsePath_16 ?_
    refine Zn_iconst (nI 0) d_mo_parsePath_17 (by decide) ?_
    refine Zn_iast d_mo_parsePath_18 hF.a25 (by omega) (by omega) ?_
    replace hF := hF.p25 (f + 2) 0
    obtain ⟨G1, hG1⟩ : ∃ G1, G1 = (gup (gup (gup G 25 f a1) 25 (f + 1) 0) 25 (f + 2) 0) := ⟨_, rfl⟩
    rw [← hG1] at hF
    have hR : ppR 25 f G G1 a1 0 0 := by rw [hG1]; exact ppR.init
    have e22 : G1 22 = G 22 := hR.1 22 (by decide)
    refine Zn_iconst (nI 1) d_mo_parsePath_19 (by decide) ?_
    refine Zn_istore_n [some (.ref 123), some (.ref 149), some (.int (nI f)), some (.int (nI 1))] d_mo_parsePath_20 (by decide) rfl ?_
    refine Z_iload_n d_mo_parsePath_21 rfl ?_
    refine Zn_iconst (nI 3) d_mo_parsePath_22 (by decide) ?_
    refine Zn_icmp_ge (a := 1) (b := 3) (tgt := 63) d_mo_parsePath_23 (by decide) (by decide) (by decide) (fun h => absurd h (by decide)) (fun _ => ?_)
    refine Z_aload_n d_mo_parsePath_26 rfl ?_
    refine Zn_bipush (nI 40) d_mo_parsePath_27 (by decide) ?_
    refine zV (As := [.int (nI 40)]) (by omega) d_mo_parsePath_29 lm_mo_229 hF.1 rfl rfl (Nat.le_of_ble_eq_true rfl) (mo_accept_ok (p := q1) (d + 1) hF h120 (by omega) (by rw [e22]; exact hch) (by omega)) (fun M1 v hq hlen => ?_)
    rw [e22] at hq
    obtain ⟨rfl, hF⟩ := hq
    rcases ht1 : tk (s 5) (G 22) q1 40 with _ | _
    · skip
      rw [ht1, if_neg (by decide)] at hF
      refine Zn_if_eq (a := 0) (tgt := 63) d_mo_parsePath_32 (by decide) (by decide) (fun _ => ?_) (fun h => absurd h (by decide))
      refine Z_vret d_mo_parsePath_63 rfl ?_
      have eP : pPth (s 5) (G 22) p = (true, (a1, 0, 0), q1) := by
        unfold pPth
        rw [hl1]
        dsimp only
        rw [if_neg (show ¬ a1 = 0 by omega)]
        rw [if_neg (by rw [ht1]; decide)]
      refine ⟨rfl, _, a1, 0, 0, ?_, hR, ⟨by omega, by omega, by omega⟩, ?_⟩
      · rw [eP]; exact hF
      · rw [eP]; exact fun _ => rfl
    · skip
      rw [ht1, if_pos rfl] at hF
      have ht1g := tk_iff.mp ht1
      refine Zn_if_eq (a := 1) (tgt := 63) d_mo_parsePath_32 (by decide) (by decide) (fun h => absurd h (by decide)) (fun _ => ?_)
      refine Z_aload_n d_mo_parsePath_35 rfl ?_
      refine Z_iload_n d_mo_parsePath_36 rfl ?_
      refine Z_iload_n d_mo_parsePath_37 rfl ?_
      refine Zn_iadd d_mo_parsePath_38 ?_
      refine Z_aload_n d_mo_parsePath_39 rfl ?_
      refine zV (As := []) (by omega) d_mo_parsePath_40 lm_mo_232 hF.1 rfl rfl (Nat.le_of_ble_eq_true rfl) (mo_parseLabel_ok (p := (q1 + 1)) (d + 1) hF h120 (by omega) (by rw [e22]; exact hch)) (fun M1 v hq hlen => ?_)
      rw [e22] at hq
      obtain ⟨a2, q2, hl2⟩ : ∃ a q, pLab (s 5) (G 22) (q1 + 1) = (a, q) := ⟨_, _, rfl⟩
      have hok2 := pLab_ok (len := s 5) (ch := G 22) (p := (q1 + 1)) (by omega)
      rw [hl2] at hq hok2
      obtain ⟨rfl, hF⟩ := hq
      replace hF : FW M0 M1 (pst s q2 (if a2 = 0 then 1 else 0)) G1 := hF
      replace hok2 : a2 < 1968300 ∧ q1 + 1 ≤ q2 ∧ q2 ≤ s 5 ∧ (a2 = 0 ∨ 19683 ≤ a2) := hok2
      rcases Nat.eq_zero_or_pos a2 with hz2 | hz2
      · skip
        rw [if_pos hz2] at hF
        refine Zn_iast d_mo_parsePath_43 hF.a25 (by omega) (by omega) ?_
        replace hF := hF.p25 (f + 1) a2
        obtain ⟨G2, hG2⟩ : ∃ G2, G2 = (gup G1 25 (f + 1) a2) := ⟨_, rfl⟩
        rw [← hG2] at hF
        replace hR : ppR 25 f G G2 a1 a2 0 := by rw [hG2]; exact hR.s1
        have e22 : G2 22 = G 22 := hR.1 22 (by decide)
        refine Z_aload_n d_mo_parsePath_44 rfl ?_
        refine Z_get (v := .int (nI 1)) d_mo_parsePath_45 lf_mo_221 hF.1 rfl ?_
        refine Zn_if_ne (a := 1) (tgt := 57) d_mo_parsePath_48 (by decide) (by decide) (fun _ => ?_) (fun h => absurd h (by decide))
        refine Zn_iinc [some (.ref 123), some (.ref 149), some (.int (nI f)), some (.int (nI 2))] (nI 2) d_mo_parsePath_57 rfl (by decide) (nI_add 1 1) rfl ?_
        refine Z_goto (tgt := 21) d_mo_parsePath_60 (by decide) ?_
        refine Z_iload_n d_mo_parsePath_21 rfl ?_
        refine Zn_iconst (nI 3) d_mo_parsePath_22 (by decide) ?_
        refine Zn_icmp_ge (a := 2) (b := 3) (tgt := 63) d_mo_parsePath_23 (by decide) (by decide) (by decide) (fun h => absurd h (by decide)) (fun _ => ?_)
        refine Z_aload_n d_mo_parsePath_26 rfl ?_
        refine Zn_bipush (nI 40) d_mo_parsePath_27 (by decide) ?_
        refine zVe (As := [.int (nI 40)]) (by omega) d_mo_parsePath_29 lm_mo_229 hF.1 rfl rfl (Nat.le_of_ble_eq_true rfl) (mo_accept_no (d + 1) hF) ?_
        refine Zn_if_eq (a := 0) (tgt := 63) d_mo_parsePath_32 (by decide) (by decide) (fun _ => ?_) (fun h => absurd h (by decide))
        refine Z_vret d_mo_parsePath_63 rfl ?_
        have eP : pPth (s 5) (G 22) p = (false, (0, 0, 0), q2) := by
          unfold pPth
          rw [hl1]
          dsimp only
          rw [if_neg (show ¬ a1 = 0 by omega)]
          rw [if_pos ht1]
          rw [hl2]
          dsimp only
          rw [if_pos hz2]
        refine ⟨rfl, _, a1, a2, 0, ?_, hR, ⟨by omega, by omega, by omega⟩, ?_⟩
        · rw [eP]; exact hF
        · rw [eP]; exact (fun z => by cases z)
      · skip
        rw [if_neg (show ¬ a2 = 0 by omega)] at hF
        refine Zn_iast d_mo_parsePath_43 hF.a25 (by omega) (by omega) ?_
        replace hF := hF.p25 (f + 1) a2
        obtain ⟨G2, hG2⟩ : ∃ G2, G2 = (gup G1 25 (f + 1) a2) := ⟨_, rfl⟩
        rw [← hG2] at hF
        replace hR : ppR 25 f G G2 a1 a2 0 := by rw [hG2]; exact hR.s1
        have e22 : G2 22 = G 22 := hR.1 22 (by decide)
        refine Z_aload_n d_mo_parsePath_44 rfl ?_
        refine Z_get (v := .int (nI 0)) d_mo_parsePath_45 lf_mo_221 hF.1 rfl ?_
        refine Zn_if_ne (a := 0) (tgt := 57) d_mo_parsePath_48 (by decide) (by decide) (fun h => absurd h (by decide)) (fun _ => ?_)
        refine Z_aload_n d_mo_parsePath_51 rfl ?_
        refine Zn_bipush (nI 41) d_mo_parsePath_52 (by decide) ?_
        refine zV (As := [.int (nI 41)]) (by omega) d_mo_parsePath_54 lm_mo_236 hF.1 rfl rfl (Nat.le_of_ble_eq_true rfl) (mo_expect_ok (p := q2) d hF h120 (by omega) (by rw [e22]; exact hch) (by omega)) (fun M1 v hq hlen => ?_)
        rw [e22] at hq
        obtain ⟨rfl, hF⟩ := hq
        rcases hx2 : tk (s 5) (G 22) q2 41 with _ | _
        · skip
          rw [hx2, if_neg (by decide)] at hF
          refine Zn_iinc [some (.ref 123), some (.ref 149), some (.int (nI f)), some (.int (nI 2))] (nI 2) d_mo_parsePath_57 rfl (by decide) (nI_add 1 1) rfl ?_
          refine Z_goto (tgt := 21) d_mo_parsePath_60 (by decide) ?_
          refine Z_iload_n d_mo_parsePath_21 rfl ?_
          refine Zn_iconst (nI 3) d_mo_parsePath_22 (by decide) ?_
          refine Zn_icmp_ge (a := 2) (b := 3) (tgt := 63) d_mo_parsePath_23 (by decide) (by decide) (by decide) (fun h => absurd h (by decide)) (fun _ => ?_)
          refine Z_aload_n d_mo_parsePath_26 rfl ?_
          refine Zn_bipush (nI 40) d_mo_parsePath_27 (by decide) ?_
          refine zVe (As := [.int (nI 40)]) (by omega) d_mo_parsePath_29 lm_mo_229 hF.1 rfl rfl (Nat.le_of_ble_eq_true rfl) (mo_accept_no (d + 1) hF) ?_
          refine Zn_if_eq (a := 0) (tgt := 63) d_mo_parsePath_32 (by decide) (by decide) (fun _ => ?_) (fun h => absurd h (by decide))
          refine Z_vret d_mo_parsePath_63 rfl ?_
          have eP : pPth (s 5) (G 22) p = (false, (0, 0, 0), q2) := by
            unfold pPth
            rw [hl1]
            dsimp only
            rw [if_neg (show ¬ a1 = 0 by omega)]
            rw [if_pos ht1]
            rw [hl2]
            dsimp only
            rw [if_neg (show ¬ a2 = 0 by omega)]
            rw [if_neg (by rw [hx2]; decide)]
          refine ⟨rfl, _, a1, a2, 0, ?_, hR, ⟨by omega, by omega, by omega⟩, ?_⟩
          · rw [eP]; exact hF
          · rw [eP]; exact (fun z => by cases z)
        · skip
          rw [hx2, if_pos rfl] at hF
          have hx2g := tk_iff.mp hx2
          refine Zn_iinc [some (.ref 123), some (.ref 149), some (.int (nI f)), some (.int (nI 2))] (nI 2) d_mo_parsePath_57 rfl (by decide) (nI_add 1 1) rfl ?_
          refine Z_goto (tgt := 21) d_mo_parsePath_60 (by decide) ?_
          refine Z_iload_n d_mo_parsePath_21 rfl ?_
          refine Zn_iconst (nI 3) d_mo_parsePath_22 (by decide) ?_
          refine Zn_icmp_ge (a := 2) (b := 3) (tgt := 63) d_mo_parsePath_23 (by decide) (by decide) (by decide) (fun h => absurd h (by decide)) (fun _ => ?_)
          refine Z_aload_n d_mo_parsePath_26 rfl ?_
          refine Zn_bipush (nI 40) d_mo_parsePath_27 (by decide) ?_
          refine zV (As := [.int (nI 40)]) (by omega) d_mo_parsePath_29 lm_mo_229 hF.1 rfl rfl (Nat.le_of_ble_eq_true rfl) (mo_accept_ok (p := (q2 + 1)) (d + 1) hF h120 (by omega) (by rw [e22]; exact hch) (by omega)) (fun M1 v hq hlen => ?_)
          rw [e22] at hq
          obtain ⟨rfl, hF⟩ := hq
          rcases ht2 : tk (s 5) (G 22) (q2 + 1) 40 with _ | _
          · skip
            rw [ht2, if_neg (by decide)] at hF
            refine Zn_if_eq (a := 0) (tgt := 63) d_mo_parsePath_32 (by decide) (by decide) (fun _ => ?_) (fun h => absurd h (by decide))
            refine Z_vret d_mo_parsePath_63 rfl ?_
            have eP : pPth (s 5) (G 22) p = (true, (a1, a2, 0), q2 + 1) := by
              unfold pPth
              rw [hl1]
              dsimp only
              rw [if_neg (show ¬ a1 = 0 by omega)]
              rw [if_pos ht1]
              rw [hl2]
              dsimp only
              rw [if_neg (show ¬ a2 = 0 by omega)]
              rw [if_pos hx2]
              rw [if_neg (by rw [ht2]; decide)]
            refine ⟨rfl, _, a1, a2, 0, ?_, hR, ⟨by omega, by omega, by omega⟩, ?_⟩
            · rw [eP]; exact hF
            · rw [eP]; exact fun _ => rfl
          · skip
            rw [ht2, if_pos rfl] at hF
            have ht2g := tk_iff.mp ht2
            refine Zn_if_eq (a := 1) (tgt := 63) d_mo_parsePath_32 (by decide) (by decide) (fun h => absurd h (by decide)) (fun _ => ?_)
            refine Z_aload_n d_mo_parsePath_35 rfl ?_
            refine Z_iload_n d_mo_parsePath_36 rfl ?_
            refine Z_iload_n d_mo_parsePath_37 rfl ?_
            refine Zn_iadd d_mo_parsePath_38 ?_
            refine Z_aload_n d_mo_parsePath_39 rfl ?_
            refine zV (As := []) (by omega) d_mo_parsePath_40 lm_mo_232 hF.1 rfl rfl (Nat.le_of_ble_eq_true rfl) (mo_parseLabel_ok (p := ((q2 + 1) + 1)) (d + 1) hF h120 (by omega) (by rw [e22]; exact hch)) (fun M1 v hq hlen => ?_)
            rw [e22] at hq
            obtain ⟨a3, q3, hl3⟩ : ∃ a q, pLab (s 5) (G 22) ((q2 + 1) + 1) = (a, q) := ⟨_, _, rfl⟩
            have hok3 := pLab_ok (len := s 5) (ch := G 22) (p := ((q2 + 1) + 1)) (by omega)
            rw [hl3] at hq hok3
            obtain ⟨rfl, hF⟩ := hq
            replace hF : FW M0 M1 (pst s q3 (if a3 = 0 then 1 else 0)) G2 := hF
            replace hok3 : a3 < 1968300 ∧ (q2 + 1) + 1 ≤ q3 ∧ q3 ≤ s 5 ∧ (a3 = 0 ∨ 19683 ≤ a3) := hok3
            rcases Nat.eq_zero_or_pos a3 with hz3 | hz3
            · skip
              rw [if_pos hz3] at hF
              refine Zn_iast d_mo_parsePath_43 hF.a25 (by omega) (by omega) ?_
              replace hF := hF.p25 (f + 2) a3
              obtain ⟨G3, hG3⟩ : ∃ G3, G3 = (gup G2 25 (f + 2) a3) := ⟨_, rfl⟩
              rw [← hG3] at hF
              replace hR : ppR 25 f G G3 a1 a2 a3 := by rw [hG3]; exact hR.s2
              have e22 : G3 22 = G 22 := hR.1 22 (by decide)
              refine Z_aload_n d_mo_parsePath_44 rfl ?_
              refine Z_get (v := .int (nI 1)) d_mo_parsePath_45 lf_mo_221 hF.1 rfl ?_
              refine Zn_if_ne (a := 1) (tgt := 57) d_mo_parsePath_48 (by decide) (by decide) (fun _ => ?_) (fun h => absurd h (by decide))
              refine Zn_iinc [some (.ref 123), some (.ref 149), some (.int (nI f)), some (.int (nI 3))] (nI 3) d_mo_parsePath_57 rfl (by decide) (nI_add 2 1) rfl ?_
              refine Z_goto (tgt := 21) d_mo_parsePath_60 (by decide) ?_
              refine Z_iload_n d_mo_parsePath_21 rfl ?_
              refine Zn_iconst (nI 3) d_mo_parsePath_22 (by decide) ?_
              refine Zn_icmp_ge (a := 3) (b := 3) (tgt := 63) d_mo_parsePath_23 (by decide) (by decide) (by decide) (fun _ => ?_) (fun h => absurd h (by decide))
              refine Z_vret d_mo_parsePath_63 rfl ?_
              have eP : pPth (s 5) (G 22) p = (false, (0, 0, 0), q3) := by
                unfold pPth
                rw [hl1]
                dsimp only
                rw [if_neg (show ¬ a1 = 0 by omega)]
                rw [if_pos ht1]
                rw [hl2]
                dsimp only
                rw [if_neg (show ¬ a2 = 0 by omega)]
                rw [if_pos hx2]
                rw [if_pos ht2]
                rw [hl3]
                dsimp only
                rw [if_pos hz3]
              refine ⟨rfl, _, a1, a2, a3, ?_, hR, ⟨by omega, by omega, by omega⟩, ?_⟩
              · rw [eP]; exact hF
              · rw [eP]; exact (fun z => by cases z)
            · skip
              rw [if_neg (show ¬ a3 = 0 by omega)] at hF
              refine Zn_iast d_mo_parsePath_43 hF.a25 (by omega) (by omega) ?_
              replace hF := hF.p25 (f + 2) a3
              obtain ⟨G3, hG3⟩ : ∃ G3, G3 = (gup G2 25 (f + 2) a3) := ⟨_, rfl⟩
              rw [← hG3] at hF
              replace hR : ppR 25 f G G3 a1 a2 a3 := by rw [hG3]; exact hR.s2
              have e22 : G3 22 = G 22 := hR.1 22 (by decide)
              refine Z_aload_n d_mo_parsePath_44 rfl ?_
              refine Z_get (v := .int (nI 0)) d_mo_parsePath_45 lf_mo_221 hF.1 rfl ?_
              refine Zn_if_ne (a := 0) (tgt := 57) d_mo_parsePath_48 (by decide) (by decide) (fun h => absurd h (by decide)) (fun _ => ?_)
              refine Z_aload_n d_mo_parsePath_51 rfl ?_
              refine Zn_bipush (nI 41) d_mo_parsePath_52 (by decide) ?_
              refine zV (As := [.int (nI 41)]) (by omega) d_mo_parsePath_54 lm_mo_236 hF.1 rfl rfl (Nat.le_of_ble_eq_true rfl) (mo_expect_ok (p := q3) d hF h120 (by omega) (by rw [e22]; exact hch) (by omega)) (fun M1 v hq hlen => ?_)
              rw [e22] at hq
              obtain ⟨rfl, hF⟩ := hq
              rcases hx3 : tk (s 5) (G 22) q3 41 with _ | _
              · skip
                rw [hx3, if_neg (by decide)] at hF
                refine Zn_iinc [some (.ref 123), some (.ref 149), some (.int (nI f)), some (.int (nI 3))] (nI 3) d_mo_parsePath_57 rfl (by decide) (nI_add 2 1) rfl ?_
                refine Z_goto (tgt := 21) d_mo_parsePath_60 (by decide) ?_
                refine Z_iload_n d_mo_parsePath_21 rfl ?_
                refine Zn_iconst (nI 3) d_mo_parsePath_22 (by decide) ?_
                refine Zn_icmp_ge (a := 3) (b := 3) (tgt := 63) d_mo_parsePath_23 (by decide) (by decide) (by decide) (fun _ => ?_) (fun h => absurd h (by decide))
                refine Z_vret d_mo_parsePath_63 rfl ?_
                have eP : pPth (s 5) (G 22) p = (false, (0, 0, 0), q3) := by
                  unfold pPth
                  rw [hl1]
                  dsimp only
                  rw [if_neg (show ¬ a1 = 0 by omega)]
                  rw [if_pos ht1]
                  rw [hl2]
                  dsimp only
                  rw [if_neg (show ¬ a2 = 0 by omega)]
                  rw [if_pos hx2]
                  rw [if_pos ht2]
                  rw [hl3]
                  dsimp only
                  rw [if_neg (show ¬ a3 = 0 by omega)]
                  rw [if_neg (by rw [hx3]; decide)]
                refine ⟨rfl, _, a1, a2, a3, ?_, hR, ⟨by omega, by omega, by omega⟩, ?_⟩
                · rw [eP]; exact hF
                · rw [eP]; exact (fun z => by cases z)
              · skip
                rw [hx3, if_pos rfl] at hF
                have hx3g := tk_iff.mp hx3
                refine Zn_iinc [some (.ref 123), some (.ref 149), some (.int (nI f)), some (.int (nI 3))] (nI 3) d_mo_parsePath_57 rfl (by decide) (nI_add 2 1) rfl ?_
                refine Z_goto (tgt := 21) d_mo_parsePath_60 (by decide) ?_
                refine Z_iload_n d_mo_parsePath_21 rfl ?_
                refine Zn_iconst (nI 3) d_mo_parsePath_22 (by decide) ?_
                refine Zn_icmp_ge (a := 3) (b := 3) (tgt := 63) d_mo_parsePath_23 (by decide) (by decide) (by decide) (fun _ => ?_) (fun h => absurd h (by decide))
                refine Z_vret d_mo_parsePath_63 rfl ?_
                have eP : pPth (s 5) (G 22) p = (true, (a1, a2, a3), q3 + 1) := by
                  unfold pPth
                  rw [hl1]
                  dsimp only
                  rw [if_neg (show ¬ a1 = 0 by omega)]
                  rw [if_pos ht1]
                  rw [hl2]
                  dsimp only
                  rw [if_neg (show ¬ a2 = 0 by omega)]
                  rw [if_pos hx2]
                  rw [if_pos ht2]
                  rw [hl3]
                  dsimp only
                  rw [if_neg (show ¬ a3 = 0 by omega)]
                  rw [if_pos hx3]
                refine ⟨rfl, _, a1, a2, a3, ?_, hR, ⟨by omega, by omega, by omega⟩, ?_⟩
                · rw [eP]; exact hF
                · rw [eP]; exact fun _ => rfl
set_option maxHeartbeats 4000000 in
theorem mo_parsePath_no25 {Γ : zCtx} {M : List zE} (d : Nat) {M0 : List zE} {s : Nat → Nat} {G : Nat → Nat → Nat} {p : Nat} (hF : FW M0 M (pst s p 1) G) {f : Nat} (hf : f + 3 ≤ 3)  : ZM Γ (d + 5) m_mo_parsePath [.ref 123, .ref 149, .int (nI f)] M (fun M1 v => v = none ∧ ∃ G', FW M0 M1 (pst s p 1) G' ∧ ppR 25 f G G' 0 0 0) := by
  refine ZM.of mk_mo_parsePath (Nat.le_of_ble_eq_true rfl) ?_
  rw [show zEn [.ref 123, .ref 149, .int (nI f)] = [some (.ref 123), some (.ref 149), some (.int (nI f))] from rfl]
  refine zPad 1 ?_
  show Z _ _ _ _ _ _ _ [some (.ref 123), some (.ref 149), some (.int (nI f)), none] _ _
  refine Z_aload_n d_mo_parsePath_0 rfl ?_
  refine Z_iload_n d_mo_parsePath_1 rfl ?_
  refine Z_aload_n d_mo_parsePath_2 rfl ?_
  refine zV (As := []) (by omega) d_mo_parsePath_3 lm_mo_232 hF.1 rfl rfl (Nat.le_of_ble_eq_true rfl) (mo_parseLabel_no (d + 1) hF) (fun M1 v hq hlen => ?_)
  obtain ⟨rfl, hF⟩ := hq
  refine Zn_iast d_mo_parsePath_6 hF.a25 (by omega) (by omega) ?_
  replace hF := hF.p25 f 0
  refine Z_aload_n d_mo_parsePath_7 rfl ?_
  refine Z_iload_n d_mo_parsePath_8 rfl ?_
  refine Zn_iconst (nI 1) d_mo_parsePath_9 (by decide) ?_
  refine Zn_iadd d_mo_parsePath_10 ?_
  refine Zn_iconst (nI 0) d_mo_parsePath_11 (by decide) ?_
  refine Zn_iast d_mo_parsePath_12 hF.a25 (by omega) (by omega) ?_
  replace hF := hF.p25 (f + 1) 0
  refine Z_aload_n d_mo_parsePath_13 rfl ?_
  refine Z_iload_n d_mo_parsePath_14 rfl ?_
  refine Zn_iconst (nI 2) d_mo_parsePath_15 (by decide) ?_
  refine Zn_iadd d_mo_parsePath_16 ?_
  refine Zn_iconst (nI 0) d_mo_parsePath_17 (by decide) ?_
  refine Zn_iast d_mo_parsePath_18 hF.a25 (by omega) (by omega) ?_
  replace hF := hF.p25 (f + 2) 0
  refine Zn_iconst (nI 1) d_mo_parsePath_19 (by decide) ?_
  refine Zn_istore_n [some (.ref 123), some (.ref 149), some (.int (nI f)), some (.int (nI 1))] d_mo_parsePath_20 (by decide) rfl ?_
  refine Z_iload_n d_mo_parsePath_21 rfl ?_
  refine Zn_iconst (nI 3) d_mo_parsePath_22 (by decide) ?_
  refine Zn_icmp_ge (a := 1) (b := 3) (tgt := 63) d_mo_parsePath_23 (by decide) (by decide) (by decide) (fun h => absurd h (by decide)) (fun _ => ?_)
  refine Z_aload_n d_mo_parsePath_26 rfl ?_
  refine Zn_bipush (nI 40) d_mo_parsePath_27 (by decide) ?_
  refine zVe (As := [.int (nI 40)]) (by omega) d_mo_parsePath_29 lm_mo_229 hF.1 rfl rfl (Nat.le_of_ble_eq_true rfl) (mo_accept_no (d + 1) hF) ?_
  refine Zn_if_eq (a := 0) (tgt := 63) d_mo_parsePath_32 (by decide) (by decide) (fun _ => ?_) (fun h => absurd h (by decide))
  refine Z_vret d_mo_parsePath_63 rfl ?_
  exact ⟨rfl, _, hF, ppR.init⟩
