/-! reading instructions in the reference -/
def slI (G : Nat → Nat → Nat) (r : Nat) (x : zIns) : Prop := G 7 r = x.1 + 1 ∧ G 8 r = x.2.2.2 ∧ G 9 (6 * r) = x.2.1.1 ∧ G 9 (6 * r + 1) = x.2.1.2.1 ∧ G 9 (6 * r + 2) = x.2.1.2.2 ∧ (x.1 = 4 → G 9 (6 * r + 3) = x.2.2.1.1 ∧ G 9 (6 * r + 3 + 1) = x.2.2.1.2.1 ∧ G 9 (6 * r + 3 + 2) = x.2.2.1.2.2)
def piF (i : Nat) (G G' : Nat → Nat → Nat) : Prop := (∀ b, b ≠ 7 → b ≠ 8 → b ≠ 9 → G' b = G b) ∧ (∀ j, j ≠ i → G' 7 j = G 7 j ∧ G' 8 j = G 8 j) ∧ (∀ j, (j < 6 * i ∨ 6 * i + 6 ≤ j) → G' 9 j = G 9 j) ∧ ((∀ j, G 9 j < 2097152) → ∀ j, G' 9 j < 2097152)
theorem piF.init {i x y : Nat} {G : Nat → Nat → Nat} : piF i G (gup (gup G 7 i x) 8 i y) := by
  refine ⟨fun b h7 h8 _ => by rw [gup_n h8, gup_n h7], fun j hj => ?_, fun j _ => ?_, fun h => ?_⟩
  · rw [gup_n (b := 7) (a := 8) (by decide), gup_s, nup_n hj, gup_s, nup_n hj, gup_n (b := 8) (a := 7) (by decide)]; exact ⟨rfl, rfl⟩
  · rw [gup_n (by decide), gup_n (by decide)]
  · rw [gup_n (by decide), gup_n (by decide)]; exact h
theorem piF.num {i y : Nat} {G G1 : Nat → Nat → Nat} (h : piF i G G1) : piF i G (gup G1 8 i y) := by
  refine ⟨fun b h7 h8 h9 => by rw [gup_n h8]; exact h.1 b h7 h8 h9, fun j hj => ?_, fun j hj => ?_, fun hb => ?_⟩
  · rw [gup_n (b := 7) (a := 8) (by decide), gup_s, nup_n hj]; exact h.2.1 j hj
  · rw [gup_n (by decide)]; exact h.2.2.1 j hj
  · rw [gup_n (by decide)]; exact h.2.2.2 hb
theorem piF.row {i f a b c : Nat} {G G1 G2 : Nat → Nat → Nat} (h : piF i G G1) (hr : ppR 9 f G1 G2 a b c) (hf : 6 * i ≤ f) (hf2 : f + 3 ≤ 6 * i + 6) (hb : a < 2097152 ∧ b < 2097152 ∧ c < 2097152) : piF i G G2 := by
  obtain ⟨r1, r2, r3, r4, r5⟩ := hr
  refine ⟨fun k h7 h8 h9 => by rw [r1 k h9]; exact h.1 k h7 h8 h9, fun j hj => by rw [r1 7 (by decide), r1 8 (by decide)]; exact h.2.1 j hj, fun j hj => ?_, fun hbb j => ?_⟩
  · rw [r2 j (by omega)]; exact h.2.2.1 j hj
  · by_cases c1 : j < f ∨ f + 3 ≤ j
    · rw [r2 j c1]; exact h.2.2.2 hbb j
    · rcases (show j = f ∨ j = f + 1 ∨ j = f + 2 by omega) with e | e | e
      · rw [e, r3]; exact hb.1
      · rw [e, r4]; exact hb.2.1
      · rw [e, r5]; exact hb.2.2
def piQ (M0 : List zE) (s : Nat → Nat) (G : Nat → Nat → Nat) (i p : Nat) (M1 : List zE) : Prop := ∃ G', FW M0 M1 (pst s (pIns (s 5) (G 22) p).2 (if (pIns (s 5) (G 22) p).1.isSome = true then 0 else 1)) G' ∧ piF i G G' ∧ ∀ x, (pIns (s 5) (G 22) p).1 = some x → slI G' i x
set_option maxHeartbeats 4000000 in
theorem mo_parseInstruction_ok {Γ : zCtx} {M : List zE} (d : Nat) {M0 : List zE} {s : Nat → Nat} {G : Nat → Nat → Nat} {p : Nat} (hF : FW M0 M (pst s p 0) G) (h120 : s 5 ≤ 120) (hp : p ≤ s 5) (hch : ∀ i, G 22 i ≤ 126) {i : Nat} (hi : i < 128)  : ZM Γ (d + 6) m_mo_parseInstruction [.ref 123, .int (nI i)] M (fun M1 v => v = none ∧ piQ M0 s G i p M1) := by
  refine ZM.of mk_mo_parseInstruction (Nat.le_of_ble_eq_true rfl) ?_
  rw [show zEn [.ref 123, .int (nI i)] = [some (.ref 123), some (.int (nI i))] from rfl]
  refine zPad 1 ?_
  show Z _ _ _ _ _ _ _ [some (.ref 123), some (.int (nI i)), none] _ _
  refine Z_aload_n d_mo_parseInstruction_0 rfl ?_
  refine zV (As := []) (by omega) d_mo_parseInstruction_1 lm_mo_263 hF.1 rfl rfl (Nat.le_of_ble_eq_true rfl) (mo_parseKeyword_ok (p := p) d hF h120 hp hch) (fun M1 v hq hlen => ?_)
  obtain ⟨ko, q, hk⟩ : ∃ ko q, pKw (s 5) (G 22) p = (ko, q) := ⟨_, _, rfl⟩
  have hkk := pKw_ok (len := s 5) (ch := G 22) (p := p) hp
  rw [hk] at hq hkk
  obtain ⟨rfl, hF⟩ := hq
  replace hF : FW M0 M1 (pst s q (if ko.isSome = true then 0 else 1)) G := hF
  have hkq : p ≤ q ∧ q ≤ s 5 := ⟨hkk.1, hkk.2.1⟩
  rcases ko with _ | k
  · skip
    replace hF : FW M0 M1 (pst s q 1) G := hF
    refine Zn_istore_n [some (.ref 123), some (.int (nI i)), some (.int (-1))] d_mo_parseInstruction_4 (by decide) rfl ?_
    refine Z_aload_n d_mo_parseInstruction_5 rfl ?_
    refine Z_get (v := .ref 131) d_mo_parseInstruction_6 lf_mo_31 hF.1 rfl ?_
    refine Z_iload_n d_mo_parseInstruction_9 rfl ?_
    refine Z_iload_n d_mo_parseInstruction_10 rfl ?_
    refine Zn_iast d_mo_parseInstruction_11 hF.a7 (by omega) (by omega) ?_
    replace hF := hF.p7 i 0
    refine Z_aload_n d_mo_parseInstruction_12 rfl ?_
    refine Z_get (v := .ref 132) d_mo_parseInstruction_13 lf_mo_34 hF.1 rfl ?_
    refine Z_iload_n d_mo_parseInstruction_16 rfl ?_
    refine Zn_iconst (nI 0) d_mo_parseInstruction_17 (by decide) ?_
    refine Zn_iast d_mo_parseInstruction_18 hF.a8 (by omega) (by omega) ?_
    replace hF := hF.p8 i 0
    obtain ⟨G1, hG1⟩ : ∃ G1, G1 = (gup (gup G 7 i 0) 8 i 0) := ⟨_, rfl⟩
    rw [← hG1] at hF
    have e22 : G1 22 = G 22 := by rw [hG1, gup_n (by decide), gup_n (by decide)]
    have hpf : piF i G G1 := by rw [hG1]; exact piF.init
    refine Z_aload_n d_mo_parseInstruction_19 rfl ?_
    refine Z_get (v := .int (nI 1)) d_mo_parseInstruction_20 lf_mo_221 hF.1 rfl ?_
    refine Zn_if_eq (a := 1) (tgt := 27) d_mo_parseInstruction_23 (by decide) (by decide) (fun h => absurd h (by decide)) (fun _ => ?_)
    refine Z_vret d_mo_parseInstruction_26 rfl ?_
    have eP : pIns (s 5) (G 22) p = (none, q) := by unfold pIns; rw [hk]
    refine ⟨rfl, G1, ?_, hpf, ?_⟩
    · rw [eP]; exact hF
    · rw [eP]; exact (fun x z => by cases z)
  · skip
    replace hF : FW M0 M1 (pst s q 0) G := hF
    have hk6 : k < 6 := (hkk.2.2 k rfl).1
    refine Zn_istore_n [some (.ref 123), some (.int (nI i)), some (.int (nI k))] d_mo_parseInstruction_4 (by decide) rfl ?_
    refine Z_aload_n d_mo_parseInstruction_5 rfl ?_
    refine Z_get (v := .ref 131) d_mo_parseInstruction_6 lf_mo_31 hF.1 rfl ?_
    refine Z_iload_n d_mo_parseInstruction_9 rfl ?_
    refine Z_iload_n d_mo_parseInstruction_10 rfl ?_
    refine Zn_iast d_mo_parseInstruction_11 hF.a7 (by omega) (by omega) ?_
    replace hF := hF.p7 i (k + 1)
    refine Z_aload_n d_mo_parseInstruction_12 rfl ?_
    refine Z_get (v := .ref 132) d_mo_parseInstruction_13 lf_mo_34 hF.1 rfl ?_
    refine Z_iload_n d_mo_parseInstruction_16 rfl ?_
    refine Zn_iconst (nI 0) d_mo_parseInstruction_17 (by decide) ?_
    refine Zn_iast d_mo_parseInstruction_18 hF.a8 (by omega) (by omega) ?_
    replace hF := hF.p8 i 0
    obtain ⟨G1, hG1⟩ : ∃ G1, G1 = (gup (gup G 7 i (k + 1)) 8 i 0) := ⟨_, rfl⟩
    rw [← hG1] at hF
    have e22 : G1 22 = G 22 := by rw [hG1, gup_n (by decide), gup_n (by decide)]
    have hpf : piF i G G1 := by rw [hG1]; exact piF.init
    refine Z_aload_n d_mo_parseInstruction_19 rfl ?_
    refine Z_get (v := .int (nI 0)) d_mo_parseInstruction_20 lf_mo_221 hF.1 rfl ?_
    refine Zn_if_eq (a := 0) (tgt := 27) d_mo_parseInstruction_23 (by decide) (by decide) (fun _ => ?_) (fun h => absurd h (by decide))
    refine Z_aload_n d_mo_parseInstruction_27 rfl ?_
    refine Z_aload_n d_mo_parseInstruction_28 rfl ?_
    refine Z_get (v := .ref 133) d_mo_parseInstruction_29 lf_mo_37 hF.1 rfl ?_
    refine Zn_bipush (nI 6) d_mo_parseInstruction_32 (by decide) ?_
    refine Z_iload_n d_mo_parseInstruction_34 rfl ?_
    refine Zn_imul d_mo_parseInstruction_35 ?_
    refine zV (As := [.ref 133, .int (nI (6 * i))]) (by omega) d_mo_parseInstruction_36 lm_mo_266 hF.1 rfl rfl (Nat.le_of_ble_eq_true rfl) (mo_parsePath_9 (p := q) d hF h120 (by omega) (by rw [e22]; exact hch) (f := 6 * i) (by omega)) (fun M1 v hq hlen => ?_)
    obtain ⟨rfl, G2, a1, b1, c1, hF, hR1, hbd1, hlb1⟩ := hq
    rw [e22] at hF hlb1
    obtain ⟨ok1, l1, r1, hP1⟩ : ∃ ok l r, pPth (s 5) (G 22) q = (ok, l, r) := ⟨_, _, _, rfl⟩
    have hpo1 := pPth_ok (len := s 5) (ch := G 22) (p := q) (by omega)
    rw [hP1] at hF hlb1 hpo1
    have hrq1 : q ≤ r1 ∧ r1 ≤ s 5 := ⟨hpo1.1, hpo1.2.1⟩
    replace hF : FW M0 M1 (pst s r1 (if ok1 = true then 0 else 1)) G2 := hF
    have e22b : G2 22 = G 22 := (hR1.1 22 (by decide)).trans e22
    rcases ok1 with _ | _
    · skip
      replace hF : FW M0 M1 (pst s r1 1) G2 := hF
      refine Z_iload_n d_mo_parseInstruction_39 rfl ?_
      refine Zn_iconst (nI 2) d_mo_parseInstruction_40 (by decide) ?_
      refine Zn_icmp_le (tgt := 49) d_mo_parseInstruction_41 (by decide) (by omega) (by omega) (fun h41 => ?_) (fun h41 => ?_)
      · skip
        skip
        refine Z_aload_n d_mo_parseInstruction_49 rfl ?_
        refine Z_get (v := .int (nI 1)) d_mo_parseInstruction_50 lf_mo_221 hF.1 rfl ?_
        refine Zn_if_ne (a := 1) (tgt := 62) d_mo_parseInstruction_53 (by decide) (by decide) (fun _ => ?_) (fun h => absurd h (by decide))
        refine Z_iload_n d_mo_parseInstruction_62 rfl ?_
        refine Zn_iconst (nI 4) d_mo_parseInstruction_63 (by decide) ?_
        refine Zn_icmp_ne (tgt := 84) d_mo_parseInstruction_64 (by decide) (by omega) (by omega) (fun h64 => ?_) (fun h64 => ?_)
        · skip
          skip
          refine Z_aload_n d_mo_parseInstruction_84 rfl ?_
          refine Z_get (v := .ref 132) d_mo_parseInstruction_85 lf_mo_34 hF.1 rfl ?_
          refine Z_iload_n d_mo_parseInstruction_88 rfl ?_
          refine Z_aload_n d_mo_parseInstruction_89 rfl ?_
          refine zV (As := []) (by omega) d_mo_parseInstruction_90 lm_mo_270 hF.1 rfl rfl (Nat.le_of_ble_eq_true rfl) (mo_parseNumber_no (d + 1) hF) (fun M1 v hq hlen => ?_)
          obtain ⟨rfl, hF⟩ := hq
          refine Zn_iast d_mo_parseInstruction_93 hF.a8 (by omega) (by omega) ?_
          replace hF := hF.p8 i 0
          skip
          refine Z_vret d_mo_parseInstruction_94 rfl ?_
          have eP : pIns (s 5) (G 22) p = (none, r1) := by
            unfold pIns
            rw [hk]
            dsimp only
            rw [hP1]
          have hpf2 : piF i G G2 := hpf.row hR1 (by omega) (by omega) hbd1
          refine ⟨rfl, _, ?_, (hpf2.num (y := 0)), ?_⟩
          · rw [eP]; exact hF
          · rw [eP]; exact (fun x z => by cases z)
        · skip
          skip
          refine Z_aload_n d_mo_parseInstruction_67 rfl ?_
          refine Z_aload_n d_mo_parseInstruction_68 rfl ?_
          refine Z_get (v := .ref 133) d_mo_parseInstruction_69 lf_mo_37 hF.1 rfl ?_
          refine Zn_bipush (nI 6) d_mo_parseInstruction_72 (by decide) ?_
          refine Z_iload_n d_mo_parseInstruction_74 rfl ?_
          refine Zn_imul d_mo_parseInstruction_75 ?_
          refine Zn_iconst (nI 3) d_mo_parseInstruction_76 (by decide) ?_
          refine Zn_iadd d_mo_parseInstruction_77 ?_
          refine zV (As := [.ref 133, .int (nI (6 * i + 3))]) (by omega) d_mo_parseInstruction_78 lm_mo_266 hF.1 rfl rfl (Nat.le_of_ble_eq_true rfl) (mo_parsePath_no9 d hF (f := 6 * i + 3) (by omega)) (fun M1 v hq hlen => ?_)
          obtain ⟨rfl, G3, hF, hR2⟩ := hq
          refine Z_goto (tgt := 94) d_mo_parseInstruction_81 (by decide) ?_
          skip
          refine Z_vret d_mo_parseInstruction_94 rfl ?_
          have eP : pIns (s 5) (G 22) p = (none, r1) := by
            unfold pIns
            rw [hk]
            dsimp only
            rw [hP1]
          have hpf2 : piF i G G2 := hpf.row hR1 (by omega) (by omega) hbd1
          have hpf3 : piF i G G3 := hpf2.row hR2 (by omega) (by omega) (by decide)
          refine ⟨rfl, _, ?_, hpf3, ?_⟩
          · rw [eP]; exact hF
          · rw [eP]; exact (fun x z => by cases z)
      · skip
        skip
        refine Z_iload_n d_mo_parseInstruction_44 rfl ?_
        refine Zn_iconst (nI 4) d_mo_parseInstruction_45 (by decide) ?_
        refine Zn_icmp_ne (tgt := 94) d_mo_parseInstruction_46 (by decide) (by omega) (by omega) (fun h46 => ?_) (fun h46 => ?_)
        · skip
          skip
          skip
          refine Z_vret d_mo_parseInstruction_94 rfl ?_
          have eP : pIns (s 5) (G 22) p = (none, r1) := by
            unfold pIns
            rw [hk]
            dsimp only
            rw [hP1]
          have hpf2 : piF i G G2 := hpf.row hR1 (by omega) (by omega) hbd1
          refine ⟨rfl, _, ?_, hpf2, ?_⟩
          · rw [eP]; exact hF
          · rw [eP]; exact (fun x z => by cases z)
        · skip
          skip
          refine Z_aload_n d_mo_parseInstruction_49 rfl ?_
          refine Z_get (v := .int (nI 1)) d_mo_parseInstruction_50 lf_mo_221 hF.1 rfl ?_
          refine Zn_if_ne (a := 1) (tgt := 62) d_mo_parseInstruction_53 (by decide) (by decide) (fun _ => ?_) (fun h => absurd h (by decide))
          refine Z_iload_n d_mo_parseInstruction_62 rfl ?_
          refine Zn_iconst (nI 4) d_mo_parseInstruction_63 (by decide) ?_
          refine Zn_icmp_ne (tgt := 84) d_mo_parseInstruction_64 (by decide) (by omega) (by omega) (fun h64 => ?_) (fun h64 => ?_)
          · skip
            skip
            refine Z_aload_n d_mo_parseInstruction_84 rfl ?_
            refine Z_get (v := .ref 132) d_mo_parseInstruction_85 lf_mo_34 hF.1 rfl ?_
            refine Z_iload_n d_mo_parseInstruction_88 rfl ?_
            refine Z_aload_n d_mo_parseInstruction_89 rfl ?_
            refine zV (As := []) (by omega) d_mo_parseInstruction_90 lm_mo_270 hF.1 rfl rfl (Nat.le_of_ble_eq_true rfl) (mo_parseNumber_no (d + 1) hF) (fun M1 v hq hlen => ?_)
            obtain ⟨rfl, hF⟩ := hq
            refine Zn_iast d_mo_parseInstruction_93 hF.a8 (by omega) (by omega) ?_
            replace hF := hF.p8 i 0
            skip
            refine Z_vret d_mo_parseInstruction_94 rfl ?_
            have eP : pIns (s 5) (G 22) p = (none, r1) := by
              unfold pIns
              rw [hk]
              dsimp only
              rw [hP1]
            have hpf2 : piF i G G2 := hpf.row hR1 (by omega) (by omega) hbd1
            refine ⟨rfl, _, ?_, (hpf2.num (y := 0)), ?_⟩
            · rw [eP]; exact hF
            · rw [eP]; exact (fun x z => by cases z)
          · skip
            skip
            refine Z_aload_n d_mo_parseInstruction_67 rfl ?_
            refine Z_aload_n d_mo_parseInstruction_68 rfl ?_
            refine Z_get (v := .ref 133) d_mo_parseInstruction_69 lf_mo_37 hF.1 rfl ?_
            refine Zn_bipush (nI 6) d_mo_parseInstruction_72 (by decide) ?_
            refine Z_iload_n d_mo_parseInstruction_74 rfl ?_
            refine Zn_imul d_mo_parseInstruction_75 ?_
            refine Zn_iconst (nI 3) d_mo_parseInstruction_76 (by decide) ?_
            refine Zn_iadd d_mo_parseInstruction_77 ?_
            refine zV (As := [.ref 133, .int (nI (6 * i + 3))]) (by omega) d_mo_parseInstruction_78 lm_mo_266 hF.1 rfl rfl (Nat.le_of_ble_eq_true rfl) (mo_parsePath_no9 d hF (f := 6 * i + 3) (by omega)) (fun M1 v hq hlen => ?_)
            obtain ⟨rfl, G3, hF, hR2⟩ := hq
            refine Z_goto (tgt := 94) d_mo_parseInstruction_81 (by decide) ?_
            skip
            refine Z_vret d_mo_parseInstruction_94 rfl ?_
            have eP : pIns (s 5) (G 22) p = (none, r1) := by
              unfold pIns
              rw [hk]
              dsimp only
              rw [hP1]
            have hpf2 : piF i G G2 := hpf.row hR1 (by omega) (by omega) hbd1
            have hpf3 : piF i G G3 := hpf2.row hR2 (by omega) (by omega) (by decide)
            refine ⟨rfl, _, ?_, hpf3, ?_⟩
            · rw [eP]; exact hF
            · rw [eP]; exact (fun x z => by cases z)
    · skip
      replace hF : FW M0 M1 (pst s r1 0) G2 := hF
      have hll1 : l1 = (a1, b1, c1) := hlb1 rfl
      refine Z_iload_n d_mo_parseInstruction_39 rfl ?_
      refine Zn_iconst (nI 2) d_mo_parseInstruction_40 (by decide) ?_
      refine Zn_icmp_le (tgt := 49) d_mo_parseInstruction_41 (by decide) (by omega) (by omega) (fun h41 => ?_) (fun h41 => ?_)
      · skip
        skip
        refine Z_aload_n d_mo_parseInstruction_49 rfl ?_
        refine Z_get (v := .int (nI 0)) d_mo_parseInstruction_50 lf_mo_221 hF.1 rfl ?_
        refine Zn_if_ne (a := 0) (tgt := 62) d_mo_parseInstruction_53 (by decide) (by decide) (fun h => absurd h (by decide)) (fun _ => ?_)
        refine Z_aload_n d_mo_parseInstruction_56 rfl ?_
        refine Zn_bipush (nI 32) d_mo_parseInstruction_57 (by decide) ?_
        refine zV (As := [.int (nI 32)]) (by omega) d_mo_parseInstruction_59 lm_mo_236 hF.1 rfl rfl (Nat.le_of_ble_eq_true rfl) (mo_expect_ok (p := r1) d hF h120 (by omega) (by rw [e22b]; exact hch) (by omega)) (fun M1 v hq hlen => ?_)
        rw [e22b] at hq
        obtain ⟨rfl, hF⟩ := hq
        rcases hx : tk (s 5) (G 22) r1 32 with _ | _
        · skip
          rw [hx, if_neg (by decide)] at hF
          refine Z_iload_n d_mo_parseInstruction_62 rfl ?_
          refine Zn_iconst (nI 4) d_mo_parseInstruction_63 (by decide) ?_
          refine Zn_icmp_ne (tgt := 84) d_mo_parseInstruction_64 (by decide) (by omega) (by omega) (fun h64 => ?_) (fun h64 => ?_)
          · skip
            skip
            refine Z_aload_n d_mo_parseInstruction_84 rfl ?_
            refine Z_get (v := .ref 132) d_mo_parseInstruction_85 lf_mo_34 hF.1 rfl ?_
            refine Z_iload_n d_mo_parseInstruction_88 rfl ?_
            refine Z_aload_n d_mo_parseInstruction_89 rfl ?_
            refine zV (As := []) (by omega) d_mo_parseInstruction_90 lm_mo_270 hF.1 rfl rfl (Nat.le_of_ble_eq_true rfl) (mo_parseNumber_no (d + 1) hF) (fun M1 v hq hlen => ?_)
            obtain ⟨rfl, hF⟩ := hq
            refine Zn_iast d_mo_parseInstruction_93 hF.a8 (by omega) (by omega) ?_
            replace hF := hF.p8 i 0
            skip
            refine Z_vret d_mo_parseInstruction_94 rfl ?_
            have eP : pIns (s 5) (G 22) p = (none, r1) := by
              unfold pIns
              rw [hk]
              dsimp only
              rw [hP1]
              dsimp only
              rw [if_neg (show ¬ (k = 3 ∨ k = 5) by omega)]
              rw [if_neg (by rw [hx]; decide)]
            have hpf2 : piF i G G2 := hpf.row hR1 (by omega) (by omega) hbd1
            refine ⟨rfl, _, ?_, (hpf2.num (y := 0)), ?_⟩
            · rw [eP]; exact hF
            · rw [eP]; exact (fun x z => by cases z)
          · skip
            skip
            refine Z_aload_n d_mo_parseInstruction_67 rfl ?_
            refine Z_aload_n d_mo_parseInstruction_68 rfl ?_
            refine Z_get (v := .ref 133) d_mo_parseInstruction_69 lf_mo_37 hF.1 rfl ?_
            refine Zn_bipush (nI 6) d_mo_parseInstruction_72 (by decide) ?_
            refine Z_iload_n d_mo_parseInstruction_74 rfl ?_
            refine Zn_imul d_mo_parseInstruction_75 ?_
            refine Zn_iconst (nI 3) d_mo_parseInstruction_76 (by decide) ?_
            refine Zn_iadd d_mo_parseInstruction_77 ?_
            refine zV (As := [.ref 133, .int (nI (6 * i + 3))]) (by omega) d_mo_parseInstruction_78 lm_mo_266 hF.1 rfl rfl (Nat.le_of_ble_eq_true rfl) (mo_parsePath_no9 d hF (f := 6 * i + 3) (by omega)) (fun M1 v hq hlen => ?_)
            obtain ⟨rfl, G3, hF, hR2⟩ := hq
            refine Z_goto (tgt := 94) d_mo_parseInstruction_81 (by decide) ?_
            skip
            refine Z_vret d_mo_parseInstruction_94 rfl ?_
            have eP : pIns (s 5) (G 22) p = (none, r1) := by
              unfold pIns
              rw [hk]
              dsimp only
              rw [hP1]
              dsimp only
              rw [if_neg (show ¬ (k = 3 ∨ k = 5) by omega)]
              rw [if_neg (by rw [hx]; decide)]
            have hpf2 : piF i G G2 := hpf.row hR1 (by omega) (by omega) hbd1
            have hpf3 : piF i G G3 := hpf2.row hR2 (by omega) (by omega) (by decide)
            refine ⟨rfl, _, ?_, hpf3, ?_⟩
            · rw [eP]; exact hF
            · rw [eP]; exact (fun x z => by cases z)
        · skip
          rw [hx, if_pos rfl] at hF
          have hxg := tk_iff.mp hx
          refine Z_iload_n d_mo_parseInstruction_62 rfl ?_
          refine Zn_iconst (nI 4) d_mo_parseInstruction_63 (by decide) ?_
          refine Zn_icmp_ne (tgt := 84) d_mo_parseInstruction_64 (by decide) (by omega) (by omega) (fun h64 => ?_) (fun h64 => ?_)
          · skip
            skip
            refine Z_aload_n d_mo_parseInstruction_84 rfl ?_
            refine Z_get (v := .ref 132) d_mo_parseInstruction_85 lf_mo_34 hF.1 rfl ?_
            refine Z_iload_n d_mo_parseInstruction_88 rfl ?_
            refine Z_aload_n d_mo_parseInstruction_89 rfl ?_
            refine zV (As := []) (by omega) d_mo_parseInstruction_90 lm_mo_270 hF.1 rfl rfl (Nat.le_of_ble_eq_true rfl) (mo_parseNumber_ok (p := (r1 + 1)) (d + 1) hF h120 (by omega) (by rw [e22b]; exact hch)) (fun M1 v hq hlen => ?_)
            rw [e22b] at hq
            obtain ⟨to, u, hT⟩ : ∃ to u, pTx (s 5) (G 22) (r1 + 1) = (to, u) := ⟨_, _, rfl⟩
            rw [hT] at hq
            obtain ⟨rfl, hF⟩ := hq
            replace hF : FW M0 M1 (pst s u (if to.isSome = true then 0 else 1)) G2 := hF
            rcases to with _ | t
            · skip
              replace hF : FW M0 M1 (pst s u 1) G2 := hF
              refine Zn_iast d_mo_parseInstruction_93 hF.a8 (by omega) (by omega) ?_
              replace hF := hF.p8 i 0
              skip
              refine Z_vret d_mo_parseInstruction_94 rfl ?_
              have eP : pIns (s 5) (G 22) p = (none, u) := by
                unfold pIns
                rw [hk]
                dsimp only
                rw [hP1]
                dsimp only
                rw [if_neg (show ¬ (k = 3 ∨ k = 5) by omega)]
                rw [if_pos hx]
                rw [if_neg (show ¬ k = 4 by omega), hT]
              have hpf2 : piF i G G2 := hpf.row hR1 (by omega) (by omega) hbd1
              refine ⟨rfl, _, ?_, (hpf2.num (y := 0)), ?_⟩
              · rw [eP]; exact hF
              · rw [eP]; exact (fun x z => by cases z)
            · skip
              replace hF : FW M0 M1 (pst s u 0) G2 := hF
              refine Zn_iast d_mo_parseInstruction_93 hF.a8 (by omega) (by omega) ?_
              replace hF := hF.p8 i t
              skip
              refine Z_vret d_mo_parseInstruction_94 rfl ?_
              have eP : pIns (s 5) (G 22) p = (some (k, l1, (0, 0, 0), t), u) := by
                unfold pIns
                rw [hk]
                dsimp only
                rw [hP1]
                dsimp only
                rw [if_neg (show ¬ (k = 3 ∨ k = 5) by omega)]
                rw [if_pos hx]
                rw [if_neg (show ¬ k = 4 by omega), hT]
              have hpf2 : piF i G G2 := hpf.row hR1 (by omega) (by omega) hbd1
              refine ⟨rfl, _, ?_, (hpf2.num (y := t)), ?_⟩
              · rw [eP]; exact hF
              · rw [eP]
                intro x z
                have z := Option.some.inj z
                subst z
                have k7 : G2 7 i = k + 1 := by rw [hR1.1 7 (by decide), hG1, gup_n (by decide), gup_s, nup_s]
                have k8 : G2 8 i = 0 := by rw [hR1.1 8 (by decide), hG1, gup_s, nup_s]
                rw [hll1]
                exact ⟨by rw [gup_n (by decide)]; exact k7, by rw [gup_s, nup_s], by rw [gup_n (by decide)]; exact hR1.2.2.1, by rw [gup_n (by decide)]; exact hR1.2.2.2.1, by rw [gup_n (by decide)]; exact hR1.2.2.2.2, fun z => absurd z (show ¬ k = 4 by omega)⟩
          · skip
            skip
            refine Z_aload_n d_mo_parseInstruction_67 rfl ?_
            refine Z_aload_n d_mo_parseInstruction_68 rfl ?_
            refine Z_get (v := .ref 133) d_mo_parseInstruction_69 lf_mo_37 hF.1 rfl ?_
            refine Zn_bipush (nI 6) d_mo_parseInstruction_72 (by decide) ?_
            refine Z_iload_n d_mo_parseInstruction_74 rfl ?_
            refine Zn_imul d_mo_parseInstruction_75 ?_
            refine Zn_iconst (nI 3) d_mo_parseInstruction_76 (by decide) ?_
            refine Zn_iadd d_mo_parseInstruction_77 ?_
            refine zV (As := [.ref 133, .int (nI (6 * i + 3))]) (by omega) d_mo_parseInstruction_78 lm_mo_266 hF.1 rfl rfl (Nat.le_of_ble_eq_true rfl) (mo_parsePath_9 (p := (r1 + 1)) d hF h120 (by omega) (by rw [e22b]; exact hch) (f := 6 * i + 3) (by omega)) (fun M1 v hq hlen => ?_)
            obtain ⟨rfl, G3, a2, b2, c2, hF, hR2, hbd2, hlb2⟩ := hq
            rw [e22b] at hF hlb2
            obtain ⟨ok2, l2, r2, hP2⟩ : ∃ ok l r, pPth (s 5) (G 22) (r1 + 1) = (ok, l, r) := ⟨_, _, _, rfl⟩
            have hpo2 := pPth_ok (len := s 5) (ch := G 22) (p := (r1 + 1)) (by omega)
            rw [hP2] at hF hlb2 hpo2
            have hrq2 : r1 + 1 ≤ r2 ∧ r2 ≤ s 5 := ⟨hpo2.1, hpo2.2.1⟩
            replace hF : FW M0 M1 (pst s r2 (if ok2 = true then 0 else 1)) G3 := hF
            rcases ok2 with _ | _
            · skip
              replace hF : FW M0 M1 (pst s r2 1) G3 := hF
              refine Z_goto (tgt := 94) d_mo_parseInstruction_81 (by decide) ?_
              skip
              refine Z_vret d_mo_parseInstruction_94 rfl ?_
              have eP : pIns (s 5) (G 22) p = (none, r2) := by
                unfold pIns
                rw [hk]
                dsimp only
                rw [hP1]
                dsimp only
                rw [if_neg (show ¬ (k = 3 ∨ k = 5) by omega)]
                rw [if_pos hx]
                rw [if_pos (show k = 4 by omega), hP2]
              have hpf2 : piF i G G2 := hpf.row hR1 (by omega) (by omega) hbd1
              have hpf3 : piF i G G3 := hpf2.row hR2 (by omega) (by omega) hbd2
              refine ⟨rfl, _, ?_, hpf3, ?_⟩
              · rw [eP]; exact hF
              · rw [eP]; exact (fun x z => by cases z)
            · skip
              replace hF : FW M0 M1 (pst s r2 0) G3 := hF
              have hll2 : l2 = (a2, b2, c2) := hlb2 rfl
              refine Z_goto (tgt := 94) d_mo_parseInstruction_81 (by decide) ?_
              skip
              refine Z_vret d_mo_parseInstruction_94 rfl ?_
              have eP : pIns (s 5) (G 22) p = (some (k, l1, l2, 0), r2) := by
                unfold pIns
                rw [hk]
                dsimp only
                rw [hP1]
                dsimp only
                rw [if_neg (show ¬ (k = 3 ∨ k = 5) by omega)]
                rw [if_pos hx]
                rw [if_pos (show k = 4 by omega), hP2]
              have hpf2 : piF i G G2 := hpf.row hR1 (by omega) (by omega) hbd1
              have hpf3 : piF i G G3 := hpf2.row hR2 (by omega) (by omega) hbd2
              refine ⟨rfl, _, ?_, hpf3, ?_⟩
              · rw [eP]; exact hF
              · rw [eP]
                intro x z
                have z := Option.some.inj z
                subst z
                have k7 : G2 7 i = k + 1 := by rw [hR1.1 7 (by decide), hG1, gup_n (by decide), gup_s, nup_s]
                have k8 : G2 8 i = 0 := by rw [hR1.1 8 (by decide), hG1, gup_s, nup_s]
                rw [hll1, hll2]
                exact ⟨by rw [hR2.1 7 (by decide)]; exact k7, by rw [hR2.1 8 (by decide)]; exact k8, by rw [hR2.2.1 _ (by omega)]; exact hR1.2.2.1, by rw [hR2.2.1 _ (by omega)]; exact hR1.2.2.2.1, by rw [hR2.2.1 _ (by omega)]; exact hR1.2.2.2.2, fun _ => ⟨hR2.2.2.1, hR2.2.2.2.1, hR2.2.2.2.2⟩⟩
      · skip
        skip
        refine Z_iload_n d_mo_parseInstruction_44 rfl ?_
        refine Zn_iconst (nI 4) d_mo_parseInstruction_45 (by decide) ?_
        refine Zn_icmp_ne (tgt := 94) d_mo_parseInstruction_46 (by decide) (by omega) (by omega) (fun h46 => ?_) (fun h46 => ?_)
        · skip
          skip
          skip
          refine Z_vret d_mo_parseInstruction_94 rfl ?_
          have eP : pIns (s 5) (G 22) p = (some (k, l1, (0, 0, 0), 0), r1) := by
            unfold pIns
            rw [hk]
            dsimp only
            rw [hP1]
            dsimp only
            rw [if_pos (by omega)]
          have hpf2 : piF i G G2 := hpf.row hR1 (by omega) (by omega) hbd1
          refine ⟨rfl, _, ?_, hpf2, ?_⟩
          · rw [eP]; exact hF
          · rw [eP]
            intro x z
            have z := Option.some.inj z
            subst z
            have k7 : G2 7 i = k + 1 := by rw [hR1.1 7 (by decide), hG1, gup_n (by decide), gup_s, nup_s]
            have k8 : G2 8 i = 0 := by rw [hR1.1 8 (by decide), hG1, gup_s, nup_s]
            rw [hll1]
            exact ⟨k7, k8, hR1.2.2.1, hR1.2.2.2.1, hR1.2.2.2.2, fun z => absurd z (show ¬ k = 4 by omega)⟩
        · skip
          skip
          refine Z_aload_n d_mo_parseInstruction_49 rfl ?_
          refine Z_get (v := .int (nI 0)) d_mo_parseInstruction_50 lf_mo_221 hF.1 rfl ?_
          refine Zn_if_ne (a := 0) (tgt := 62) d_mo_parseInstruction_53 (by decide) (by decide) (fun h => absurd h (by decide)) (fun _ => ?_)
          refine Z_aload_n d_mo_parseInstruction_56 rfl ?_
          refine Zn_bipush (nI 32) d_mo_parseInstruction_57 (by decide) ?_
          refine zV (As := [.int (nI 32)]) (by omega) d_mo_parseInstruction_59 lm_mo_236 hF.1 rfl rfl (Nat.le_of_ble_eq_true rfl) (mo_expect_ok (p := r1) d hF h120 (by omega) (by rw [e22b]; exact hch) (by omega)) (fun M1 v hq hlen => ?_)
          rw [e22b] at hq
          obtain ⟨rfl, hF⟩ := hq
          rcases hx : tk (s 5) (G 22) r1 32 with _ | _
          · skip
            rw [hx, if_neg (by decide)] at hF
            refine Z_iload_n d_mo_parseInstruction_62 rfl ?_
            refine Zn_iconst (nI 4) d_mo_parseInstruction_63 (by decide) ?_
            refine Zn_icmp_ne (tgt := 84) d_mo_parseInstruction_64 (by decide) (by omega) (by omega) (fun h64 => ?_) (fun h64 => ?_)
            · skip
              skip
              refine Z_aload_n d_mo_parseInstruction_84 rfl ?_
              refine Z_get (v := .ref 132) d_mo_parseInstruction_85 lf_mo_34 hF.1 rfl ?_
              refine Z_iload_n d_mo_parseInstruction_88 rfl ?_
              refine Z_aload_n d_mo_parseInstruction_89 rfl ?_
              refine zV (As := []) (by omega) d_mo_parseInstruction_90 lm_mo_270 hF.1 rfl rfl (Nat.le_of_ble_eq_true rfl) (mo_parseNumber_no (d + 1) hF) (fun M1 v hq hlen => ?_)
              obtain ⟨rfl, hF⟩ := hq
              refine Zn_iast d_mo_parseInstruction_93 hF.a8 (by omega) (by omega) ?_
              replace hF := hF.p8 i 0
              skip
              refine Z_vret d_mo_parseInstruction_94 rfl ?_
              have eP : pIns (s 5) (G 22) p = (none, r1) := by
                unfold pIns
                rw [hk]
                dsimp only
                rw [hP1]
                dsimp only
                rw [if_neg (show ¬ (k = 3 ∨ k = 5) by omega)]
                rw [if_neg (by rw [hx]; decide)]
              have hpf2 : piF i G G2 := hpf.row hR1 (by omega) (by omega) hbd1
              refine ⟨rfl, _, ?_, (hpf2.num (y := 0)), ?_⟩
              · rw [eP]; exact hF
              · rw [eP]; exact (fun x z => by cases z)
            · skip
              skip
              refine Z_aload_n d_mo_parseInstruction_67 rfl ?_
              refine Z_aload_n d_mo_parseInstruction_68 rfl ?_
              refine Z_get (v := .ref 133) d_mo_parseInstruction_69 lf_mo_37 hF.1 rfl ?_
              refine Zn_bipush (nI 6) d_mo_parseInstruction_72 (by decide) ?_
              refine Z_iload_n d_mo_parseInstruction_74 rfl ?_
              refine Zn_imul d_mo_parseInstruction_75 ?_
              refine Zn_iconst (nI 3) d_mo_parseInstruction_76 (by decide) ?_
              refine Zn_iadd d_mo_parseInstruction_77 ?_
              refine zV (As := [.ref 133, .int (nI (6 * i + 3))]) (by omega) d_mo_parseInstruction_78 lm_mo_266 hF.1 rfl rfl (Nat.le_of_ble_eq_true rfl) (mo_parsePath_no9 d hF (f := 6 * i + 3) (by omega)) (fun M1 v hq hlen => ?_)
              obtain ⟨rfl, G3, hF, hR2⟩ := hq
              refine Z_goto (tgt := 94) d_mo_parseInstruction_81 (by decide) ?_
              skip
              refine Z_vret d_mo_parseInstruction_94 rfl ?_
              have eP : pIns (s 5) (G 22) p = (none, r1) := by
                unfold pIns
                rw [hk]
                dsimp only
                rw [hP1]
                dsimp only
                rw [if_neg (show ¬ (k = 3 ∨ k = 5) by omega)]
                rw [if_neg (by rw [hx]; decide)]
              have hpf2 : piF i G G2 := hpf.row hR1 (by omega) (by omega) hbd1
              have hpf3 : piF i G G3 := hpf2.row hR2 (by omega) (by omega) (by decide)
              refine ⟨rfl, _, ?_, hpf3, ?_⟩
              · rw [eP]; exact hF
              · rw [eP]; exact (fun x z => by cases z)
          · skip
            rw [hx, if_pos rfl] at hF
            have hxg := tk_iff.mp hx
            refine Z_iload_n d_mo_parseInstruction_62 rfl ?_
            refine Zn_iconst (nI 4) d_mo_parseInstruction_63 (by decide) ?_
            refine Zn_icmp_ne (tgt := 84) d_mo_parseInstruction_64 (by decide) (by omega) (by omega) (fun h64 => ?_) (fun h64 => ?_)
            · skip
              skip
              refine Z_aload_n d_mo_parseInstruction_84 rfl ?_
              refine Z_get (v := .ref 132) d_mo_parseInstruction_85 lf_mo_34 hF.1 rfl ?_
              refine Z_iload_n d_mo_parseInstruction_88 rfl ?_
              refine Z_aload_n d_mo_parseInstruction_89 rfl ?_
              refine zV (As := []) (by omega) d_mo_parseInstruction_90 lm_mo_270 hF.1 rfl rfl (Nat.le_of_ble_eq_true rfl) (mo_parseNumber_ok (p := (r1 + 1)) (d + 1) hF h120 (by omega) (by rw [e22b]; exact hch)) (fun M1 v hq hlen => ?_)
              rw [e22b] at hq
              obtain ⟨to, u, hT⟩ : ∃ to u, pTx (s 5) (G 22) (r1 + 1) = (to, u) := ⟨_, _, rfl⟩
              rw [hT] at hq
              obtain ⟨rfl, hF⟩ := hq
              replace hF : FW M0 M1 (pst s u (if to.isSome = true then 0 else 1)) G2 := hF
              rcases to with _ | t
              · skip
                replace hF : FW M0 M1 (pst s u 1) G2 := hF
                refine Zn_iast d_mo_parseInstruction_93 hF.a8 (by omega) (by omega) ?_
                replace hF := hF.p8 i 0
                skip
                refine Z_vret d_mo_parseInstruction_94 rfl ?_
                have eP : pIns (s 5) (G 22) p = (none, u) := by
                  unfold pIns
                  rw [hk]
                  dsimp only
                  rw [hP1]
                  dsimp only
                  rw [if_neg (show ¬ (k = 3 ∨ k = 5) by omega)]
                  rw [if_pos hx]
                  rw [if_neg (show ¬ k = 4 by omega), hT]
                have hpf2 : piF i G G2 := hpf.row hR1 (by omega) (by omega) hbd1
                refine ⟨rfl, _, ?_, (hpf2.num (y := 0)), ?_⟩
                · rw [eP]; exact hF
                · rw [eP]; exact (fun x z => by cases z)
              · skip
                replace hF : FW M0 M1 (pst s u 0) G2 := hF
                refine Zn_iast d_mo_parseInstruction_93 hF.a8 (by omega) (by omega) ?_
                replace hF := hF.p8 i t
                skip
                refine Z_vret d_mo_parseInstruction_94 rfl ?_
                have eP : pIns (s 5) (G 22) p = (some (k, l1, (0, 0, 0), t), u) := by
                  unfold pIns
                  rw [hk]
                  dsimp only
                  rw [hP1]
                  dsimp only
                  rw [if_neg (show ¬ (k = 3 ∨ k = 5) by omega)]
                  rw [if_pos hx]
                  rw [if_neg (show ¬ k = 4 by omega), hT]
                have hpf2 : piF i G G2 := hpf.row hR1 (by omega) (by omega) hbd1
                refine ⟨rfl, _, ?_, (hpf2.num (y := t)), ?_⟩
                · rw [eP]; exact hF
                · rw [eP]
                  intro x z
                  have z := Option.some.inj z
                  subst z
                  have k7 : G2 7 i = k + 1 := by rw [hR1.1 7 (by decide), hG1, gup_n (by decide), gup_s, nup_s]
                  have k8 : G2 8 i = 0 := by rw [hR1.1 8 (by decide), hG1, gup_s, nup_s]
                  rw [hll1]
                  exact ⟨by rw [gup_n (by decide)]; exact k7, by rw [gup_s, nup_s], by rw [gup_n (by decide)]; exact hR1.2.2.1, by rw [gup_n (by decide)]; exact hR1.2.2.2.1, by rw [gup_n (by decide)]; exact hR1.2.2.2.2, fun z => absurd z (show ¬ k = 4 by omega)⟩
            · skip
              skip
              refine Z_aload_n d_mo_parseInstruction_67 rfl ?_
              refine Z_aload_n d_mo_parseInstruction_68 rfl ?_
              refine Z_get (v := .ref 133) d_mo_parseInstruction_69 lf_mo_37 hF.1 rfl ?_
              refine Zn_bipush (nI 6) d_mo_parseInstruction_72 (by decide) ?_
              refine Z_iload_n d_mo_parseInstruction_74 rfl ?_
              refine Zn_imul d_mo_parseInstruction_75 ?_
              refine Zn_iconst (nI 3) d_mo_parseInstruction_76 (by decide) ?_
              refine Zn_iadd d_mo_parseInstruction_77 ?_
              refine zV (As := [.ref 133, .int (nI (6 * i + 3))]) (by omega) d_mo_parseInstruction_78 lm_mo_266 hF.1 rfl rfl (Nat.le_of_ble_eq_true rfl) (mo_parsePath_9 (p := (r1 + 1)) d hF h120 (by omega) (by rw [e22b]; exact hch) (f := 6 * i + 3) (by omega)) (fun M1 v hq hlen => ?_)
              obtain ⟨rfl, G3, a2, b2, c2, hF, hR2, hbd2, hlb2⟩ := hq
              rw [e22b] at hF hlb2
              obtain ⟨ok2, l2, r2, hP2⟩ : ∃ ok l r, pPth (s 5) (G 22) (r1 + 1) = (ok, l, r) := ⟨_, _, _, rfl⟩
              have hpo2 := pPth_ok (len := s 5) (ch := G 22) (p := (r1 + 1)) (by omega)
              rw [hP2] at hF hlb2 hpo2
              have hrq2 : r1 + 1 ≤ r2 ∧ r2 ≤ s 5 := ⟨hpo2.1, hpo2.2.1⟩
              replace hF : FW M0 M1 (pst s r2 (if ok2 = true then 0 else 1)) G3 := hF
              rcases ok2 with _ | _
              · skip
                replace hF : FW M0 M1 (pst s r2 1) G3 := hF
                refine Z_goto (tgt := 94) d_mo_parseInstruction_81 (by decide) ?_
                skip
                refine Z_vret d_mo_parseInstruction_94 rfl ?_
                have eP : pIns (s 5) (G 22) p = (none, r2) := by
                  unfold pIns
                  rw [hk]
                  dsimp only
                  rw [hP1]
                  dsimp only
                  rw [if_neg (show ¬ (k = 3 ∨ k = 5) by omega)]
                  rw [if_pos hx]
                  rw [if_pos (show k = 4 by omega), hP2]
                have hpf2 : piF i G G2 := hpf.row hR1 (by omega) (by omega) hbd1
                have hpf3 : piF i G G3 := hpf2.row hR2 (by omega) (by omega) hbd2
                refine ⟨rfl, _, ?_, hpf3, ?_⟩
                · rw [eP]; exact hF
                · rw [eP]; exact (fun x z => by cases z)
              · skip
                replace hF : FW M0 M1 (pst s r2 0) G3 := hF
                have hll2 : l2 = (a2, b2, c2) := hlb2 rfl
                refine Z_goto (tgt := 94) d_mo_parseInstruction_81 (by decide) ?_
                skip
                refine Z_vret d_mo_parseInstruction_94 rfl ?_
                have eP : pIns (s 5) (G 22) p = (some (k, l1, l2, 0), r2) := by
                  unfold pIns
                  rw [hk]
                  dsimp only
                  rw [hP1]
                  dsimp only
                  rw [if_neg (show ¬ (k = 3 ∨ k = 5) by omega)]
                  rw [if_pos hx]
                  rw [if_pos (show k = 4 by omega), hP2]
                have hpf2 : piF i G G2 := hpf.row hR1 (by omega) (by omega) hbd1
                have hpf3 : piF i G G3 := hpf2.row hR2 (by omega) (by omega) hbd2
                refine ⟨rfl, _, ?_, hpf3, ?_⟩
                · rw [eP]; exact hF
                · rw [eP]
                  intro x z
                  have z := Option.some.inj z
                  subst z
                  have k7 : G2 7 i = k + 1 := by rw [hR1.1 7 (by decide), hG1, gup_n (by decide), gup_s, nup_s]
                  have k8 : G2 8 i = 0 := by rw [hR1.1 8 (by decide), hG1, gup_s, nup_s]
                  rw [hll1, hll2]
                  exact ⟨by rw [hR2.1 7 (by decide)]; exact k7, by rw [hR2.1 8 (by decide)]; exact k8, by rw [hR2.2.1 _ (by omega)]; exact hR1.2.2.1, by rw [hR2.2.1 _ (by omega)]; exact hR1.2.2.2.1, by rw [hR2.2.1 _ (by omega)]; exact hR1.2.2.2.2, fun _ => ⟨hR2.2.2.1, hR2.2.2.2.1, hR2.2.2.2.2⟩⟩
