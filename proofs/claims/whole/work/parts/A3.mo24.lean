/-! find -/
theorem pPth_lok {len : Nat} {ch : Nat → Nat} {p a b c : Nat} (hp : p ≤ len) (h1 : (pPth len ch p).1 = true) (h2 : (pPth len ch p).2.1 = (a, b, c)) : lok a b c := by
  have ok := pPth_ok (len := len) (ch := ch) hp
  have h19 := (ok.2.2.2.2.2 h1).2
  have z : (pPth len ch p).2.1.2.1 = 0 → (pPth len ch p).2.1.2.2 = 0 := by
    unfold pPth
    intro hz
    split at hz
    · rename_i c1; rw [if_pos c1]
    · rename_i c1
      rw [if_neg c1]
      split at hz
      · rename_i c2
        rw [if_pos c2]
        split at hz
        · rename_i c3; rw [if_pos c3]
        · rename_i c3
          rw [if_neg c3]
          split at hz
          · rename_i c4
            rw [if_pos c4]
            split at hz
            · rename_i c5
              rw [if_pos c5]
              split at hz
              · rename_i c6; rw [if_pos c6]
              · rename_i c6
                rw [if_neg c6]
                split at hz
                · exact absurd hz c3
                · rename_i c7; rw [if_neg c7]
            · rename_i c5; rw [if_neg c5]
          · rename_i c4; rw [if_neg c4]
      · rename_i c2; rw [if_neg c2]
  rw [h2] at ok h19 z
  dsimp only at ok h19 z
  exact ⟨⟨by omega, by omega⟩, by omega, by omega, z⟩
/-- what reading leaves of a version -/
theorem RO.rd {S : vSt} {n0 : Nat} {s s' : Nat → Nat} {G G' : Nat → Nat → Nat} (h : RO S n0 s G) (hs : ∀ j, (j = 2 ∨ j = 3 ∨ j = 4) → s' j = s j) (hg : ∀ b, b ≠ 25 → G' b = G b) : RO S n0 s' G' := by
  obtain ⟨K, h1, h2, h3, h4, h5⟩ := h
  have e2 := hs 2 (by decide)
  refine ⟨K, ?_, ?_, ?_, ?_, ?_⟩
  · rw [e2]; exact h1.same (fun b _ b2 v _ => by rw [hg b (by omega)]) (fun _ _ => rfl)
  · rw [hs 3 (by decide)]; exact h2
  · rw [hs 4 (by decide)]; exact h3
  · rw [hg 19 (by decide), hg 20 (by decide), hg 21 (by decide)]; exact h4
  · unfold od at h5 ⊢
    rw [e2, hg 18 (by decide), hg 17 (by decide)]; exact h5
theorem RO.lk {S : vSt} {n0 : Nat} {s : Nat → Nat} {G : Nat → Nat → Nat} (h : RO S n0 s G) {a b c : Nat} (hl : lok a b c) : (posK S.1 S.2.1 (kk a b c) = none ∧ lkU G (s 2) a b c = none) ∨ ∃ i v, posK S.1 S.2.1 (kk a b c) = some i ∧ lkU G (s 2) a b c = some v ∧ i < S.1 ∧ v < s 2 ∧ G 18 i = v ∧ ∀ j, j < i → G 18 j ≠ v := by
  obtain ⟨K, h1, h2, h3, h4, h5⟩ := h
  rcases h1.1.look hl with z | ⟨i, v, z1, z2, z3, z4, z5, z6, z7⟩
  · exact Or.inl z
  · right
    have o := h5 i z3
    have e18 : G 18 i = v := h1.1.2.2.2.2.1.2 _ _ o.1 z4 o.2.1 z5 (by rw [o.2.2, z6.1])
    refine ⟨i, v, z1, z2, z3, z4, e18, fun j hj y => ?_⟩
    have oj := h5 j (by omega)
    have lt := h1.2 j i hj z3
    rw [← oj.2.2, ← o.2.2, e18, y] at lt
    omega
theorem RO.nb {S : vSt} {n0 : Nat} {s : Nat → Nat} {G : Nat → Nat → Nat} (h : RO S n0 s G) : nB (s 2) G := by
  obtain ⟨K, h1, _⟩ := h
  exact h1.1.2.2.2.2.2.1
set_option maxHeartbeats 4000000 in
theorem mo_find_ok {Γ : zCtx} {M : List zE} (d : Nat) {M0 : List zE} {s : Nat → Nat} {G : Nat → Nat → Nat} (hF : FW M0 M s G) {m : Nat} {dy sz kd pt gl : Nat → Nat} {tx : Nat → Int32} {n : Nat} {e : Nat → zEnt} {K : Nat → Nat} {y : Nat} {S1 : vSt} (hV : vHy m dy sz kd pt gl tx s G n e K y S1) (h120 : s 5 ≤ 120) (hch : ∀ i, G 22 i ≤ 126)  : ZM Γ (d + 8) m_mo_find [.ref 123, .int (mI y)] M (fun M1 v => v = some (.int (fnA (s 5) (G 22) S1)) ∧ ∃ s' G', FW M0 M1 s' G' ∧ s' 5 = 0 ∧ (∀ j, (j ≤ 1 ∨ 11 ≤ j) → s' j = s j) ∧ ∀ b, (b < 10 ∨ b = 22 ∨ 30 ≤ b) → G' b = G b) := by
  refine ZM.of mk_mo_find (Nat.le_of_ble_eq_true rfl) ?_
  rw [show zEn [.ref 123, .int (mI y)] = [some (.ref 123), some (.int (mI y))] from rfl]
  refine zPad 3 ?_
  show Z _ _ _ _ _ _ _ [some (.ref 123), some (.int (mI y)), none, none, none] _ _
  refine Z_aload_n d_mo_find_0 rfl ?_
  refine Z_iload_n d_mo_find_1 rfl ?_
  refine zV (As := [.int (mI y)]) (by omega) d_mo_find_2 lm_mo_313 hF.1 rfl rfl (Nat.le_of_ble_eq_true rfl) (mo_compute_v d hF hV) (fun M1 v hq hlen => ?_)
  obtain ⟨rfl, s1, G1, hF, hRO, hc⟩ := hq
  have hnn := hRO.nn
  have h120 := hV.2.2.2.2.2.1
  refine Zn_istore_n [some (.ref 123), some (.int (mI y)), some (.int (nI 1)), none, none] d_mo_find_5 (by decide) rfl ?_
  refine Z_aload_n d_mo_find_6 rfl ?_
  refine Zn_iconst (nI 0) d_mo_find_7 (by decide) ?_
  refine Z_puti d_mo_find_8 lf_mo_218 hF.1 rfl rfl (Nat.le_of_ble_eq_true rfl) ?_
  replace hF := hF.u7 0
  refine Z_aload_n d_mo_find_11 rfl ?_
  refine Zn_iconst (nI 0) d_mo_find_12 (by decide) ?_
  refine Z_putz d_mo_find_13 lf_mo_221 hF.1 rfl rfl (by first | exact Or.inl rfl | exact Or.inr rfl) (Nat.le_of_ble_eq_true rfl) ?_
  replace hF := hF.u8 0
  refine Z_aload_n d_mo_find_16 rfl ?_
  refine Z_aload_n d_mo_find_17 rfl ?_
  refine Z_get (v := .ref 149) d_mo_find_18 lf_mo_86 hF.1 rfl ?_
  refine Zn_iconst (nI 0) d_mo_find_21 (by decide) ?_
  skip
  have hc5 : s1 5 = s 5 := hc.1 5 (by decide) (by decide) (by decide) (by decide)
  have hc22 : G1 22 = G 22 := hc.2 22 (by decide) (by decide)
  refine zV (As := [.ref 149, .int (nI 0)]) (by omega) d_mo_find_22 lm_mo_266 hF.1 rfl rfl (Nat.le_of_ble_eq_true rfl) (mo_parsePath_25 (s := s1) (p := 0) d hF (by omega) (by omega) (by rw [hc22]; exact hch) (f := 0) (by omega)) (fun M1 v hq hlen => ?_)
  obtain ⟨rfl, G2, a, b, c, hF, hR, hbd, hlb⟩ := hq
  rw [hc5, hc22] at hF hlb
  have hpo := pPth_ok (len := s 5) (ch := G 22) (p := 0) (by omega)
  have hlo : (pPth (s 5) (G 22) 0).1 = true → lok a b c := fun z => pPth_lok (by omega) z (hlb z)
  have hky := pKey_0 (len := s 5) (ch := G 22) (p := 0) (by omega)
  have hpo2 : (pPth (s 5) (G 22) 0).2.2 ≤ s 5 := hpo.2.1
  have hk3 : (pPth (s 5) (G 22) 0).1 = true → pKey (s 5) (G 22) 0 = kk a b c := fun z => by rw [pKey_k3, hlb z]; rfl
  rw [← pKey_k3] at hky
  have honly : pOnly (s 5) (G 22) = if s 5 ≤ (pPth (s 5) (G 22) 0).2.2 then pKey (s 5) (G 22) 0 else 0 := rfl
  generalize pKey (s 5) (G 22) 0 = kk0 at hky hk3 honly
  generalize hAt : (pPth (s 5) (G 22) 0).2.2 = q at hF hpo2 honly
  rcases hB : (pPth (s 5) (G 22) 0).1 with _ | _
  skip
  · skip
    rw [hB] at hF hky hlo hk3
    replace hF : FW M0 M1 (pst s1 q 1) G2 := hF
    have hk0 : kk0 = 0 := hky.mpr rfl
    refine Z_aload_n d_mo_find_25 rfl ?_
    refine Z_get (v := .int (nI 1)) d_mo_find_26 lf_mo_221 hF.1 rfl ?_
    refine Zn_if_ne (a := 1) (tgt := 47) d_mo_find_29 (by decide) (by decide) (fun _ => ?_) (fun h => absurd h (by decide))
    refine Zn_iconst (nI 0) d_mo_find_47 (by decide) ?_
    refine Zn_istore_n [some (.ref 123), some (.int (mI y)), some (.int (nI 1)), some (.int (nI 0)), none] d_mo_find_48 (by decide) rfl ?_
    refine Z_aload_n d_mo_find_49 rfl ?_
    refine Zn_iconst (nI 0) d_mo_find_50 (by decide) ?_
    refine Z_puti d_mo_find_51 lf_mo_215 hF.1 rfl rfl (Nat.le_of_ble_eq_true rfl) ?_
    replace hF := hF.u5 0
    refine Z_iload_n d_mo_find_54 rfl ?_
    refine Zn_if_ne (a := 1) (tgt := 61) d_mo_find_55 (by decide) (by decide) (fun _ => ?_) (fun h => absurd h (by decide))
    refine Z_iload_n d_mo_find_61 rfl ?_
    refine Zn_if_ne (a := 0) (tgt := 74) d_mo_find_62 (by decide) (by decide) (fun h => absurd h (by decide)) (fun _ => ?_)
    refine Zn_sipush (-1000) d_mo_find_65 (by decide) ?_
    refine Z_aload_n d_mo_find_68 rfl ?_
    refine Z_get (v := .int (nI q)) d_mo_find_69 lf_mo_218 hF.1 rfl ?_
    refine Z_isub d_mo_find_72 ?_
    refine Z_iret d_mo_find_73 rfl ?_
    have e0 : pOnly (s 5) (G 22) = 0 := by
      rw [honly]
      first | (rw [hk0]; split <;> rfl) | (rw [if_neg (by omega)])
    have eA : fnA (s 5) (G 22) S1 = -1000 - nI q := by unfold fnA; rw [if_pos e0, hAt]
    rw [eA]
    refine ⟨rfl, _, G2, hF, nup_s, fun j hj => ?_, fun b hb => ?_⟩
    · rw [nup_n (by omega)]; unfold pst; rw [nup_n (by omega), nup_n (by omega)]; exact hc.1 j (by omega) (by omega) (by omega) (by omega)
    · rw [hR.1 b (by omega)]; exact hc.2 b (by omega) (by omega)
  · skip
    rw [hB] at hF hky hlo hk3
    replace hF : FW M0 M1 (pst s1 q 0) G2 := hF
    have hk0 : ¬ kk0 = 0 := fun z => by cases hky.mp z
    refine Z_aload_n d_mo_find_25 rfl ?_
    refine Z_get (v := .int (nI 0)) d_mo_find_26 lf_mo_221 hF.1 rfl ?_
    refine Zn_if_ne (a := 0) (tgt := 47) d_mo_find_29 (by decide) (by decide) (fun h => absurd h (by decide)) (fun _ => ?_)
    refine Z_aload_n d_mo_find_32 rfl ?_
    refine Z_get (v := .int (nI q)) d_mo_find_33 lf_mo_218 hF.1 rfl ?_
    refine Z_aload_n d_mo_find_36 rfl ?_
    refine Z_get (v := .int (nI (s1 5))) d_mo_find_37 lf_mo_215 hF.1 rfl ?_
    refine Zn_icmp_ne (tgt := 47) d_mo_find_40 (by decide) (by omega) (by omega) (fun h40 => ?_) (fun h40 => ?_)
    · skip
      skip
      refine Zn_iconst (nI 0) d_mo_find_47 (by decide) ?_
      refine Zn_istore_n [some (.ref 123), some (.int (mI y)), some (.int (nI 1)), some (.int (nI 0)), none] d_mo_find_48 (by decide) rfl ?_
      refine Z_aload_n d_mo_find_49 rfl ?_
      refine Zn_iconst (nI 0) d_mo_find_50 (by decide) ?_
      refine Z_puti d_mo_find_51 lf_mo_215 hF.1 rfl rfl (Nat.le_of_ble_eq_true rfl) ?_
      replace hF := hF.u5 0
      refine Z_iload_n d_mo_find_54 rfl ?_
      refine Zn_if_ne (a := 1) (tgt := 61) d_mo_find_55 (by decide) (by decide) (fun _ => ?_) (fun h => absurd h (by decide))
      refine Z_iload_n d_mo_find_61 rfl ?_
      refine Zn_if_ne (a := 0) (tgt := 74) d_mo_find_62 (by decide) (by decide) (fun h => absurd h (by decide)) (fun _ => ?_)
      refine Zn_sipush (-1000) d_mo_find_65 (by decide) ?_
      refine Z_aload_n d_mo_find_68 rfl ?_
      refine Z_get (v := .int (nI q)) d_mo_find_69 lf_mo_218 hF.1 rfl ?_
      refine Z_isub d_mo_find_72 ?_
      refine Z_iret d_mo_find_73 rfl ?_
      have e0 : pOnly (s 5) (G 22) = 0 := by
        rw [honly]
        first | (rw [hk0]; split <;> rfl) | (rw [if_neg (by omega)])
      have eA : fnA (s 5) (G 22) S1 = -1000 - nI q := by unfold fnA; rw [if_pos e0, hAt]
      rw [eA]
      refine ⟨rfl, _, G2, hF, nup_s, fun j hj => ?_, fun b hb => ?_⟩
      · rw [nup_n (by omega)]; unfold pst; rw [nup_n (by omega), nup_n (by omega)]; exact hc.1 j (by omega) (by omega) (by omega) (by omega)
      · rw [hR.1 b (by omega)]; exact hc.2 b (by omega) (by omega)
    · skip
      refine Zn_iconst (nI 1) d_mo_find_43 (by decide) ?_
      refine Z_goto (tgt := 48) d_mo_find_44 (by decide) ?_
      refine Zn_istore_n [some (.ref 123), some (.int (mI y)), some (.int (nI 1)), some (.int (nI 1)), none] d_mo_find_48 (by decide) rfl ?_
      refine Z_aload_n d_mo_find_49 rfl ?_
      refine Zn_iconst (nI 0) d_mo_find_50 (by decide) ?_
      refine Z_puti d_mo_find_51 lf_mo_215 hF.1 rfl rfl (Nat.le_of_ble_eq_true rfl) ?_
      replace hF := hF.u5 0
      refine Z_iload_n d_mo_find_54 rfl ?_
      refine Zn_if_ne (a := 1) (tgt := 61) d_mo_find_55 (by decide) (by decide) (fun _ => ?_) (fun h => absurd h (by decide))
      refine Z_iload_n d_mo_find_61 rfl ?_
      refine Zn_if_ne (a := 1) (tgt := 74) d_mo_find_62 (by decide) (by decide) (fun _ => ?_) (fun h => absurd h (by decide))
      have hlok := hlo rfl
      have hRO2 : RO S1 n (nup (pst s1 q 0) 5 0) G2 := hRO.rd (fun j hj => by rw [nup_n (by omega)]; unfold pst; rw [nup_n (by omega), nup_n (by omega)]) (fun b hb => hR.1 b hb)
      refine Z_aload_n d_mo_find_74 rfl ?_
      refine Z_aload_n d_mo_find_75 rfl ?_
      refine Z_get (v := .ref 149) d_mo_find_76 lf_mo_86 hF.1 rfl ?_
      refine Zn_iconst (nI 0) d_mo_find_79 (by decide) ?_
      refine zVe (As := [.ref 149, .int (nI 0)]) (by omega) d_mo_find_80 lm_mo_288 hF.1 rfl rfl (Nat.le_of_ble_eq_true rfl) (mo_lookUp_ok (d + 1) hF hRO2.nb hF.a25 (f := 0) (by omega) (by omega) hR.2.2.1 hR.2.2.2.1 hR.2.2.2.2 hbd.1 hbd.2.1 hbd.2.2) ?_
      have hnn2 := hRO2.nn
      rcases hRO2.lk hlok with ⟨hp1, hp2⟩ | ⟨i, v, hp1, hp2, hv1, hv3, hv4, hv5⟩
      · skip
        rw [hp2]
        refine Zn_istore [some (.ref 123), some (.int (mI y)), some (.int (nI 1)), some (.int (nI 1)), some (.int (-1))] d_mo_find_83 (by decide) rfl ?_
        refine Z_iload d_mo_find_85 rfl ?_
        refine Z_if_ge (tgt := 95) d_mo_find_87 (by decide) (fun h87 => ?_) (fun h87 => ?_)
        · skip
          exact absurd h87 (by decide) -- end
        · skip
          skip
          refine Zn_bipush (-9) d_mo_find_90 (by decide) ?_
          refine Z_goto (tgt := 101) d_mo_find_92 (by decide) ?_
          refine Z_iret d_mo_find_101 rfl ?_
          have e0 : pOnly (s 5) (G 22) = kk a b c := by rw [honly, if_pos (by omega), hk3 rfl]
          have eA : fnA (s 5) (G 22) S1 = -9 := by unfold fnA; rw [if_neg (by rw [e0, ← hk3 rfl]; exact hk0), e0, hp1]; rfl
          rw [eA]
          refine ⟨rfl, _, G2, hF, nup_s, fun j hj => ?_, fun b hb => ?_⟩
          · rw [nup_n (by omega)]; unfold pst; rw [nup_n (by omega), nup_n (by omega)]; exact hc.1 j (by omega) (by omega) (by omega) (by omega)
          · rw [hR.1 b (by omega)]; exact hc.2 b (by omega) (by omega)
      · skip
        rw [hp2]
        refine Zn_istore [some (.ref 123), some (.int (mI y)), some (.int (nI 1)), some (.int (nI 1)), some (.int (nI v))] d_mo_find_83 (by decide) rfl ?_
        refine Z_iload d_mo_find_85 rfl ?_
        refine Z_if_ge (tgt := 95) d_mo_find_87 (by decide) (fun h87 => ?_) (fun h87 => ?_)
        · skip
          skip
          refine Z_aload_n d_mo_find_95 rfl ?_
          refine Z_iload d_mo_find_96 rfl ?_
          refine zVe (As := [.int (nI v)]) (by omega) d_mo_find_98 lm_mo_331 hF.1 rfl rfl (Nat.le_of_ble_eq_true rfl) (mo_positionOf_ok d hF (by omega) hv4 hv5 (fun j hj => (hRO2.at (show j < S1.1 by omega)).1)) ?_
          refine Z_iret d_mo_find_101 rfl ?_
          have e0 : pOnly (s 5) (G 22) = kk a b c := by rw [honly, if_pos (by omega), hk3 rfl]
          have eA : fnA (s 5) (G 22) S1 = nI i := by unfold fnA; rw [if_neg (by rw [e0, ← hk3 rfl]; exact hk0), e0, hp1]; rfl
          rw [eA]
          refine ⟨rfl, _, G2, hF, nup_s, fun j hj => ?_, fun b hb => ?_⟩
          · rw [nup_n (by omega)]; unfold pst; rw [nup_n (by omega), nup_n (by omega)]; exact hc.1 j (by omega) (by omega) (by omega) (by omega)
          · rw [hR.1 b (by omega)]; exact hc.2 b (by omega) (by omega)
        · skip
          exact absurd (nI_pos' (by omega)) h87 -- end
set_option maxHeartbeats 4000000 in
theorem mo_find_no {Γ : zCtx} {M : List zE} (d : Nat) {M0 : List zE} {s : Nat → Nat} {G : Nat → Nat → Nat} (hF : FW M0 M s G) {x : Int32} (hno : dOk x = false) (h120 : s 5 ≤ 120) (hch : ∀ i, G 22 i ≤ 126)  : ZM Γ (d + 8) m_mo_find [.ref 123, .int x] M (fun M1 v => v = some (.int (-4)) ∧ ∃ s' G', FW M0 M1 s' G' ∧ s' 5 = 0 ∧ (∀ j, (j ≤ 1 ∨ 11 ≤ j) → s' j = s j) ∧ ∀ b, (b < 10 ∨ b = 22 ∨ 30 ≤ b) → G' b = G b) := by
  refine ZM.of mk_mo_find (Nat.le_of_ble_eq_true rfl) ?_
  rw [show zEn [.ref 123, .int x] = [some (.ref 123), some (.int x)] from rfl]
  refine zPad 3 ?_
  show Z _ _ _ _ _ _ _ [some (.ref 123), some (.int x), none, none, none] _ _
  refine Z_aload_n d_mo_find_0 rfl ?_
  refine Z_iload_n d_mo_find_1 rfl ?_
  refine zVe (As := [.int x]) (by omega) d_mo_find_2 lm_mo_313 hF.1 rfl rfl (Nat.le_of_ble_eq_true rfl) (mo_compute_no d hF hno) ?_
  refine Zn_istore_n [some (.ref 123), some (.int x), some (.int (nI 0)), none, none] d_mo_find_5 (by decide) rfl ?_
  refine Z_aload_n d_mo_find_6 rfl ?_
  refine Zn_iconst (nI 0) d_mo_find_7 (by decide) ?_
  refine Z_puti d_mo_find_8 lf_mo_218 hF.1 rfl rfl (Nat.le_of_ble_eq_true rfl) ?_
  replace hF := hF.u7 0
  refine Z_aload_n d_mo_find_11 rfl ?_
  refine Zn_iconst (nI 0) d_mo_find_12 (by decide) ?_
  refine Z_putz d_mo_find_13 lf_mo_221 hF.1 rfl rfl (by first | exact Or.inl rfl | exact Or.inr rfl) (Nat.le_of_ble_eq_true rfl) ?_
  replace hF := hF.u8 0
  refine Z_aload_n d_mo_find_16 rfl ?_
  refine Z_aload_n d_mo_find_17 rfl ?_
  refine Z_get (v := .ref 149) d_mo_find_18 lf_mo_86 hF.1 rfl ?_
  refine Zn_iconst (nI 0) d_mo_find_21 (by decide) ?_
  skip
  have hc5 : s 5 = s 5 := rfl
  have hc22 : G 22 = G 22 := rfl
  refine zV (As := [.ref 149, .int (nI 0)]) (by omega) d_mo_find_22 lm_mo_266 hF.1 rfl rfl (Nat.le_of_ble_eq_true rfl) (mo_parsePath_25 (s := s) (p := 0) d hF (by omega) (by omega) (by rw [hc22]; exact hch) (f := 0) (by omega)) (fun M1 v hq hlen => ?_)
  obtain ⟨rfl, G2, a, b, c, hF, hR, hbd, hlb⟩ := hq
  rw [hc5, hc22] at hF hlb
  have hpo := pPth_ok (len := s 5) (ch := G 22) (p := 0) (by omega)
  have hlo : (pPth (s 5) (G 22) 0).1 = true → lok a b c := fun z => pPth_lok (by omega) z (hlb z)
  have hky := pKey_0 (len := s 5) (ch := G 22) (p := 0) (by omega)
  have hpo2 : (pPth (s 5) (G 22) 0).2.2 ≤ s 5 := hpo.2.1
  have hk3 : (pPth (s 5) (G 22) 0).1 = true → pKey (s 5) (G 22) 0 = kk a b c := fun z => by rw [pKey_k3, hlb z]; rfl
  rw [← pKey_k3] at hky
  have honly : pOnly (s 5) (G 22) = if s 5 ≤ (pPth (s 5) (G 22) 0).2.2 then pKey (s 5) (G 22) 0 else 0 := rfl
  generalize pKey (s 5) (G 22) 0 = kk0 at hky hk3 honly
  generalize hAt : (pPth (s 5) (G 22) 0).2.2 = q at hF hpo2 honly
  rcases hB : (pPth (s 5) (G 22) 0).1 with _ | _
  skip
  · skip
    rw [hB] at hF hky hlo hk3
    replace hF : FW M0 M1 (pst s q 1) G2 := hF
    have hk0 : kk0 = 0 := hky.mpr rfl
    refine Z_aload_n d_mo_find_25 rfl ?_
    refine Z_get (v := .int (nI 1)) d_mo_find_26 lf_mo_221 hF.1 rfl ?_
    refine Zn_if_ne (a := 1) (tgt := 47) d_mo_find_29 (by decide) (by decide) (fun _ => ?_) (fun h => absurd h (by decide))
    refine Zn_iconst (nI 0) d_mo_find_47 (by decide) ?_
    refine Zn_istore_n [some (.ref 123), some (.int x), some (.int (nI 0)), some (.int (nI 0)), none] d_mo_find_48 (by decide) rfl ?_
    refine Z_aload_n d_mo_find_49 rfl ?_
    refine Zn_iconst (nI 0) d_mo_find_50 (by decide) ?_
    refine Z_puti d_mo_find_51 lf_mo_215 hF.1 rfl rfl (Nat.le_of_ble_eq_true rfl) ?_
    replace hF := hF.u5 0
    refine Z_iload_n d_mo_find_54 rfl ?_
    refine Zn_if_ne (a := 0) (tgt := 61) d_mo_find_55 (by decide) (by decide) (fun h => absurd h (by decide)) (fun _ => ?_)
    refine Zn_bipush (-4) d_mo_find_58 (by decide) ?_
    refine Z_iret d_mo_find_60 rfl ?_
    refine ⟨rfl, _, G2, hF, nup_s, fun j hj => ?_, fun b hb => ?_⟩
    · rw [nup_n (by omega)]; unfold pst; rw [nup_n (by omega), nup_n (by omega)]
    · rw [hR.1 b (by omega)]
  · skip
    rw [hB] at hF hky hlo hk3
    replace hF : FW M0 M1 (pst s q 0) G2 := hF
    have hk0 : ¬ kk0 = 0 := fun z => by cases hky.mp z
    refine Z_aload_n d_mo_find_25 rfl ?_
    refine Z_get (v := .int (nI 0)) d_mo_find_26 lf_mo_221 hF.1 rfl ?_
    refine Zn_if_ne (a := 0) (tgt := 47) d_mo_find_29 (by decide) (by decide) (fun h => absurd h (by decide)) (fun _ => ?_)
    refine Z_aload_n d_mo_find_32 rfl ?_
    refine Z_get (v := .int (nI q)) d_mo_find_33 lf_mo_218 hF.1 rfl ?_
    refine Z_aload_n d_mo_find_36 rfl ?_
    refine Z_get (v := .int (nI (s 5))) d_mo_find_37 lf_mo_215 hF.1 rfl ?_
    refine Zn_icmp_ne (tgt := 47) d_mo_find_40 (by decide) (by omega) (by omega) (fun h40 => ?_) (fun h40 => ?_)
    · skip
      skip
      refine Zn_iconst (nI 0) d_mo_find_47 (by decide) ?_
      refine Zn_istore_n [some (.ref 123), some (.int x), some (.int (nI 0)), some (.int (nI 0)), none] d_mo_find_48 (by decide) rfl ?_
      refine Z_aload_n d_mo_find_49 rfl ?_
      refine Zn_iconst (nI 0) d_mo_find_50 (by decide) ?_
      refine Z_puti d_mo_find_51 lf_mo_215 hF.1 rfl rfl (Nat.le_of_ble_eq_true rfl) ?_
      replace hF := hF.u5 0
      refine Z_iload_n d_mo_find_54 rfl ?_
      refine Zn_if_ne (a := 0) (tgt := 61) d_mo_find_55 (by decide) (by decide) (fun h => absurd h (by decide)) (fun _ => ?_)
      refine Zn_bipush (-4) d_mo_find_58 (by decide) ?_
      refine Z_iret d_mo_find_60 rfl ?_
      refine ⟨rfl, _, G2, hF, nup_s, fun j hj => ?_, fun b hb => ?_⟩
      · rw [nup_n (by omega)]; unfold pst; rw [nup_n (by omega), nup_n (by omega)]
      · rw [hR.1 b (by omega)]
    · skip
      refine Zn_iconst (nI 1) d_mo_find_43 (by decide) ?_
      refine Z_goto (tgt := 48) d_mo_find_44 (by decide) ?_
      refine Zn_istore_n [some (.ref 123), some (.int x), some (.int (nI 0)), some (.int (nI 1)), none] d_mo_find_48 (by decide) rfl ?_
      refine Z_aload_n d_mo_find_49 rfl ?_
      refine Zn_iconst (nI 0) d_mo_find_50 (by decide) ?_
      refine Z_puti d_mo_find_51 lf_mo_215 hF.1 rfl rfl (Nat.le_of_ble_eq_true rfl) ?_
      replace hF := hF.u5 0
      refine Z_iload_n d_mo_find_54 rfl ?_
      refine Zn_if_ne (a := 0) (tgt := 61) d_mo_find_55 (by decide) (by decide) (fun h => absurd h (by decide)) (fun _ => ?_)
      refine Zn_bipush (-4) d_mo_find_58 (by decide) ?_
      refine Z_iret d_mo_find_60 rfl ?_
      refine ⟨rfl, _, G2, hF, nup_s, fun j hj => ?_, fun b hb => ?_⟩
      · rw [nup_n (by omega)]; unfold pst; rw [nup_n (by omega), nup_n (by omega)]
      · rw [hR.1 b (by omega)]
