/-! shelves and snapshots of the reference -/
theorem inI_sh {x : Int32} : inI x (nI 0) (nI 2) = hasP 3 x := inI_has (n := 3) (by decide)
theorem FW.row {M0 M : List zE} {s : Nat → Nat} {G : Nat → Nat → Nat} (h : FW M0 M s G) (a : Nat) (ha : a < 43) (f : Nat → Int32) (g : Nat → Nat) (hf : ∀ i, f i = moD a (g i)) : FW M0 (M.set (124 + a) (.inl (moT a, moN a, .inl f))) s (gset G a g) := by
  obtain ⟨h1, h2, h3⟩ := h
  refine ⟨(st_ne (by omega)).trans h1, fun b hb => ?_, h3.set (by omega) (by omega)⟩
  by_cases hab : b = a
  · subst hab
    rw [st_eq (h2 b hb), gset_s, show f = fun i => moD b (g i) from funext hf]
  · rw [st_ne (by omega), h2 b hb, gset_n hab]
def cpN (f g : Nat → Nat) (sp dp n : Nat) : Nat → Nat := fun k => if dp ≤ k ∧ k < dp + n then f (sp + (k - dp)) else g k
theorem cpN_d {D : Nat → Int32} {f g : Nat → Nat} {sp dp n : Nat} (i : Nat) : va_cpy (fun i => D (f i)) (fun i => D (g i)) sp dp n i = D (cpN f g sp dp n i) := by
  unfold va_cpy cpN
  split <;> rfl
set_option maxHeartbeats 4000000 in
theorem mo_isShelf_ok {Γ : zCtx} {M : List zE} (d : Nat) (x : Int32) : ZM Γ (d + 2) m_mo_isShelf [.int x] M (zEq M (some (.int (nI (if hasP 3 x = true then 1 else 0))))) := by
  refine ZM.of mk_mo_isShelf (Nat.le_of_ble_eq_true rfl) ?_
  refine Z_iload_n d_mo_isShelf_0 rfl ?_
  refine Zn_iconst (nI 0) d_mo_isShelf_1 (by decide) ?_
  refine Zn_iconst (nI 2) d_mo_isShelf_2 (by decide) ?_
  refine zTe (As := [.int x, .int (nI 0), .int (nI 2)]) (by omega) d_mo_isShelf_3 lm_mo_189 rfl (Nat.le_of_ble_eq_true rfl) (mo_in_ok d _ _ _) ?_
  rw [inI_sh]
  refine Z_zret d_mo_isShelf_6 rfl (by split <;> rfl) ?_
  exact ⟨rfl, rfl⟩
def nsR (j t l : Nat) (G G' : Nat → Nat → Nat) : Prop := G' 30 = nup (G 30) j (t + 1) ∧ G' 31 = nup (G 31) j l ∧ (∀ i, G' 32 i = if 10 * j ≤ i ∧ i < 10 * j + 10 then 0 else G 32 i) ∧ ∀ b, b ≠ 30 → b ≠ 31 → b ≠ 32 → G' b = G b
set_option maxHeartbeats 4000000 in
theorem mo_ns_loop {Γ : zCtx} (d : Nat) {M0 : List zE} {s : Nat → Nat} {G1 : Nat → Nat → Nat} {j : Nat} (hj : j < 3) {t l : Nat}  : ∀ (f : Nat) (k : Nat) (M : List zE) (G2 : Nat → Nat → Nat), k ≤ 10 → 10 < k + f → FW M0 M s G2 → (∀ b, b ≠ 32 → G2 b = G1 b) → (∀ i, G2 32 i = if 10 * j ≤ i ∧ i < 10 * j + k then 0 else G1 32 i) → ∀ Q : List zE → Option Value → Prop, (∀ M1 G3, FW M0 M1 s G3 → (∀ b, b ≠ 32 → G3 b = G1 b) → (∀ i, G3 32 i = if 10 * j ≤ i ∧ i < 10 * j + 10 then 0 else G1 32 i) → Q M1 (some (.int (nI 1)))) → Z Γ (zRm (d + 3) m_mo_newShelf) m_mo_newShelf (zPh Γ m_mo_newShelf Q) 0 0 49 [some (.ref 123), some (.int (nI j)), some (.int (nI t)), some (.int (nI l)), some (.int (nI k))] [] M := by
  intro f
  induction f with
  | zero => intro k M G2 hk hf; exact absurd hf (by omega)
  | succ f ih =>
    intro k M G2 hk hf hF h1 h2 Q hQ
    refine Z_iload d_mo_newShelf_49 rfl ?_
    refine Zn_bipush (nI 10) d_mo_newShelf_51 (by decide) ?_
    refine Zn_icmp_ge (tgt := 75) d_mo_newShelf_53 (by decide) (by omega) (by omega) (fun h53 => ?_) (fun h53 => ?_)
    · skip
      obtain rfl : k = 10 := by omega
      refine Zn_iconst (nI 1) d_mo_newShelf_75 (by decide) ?_
      refine Z_iret d_mo_newShelf_76 rfl ?_
      exact hQ _ G2 hF h1 h2
    · skip
      refine Z_aload_n d_mo_newShelf_56 rfl ?_
      refine Z_get (v := .ref 156) d_mo_newShelf_57 lf_mo_111 hF.1 rfl ?_
      refine Zn_bipush (nI 10) d_mo_newShelf_60 (by decide) ?_
      refine Z_iload_n d_mo_newShelf_62 rfl ?_
      refine Zn_imul d_mo_newShelf_63 ?_
      refine Z_iload d_mo_newShelf_64 rfl ?_
      refine Zn_iadd d_mo_newShelf_66 ?_
      refine Zn_iconst (-1) d_mo_newShelf_67 (by decide) ?_
      refine Zn_iast d_mo_newShelf_68 hF.a32 (by omega) (by omega) ?_
      replace hF := hF.p32 ((10 * j) + k) 0
      refine Zn_iinc [some (.ref 123), some (.int (nI j)), some (.int (nI t)), some (.int (nI l)), some (.int (nI (k + 1)))] (nI (k + 1)) d_mo_newShelf_69 rfl (by decide) (nI_add k 1) rfl ?_
      refine Z_goto (tgt := 49) d_mo_newShelf_72 (by decide) ?_
      refine ih (k + 1) _ _ (by omega) (by omega) hF (fun b hb => by rw [gup_n hb]; exact h1 b hb) (fun i => ?_) Q hQ
      rw [gup_s]
      by_cases e : i = 10 * j + k
      · rw [e, nup_s, if_pos (by omega)]
      · rw [nup_n e, h2 i]
        by_cases z : 10 * j ≤ i ∧ i < 10 * j + k
        · rw [if_pos z, if_pos (by omega)]
        · rw [if_neg z, if_neg (by omega)]
set_option maxHeartbeats 4000000 in
theorem mo_newShelf_ok {Γ : zCtx} {M : List zE} (d : Nat) {M0 : List zE} {s : Nat → Nat} {G : Nat → Nat → Nat} (hF : FW M0 M s G) (x y z : Int32)  : ZM Γ (d + 3) m_mo_newShelf [.ref 123, .int x, .int y, .int z] M (fun M1 v => v = some (.int (nwS x y z).1) ∧ match (nwS x y z).2 with | none => M1 = M | some q => ∃ G', FW M0 M1 s G' ∧ nsR q.1 q.2.1 q.2.2 G G') := by
  refine ZM.of mk_mo_newShelf (Nat.le_of_ble_eq_true rfl) ?_
  rw [show zEn [.ref 123, .int x, .int y, .int z] = [some (.ref 123), some (.int x), some (.int y), some (.int z)] from rfl]
  refine zPad 1 ?_
  show Z _ _ _ _ _ _ _ [some (.ref 123), some (.int x), some (.int y), some (.int z), none] _ _
  refine Z_iload_n d_mo_newShelf_0 rfl ?_
  refine zTe (As := [.int x]) (by omega) d_mo_newShelf_1 lm_mo_374 rfl (Nat.le_of_ble_eq_true rfl) (mo_isShelf_ok d x) ?_
  rcases hx : hasP 3 x with _ | _
  · skip
    refine Zn_if_eq (a := 0) (tgt := 22) d_mo_newShelf_4 (by decide) (by decide) (fun _ => ?_) (fun h => absurd h (by decide))
    refine Zn_bipush (-5) d_mo_newShelf_22 (by decide) ?_
    refine Z_iret d_mo_newShelf_24 rfl ?_
    have e : nwS x y z = (-5, none) := by unfold nwS; rw [if_neg (by rw [hx]; decide)]
    rw [e]
    exact ⟨rfl, rfl⟩
  · skip
    obtain ⟨j, hj1, hj2, rfl⟩ := hasP_t hx
    refine Zn_if_eq (a := 1) (tgt := 22) d_mo_newShelf_4 (by decide) (by decide) (fun h => absurd h (by decide)) (fun _ => ?_)
    refine Z_iload_n d_mo_newShelf_7 rfl ?_
    refine Zn_iconst (nI 0) d_mo_newShelf_8 (by decide) ?_
    refine Zn_iconst (nI 3) d_mo_newShelf_9 (by decide) ?_
    refine zTe (As := [.int y, .int (nI 0), .int (nI 3)]) (by omega) d_mo_newShelf_10 lm_mo_189 rfl (Nat.le_of_ble_eq_true rfl) (mo_in_ok d _ _ _) ?_
    rcases hy : inI y (nI 0) (nI 3) with _ | _
    · skip
      have hyn := of_decide_eq_false hy
      refine Zn_if_eq (a := 0) (tgt := 22) d_mo_newShelf_13 (by decide) (by decide) (fun _ => ?_) (fun h => absurd h (by decide))
      refine Zn_bipush (-5) d_mo_newShelf_22 (by decide) ?_
      refine Z_iret d_mo_newShelf_24 rfl ?_
      have e : nwS (nI j) y z = (-5, none) := by
        unfold nwS
        rw [if_pos hx]
        by_cases c : y < 0
        · rw [if_pos c]
        · rw [if_neg c, if_pos (Int32.not_le.mp (fun q => hyn ⟨c, q⟩))]
      rw [e]
      exact ⟨rfl, rfl⟩
    · skip
      have hyy := of_decide_eq_true hy
      obtain ⟨ey, hy9⟩ := i32_nn (x := y) hyy.1
      obtain ⟨t, ht⟩ : ∃ t, t = y.toNatClampNeg := ⟨_, rfl⟩
      rw [← ht] at ey hy9
      subst ey
      have ht3 : t ≤ 3 := (zn_le hy9 (by decide)).mp hyy.2
      have hy0 : ¬ nI t < 0 := hyy.1
      have hy3 : ¬ nI 3 < nI t := Int32.not_lt.mpr hyy.2
      refine Zn_if_eq (a := 1) (tgt := 22) d_mo_newShelf_13 (by decide) (by decide) (fun h => absurd h (by decide)) (fun _ => ?_)
      refine Z_iload_n d_mo_newShelf_16 rfl ?_
      refine Zn_bipush (nI 10) d_mo_newShelf_17 (by decide) ?_
      refine Z_icmp_le (tgt := 25) d_mo_newShelf_19 (by decide) (fun h19 => ?_) (fun h19 => ?_)
      · skip
        have hz10 : ¬ nI 10 < z := Int32.not_lt.mpr h19
        refine Z_iload_n d_mo_newShelf_25 rfl ?_
        refine Z_if_ge (tgt := 32) d_mo_newShelf_26 (by decide) (fun h26 => ?_) (fun h26 => ?_)
        · skip
          obtain ⟨ez, hz9⟩ := i32_nn (x := z) (Int32.not_lt.mpr h26)
          have hz0 : ¬ z < 0 := Int32.not_lt.mpr h26
          obtain ⟨l, hl⟩ : ∃ l, l = z.toNatClampNeg := ⟨_, rfl⟩
          rw [← hl] at ez hz9
          subst ez
          have hl10 : l ≤ 10 := by
            rcases Nat.lt_or_ge 10 l with y | y
            · exact absurd ((zn_lt (by decide) hz9).mpr y) hz10
            · exact y
          skip
          refine Z_aload_n d_mo_newShelf_32 rfl ?_
          refine Z_get (v := .ref 154) d_mo_newShelf_33 lf_mo_105 hF.1 rfl ?_
          refine Z_iload_n d_mo_newShelf_36 rfl ?_
          refine Z_iload_n d_mo_newShelf_37 rfl ?_
          refine Zn_iast d_mo_newShelf_38 hF.a30 (by omega) (by omega) ?_
          replace hF := hF.p30 j (t + 1)
          refine Z_aload_n d_mo_newShelf_39 rfl ?_
          refine Z_get (v := .ref 155) d_mo_newShelf_40 lf_mo_108 hF.1 rfl ?_
          refine Z_iload_n d_mo_newShelf_43 rfl ?_
          refine Z_iload_n d_mo_newShelf_44 rfl ?_
          refine Zn_iast d_mo_newShelf_45 hF.a31 (by omega) (by omega) ?_
          replace hF := hF.p31 j l
          refine Zn_iconst (nI 0) d_mo_newShelf_46 (by decide) ?_
          refine Zn_istore [some (.ref 123), some (.int (nI j)), some (.int (nI t)), some (.int (nI l)), some (.int (nI 0))] d_mo_newShelf_47 (by decide) rfl ?_
          refine mo_ns_loop d hj1 11 0 _ _ (by omega) (by omega) hF (fun _ _ => rfl) (fun i => by rw [if_neg (by omega)]) _ (fun M1 G3 a1 a2 a3 => ?_)
          have e : nwS (nI j) (nI t) (nI l) = (1, some (j, t, l)) := by unfold nwS; rw [if_pos hx, if_neg hy0, if_neg hy3, if_neg hz10, if_neg hz0, zn_cl hj2, zn_cl hy9, zn_cl hz9]
          rw [e]
          refine ⟨rfl, G3, a1, ?_, ?_, fun i => ?_, fun b b0 b1 b2 => ?_⟩
          · rw [a2 30 (by decide), gup_n (by decide), gup_s]
          · rw [a2 31 (by decide), gup_s, gup_n (by decide)]
          · rw [a3 i, gup_n (by decide), gup_n (by decide)]
          · rw [a2 b b2, gup_n b1, gup_n b0]
        · skip
          have hz0 : z < 0 := Int32.not_le.mp h26
          refine Zn_bipush (-14) d_mo_newShelf_29 (by decide) ?_
          refine Z_iret d_mo_newShelf_31 rfl ?_
          have e : nwS (nI j) (nI t) z = (-14, none) := by unfold nwS; rw [if_pos hx, if_neg hy0, if_neg hy3, if_neg hz10, if_pos hz0]
          rw [e]
          exact ⟨rfl, rfl⟩
      · skip
        have hz10 : nI 10 < z := Int32.not_le.mp h19
        refine Zn_bipush (-5) d_mo_newShelf_22 (by decide) ?_
        refine Z_iret d_mo_newShelf_24 rfl ?_
        have e : nwS (nI j) (nI t) z = (-5, none) := by unfold nwS; rw [if_pos hx, if_neg hy0, if_neg hy3, if_pos hz10]
        rw [e]
        exact ⟨rfl, rfl⟩
def rPl (n : Nat) (L ty ln : Nat → Nat) (sh i x : Int32) : Int32 × Option (Nat × Nat) := if hasP 3 sh = true then (if hasP n x = true then (if ty sh.toNatClampNeg ≠ 0 then (if hasP (ln sh.toNatClampNeg) i = true then (if ty sh.toNatClampNeg = 1 then (1, some (sh.toNatClampNeg, i.toNatClampNeg)) else if ty sh.toNatClampNeg = L x.toNatClampNeg + 1 then (1, some (sh.toNatClampNeg, i.toNatClampNeg)) else (-13, none)) else (-12, none)) else (-11, none)) else (-1, none)) else (-5, none)
def eI (x : Nat) : Int32 := if x = 0 then -11 else nI (x - 1)
def rSh (ty ln el : Nat → Nat) (sh i : Int32) : Int32 := if hasP 3 sh = true then (if ty sh.toNatClampNeg ≠ 0 then (if hasP (ln sh.toNatClampNeg) i = true then eI (el (10 * sh.toNatClampNeg + i.toNatClampNeg)) else -12) else -11) else -5
def rCp (ty ln : Nat → Nat) (sh to : Int32) : Int32 × Option (Nat × Nat) := if hasP 3 sh = true then (if hasP 3 to = true then (if ty sh.toNatClampNeg ≠ 0 then (nI (ln sh.toNatClampNeg), some (sh.toNatClampNeg, to.toNatClampNeg)) else (-11, none)) else (-5, none)) else (-5, none)
set_option maxHeartbeats 4000000 in
theorem mo_place_ok {Γ : zCtx} {M : List zE} (d : Nat) {M0 : List zE} {s : Nat → Nat} {G : Nat → Nat → Nat} (hF : FW M0 M s G) (hb30 : ∀ j, j < 3 → G 30 j ≤ 4) (hb31 : ∀ j, j < 3 → G 31 j ≤ 10) (h30 : s 0 ≤ 30) {L : Nat → Nat} (hL : lvOK (s 0) (G 0) L) (a q x : Int32)  : ZM Γ (d + 3) m_mo_place [.ref 123, .int a, .int q, .int x] M (fun M1 v => v = some (.int (rPl (s 0) L (G 30) (G 31) a q x).1) ∧ match (rPl (s 0) L (G 30) (G 31) a q x).2 with | none => M1 = M | some r => FW M0 M1 s (gup G 32 (10 * r.1 + r.2) (x.toNatClampNeg + 1))) := by
  refine ZM.of mk_mo_place (Nat.le_of_ble_eq_true rfl) ?_
  refine Z_iload_n d_mo_place_0 rfl ?_
  refine zTe (As := [.int a]) (by omega) d_mo_place_1 lm_mo_374 rfl (Nat.le_of_ble_eq_true rfl) (mo_isShelf_ok d a) ?_
  rcases ha : hasP 3 a with _ | _
  · skip
    refine Zn_if_ne (a := 0) (tgt := 10) d_mo_place_4 (by decide) (by decide) (fun h => absurd h (by decide)) (fun _ => ?_)
    refine Zn_bipush (-5) d_mo_place_7 (by decide) ?_
    refine Z_iret d_mo_place_9 rfl ?_
    have e : rPl (s 0) L (G 30) (G 31) a q x = (-5, none) := by unfold rPl; rw [if_neg (by rw [ha]; decide)]
    rw [e]
    exact ⟨rfl, rfl⟩
  · skip
    obtain ⟨j, hj1, hj2, rfl⟩ := hasP_t ha
    refine Zn_if_ne (a := 1) (tgt := 10) d_mo_place_4 (by decide) (by decide) (fun _ => ?_) (fun h => absurd h (by decide))
    refine Z_aload_n d_mo_place_10 rfl ?_
    refine Z_iload_n d_mo_place_11 rfl ?_
    refine zVe (As := [.int x]) (by omega) d_mo_place_12 lm_mo_193 hF.1 rfl rfl (Nat.le_of_ble_eq_true rfl) (mo_isOriginal_ok d hF rfl (by omega) x) ?_
    rcases hx : hasP (s 0) x with _ | _
    · skip
      refine Zn_if_ne (a := 0) (tgt := 20) d_mo_place_15 (by decide) (by decide) (fun h => absurd h (by decide)) (fun _ => ?_)
      refine Zn_iconst (-1) d_mo_place_18 (by decide) ?_
      refine Z_iret d_mo_place_19 rfl ?_
      have e : rPl (s 0) L (G 30) (G 31) (nI j) q x = (-1, none) := by unfold rPl; rw [if_pos ha, if_neg (by rw [hx]; decide)]
      rw [e]
      exact ⟨rfl, rfl⟩
    · skip
      obtain ⟨xx, hx1, hx2, rfl⟩ := hasP_t hx
      refine Zn_if_ne (a := 1) (tgt := 20) d_mo_place_15 (by decide) (by decide) (fun _ => ?_) (fun h => absurd h (by decide))
      refine Z_aload_n d_mo_place_20 rfl ?_
      refine Z_get (v := .ref 154) d_mo_place_21 lf_mo_105 hF.1 rfl ?_
      refine Z_iload_n d_mo_place_24 rfl ?_
      refine Zn_iald d_mo_place_25 hF.a30 (by omega) (by omega) ?_
      rcases hty : G 30 j with _ | ty
      · skip
        refine Z_if_ge (tgt := 32) d_mo_place_26 (by decide) (fun h26 => ?_) (fun h26 => ?_)
        · skip
          exact absurd h26 (by decide) -- end
        · skip
          skip
          refine Zn_bipush (-11) d_mo_place_29 (by decide) ?_
          refine Z_iret d_mo_place_31 rfl ?_
          have e : rPl (s 0) L (G 30) (G 31) (nI j) q (nI xx) = (-11, none) := by unfold rPl; rw [if_pos ha, if_pos hx, zn_cl hj2, if_neg (by rw [hty]; decide)]
          rw [e]
          exact ⟨rfl, rfl⟩
      · skip
        have hty4 := hb30 j hj1
        have hln4 := hb31 j hj1
        refine Z_if_ge (tgt := 32) d_mo_place_26 (by decide) (fun h26 => ?_) (fun h26 => ?_)
        · skip
          skip
          refine Z_iload_n d_mo_place_32 rfl ?_
          refine Zn_iconst (nI 0) d_mo_place_33 (by decide) ?_
          refine Z_aload_n d_mo_place_34 rfl ?_
          refine Z_get (v := .ref 155) d_mo_place_35 lf_mo_108 hF.1 rfl ?_
          refine Z_iload_n d_mo_place_38 rfl ?_
          refine Zn_iald d_mo_place_39 hF.a31 (by omega) (by omega) ?_
          refine Zn_iconst (nI 1) d_mo_place_40 (by decide) ?_
          refine Z_isub d_mo_place_41 ?_
          refine zTe (As := [.int q, .int (nI 0), .int (nI (G 31 j) - nI 1)]) (by omega) d_mo_place_42 lm_mo_189 rfl (Nat.le_of_ble_eq_true rfl) (mo_in_ok d _ _ _) ?_
          rw [inI_has (by omega)]
          rcases hq : hasP (G 31 j) q with _ | _
          · skip
            refine Zn_if_ne (a := 0) (tgt := 51) d_mo_place_45 (by decide) (by decide) (fun h => absurd h (by decide)) (fun _ => ?_)
            refine Zn_bipush (-12) d_mo_place_48 (by decide) ?_
            refine Z_iret d_mo_place_50 rfl ?_
            have e : rPl (s 0) L (G 30) (G 31) (nI j) q (nI xx) = (-12, none) := by unfold rPl; rw [if_pos ha, if_pos hx, zn_cl hj2, if_pos (by rw [hty]; omega), if_neg (by rw [hq]; decide)]
            rw [e]
            exact ⟨rfl, rfl⟩
          · skip
            obtain ⟨k, hk1, hk2, rfl⟩ := hasP_t hq
            refine Zn_if_ne (a := 1) (tgt := 51) d_mo_place_45 (by decide) (by decide) (fun _ => ?_) (fun h => absurd h (by decide))
            refine Z_aload_n d_mo_place_51 rfl ?_
            refine Z_get (v := .ref 154) d_mo_place_52 lf_mo_105 hF.1 rfl ?_
            refine Z_iload_n d_mo_place_55 rfl ?_
            refine Zn_iald d_mo_place_56 hF.a30 (by omega) (by omega) ?_
            rw [hty, mI_s]
            refine Zn_if_le (tgt := 77) d_mo_place_57 (by decide) (by omega) (fun h57 => ?_) (fun h57 => ?_)
            · skip
              refine Z_aload_n d_mo_place_77 rfl ?_
              refine Z_get (v := .ref 156) d_mo_place_78 lf_mo_111 hF.1 rfl ?_
              refine Zn_bipush (nI 10) d_mo_place_81 (by decide) ?_
              refine Z_iload_n d_mo_place_83 rfl ?_
              refine Zn_imul d_mo_place_84 ?_
              refine Z_iload_n d_mo_place_85 rfl ?_
              refine Zn_iadd d_mo_place_86 ?_
              refine Z_iload_n d_mo_place_87 rfl ?_
              refine Zn_iast d_mo_place_88 hF.a32 (by omega) (by omega) ?_
              replace hF := hF.p32 ((10 * j) + k) (xx + 1)
              refine Zn_iconst (nI 1) d_mo_place_89 (by decide) ?_
              refine Z_iret d_mo_place_90 rfl ?_
              have e : rPl (s 0) L (G 30) (G 31) (nI j) (nI k) (nI xx) = (1, some (j, k)) := by
                unfold rPl
                rw [if_pos ha, if_pos hx, zn_cl hj2, if_pos (by rw [hty]; omega), if_pos hq]
                rw [zn_cl hk2, zn_cl hx2]
                first | rw [if_pos (by omega)] | rw [if_neg (by omega), if_pos (by omega)]
              rw [e]
              exact ⟨rfl, by rw [zn_cl hx2]; exact hF⟩
            · skip
              refine Z_aload_n d_mo_place_60 rfl ?_
              refine Z_get (v := .ref 154) d_mo_place_61 lf_mo_105 hF.1 rfl ?_
              refine Z_iload_n d_mo_place_64 rfl ?_
              refine Zn_iald d_mo_place_65 hF.a30 (by omega) (by omega) ?_
              rw [hty, mI_s]
              refine Z_aload_n d_mo_place_66 rfl ?_
              refine Z_iload_n d_mo_place_67 rfl ?_
              refine zVe (As := [.int (nI xx)]) (by omega) d_mo_place_68 lm_mo_157 hF.1 rfl rfl (Nat.le_of_ble_eq_true rfl) (mo_levelOf_ok (n := s 0) d hF (by omega) hL hx1) ?_
              have hl3 := (hL xx hx1).1
              refine Zn_icmp_eq (tgt := 77) d_mo_place_71 (by decide) (by omega) (by omega) (fun h71 => ?_) (fun h71 => ?_)
              · skip
                refine Z_aload_n d_mo_place_77 rfl ?_
                refine Z_get (v := .ref 156) d_mo_place_78 lf_mo_111 hF.1 rfl ?_
                refine Zn_bipush (nI 10) d_mo_place_81 (by decide) ?_
                refine Z_iload_n d_mo_place_83 rfl ?_
                refine Zn_imul d_mo_place_84 ?_
                refine Z_iload_n d_mo_place_85 rfl ?_
                refine Zn_iadd d_mo_place_86 ?_
                refine Z_iload_n d_mo_place_87 rfl ?_
                refine Zn_iast d_mo_place_88 hF.a32 (by omega) (by omega) ?_
                replace hF := hF.p32 ((10 * j) + k) (xx + 1)
                refine Zn_iconst (nI 1) d_mo_place_89 (by decide) ?_
                refine Z_iret d_mo_place_90 rfl ?_
                have e : rPl (s 0) L (G 30) (G 31) (nI j) (nI k) (nI xx) = (1, some (j, k)) := by
                  unfold rPl
                  rw [if_pos ha, if_pos hx, zn_cl hj2, if_pos (by rw [hty]; omega), if_pos hq]
                  rw [zn_cl hk2, zn_cl hx2]
                  first | rw [if_pos (by omega)] | rw [if_neg (by omega), if_pos (by omega)]
                rw [e]
                exact ⟨rfl, by rw [zn_cl hx2]; exact hF⟩
              · skip
                refine Zn_bipush (-13) d_mo_place_74 (by decide) ?_
                refine Z_iret d_mo_place_76 rfl ?_
                have e : rPl (s 0) L (G 30) (G 31) (nI j) (nI k) (nI xx) = (-13, none) := by unfold rPl; rw [if_pos ha, if_pos hx, zn_cl hj2, if_pos (by rw [hty]; omega), if_pos hq, if_neg (by omega), zn_cl hx2, if_neg (by omega)]
                rw [e]
                exact ⟨rfl, rfl⟩
        · skip
          exact absurd (nI_pos' (by omega)) h26 -- end
set_option maxHeartbeats 4000000 in
theorem mo_shelved_ok {Γ : zCtx} {M : List zE} (d : Nat) {M0 : List zE} {s : Nat → Nat} {G : Nat → Nat → Nat} (hF : FW M0 M s G) (hb30 : ∀ j, j < 3 → G 30 j ≤ 4) (hb31 : ∀ j, j < 3 → G 31 j ≤ 10) (hb32 : ∀ i, G 32 i ≤ 100) (a q : Int32)  : ZM Γ (d + 3) m_mo_shelved [.ref 123, .int a, .int q] M (zEq M (some (.int (rSh (G 30) (G 31) (G 32) a q)))) := by
  refine ZM.of mk_mo_shelved (Nat.le_of_ble_eq_true rfl) ?_
  rw [show zEn [.ref 123, .int a, .int q] = [some (.ref 123), some (.int a), some (.int q)] from rfl]
  refine zPad 1 ?_
  show Z _ _ _ _ _ _ _ [some (.ref 123), some (.int a), some (.int q), none] _ _
  refine Z_iload_n d_mo_shelved_0 rfl ?_
  refine zTe (As := [.int a]) (by omega) d_mo_shelved_1 lm_mo_374 rfl (Nat.le_of_ble_eq_true rfl) (mo_isShelf_ok d a) ?_
  rcases ha : hasP 3 a with _ | _
  · skip
    refine Zn_if_ne (a := 0) (tgt := 10) d_mo_shelved_4 (by decide) (by decide) (fun h => absurd h (by decide)) (fun _ => ?_)
    refine Zn_bipush (-5) d_mo_shelved_7 (by decide) ?_
    refine Z_iret d_mo_shelved_9 rfl ?_
    have e : rSh (G 30) (G 31) (G 32) a q = -5 := by unfold rSh; rw [if_neg (by rw [ha]; decide)]
    rw [e]
    exact ⟨rfl, rfl⟩
  · skip
    obtain ⟨j, hj1, hj2, rfl⟩ := hasP_t ha
    refine Zn_if_ne (a := 1) (tgt := 10) d_mo_shelved_4 (by decide) (by decide) (fun _ => ?_) (fun h => absurd h (by decide))
    refine Z_aload_n d_mo_shelved_10 rfl ?_
    refine Z_get (v := .ref 154) d_mo_shelved_11 lf_mo_105 hF.1 rfl ?_
    refine Z_iload_n d_mo_shelved_14 rfl ?_
    refine Zn_iald d_mo_shelved_15 hF.a30 (by omega) (by omega) ?_
    rcases hty : G 30 j with _ | ty
    · skip
      refine Z_if_ge (tgt := 22) d_mo_shelved_16 (by decide) (fun h16 => ?_) (fun h16 => ?_)
      · skip
        exact absurd h16 (by decide) -- end
      · skip
        skip
        refine Zn_bipush (-11) d_mo_shelved_19 (by decide) ?_
        refine Z_iret d_mo_shelved_21 rfl ?_
        have e : rSh (G 30) (G 31) (G 32) (nI j) q = -11 := by unfold rSh; rw [if_pos ha, zn_cl hj2, if_neg (by rw [hty]; decide)]
        rw [e]
        exact ⟨rfl, rfl⟩
    · skip
      have hty4 := hb30 j hj1
      have hln4 := hb31 j hj1
      refine Z_if_ge (tgt := 22) d_mo_shelved_16 (by decide) (fun h16 => ?_) (fun h16 => ?_)
      · skip
        skip
        refine Z_iload_n d_mo_shelved_22 rfl ?_
        refine Zn_iconst (nI 0) d_mo_shelved_23 (by decide) ?_
        refine Z_aload_n d_mo_shelved_24 rfl ?_
        refine Z_get (v := .ref 155) d_mo_shelved_25 lf_mo_108 hF.1 rfl ?_
        refine Z_iload_n d_mo_shelved_28 rfl ?_
        refine Zn_iald d_mo_shelved_29 hF.a31 (by omega) (by omega) ?_
        refine Zn_iconst (nI 1) d_mo_shelved_30 (by decide) ?_
        refine Z_isub d_mo_shelved_31 ?_
        refine zTe (As := [.int q, .int (nI 0), .int (nI (G 31 j) - nI 1)]) (by omega) d_mo_shelved_32 lm_mo_189 rfl (Nat.le_of_ble_eq_true rfl) (mo_in_ok d _ _ _) ?_
        rw [inI_has (by omega)]
        rcases hq : hasP (G 31 j) q with _ | _
        · skip
          refine Zn_if_ne (a := 0) (tgt := 41) d_mo_shelved_35 (by decide) (by decide) (fun h => absurd h (by decide)) (fun _ => ?_)
          refine Zn_bipush (-12) d_mo_shelved_38 (by decide) ?_
          refine Z_iret d_mo_shelved_40 rfl ?_
          have e : rSh (G 30) (G 31) (G 32) (nI j) q = -12 := by unfold rSh; rw [if_pos ha, zn_cl hj2, if_pos (by rw [hty]; omega), if_neg (by rw [hq]; decide)]
          rw [e]
          exact ⟨rfl, rfl⟩
        · skip
          obtain ⟨k, hk1, hk2, rfl⟩ := hasP_t hq
          refine Zn_if_ne (a := 1) (tgt := 41) d_mo_shelved_35 (by decide) (by decide) (fun _ => ?_) (fun h => absurd h (by decide))
          refine Z_aload_n d_mo_shelved_41 rfl ?_
          refine Z_get (v := .ref 156) d_mo_shelved_42 lf_mo_111 hF.1 rfl ?_
          refine Zn_bipush (nI 10) d_mo_shelved_45 (by decide) ?_
          refine Z_iload_n d_mo_shelved_47 rfl ?_
          refine Zn_imul d_mo_shelved_48 ?_
          refine Z_iload_n d_mo_shelved_49 rfl ?_
          refine Zn_iadd d_mo_shelved_50 ?_
          refine Zn_iald d_mo_shelved_51 hF.a32 (by omega) (by omega) ?_
          have hx9 := hb32 (10 * j + k)
          rcases hel : G 32 (10 * j + k) with _ | x
          · skip
            refine Zn_istore_n [some (.ref 123), some (.int (nI j)), some (.int (nI k)), some (.int (-1))] d_mo_shelved_52 (by decide) rfl ?_
            refine Z_iload_n d_mo_shelved_53 rfl ?_
            refine Z_if_ge (tgt := 62) d_mo_shelved_54 (by decide) (fun h54 => ?_) (fun h54 => ?_)
            · skip
              exact absurd h54 (by decide) -- end
            · skip
              skip
              refine Zn_bipush (-11) d_mo_shelved_57 (by decide) ?_
              refine Z_goto (tgt := 63) d_mo_shelved_59 (by decide) ?_
              refine Z_iret d_mo_shelved_63 rfl ?_
              have e : rSh (G 30) (G 31) (G 32) (nI j) (nI k) = eI (G 32 (10 * j + k)) := by unfold rSh; rw [if_pos ha, zn_cl hj2, if_pos (by rw [hty]; omega), if_pos hq, zn_cl hk2]
              rw [e]
              rw [hel]
              exact ⟨rfl, rfl⟩
          · skip
            refine Zn_istore_n [some (.ref 123), some (.int (nI j)), some (.int (nI k)), some (.int (nI x))] d_mo_shelved_52 (by decide) rfl ?_
            refine Z_iload_n d_mo_shelved_53 rfl ?_
            refine Z_if_ge (tgt := 62) d_mo_shelved_54 (by decide) (fun h54 => ?_) (fun h54 => ?_)
            · skip
              skip
              refine Z_iload_n d_mo_shelved_62 rfl ?_
              refine Z_iret d_mo_shelved_63 rfl ?_
              have e : rSh (G 30) (G 31) (G 32) (nI j) (nI k) = eI (G 32 (10 * j + k)) := by unfold rSh; rw [if_pos ha, zn_cl hj2, if_pos (by rw [hty]; omega), if_pos hq, zn_cl hk2]
              rw [e]
              rw [hel]
              exact ⟨rfl, rfl⟩
            · skip
              exact absurd (nI_pos' (by omega)) h54 -- end
      · skip
        exact absurd (nI_pos' (by omega)) h16 -- end
theorem nup_self {f : Nat → Nat} {j k : Nat} : nup f k (f j) j = f j := by
  by_cases h : j = k
  · rw [h, nup_s]
  · rw [nup_n h]
set_option maxHeartbeats 4000000 in
theorem mo_copyShelf_ok {Γ : zCtx} {M : List zE} (d : Nat) {M0 : List zE} {s : Nat → Nat} {G : Nat → Nat → Nat} (hF : FW M0 M s G) (hb30 : ∀ j, j < 3 → G 30 j ≤ 4) (hb31 : ∀ j, j < 3 → G 31 j ≤ 10) (a q : Int32)  : ZM Γ (d + 3) m_mo_copyShelf [.ref 123, .int a, .int q] M (fun M1 v => v = some (.int (rCp (G 30) (G 31) a q).1) ∧ match (rCp (G 30) (G 31) a q).2 with | none => M1 = M | some r => FW M0 M1 s (gset (gup (gup G 30 r.2 (G 30 r.1)) 31 r.2 (G 31 r.1)) 32 (cpN (G 32) (G 32) (10 * r.1) (10 * r.2) 10))) := by
  refine ZM.of mk_mo_copyShelf (Nat.le_of_ble_eq_true rfl) ?_
  refine Z_iload_n d_mo_copyShelf_0 rfl ?_
  refine zTe (As := [.int a]) (by omega) d_mo_copyShelf_1 lm_mo_374 rfl (Nat.le_of_ble_eq_true rfl) (mo_isShelf_ok d a) ?_
  rcases ha : hasP 3 a with _ | _
  · skip
    refine Zn_if_eq (a := 0) (tgt := 14) d_mo_copyShelf_4 (by decide) (by decide) (fun _ => ?_) (fun h => absurd h (by decide))
    refine Zn_bipush (-5) d_mo_copyShelf_14 (by decide) ?_
    refine Z_iret d_mo_copyShelf_16 rfl ?_
    have e : rCp (G 30) (G 31) a q = (-5, none) := by unfold rCp; rw [if_neg (by rw [ha]; decide)]
    rw [e]
    exact ⟨rfl, rfl⟩
  · skip
    obtain ⟨j, hj1, hj2, rfl⟩ := hasP_t ha
    refine Zn_if_eq (a := 1) (tgt := 14) d_mo_copyShelf_4 (by decide) (by decide) (fun h => absurd h (by decide)) (fun _ => ?_)
    refine Z_iload_n d_mo_copyShelf_7 rfl ?_
    refine zTe (As := [.int q]) (by omega) d_mo_copyShelf_8 lm_mo_374 rfl (Nat.le_of_ble_eq_true rfl) (mo_isShelf_ok d q) ?_
    rcases hq : hasP 3 q with _ | _
    · skip
      refine Zn_if_ne (a := 0) (tgt := 17) d_mo_copyShelf_11 (by decide) (by decide) (fun h => absurd h (by decide)) (fun _ => ?_)
      refine Zn_bipush (-5) d_mo_copyShelf_14 (by decide) ?_
      refine Z_iret d_mo_copyShelf_16 rfl ?_
      have e : rCp (G 30) (G 31) (nI j) q = (-5, none) := by unfold rCp; rw [if_pos ha, if_neg (by rw [hq]; decide)]
      rw [e]
      exact ⟨rfl, rfl⟩
    · skip
      obtain ⟨k, hk1, hk2, rfl⟩ := hasP_t hq
      refine Zn_if_ne (a := 1) (tgt := 17) d_mo_copyShelf_11 (by decide) (by decide) (fun _ => ?_) (fun h => absurd h (by decide))
      refine Z_aload_n d_mo_copyShelf_17 rfl ?_
      refine Z_get (v := .ref 154) d_mo_copyShelf_18 lf_mo_105 hF.1 rfl ?_
      refine Z_iload_n d_mo_copyShelf_21 rfl ?_
      refine Zn_iald d_mo_copyShelf_22 hF.a30 (by omega) (by omega) ?_
      rcases hty : G 30 j with _ | ty
      · skip
        refine Z_if_ge (tgt := 29) d_mo_copyShelf_23 (by decide) (fun h23 => ?_) (fun h23 => ?_)
        · skip
          exact absurd h23 (by decide) -- end
        · skip
          skip
          refine Zn_bipush (-11) d_mo_copyShelf_26 (by decide) ?_
          refine Z_iret d_mo_copyShelf_28 rfl ?_
          have e : rCp (G 30) (G 31) (nI j) (nI k) = (-11, none) := by unfold rCp; rw [if_pos ha, if_pos hq, zn_cl hj2, if_neg (by rw [hty]; decide)]
          rw [e]
          exact ⟨rfl, rfl⟩
      · skip
        have hty4 := hb30 j hj1
        have hln4 := hb31 j hj1
        refine Z_if_ge (tgt := 29) d_mo_copyShelf_23 (by decide) (fun h23 => ?_) (fun h23 => ?_)
        · skip
          skip
          refine Z_aload_n d_mo_copyShelf_29 rfl ?_
          refine Z_get (v := .ref 154) d_mo_copyShelf_30 lf_mo_105 hF.1 rfl ?_
          refine Z_iload_n d_mo_copyShelf_33 rfl ?_
          refine Z_aload_n d_mo_copyShelf_34 rfl ?_
          refine Z_get (v := .ref 154) d_mo_copyShelf_35 lf_mo_105 hF.1 rfl ?_
          refine Z_iload_n d_mo_copyShelf_38 rfl ?_
          refine Zn_iald d_mo_copyShelf_39 hF.a30 (by omega) (by omega) ?_
          rw [hty, mI_s]
          refine Zn_iast d_mo_copyShelf_40 hF.a30 (by omega) (by omega) ?_
          replace hF := hF.p30 k (ty + 1)
          refine Z_aload_n d_mo_copyShelf_41 rfl ?_
          refine Z_get (v := .ref 155) d_mo_copyShelf_42 lf_mo_108 hF.1 rfl ?_
          refine Z_iload_n d_mo_copyShelf_45 rfl ?_
          refine Z_aload_n d_mo_copyShelf_46 rfl ?_
          refine Z_get (v := .ref 155) d_mo_copyShelf_47 lf_mo_108 hF.1 rfl ?_
          refine Z_iload_n d_mo_copyShelf_50 rfl ?_
          refine Zn_iald d_mo_copyShelf_51 hF.a31 (by omega) (by omega) ?_
          rw [gup_n (by decide)]
          refine Zn_iast d_mo_copyShelf_52 hF.a31 (by omega) (by omega) ?_
          replace hF := hF.p31 k (G 31 j)
          refine Z_aload_n d_mo_copyShelf_53 rfl ?_
          refine Z_get (v := .ref 156) d_mo_copyShelf_54 lf_mo_111 hF.1 rfl ?_
          refine Zn_bipush (nI 10) d_mo_copyShelf_57 (by decide) ?_
          refine Z_iload_n d_mo_copyShelf_59 rfl ?_
          refine Zn_imul d_mo_copyShelf_60 ?_
          refine Z_aload_n d_mo_copyShelf_61 rfl ?_
          refine Z_get (v := .ref 156) d_mo_copyShelf_62 lf_mo_111 hF.1 rfl ?_
          refine Zn_bipush (nI 10) d_mo_copyShelf_65 (by decide) ?_
          refine Z_iload_n d_mo_copyShelf_67 rfl ?_
          refine Zn_imul d_mo_copyShelf_68 ?_
          refine Zn_bipush (nI 10) d_mo_copyShelf_69 (by decide) ?_
          refine zCpi (sp := 10 * j) (dp := 10 * k) (n := 10) (by omega) d_mo_copyShelf_71 lc_mo_377 hF.a32 hF.a32 (by omega) (by omega) (by decide) (by decide) (Nat.le_of_ble_eq_true rfl) ?_
          replace hF := hF.row 32 (by decide) (va_cpy (fun i => mI (gup (gup G 30 k (ty + 1)) 31 k (G 31 j) 32 i)) (fun i => mI (gup (gup G 30 k (ty + 1)) 31 k (G 31 j) 32 i)) (10 * j) (10 * k) 10) (cpN (G 32) (G 32) (10 * j) (10 * k) 10) (fun i => cpN_d (D := mI) (f := G 32) (g := G 32) i)
          refine Z_aload_n d_mo_copyShelf_74 rfl ?_
          refine Z_get (v := .ref 155) d_mo_copyShelf_75 lf_mo_108 hF.1 rfl ?_
          refine Z_iload_n d_mo_copyShelf_78 rfl ?_
          refine Zn_iald d_mo_copyShelf_79 hF.a31 (by omega) (by omega) ?_
          rw [gset_n (by decide), gup_s, gup_n (by decide), nup_self]
          refine Z_iret d_mo_copyShelf_80 rfl ?_
          have e : rCp (G 30) (G 31) (nI j) (nI k) = (nI (G 31 j), some (j, k)) := by unfold rCp; rw [if_pos ha, if_pos hq, zn_cl hj2, zn_cl hk2, if_pos (by rw [hty]; omega)]
          rw [e]
          refine ⟨rfl, ?_⟩
          show FW M0 _ s (gset (gup (gup G 30 k (G 30 j)) 31 k (G 31 j)) 32 (cpN (G 32) (G 32) (10 * j) (10 * k) 10))
          rw [hty]
          exact hF
        · skip
          exact absurd (nI_pos' (by omega)) h23 -- end
