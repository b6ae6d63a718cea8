/-! children and labels in the reference -/
theorem mI_inj {x y : Nat} (hx : x ≤ 1000) (hy : y ≤ 1000) : mI x = mI y ↔ x = y := by
  unfold mI
  by_cases h1 : x = 0
  · rw [if_pos h1]
    by_cases h2 : y = 0
    · rw [if_pos h2]; exact ⟨fun _ => by omega, fun _ => rfl⟩
    · rw [if_neg h2]
      exact ⟨fun z => absurd z.symm (zn_m1 (by omega)), fun z => by omega⟩
  · rw [if_neg h1]
    by_cases h2 : y = 0
    · rw [if_pos h2]
      exact ⟨fun z => absurd z (zn_m1 (by omega)), fun z => by omega⟩
    · rw [if_neg h2, zn_eq (by omega) (by omega)]
      omega
def nB (N : Nat) (G : Nat → Nat → Nat) : Prop := N ≤ 160 ∧ ∀ v, v < N → G 12 v < 2097152 ∧ G 10 v ≤ 160 ∧ G 11 v ≤ 3 ∧ G 16 v ≤ 1 ∧ G 17 v ≤ 1
def isC (G : Nat → Nat → Nat) (a c i : Nat) (o : Option Nat) : Bool := decide (G 17 i ≠ 0) && (decide (G 10 i = a) && (decide (c < G 12 i) && oB o (fun q => decide (G 12 i < G 12 q))))
theorem isC_iff {G : Nat → Nat → Nat} {a c i : Nat} {o : Option Nat} : isC G a c i o = true ↔ G 17 i ≠ 0 ∧ G 10 i = a ∧ c < G 12 i ∧ ∀ q, o = some q → G 12 i < G 12 q := by
  unfold isC oB
  cases o <;> simp
def nxC (G : Nat → Nat → Nat) (a c : Nat) : Nat → Option Nat
  | 0 => none
  | i + 1 => if isC G a c i (nxC G a c i) = true then some i else nxC G a c i
theorem nxC_lt {G : Nat → Nat → Nat} {a c : Nat} : ∀ {i q : Nat}, nxC G a c i = some q → q < i
  | 0, q, h => by cases h
  | i + 1, q, h => by
    unfold nxC at h
    split at h
    · cases h; omega
    · have := nxC_lt h; omega
def isL (G : Nat → Nat → Nat) (a i : Nat) (o : Option Nat) : Bool := decide (G 17 i ≠ 0) && (decide (G 10 i = a) && oB o (fun q => decide (G 12 q < G 12 i)))
theorem isL_iff {G : Nat → Nat → Nat} {a i : Nat} {o : Option Nat} : isL G a i o = true ↔ G 17 i ≠ 0 ∧ G 10 i = a ∧ ∀ q, o = some q → G 12 q < G 12 i := by
  unfold isL oB
  cases o <;> simp
def lsC (G : Nat → Nat → Nat) (a : Nat) : Nat → Option Nat
  | 0 => none
  | i + 1 => if isL G a i (lsC G a i) = true then some i else lsC G a i
theorem lsC_lt {G : Nat → Nat → Nat} {a : Nat} : ∀ {i q : Nat}, lsC G a i = some q → q < i
  | 0, q, h => by cases h
  | i + 1, q, h => by
    unfold lsC at h
    split at h
    · cases h; omega
    · have := lsC_lt h; omega
set_option maxHeartbeats 4000000 in
theorem mo_nextChild_loop {Γ : zCtx} (d : Nat) {M : List zE} {M0 : List zE} {s : Nat → Nat} {G : Nat → Nat → Nat} (hF : FW M0 M s G) (hB : nB (s 2) G) {a c : Nat} (ha : a ≤ 1000) (hc : c < 2147483648) : ∀ (f : Nat) (i : Nat) (y : Option Value), i ≤ s 2 → s 2 < i + f → ∀ Q : List zE → Option Value → Prop, Q M (some (.int (oI (nxC G a c (s 2)) (-1)))) → Z Γ (zRm (d + 1) m_mo_nextChild) m_mo_nextChild (zPh Γ m_mo_nextChild Q) 0 0 5 [some (.ref 123), some (.int (mI a)), some (.int (nI c)), some (.int (oI (nxC G a c i) (-1))), some (.int (nI i)), y] [] M := by
  intro f
  induction f with
  | zero => intro i y hi hf; exact absurd hf (by omega)
  | succ f ih =>
    intro i y hi hf Q hQ
    skip
    rcases ho : nxC G a c i with _ | u
    · skip
      skip
      refine Z_iload d_mo_nextChild_5 rfl ?_
      refine Z_aload_n d_mo_nextChild_7 rfl ?_
      refine Z_get (v := .int (nI (s 2))) d_mo_nextChild_8 lf_mo_144 hF.1 rfl ?_
      have h160 := hB.1
      refine Zn_icmp_ge (tgt := 91) d_mo_nextChild_11 (by decide) (by omega) (by omega) (fun h11 => ?_) (fun h11 => ?_)
      · skip
        obtain rfl : i = s 2 := by omega
        refine Z_iload_n d_mo_nextChild_91 rfl ?_
        refine Z_iret d_mo_nextChild_92 rfl ?_
        rw [ho] at hQ
        exact hQ
      · skip
        have hbi := hB.2 i (by omega)
        refine Z_aload_n d_mo_nextChild_14 rfl ?_
        refine Z_get (v := .ref 141) d_mo_nextChild_15 lf_mo_62 hF.1 rfl ?_
        refine Z_iload d_mo_nextChild_18 rfl ?_
        refine Zn_zald d_mo_nextChild_20 hF.a17 (by omega) (by omega) ?_
        refine Zn_if_eq (tgt := 50) d_mo_nextChild_21 (by decide) (by omega) (fun h21 => ?_) (fun h21 => ?_)
        · skip
          refine Zn_iconst (nI 0) d_mo_nextChild_50 (by decide) ?_
          refine Zn_istore [some (.ref 123), some (.int (mI a)), some (.int (nI c)), some (.int (-1)), some (.int (nI i)), some (.int (nI 0))] d_mo_nextChild_51 (by decide) rfl ?_
          refine Z_iload d_mo_nextChild_53 rfl ?_
          refine Zn_if_eq (a := 0) (tgt := 83) d_mo_nextChild_55 (by decide) (by decide) (fun _ => ?_) (fun h => absurd h (by decide))
          refine Z_iload_n d_mo_nextChild_83 rfl ?_
          refine Zn_istore_n [some (.ref 123), some (.int (mI a)), some (.int (nI c)), some (.int (-1)), some (.int (nI i)), some (.int (nI 0))] d_mo_nextChild_84 (by decide) rfl ?_
          refine Zn_iinc [some (.ref 123), some (.int (mI a)), some (.int (nI c)), some (.int (-1)), some (.int (nI (i + 1))), some (.int (nI 0))] (nI (i + 1)) d_mo_nextChild_85 rfl (by decide) (nI_add i 1) rfl ?_
          refine Z_goto (tgt := 5) d_mo_nextChild_88 (by decide) ?_
          have hz : nxC G a c (i + 1) = none := by
            rw [nxC, if_neg (fun z => by
              have z := isC_iff.mp z
              obtain ⟨z1, z2, z3, z4⟩ := z
              first | exact z1 (by omega) | exact h32 z2 | (exfalso; omega) | (have := z4 _ ho; omega)), ho]
          rw [show (-1) = oI (nxC G a c (i + 1)) (-1) from by rw [hz]; rfl]
          exact ih (i + 1) _ (by omega) (by omega) Q hQ
        · skip
          refine Z_aload_n d_mo_nextChild_24 rfl ?_
          refine Z_get (v := .ref 134) d_mo_nextChild_25 lf_mo_40 hF.1 rfl ?_
          refine Z_iload d_mo_nextChild_28 rfl ?_
          refine Zn_iald d_mo_nextChild_30 hF.a10 (by omega) (by omega) ?_
          refine Z_iload_n d_mo_nextChild_31 rfl ?_
          refine Z_icmp_ne (tgt := 50) d_mo_nextChild_32 (by decide) (fun h32 => ?_) (fun h32 => ?_)
          · skip
            have h32 : ¬ G 10 i = a := fun z => h32 ((mI_inj (by omega) ha).mpr z)
            refine Zn_iconst (nI 0) d_mo_nextChild_50 (by decide) ?_
            refine Zn_istore [some (.ref 123), some (.int (mI a)), some (.int (nI c)), some (.int (-1)), some (.int (nI i)), some (.int (nI 0))] d_mo_nextChild_51 (by decide) rfl ?_
            refine Z_iload d_mo_nextChild_53 rfl ?_
            refine Zn_if_eq (a := 0) (tgt := 83) d_mo_nextChild_55 (by decide) (by decide) (fun _ => ?_) (fun h => absurd h (by decide))
            refine Z_iload_n d_mo_nextChild_83 rfl ?_
            refine Zn_istore_n [some (.ref 123), some (.int (mI a)), some (.int (nI c)), some (.int (-1)), some (.int (nI i)), some (.int (nI 0))] d_mo_nextChild_84 (by decide) rfl ?_
            refine Zn_iinc [some (.ref 123), some (.int (mI a)), some (.int (nI c)), some (.int (-1)), some (.int (nI (i + 1))), some (.int (nI 0))] (nI (i + 1)) d_mo_nextChild_85 rfl (by decide) (nI_add i 1) rfl ?_
            refine Z_goto (tgt := 5) d_mo_nextChild_88 (by decide) ?_
            have hz : nxC G a c (i + 1) = none := by
              rw [nxC, if_neg (fun z => by
                have z := isC_iff.mp z
                obtain ⟨z1, z2, z3, z4⟩ := z
                first | exact z1 (by omega) | exact h32 z2 | (exfalso; omega) | (have := z4 _ ho; omega)), ho]
            rw [show (-1) = oI (nxC G a c (i + 1)) (-1) from by rw [hz]; rfl]
            exact ih (i + 1) _ (by omega) (by omega) Q hQ
          · skip
            have h32 : G 10 i = a := (mI_inj (by omega) ha).mp h32
            refine Z_aload_n d_mo_nextChild_35 rfl ?_
            refine Z_get (v := .ref 136) d_mo_nextChild_36 lf_mo_46 hF.1 rfl ?_
            refine Z_iload d_mo_nextChild_39 rfl ?_
            refine Zn_iald d_mo_nextChild_41 hF.a12 (by omega) (by omega) ?_
            refine Z_iload_n d_mo_nextChild_42 rfl ?_
            refine Zn_icmp_le (tgt := 50) d_mo_nextChild_43 (by decide) (by omega) (by omega) (fun h43 => ?_) (fun h43 => ?_)
            · skip
              refine Zn_iconst (nI 0) d_mo_nextChild_50 (by decide) ?_
              refine Zn_istore [some (.ref 123), some (.int (mI a)), some (.int (nI c)), some (.int (-1)), some (.int (nI i)), some (.int (nI 0))] d_mo_nextChild_51 (by decide) rfl ?_
              refine Z_iload d_mo_nextChild_53 rfl ?_
              refine Zn_if_eq (a := 0) (tgt := 83) d_mo_nextChild_55 (by decide) (by decide) (fun _ => ?_) (fun h => absurd h (by decide))
              refine Z_iload_n d_mo_nextChild_83 rfl ?_
              refine Zn_istore_n [some (.ref 123), some (.int (mI a)), some (.int (nI c)), some (.int (-1)), some (.int (nI i)), some (.int (nI 0))] d_mo_nextChild_84 (by decide) rfl ?_
              refine Zn_iinc [some (.ref 123), some (.int (mI a)), some (.int (nI c)), some (.int (-1)), some (.int (nI (i + 1))), some (.int (nI 0))] (nI (i + 1)) d_mo_nextChild_85 rfl (by decide) (nI_add i 1) rfl ?_
              refine Z_goto (tgt := 5) d_mo_nextChild_88 (by decide) ?_
              have hz : nxC G a c (i + 1) = none := by
                rw [nxC, if_neg (fun z => by
                  have z := isC_iff.mp z
                  obtain ⟨z1, z2, z3, z4⟩ := z
                  first | exact z1 (by omega) | exact h32 z2 | (exfalso; omega) | (have := z4 _ ho; omega)), ho]
              rw [show (-1) = oI (nxC G a c (i + 1)) (-1) from by rw [hz]; rfl]
              exact ih (i + 1) _ (by omega) (by omega) Q hQ
            · skip
              refine Zn_iconst (nI 1) d_mo_nextChild_46 (by decide) ?_
              refine Z_goto (tgt := 51) d_mo_nextChild_47 (by decide) ?_
              refine Zn_istore [some (.ref 123), some (.int (mI a)), some (.int (nI c)), some (.int (-1)), some (.int (nI i)), some (.int (nI 1))] d_mo_nextChild_51 (by decide) rfl ?_
              refine Z_iload d_mo_nextChild_53 rfl ?_
              refine Zn_if_eq (a := 1) (tgt := 83) d_mo_nextChild_55 (by decide) (by decide) (fun h => absurd h (by decide)) (fun _ => ?_)
              refine Z_iload_n d_mo_nextChild_58 rfl ?_
              refine Z_if_lt (tgt := 78) d_mo_nextChild_59 (by decide) (fun h59 => ?_) (fun h59 => ?_)
              · skip
                skip
                refine Z_iload d_mo_nextChild_78 rfl ?_
                refine Z_goto (tgt := 84) d_mo_nextChild_80 (by decide) ?_
                refine Zn_istore_n [some (.ref 123), some (.int (mI a)), some (.int (nI c)), some (.int (nI i)), some (.int (nI i)), some (.int (nI 1))] d_mo_nextChild_84 (by decide) rfl ?_
                refine Zn_iinc [some (.ref 123), some (.int (mI a)), some (.int (nI c)), some (.int (nI i)), some (.int (nI (i + 1))), some (.int (nI 1))] (nI (i + 1)) d_mo_nextChild_85 rfl (by decide) (nI_add i 1) rfl ?_
                refine Z_goto (tgt := 5) d_mo_nextChild_88 (by decide) ?_
                have hz : nxC G a c (i + 1) = some i := by
                  rw [nxC, if_pos (isC_iff.mpr ⟨by omega, h32, by omega, fun q hq => by rw [ho] at hq; first | (cases hq; omega) | (cases hq; done)⟩)]
                rw [show nI i = oI (nxC G a c (i + 1)) (-1) from by rw [hz]; rfl]
                exact ih (i + 1) _ (by omega) (by omega) Q hQ
              · skip
                exact absurd (by decide) h59 -- end
    · skip
      have hu := nxC_lt ho
      skip
      refine Z_iload d_mo_nextChild_5 rfl ?_
      refine Z_aload_n d_mo_nextChild_7 rfl ?_
      refine Z_get (v := .int (nI (s 2))) d_mo_nextChild_8 lf_mo_144 hF.1 rfl ?_
      have h160 := hB.1
      refine Zn_icmp_ge (tgt := 91) d_mo_nextChild_11 (by decide) (by omega) (by omega) (fun h11 => ?_) (fun h11 => ?_)
      · skip
        obtain rfl : i = s 2 := by omega
        refine Z_iload_n d_mo_nextChild_91 rfl ?_
        refine Z_iret d_mo_nextChild_92 rfl ?_
        rw [ho] at hQ
        exact hQ
      · skip
        have hbi := hB.2 i (by omega)
        refine Z_aload_n d_mo_nextChild_14 rfl ?_
        refine Z_get (v := .ref 141) d_mo_nextChild_15 lf_mo_62 hF.1 rfl ?_
        refine Z_iload d_mo_nextChild_18 rfl ?_
        refine Zn_zald d_mo_nextChild_20 hF.a17 (by omega) (by omega) ?_
        refine Zn_if_eq (tgt := 50) d_mo_nextChild_21 (by decide) (by omega) (fun h21 => ?_) (fun h21 => ?_)
        · skip
          refine Zn_iconst (nI 0) d_mo_nextChild_50 (by decide) ?_
          refine Zn_istore [some (.ref 123), some (.int (mI a)), some (.int (nI c)), some (.int (nI u)), some (.int (nI i)), some (.int (nI 0))] d_mo_nextChild_51 (by decide) rfl ?_
          refine Z_iload d_mo_nextChild_53 rfl ?_
          refine Zn_if_eq (a := 0) (tgt := 83) d_mo_nextChild_55 (by decide) (by decide) (fun _ => ?_) (fun h => absurd h (by decide))
          refine Z_iload_n d_mo_nextChild_83 rfl ?_
          refine Zn_istore_n [some (.ref 123), some (.int (mI a)), some (.int (nI c)), some (.int (nI u)), some (.int (nI i)), some (.int (nI 0))] d_mo_nextChild_84 (by decide) rfl ?_
          refine Zn_iinc [some (.ref 123), some (.int (mI a)), some (.int (nI c)), some (.int (nI u)), some (.int (nI (i + 1))), some (.int (nI 0))] (nI (i + 1)) d_mo_nextChild_85 rfl (by decide) (nI_add i 1) rfl ?_
          refine Z_goto (tgt := 5) d_mo_nextChild_88 (by decide) ?_
          have hz : nxC G a c (i + 1) = some u := by
            rw [nxC, if_neg (fun z => by
              have z := isC_iff.mp z
              obtain ⟨z1, z2, z3, z4⟩ := z
              first | exact z1 (by omega) | exact h32 z2 | (exfalso; omega) | (have := z4 _ ho; omega)), ho]
          rw [show nI u = oI (nxC G a c (i + 1)) (-1) from by rw [hz]; rfl]
          exact ih (i + 1) _ (by omega) (by omega) Q hQ
        · skip
          refine Z_aload_n d_mo_nextChild_24 rfl ?_
          refine Z_get (v := .ref 134) d_mo_nextChild_25 lf_mo_40 hF.1 rfl ?_
          refine Z_iload d_mo_nextChild_28 rfl ?_
          refine Zn_iald d_mo_nextChild_30 hF.a10 (by omega) (by omega) ?_
          refine Z_iload_n d_mo_nextChild_31 rfl ?_
          refine Z_icmp_ne (tgt := 50) d_mo_nextChild_32 (by decide) (fun h32 => ?_) (fun h32 => ?_)
          · skip
            have h32 : ¬ G 10 i = a := fun z => h32 ((mI_inj (by omega) ha).mpr z)
            refine Zn_iconst (nI 0) d_mo_nextChild_50 (by decide) ?_
            refine Zn_istore [some (.ref 123), some (.int (mI a)), some (.int (nI c)), some (.int (nI u)), some (.int (nI i)), some (.int (nI 0))] d_mo_nextChild_51 (by decide) rfl ?_
            refine Z_iload d_mo_nextChild_53 rfl ?_
            refine Zn_if_eq (a := 0) (tgt := 83) d_mo_nextChild_55 (by decide) (by decide) (fun _ => ?_) (fun h => absurd h (by decide))
            refine Z_iload_n d_mo_nextChild_83 rfl ?_
            refine Zn_istore_n [some (.ref 123), some (.int (mI a)), some (.int (nI c)), some (.int (nI u)), some (.int (nI i)), some (.int (nI 0))] d_mo_nextChild_84 (by decide) rfl ?_
            refine Zn_iinc [some (.ref 123), some (.int (mI a)), some (.int (nI c)), some (.int (nI u)), some (.int (nI (i + 1))), some (.int (nI 0))] (nI (i + 1)) d_mo_nextChild_85 rfl (by decide) (nI_add i 1) rfl ?_
            refine Z_goto (tgt := 5) d_mo_nextChild_88 (by decide) ?_
            have hz : nxC G a c (i + 1) = some u := by
              rw [nxC, if_neg (fun z => by
                have z := isC_iff.mp z
                obtain ⟨z1, z2, z3, z4⟩ := z
                first | exact z1 (by omega) | exact h32 z2 | (exfalso; omega) | (have := z4 _ ho; omega)), ho]
            rw [show nI u = oI (nxC G a c (i + 1)) (-1) from by rw [hz]; rfl]
            exact ih (i + 1) _ (by omega) (by omega) Q hQ
          · skip
            have h32 : G 10 i = a := (mI_inj (by omega) ha).mp h32
            refine Z_aload_n d_mo_nextChild_35 rfl ?_
            refine Z_get (v := .ref 136) d_mo_nextChild_36 lf_mo_46 hF.1 rfl ?_
            refine Z_iload d_mo_nextChild_39 rfl ?_
            refine Zn_iald d_mo_nextChild_41 hF.a12 (by omega) (by omega) ?_
            refine Z_iload_n d_mo_nextChild_42 rfl ?_
            refine Zn_icmp_le (tgt := 50) d_mo_nextChild_43 (by decide) (by omega) (by omega) (fun h43 => ?_) (fun h43 => ?_)
            · skip
              refine Zn_iconst (nI 0) d_mo_nextChild_50 (by decide) ?_
              refine Zn_istore [some (.ref 123), some (.int (mI a)), some (.int (nI c)), some (.int (nI u)), some (.int (nI i)), some (.int (nI 0))] d_mo_nextChild_51 (by decide) rfl ?_
              refine Z_iload d_mo_nextChild_53 rfl ?_
              refine Zn_if_eq (a := 0) (tgt := 83) d_mo_nextChild_55 (by decide) (by decide) (fun _ => ?_) (fun h => absurd h (by decide))
              refine Z_iload_n d_mo_nextChild_83 rfl ?_
              refine Zn_istore_n [some (.ref 123), some (.int (mI a)), some (.int (nI c)), some (.int (nI u)), some (.int (nI i)), some (.int (nI 0))] d_mo_nextChild_84 (by decide) rfl ?_
              refine Zn_iinc [some (.ref 123), some (.int (mI a)), some (.int (nI c)), some (.int (nI u)), some (.int (nI (i + 1))), some (.int (nI 0))] (nI (i + 1)) d_mo_nextChild_85 rfl (by decide) (nI_add i 1) rfl ?_
              refine Z_goto (tgt := 5) d_mo_nextChild_88 (by decide) ?_
              have hz : nxC G a c (i + 1) = some u := by
                rw [nxC, if_neg (fun z => by
                  have z := isC_iff.mp z
                  obtain ⟨z1, z2, z3, z4⟩ := z
                  first | exact z1 (by omega) | exact h32 z2 | (exfalso; omega) | (have := z4 _ ho; omega)), ho]
              rw [show nI u = oI (nxC G a c (i + 1)) (-1) from by rw [hz]; rfl]
              exact ih (i + 1) _ (by omega) (by omega) Q hQ
            · skip
              refine Zn_iconst (nI 1) d_mo_nextChild_46 (by decide) ?_
              refine Z_goto (tgt := 51) d_mo_nextChild_47 (by decide) ?_
              refine Zn_istore [some (.ref 123), some (.int (mI a)), some (.int (nI c)), some (.int (nI u)), some (.int (nI i)), some (.int (nI 1))] d_mo_nextChild_51 (by decide) rfl ?_
              refine Z_iload d_mo_nextChild_53 rfl ?_
              refine Zn_if_eq (a := 1) (tgt := 83) d_mo_nextChild_55 (by decide) (by decide) (fun h => absurd h (by decide)) (fun _ => ?_)
              refine Z_iload_n d_mo_nextChild_58 rfl ?_
              refine Z_if_lt (tgt := 78) d_mo_nextChild_59 (by decide) (fun h59 => ?_) (fun h59 => ?_)
              · skip
                exact absurd h59 (nI_pos (by omega)) -- end
              · skip
                have hbu := hB.2 u (by omega)
                refine Z_aload_n d_mo_nextChild_62 rfl ?_
                refine Z_get (v := .ref 136) d_mo_nextChild_63 lf_mo_46 hF.1 rfl ?_
                refine Z_iload d_mo_nextChild_66 rfl ?_
                refine Zn_iald d_mo_nextChild_68 hF.a12 (by omega) (by omega) ?_
                skip
                refine Z_aload_n d_mo_nextChild_69 rfl ?_
                refine Z_get (v := .ref 136) d_mo_nextChild_70 lf_mo_46 hF.1 rfl ?_
                refine Z_iload_n d_mo_nextChild_73 rfl ?_
                refine Zn_iald d_mo_nextChild_74 hF.a12 (by omega) (by omega) ?_
                refine Zn_icmp_ge (tgt := 83) d_mo_nextChild_75 (by decide) (by omega) (by omega) (fun h75 => ?_) (fun h75 => ?_)
                · skip
                  refine Z_iload_n d_mo_nextChild_83 rfl ?_
                  refine Zn_istore_n [some (.ref 123), some (.int (mI a)), some (.int (nI c)), some (.int (nI u)), some (.int (nI i)), some (.int (nI 1))] d_mo_nextChild_84 (by decide) rfl ?_
                  refine Zn_iinc [some (.ref 123), some (.int (mI a)), some (.int (nI c)), some (.int (nI u)), some (.int (nI (i + 1))), some (.int (nI 1))] (nI (i + 1)) d_mo_nextChild_85 rfl (by decide) (nI_add i 1) rfl ?_
                  refine Z_goto (tgt := 5) d_mo_nextChild_88 (by decide) ?_
                  have hz : nxC G a c (i + 1) = some u := by
                    rw [nxC, if_neg (fun z => by
                      have z := isC_iff.mp z
                      obtain ⟨z1, z2, z3, z4⟩ := z
                      first | exact z1 (by omega) | exact h32 z2 | (exfalso; omega) | (have := z4 _ ho; omega)), ho]
                  rw [show nI u = oI (nxC G a c (i + 1)) (-1) from by rw [hz]; rfl]
                  exact ih (i + 1) _ (by omega) (by omega) Q hQ
                · skip
                  refine Z_iload d_mo_nextChild_78 rfl ?_
                  refine Z_goto (tgt := 84) d_mo_nextChild_80 (by decide) ?_
                  refine Zn_istore_n [some (.ref 123), some (.int (mI a)), some (.int (nI c)), some (.int (nI i)), some (.int (nI i)), some (.int (nI 1))] d_mo_nextChild_84 (by decide) rfl ?_
                  refine Zn_iinc [some (.ref 123), some (.int (mI a)), some (.int (nI c)), some (.int (nI i)), some (.int (nI (i + 1))), some (.int (nI 1))] (nI (i + 1)) d_mo_nextChild_85 rfl (by decide) (nI_add i 1) rfl ?_
                  refine Z_goto (tgt := 5) d_mo_nextChild_88 (by decide) ?_
                  have hz : nxC G a c (i + 1) = some i := by
                    rw [nxC, if_pos (isC_iff.mpr ⟨by omega, h32, by omega, fun q hq => by rw [ho] at hq; first | (cases hq; omega) | (cases hq; done)⟩)]
                  rw [show nI i = oI (nxC G a c (i + 1)) (-1) from by rw [hz]; rfl]
                  exact ih (i + 1) _ (by omega) (by omega) Q hQ
set_option maxHeartbeats 4000000 in
theorem mo_nextChild_ok {Γ : zCtx} {M : List zE} (d : Nat) {M0 : List zE} {s : Nat → Nat} {G : Nat → Nat → Nat} (hF : FW M0 M s G) (hB : nB (s 2) G) {a c : Nat} (ha : a ≤ 1000) (hc : c < 2147483648) : ZM Γ (d + 1) m_mo_nextChild [.ref 123, .int (mI a), .int (nI c)] M (zEq M (some (.int (oI (nxC G a c (s 2)) (-1))))) := by
  refine ZM.of mk_mo_nextChild (Nat.le_of_ble_eq_true rfl) ?_
  rw [show zEn [.ref 123, .int (mI a), .int (nI c)] = [some (.ref 123), some (.int (mI a)), some (.int (nI c))] from rfl]
  refine zPad 3 ?_
  show Z _ _ _ _ _ _ _ [some (.ref 123), some (.int (mI a)), some (.int (nI c)), none, none, none] _ _
  refine Zn_iconst (-1) d_mo_nextChild_0 (by decide) ?_
  refine Zn_istore_n [some (.ref 123), some (.int (mI a)), some (.int (nI c)), some (.int (-1)), none, none] d_mo_nextChild_1 (by decide) rfl ?_
  refine Zn_iconst (nI 0) d_mo_nextChild_2 (by decide) ?_
  refine Zn_istore [some (.ref 123), some (.int (mI a)), some (.int (nI c)), some (.int (-1)), some (.int (nI 0)), none] d_mo_nextChild_3 (by decide) rfl ?_
  exact mo_nextChild_loop d hF hB ha hc (s 2 + 1) 0 _ (by omega) (by omega) _ ⟨rfl, rfl⟩
set_option maxHeartbeats 4000000 in
theorem mo_lastChild_loop {Γ : zCtx} (d : Nat) {M : List zE} {M0 : List zE} {s : Nat → Nat} {G : Nat → Nat → Nat} (hF : FW M0 M s G) (hB : nB (s 2) G) {a : Nat} (ha : a ≤ 1000) : ∀ (f : Nat) (i : Nat) (y : Option Value), i ≤ s 2 → s 2 < i + f → ∀ Q : List zE → Option Value → Prop, Q M (some (.int (oI (lsC G a (s 2)) (-1)))) → Z Γ (zRm (d + 1) m_mo_lastChild) m_mo_lastChild (zPh Γ m_mo_lastChild Q) 0 0 4 [some (.ref 123), some (.int (mI a)), some (.int (oI (lsC G a i) (-1))), some (.int (nI i)), y] [] M := by
  intro f
  induction f with
  | zero => intro i y hi hf; exact absurd hf (by omega)
  | succ f ih =>
    intro i y hi hf Q hQ
    rcases ho : lsC G a i with _ | u
    · skip
      refine Z_iload_n d_mo_lastChild_4 rfl ?_
      refine Z_aload_n d_mo_lastChild_5 rfl ?_
      refine Z_get (v := .int (nI (s 2))) d_mo_lastChild_6 lf_mo_144 hF.1 rfl ?_
      have h160 := hB.1
      refine Zn_icmp_ge (tgt := 74) d_mo_lastChild_9 (by decide) (by omega) (by omega) (fun h9 => ?_) (fun h9 => ?_)
      · skip
        obtain rfl : i = s 2 := by omega
        refine Z_iload_n d_mo_lastChild_74 rfl ?_
        refine Z_iret d_mo_lastChild_75 rfl ?_
        rw [ho] at hQ
        exact hQ
      · skip
        have hbi := hB.2 i (by omega)
        refine Z_aload_n d_mo_lastChild_12 rfl ?_
        refine Z_get (v := .ref 141) d_mo_lastChild_13 lf_mo_62 hF.1 rfl ?_
        refine Z_iload_n d_mo_lastChild_16 rfl ?_
        refine Zn_zald d_mo_lastChild_17 hF.a17 (by omega) (by omega) ?_
        refine Zn_if_eq (tgt := 35) d_mo_lastChild_18 (by decide) (by omega) (fun h18 => ?_) (fun h18 => ?_)
        · skip
          refine Zn_iconst (nI 0) d_mo_lastChild_35 (by decide) ?_
          refine Zn_istore [some (.ref 123), some (.int (mI a)), some (.int (-1)), some (.int (nI i)), some (.int (nI 0))] d_mo_lastChild_36 (by decide) rfl ?_
          refine Z_iload d_mo_lastChild_38 rfl ?_
          refine Zn_if_eq (a := 0) (tgt := 66) d_mo_lastChild_40 (by decide) (by decide) (fun _ => ?_) (fun h => absurd h (by decide))
          refine Z_iload_n d_mo_lastChild_66 rfl ?_
          refine Zn_istore_n [some (.ref 123), some (.int (mI a)), some (.int (-1)), some (.int (nI i)), some (.int (nI 0))] d_mo_lastChild_67 (by decide) rfl ?_
          refine Zn_iinc [some (.ref 123), some (.int (mI a)), some (.int (-1)), some (.int (nI (i + 1))), some (.int (nI 0))] (nI (i + 1)) d_mo_lastChild_68 rfl (by decide) (nI_add i 1) rfl ?_
          refine Z_goto (tgt := 4) d_mo_lastChild_71 (by decide) ?_
          have hz : lsC G a (i + 1) = none := by
            rw [lsC, if_neg (fun z => by
              have z := isL_iff.mp z
              obtain ⟨z1, z2, z4⟩ := z
              first | exact z1 (by omega) | exact h32 z2 | (exfalso; omega) | (have := z4 _ ho; omega)), ho]
          rw [show (-1) = oI (lsC G a (i + 1)) (-1) from by rw [hz]; rfl]
          exact ih (i + 1) _ (by omega) (by omega) Q hQ
        · skip
          refine Z_aload_n d_mo_lastChild_21 rfl ?_
          refine Z_get (v := .ref 134) d_mo_lastChild_22 lf_mo_40 hF.1 rfl ?_
          refine Z_iload_n d_mo_lastChild_25 rfl ?_
          refine Zn_iald d_mo_lastChild_26 hF.a10 (by omega) (by omega) ?_
          refine Z_iload_n d_mo_lastChild_27 rfl ?_
          refine Z_icmp_ne (tgt := 35) d_mo_lastChild_28 (by decide) (fun h28 => ?_) (fun h28 => ?_)
          · skip
            have h32 : ¬ G 10 i = a := fun z => h28 ((mI_inj (by omega) ha).mpr z)
            refine Zn_iconst (nI 0) d_mo_lastChild_35 (by decide) ?_
            refine Zn_istore [some (.ref 123), some (.int (mI a)), some (.int (-1)), some (.int (nI i)), some (.int (nI 0))] d_mo_lastChild_36 (by decide) rfl ?_
            refine Z_iload d_mo_lastChild_38 rfl ?_
            refine Zn_if_eq (a := 0) (tgt := 66) d_mo_lastChild_40 (by decide) (by decide) (fun _ => ?_) (fun h => absurd h (by decide))
            refine Z_iload_n d_mo_lastChild_66 rfl ?_
            refine Zn_istore_n [some (.ref 123), some (.int (mI a)), some (.int (-1)), some (.int (nI i)), some (.int (nI 0))] d_mo_lastChild_67 (by decide) rfl ?_
            refine Zn_iinc [some (.ref 123), some (.int (mI a)), some (.int (-1)), some (.int (nI (i + 1))), some (.int (nI 0))] (nI (i + 1)) d_mo_lastChild_68 rfl (by decide) (nI_add i 1) rfl ?_
            refine Z_goto (tgt := 4) d_mo_lastChild_71 (by decide) ?_
            have hz : lsC G a (i + 1) = none := by
              rw [lsC, if_neg (fun z => by
                have z := isL_iff.mp z
                obtain ⟨z1, z2, z4⟩ := z
                first | exact z1 (by omega) | exact h32 z2 | (exfalso; omega) | (have := z4 _ ho; omega)), ho]
            rw [show (-1) = oI (lsC G a (i + 1)) (-1) from by rw [hz]; rfl]
            exact ih (i + 1) _ (by omega) (by omega) Q hQ
          · skip
            have h32 : G 10 i = a := (mI_inj (by omega) ha).mp h28
            refine Zn_iconst (nI 1) d_mo_lastChild_31 (by decide) ?_
            refine Z_goto (tgt := 36) d_mo_lastChild_32 (by decide) ?_
            refine Zn_istore [some (.ref 123), some (.int (mI a)), some (.int (-1)), some (.int (nI i)), some (.int (nI 1))] d_mo_lastChild_36 (by decide) rfl ?_
            refine Z_iload d_mo_lastChild_38 rfl ?_
            refine Zn_if_eq (a := 1) (tgt := 66) d_mo_lastChild_40 (by decide) (by decide) (fun h => absurd h (by decide)) (fun _ => ?_)
            refine Z_iload_n d_mo_lastChild_43 rfl ?_
            refine Z_if_lt (tgt := 62) d_mo_lastChild_44 (by decide) (fun h44 => ?_) (fun h44 => ?_)
            · skip
              skip
              refine Z_iload_n d_mo_lastChild_62 rfl ?_
              refine Z_goto (tgt := 67) d_mo_lastChild_63 (by decide) ?_
              refine Zn_istore_n [some (.ref 123), some (.int (mI a)), some (.int (nI i)), some (.int (nI i)), some (.int (nI 1))] d_mo_lastChild_67 (by decide) rfl ?_
              refine Zn_iinc [some (.ref 123), some (.int (mI a)), some (.int (nI i)), some (.int (nI (i + 1))), some (.int (nI 1))] (nI (i + 1)) d_mo_lastChild_68 rfl (by decide) (nI_add i 1) rfl ?_
              refine Z_goto (tgt := 4) d_mo_lastChild_71 (by decide) ?_
              have hz : lsC G a (i + 1) = some i := by
                rw [lsC, if_pos (isL_iff.mpr ⟨by omega, h32, fun q hq => by rw [ho] at hq; first | (cases hq; omega) | (cases hq; done)⟩)]
              rw [show nI i = oI (lsC G a (i + 1)) (-1) from by rw [hz]; rfl]
              exact ih (i + 1) _ (by omega) (by omega) Q hQ
            · skip
              exact absurd (by decide) h44 -- end
    · skip
      have hu := lsC_lt ho
      refine Z_iload_n d_mo_lastChild_4 rfl ?_
      refine Z_aload_n d_mo_lastChild_5 rfl ?_
      refine Z_get (v := .int (nI (s 2))) d_mo_lastChild_6 lf_mo_144 hF.1 rfl ?_
      have h160 := hB.1
      refine Zn_icmp_ge (tgt := 74) d_mo_lastChild_9 (by decide) (by omega) (by omega) (fun h9 => ?_) (fun h9 => ?_)
      · skip
        obtain rfl : i = s 2 := by omega
        refine Z_iload_n d_mo_lastChild_74 rfl ?_
        refine Z_iret d_mo_lastChild_75 rfl ?_
        rw [ho] at hQ
        exact hQ
      · skip
        have hbi := hB.2 i (by omega)
        refine Z_aload_n d_mo_lastChild_12 rfl ?_
        refine Z_get (v := .ref 141) d_mo_lastChild_13 lf_mo_62 hF.1 rfl ?_
        refine Z_iload_n d_mo_lastChild_16 rfl ?_
        refine Zn_zald d_mo_lastChild_17 hF.a17 (by omega) (by omega) ?_
        refine Zn_if_eq (tgt := 35) d_mo_lastChild_18 (by decide) (by omega) (fun h18 => ?_) (fun h18 => ?_)
        · skip
          refine Zn_iconst (nI 0) d_mo_lastChild_35 (by decide) ?_
          refine Zn_istore [some (.ref 123), some (.int (mI a)), some (.int (nI u)), some (.int (nI i)), some (.int (nI 0))] d_mo_lastChild_36 (by decide) rfl ?_
          refine Z_iload d_mo_lastChild_38 rfl ?_
          refine Zn_if_eq (a := 0) (tgt := 66) d_mo_lastChild_40 (by decide) (by decide) (fun _ => ?_) (fun h => absurd h (by decide))
          refine Z_iload_n d_mo_lastChild_66 rfl ?_
          refine Zn_istore_n [some (.ref 123), some (.int (mI a)), some (.int (nI u)), some (.int (nI i)), some (.int (nI 0))] d_mo_lastChild_67 (by decide) rfl ?_
          refine Zn_iinc [some (.ref 123), some (.int (mI a)), some (.int (nI u)), some (.int (nI (i + 1))), some (.int (nI 0))] (nI (i + 1)) d_mo_lastChild_68 rfl (by decide) (nI_add i 1) rfl ?_
          refine Z_goto (tgt := 4) d_mo_lastChild_71 (by decide) ?_
          have hz : lsC G a (i + 1) = some u := by
            rw [lsC, if_neg (fun z => by
              have z := isL_iff.mp z
              obtain ⟨z1, z2, z4⟩ := z
              first | exact z1 (by omega) | exact h32 z2 | (exfalso; omega) | (have := z4 _ ho; omega)), ho]
          rw [show nI u = oI (lsC G a (i + 1)) (-1) from by rw [hz]; rfl]
          exact ih (i + 1) _ (by omega) (by omega) Q hQ
        · skip
          refine Z_aload_n d_mo_lastChild_21 rfl ?_
          refine Z_get (v := .ref 134) d_mo_lastChild_22 lf_mo_40 hF.1 rfl ?_
          refine Z_iload_n d_mo_lastChild_25 rfl ?_
          refine Zn_iald d_mo_lastChild_26 hF.a10 (by omega) (by omega) ?_
          refine Z_iload_n d_mo_lastChild_27 rfl ?_
          refine Z_icmp_ne (tgt := 35) d_mo_lastChild_28 (by decide) (fun h28 => ?_) (fun h28 => ?_)
          · skip
            have h32 : ¬ G 10 i = a := fun z => h28 ((mI_inj (by omega) ha).mpr z)
            refine Zn_iconst (nI 0) d_mo_lastChild_35 (by decide) ?_
            refine Zn_istore [some (.ref 123), some (.int (mI a)), some (.int (nI u)), some (.int (nI i)), some (.int (nI 0))] d_mo_lastChild_36 (by decide) rfl ?_
            refine Z_iload d_mo_lastChild_38 rfl ?_
            refine Zn_if_eq (a := 0) (tgt := 66) d_mo_lastChild_40 (by decide) (by decide) (fun _ => ?_) (fun h => absurd h (by decide))
            refine Z_iload_n d_mo_lastChild_66 rfl ?_
            refine Zn_istore_n [some (.ref 123), some (.int (mI a)), some (.int (nI u)), some (.int (nI i)), some (.int (nI 0))] d_mo_lastChild_67 (by decide) rfl ?_
            refine Zn_iinc [some (.ref 123), some (.int (mI a)), some (.int (nI u)), some (.int (nI (i + 1))), some (.int (nI 0))] (nI (i + 1)) d_mo_lastChild_68 rfl (by decide) (nI_add i 1) rfl ?_
            refine Z_goto (tgt := 4) d_mo_lastChild_71 (by decide) ?_
            have hz : lsC G a (i + 1) = some u := by
              rw [lsC, if_neg (fun z => by
                have z := isL_iff.mp z
                obtain ⟨z1, z2, z4⟩ := z
                first | exact z1 (by omega) | exact h32 z2 | (exfalso; omega) | (have := z4 _ ho; omega)), ho]
            rw [show nI u = oI (lsC G a (i + 1)) (-1) from by rw [hz]; rfl]
            exact ih (i + 1) _ (by omega) (by omega) Q hQ
          · skip
            have h32 : G 10 i = a := (mI_inj (by omega) ha).mp h28
            refine Zn_iconst (nI 1) d_mo_lastChild_31 (by decide) ?_
            refine Z_goto (tgt := 36) d_mo_lastChild_32 (by decide) ?_
            refine Zn_istore [some (.ref 123), some (.int (mI a)), some (.int (nI u)), some (.int (nI i)), some (.int (nI 1))] d_mo_lastChild_36 (by decide) rfl ?_
            refine Z_iload d_mo_lastChild_38 rfl ?_
            refine Zn_if_eq (a := 1) (tgt := 66) d_mo_lastChild_40 (by decide) (by decide) (fun h => absurd h (by decide)) (fun _ => ?_)
            refine Z_iload_n d_mo_lastChild_43 rfl ?_
            refine Z_if_lt (tgt := 62) d_mo_lastChild_44 (by decide) (fun h44 => ?_) (fun h44 => ?_)
            · skip
              exact absurd h44 (nI_pos (by omega)) -- end
            · skip
              have hbu := hB.2 u (by omega)
              refine Z_aload_n d_mo_lastChild_47 rfl ?_
              refine Z_get (v := .ref 136) d_mo_lastChild_48 lf_mo_46 hF.1 rfl ?_
              refine Z_iload_n d_mo_lastChild_51 rfl ?_
              refine Zn_iald d_mo_lastChild_52 hF.a12 (by omega) (by omega) ?_
              refine Z_aload_n d_mo_lastChild_53 rfl ?_
              refine Z_get (v := .ref 136) d_mo_lastChild_54 lf_mo_46 hF.1 rfl ?_
              refine Z_iload_n d_mo_lastChild_57 rfl ?_
              refine Zn_iald d_mo_lastChild_58 hF.a12 (by omega) (by omega) ?_
              refine Zn_icmp_le (tgt := 66) d_mo_lastChild_59 (by decide) (by omega) (by omega) (fun h59 => ?_) (fun h59 => ?_)
              · skip
                refine Z_iload_n d_mo_lastChild_66 rfl ?_
                refine Zn_istore_n [some (.ref 123), some (.int (mI a)), some (.int (nI u)), some (.int (nI i)), some (.int (nI 1))] d_mo_lastChild_67 (by decide) rfl ?_
                refine Zn_iinc [some (.ref 123), some (.int (mI a)), some (.int (nI u)), some (.int (nI (i + 1))), some (.int (nI 1))] (nI (i + 1)) d_mo_lastChild_68 rfl (by decide) (nI_add i 1) rfl ?_
                refine Z_goto (tgt := 4) d_mo_lastChild_71 (by decide) ?_
                have hz : lsC G a (i + 1) = some u := by
                  rw [lsC, if_neg (fun z => by
                    have z := isL_iff.mp z
                    obtain ⟨z1, z2, z4⟩ := z
                    first | exact z1 (by omega) | exact h32 z2 | (exfalso; omega) | (have := z4 _ ho; omega)), ho]
                rw [show nI u = oI (lsC G a (i + 1)) (-1) from by rw [hz]; rfl]
                exact ih (i + 1) _ (by omega) (by omega) Q hQ
              · skip
                refine Z_iload_n d_mo_lastChild_62 rfl ?_
                refine Z_goto (tgt := 67) d_mo_lastChild_63 (by decide) ?_
                refine Zn_istore_n [some (.ref 123), some (.int (mI a)), some (.int (nI i)), some (.int (nI i)), some (.int (nI 1))] d_mo_lastChild_67 (by decide) rfl ?_
                refine Zn_iinc [some (.ref 123), some (.int (mI a)), some (.int (nI i)), some (.int (nI (i + 1))), some (.int (nI 1))] (nI (i + 1)) d_mo_lastChild_68 rfl (by decide) (nI_add i 1) rfl ?_
                refine Z_goto (tgt := 4) d_mo_lastChild_71 (by decide) ?_
                have hz : lsC G a (i + 1) = some i := by
                  rw [lsC, if_pos (isL_iff.mpr ⟨by omega, h32, fun q hq => by rw [ho] at hq; first | (cases hq; omega) | (cases hq; done)⟩)]
                rw [show nI i = oI (lsC G a (i + 1)) (-1) from by rw [hz]; rfl]
                exact ih (i + 1) _ (by omega) (by omega) Q hQ
set_option maxHeartbeats 4000000 in
theorem mo_lastChild_ok {Γ : zCtx} {M : List zE} (d : Nat) {M0 : List zE} {s : Nat → Nat} {G : Nat → Nat → Nat} (hF : FW M0 M s G) (hB : nB (s 2) G) {a : Nat} (ha : a ≤ 1000) : ZM Γ (d + 1) m_mo_lastChild [.ref 123, .int (mI a)] M (zEq M (some (.int (oI (lsC G a (s 2)) (-1))))) := by
  refine ZM.of mk_mo_lastChild (Nat.le_of_ble_eq_true rfl) ?_
  rw [show zEn [.ref 123, .int (mI a)] = [some (.ref 123), some (.int (mI a))] from rfl]
  refine zPad 3 ?_
  show Z _ _ _ _ _ _ _ [some (.ref 123), some (.int (mI a)), none, none, none] _ _
  refine Zn_iconst (-1) d_mo_lastChild_0 (by decide) ?_
  refine Zn_istore_n [some (.ref 123), some (.int (mI a)), some (.int (-1)), none, none] d_mo_lastChild_1 (by decide) rfl ?_
  refine Zn_iconst (nI 0) d_mo_lastChild_2 (by decide) ?_
  refine Zn_istore_n [some (.ref 123), some (.int (mI a)), some (.int (-1)), some (.int (nI 0)), none] d_mo_lastChild_3 (by decide) rfl ?_
  exact mo_lastChild_loop d hF hB ha (s 2 + 1) 0 _ (by omega) (by omega) _ ⟨rfl, rfl⟩
def sfl (x : Nat) : Nat := if x = 0 then 0 else if x % 729 = 0 then 1 else if x % 27 = 0 then 2 else 3
def isf (x : Nat) : Bool := decide (0 < x / 729) && (decide (0 < x / 27 % 27) || decide (x % 27 = 0))
theorem isf_iff {x : Nat} : isf x = true ↔ 0 < x / 729 ∧ (0 < x / 27 % 27 ∨ x % 27 = 0) := by unfold isf; simp
def sch (st sz b : Nat) : Nat → Nat → Option Nat
  | 0, _ => none
  | f + 1, x => if x < b then (if isf x = true then (if sfl x = sz then some x else sch st sz b f (x + st)) else sch st sz b f (x + st)) else none
def sfB (a b : Nat) : Option Nat := match sch 729 1 b 20000 ((a / 729 + 1) * 729) with
  | some r => some r
  | none => match sch 27 2 b 20000 ((a / 27 + 1) * 27) with
    | some r => some r
    | none => sch 1 3 b 20000 ((a / 1 + 1) * 1)
set_option maxHeartbeats 4000000 in
theorem mo_suffixLength_ok {Γ : zCtx} {M : List zE} (d : Nat) {x : Nat} (hx : x < 2147483648) : ZM Γ (d + 1) m_mo_suffixLength [.int (nI x)] M (zEq M (some (.int (nI (sfl x))))) := by
  refine ZM.of mk_mo_suffixLength (Nat.le_of_ble_eq_true rfl) ?_
  refine Z_iload_n d_mo_suffixLength_0 rfl ?_
  refine Zn_if_ne (tgt := 8) d_mo_suffixLength_1 (by decide) (by omega) (fun h1 => ?_) (fun h1 => ?_)
  · skip
    refine Z_iload_n d_mo_suffixLength_8 rfl ?_
    refine Zn_sipush (nI 729) d_mo_suffixLength_9 (by decide) ?_
    refine Zn_irem d_mo_suffixLength_12 (by omega) (by omega) (by omega) ?_
    refine Zn_if_ne (tgt := 20) d_mo_suffixLength_13 (by decide) (by omega) (fun h13 => ?_) (fun h13 => ?_)
    · skip
      refine Z_iload_n d_mo_suffixLength_20 rfl ?_
      refine Zn_bipush (nI 27) d_mo_suffixLength_21 (by decide) ?_
      refine Zn_irem d_mo_suffixLength_23 (by omega) (by omega) (by omega) ?_
      refine Zn_if_ne (tgt := 31) d_mo_suffixLength_24 (by decide) (by omega) (fun h24 => ?_) (fun h24 => ?_)
      · skip
        refine Zn_iconst (nI 3) d_mo_suffixLength_31 (by decide) ?_
        refine Z_iret d_mo_suffixLength_32 rfl ?_
        refine ⟨rfl, ?_⟩
        unfold sfl
        first | (rw [if_pos h1]; done) | (rw [if_neg h1, if_pos h13]; done) | (rw [if_neg h1, if_neg h13, if_pos h24]; done) | (rw [if_neg h1, if_neg h13, if_neg h24]; done)
      · skip
        refine Zn_iconst (nI 2) d_mo_suffixLength_27 (by decide) ?_
        refine Z_goto (tgt := 32) d_mo_suffixLength_28 (by decide) ?_
        refine Z_iret d_mo_suffixLength_32 rfl ?_
        refine ⟨rfl, ?_⟩
        unfold sfl
        first | (rw [if_pos h1]; done) | (rw [if_neg h1, if_pos h13]; done) | (rw [if_neg h1, if_neg h13, if_pos h24]; done) | (rw [if_neg h1, if_neg h13, if_neg h24]; done)
    · skip
      refine Zn_iconst (nI 1) d_mo_suffixLength_16 (by decide) ?_
      refine Z_goto (tgt := 32) d_mo_suffixLength_17 (by decide) ?_
      refine Z_iret d_mo_suffixLength_32 rfl ?_
      refine ⟨rfl, ?_⟩
      unfold sfl
      first | (rw [if_pos h1]; done) | (rw [if_neg h1, if_pos h13]; done) | (rw [if_neg h1, if_neg h13, if_pos h24]; done) | (rw [if_neg h1, if_neg h13, if_neg h24]; done)
  · skip
    refine Zn_iconst (nI 0) d_mo_suffixLength_4 (by decide) ?_
    refine Z_goto (tgt := 32) d_mo_suffixLength_5 (by decide) ?_
    refine Z_iret d_mo_suffixLength_32 rfl ?_
    refine ⟨rfl, ?_⟩
    unfold sfl
    first | (rw [if_pos h1]; done) | (rw [if_neg h1, if_pos h13]; done) | (rw [if_neg h1, if_neg h13, if_pos h24]; done) | (rw [if_neg h1, if_neg h13, if_neg h24]; done)
set_option maxHeartbeats 4000000 in
theorem mo_isSuffix_ok {Γ : zCtx} {M : List zE} (d : Nat) {x : Nat} (hx : x < 2147483648) : ZM Γ (d + 1) m_mo_isSuffix [.int (nI x)] M (zEq M (some (.int (nI (if isf x = true then 1 else 0))))) := by
  refine ZM.of mk_mo_isSuffix (Nat.le_of_ble_eq_true rfl) ?_
  rw [show zEn [.int (nI x)] = [some (.int (nI x))] from rfl]
  refine zPad 3 ?_
  show Z _ _ _ _ _ _ _ [some (.int (nI x)), none, none, none] _ _
  refine Z_iload_n d_mo_isSuffix_0 rfl ?_
  refine Zn_sipush (nI 729) d_mo_isSuffix_1 (by decide) ?_
  refine Zn_idiv d_mo_isSuffix_4 (by omega) (by omega) (by omega) ?_
  refine Zn_istore_n [some (.int (nI x)), some (.int (nI (x / 729))), none, none] d_mo_isSuffix_5 (by decide) rfl ?_
  refine Z_iload_n d_mo_isSuffix_6 rfl ?_
  refine Zn_bipush (nI 27) d_mo_isSuffix_7 (by decide) ?_
  refine Zn_idiv d_mo_isSuffix_9 (by omega) (by omega) (by omega) ?_
  refine Zn_bipush (nI 27) d_mo_isSuffix_10 (by decide) ?_
  refine Zn_irem d_mo_isSuffix_12 (by omega) (by omega) (by omega) ?_
  refine Zn_istore_n [some (.int (nI x)), some (.int (nI (x / 729))), some (.int (nI ((x / 27) % 27))), none] d_mo_isSuffix_13 (by decide) rfl ?_
  refine Z_iload_n d_mo_isSuffix_14 rfl ?_
  refine Zn_bipush (nI 27) d_mo_isSuffix_15 (by decide) ?_
  refine Zn_irem d_mo_isSuffix_17 (by omega) (by omega) (by omega) ?_
  refine Zn_istore_n [some (.int (nI x)), some (.int (nI (x / 729))), some (.int (nI ((x / 27) % 27))), some (.int (nI (x % 27)))] d_mo_isSuffix_18 (by decide) rfl ?_
  refine Z_iload_n d_mo_isSuffix_19 rfl ?_
  refine Zn_if_le (tgt := 35) d_mo_isSuffix_20 (by decide) (by omega) (fun h20 => ?_) (fun h20 => ?_)
  · skip
    refine Zn_iconst (nI 0) d_mo_isSuffix_35 (by decide) ?_
    refine Z_zret d_mo_isSuffix_36 rfl rfl ?_
    refine ⟨rfl, ?_⟩
    first | (rw [if_pos (isf_iff.mpr (by omega))]; done) | (rw [if_neg (fun z => absurd (isf_iff.mp z) (by omega))]; done)
  · skip
    refine Z_iload_n d_mo_isSuffix_23 rfl ?_
    refine Zn_if_gt (tgt := 31) d_mo_isSuffix_24 (by decide) (by omega) (fun h24 => ?_) (fun h24 => ?_)
    · skip
      refine Zn_iconst (nI 1) d_mo_isSuffix_31 (by decide) ?_
      refine Z_goto (tgt := 36) d_mo_isSuffix_32 (by decide) ?_
      refine Z_zret d_mo_isSuffix_36 rfl rfl ?_
      refine ⟨rfl, ?_⟩
      first | (rw [if_pos (isf_iff.mpr (by omega))]; done) | (rw [if_neg (fun z => absurd (isf_iff.mp z) (by omega))]; done)
    · skip
      refine Z_iload_n d_mo_isSuffix_27 rfl ?_
      refine Zn_if_ne (tgt := 35) d_mo_isSuffix_28 (by decide) (by omega) (fun h28 => ?_) (fun h28 => ?_)
      · skip
        refine Zn_iconst (nI 0) d_mo_isSuffix_35 (by decide) ?_
        refine Z_zret d_mo_isSuffix_36 rfl rfl ?_
        refine ⟨rfl, ?_⟩
        first | (rw [if_pos (isf_iff.mpr (by omega))]; done) | (rw [if_neg (fun z => absurd (isf_iff.mp z) (by omega))]; done)
      · skip
        refine Zn_iconst (nI 1) d_mo_isSuffix_31 (by decide) ?_
        refine Z_goto (tgt := 36) d_mo_isSuffix_32 (by decide) ?_
        refine Z_zret d_mo_isSuffix_36 rfl rfl ?_
        refine ⟨rfl, ?_⟩
        first | (rw [if_pos (isf_iff.mpr (by omega))]; done) | (rw [if_neg (fun z => absurd (isf_iff.mp z) (by omega))]; done)
theorem sfl_le (x : Nat) : sfl x ≤ 3 := by
  unfold sfl
  split
  · omega
  · split
    · omega
    · split <;> omega
set_option maxHeartbeats 4000000 in
theorem mo_sch_loop {Γ : zCtx} {M : List zE} (d : Nat) {a b sz st : Nat} (hb : b ≤ 19683) (hst : st ≤ 729) (hsz : sz ≤ 3) (Q : List zE → Option Value → Prop) : ∀ (f x : Nat), (b ≤ x + f * st ∧ x < 100000 ∧ 0 < st) → ((∀ r, sch st sz b (f + 1) x = some r → Q M (some (.int (nI r)))) ∧ (sch st sz b (f + 1) x = none → ∀ y : Nat, Z Γ (zRm (d + 2) m_mo_suffixBetween) m_mo_suffixBetween (zPh Γ m_mo_suffixBetween Q) 0 0 74 [some (.int (nI a)), some (.int (nI b)), some (.int (nI sz)), some (.int (nI st)), some (.int (nI y))] [] M)) → Z Γ (zRm (d + 2) m_mo_suffixBetween) m_mo_suffixBetween (zPh Γ m_mo_suffixBetween Q) 0 0 39 [some (.int (nI a)), some (.int (nI b)), some (.int (nI sz)), some (.int (nI st)), some (.int (nI x))] [] M := by
  intro f
  induction f with
  | zero =>
    intro x hx hQ
    refine Z_iload d_mo_suffixBetween_39 rfl ?_
    refine Z_iload_n d_mo_suffixBetween_41 rfl ?_
    refine Zn_icmp_ge (tgt := 74) d_mo_suffixBetween_42 (by decide) (by omega) (by omega) (fun h42 => ?_) (fun h42 => absurd h42 (by omega))
    rw [sch, if_neg (by omega)] at hQ
    exact hQ.2 rfl _
  | succ f ih =>
    intro x hx hQ
    obtain ⟨hx1, hx2, hx3⟩ := hx
    rw [Nat.succ_mul] at hx1
    refine Z_iload d_mo_suffixBetween_39 rfl ?_
    refine Z_iload_n d_mo_suffixBetween_41 rfl ?_
    refine Zn_icmp_ge (tgt := 74) d_mo_suffixBetween_42 (by decide) (by omega) (by omega) (fun h42 => ?_) (fun h42 => ?_)
    · skip
      rw [sch, if_neg (by omega)] at hQ
      exact hQ.2 rfl _
    · skip
      refine Z_iload d_mo_suffixBetween_45 rfl ?_
      refine zTe (As := [.int (nI x)]) (by omega) d_mo_suffixBetween_47 lm_mo_176 rfl (Nat.le_of_ble_eq_true rfl) (mo_isSuffix_ok d (by omega)) ?_
      have hle := b10_lt (x := isf x)
      refine Zn_if_eq (tgt := 65) d_mo_suffixBetween_50 (by decide) (by omega) (fun h50 => ?_) (fun h50 => ?_)
      · skip
        have t50 := b10_f h50
        refine Z_iload d_mo_suffixBetween_65 rfl ?_
        refine Z_iload_n d_mo_suffixBetween_67 rfl ?_
        refine Zn_iadd d_mo_suffixBetween_68 ?_
        refine Zn_istore [some (.int (nI a)), some (.int (nI b)), some (.int (nI sz)), some (.int (nI st)), some (.int (nI (x + st)))] d_mo_suffixBetween_69 (by decide) rfl ?_
        refine Z_goto (tgt := 39) d_mo_suffixBetween_71 (by decide) ?_
        first | (rw [sch, if_pos (by omega), if_pos t50, if_neg h59] at hQ; exact ih (x + st) (by omega) hQ) | (rw [sch, if_pos (by omega), if_neg (fun z => absurd (t50.symm.trans z) (by decide))] at hQ; exact ih (x + st) (by omega) hQ)
      · skip
        have t50 := b10_t h50
        refine Z_iload d_mo_suffixBetween_53 rfl ?_
        refine zTe (As := [.int (nI x)]) (by omega) d_mo_suffixBetween_55 lm_mo_180 rfl (Nat.le_of_ble_eq_true rfl) (mo_suffixLength_ok d (by omega)) ?_
        have hsl := sfl_le x
        refine Z_iload_n d_mo_suffixBetween_58 rfl ?_
        refine Zn_icmp_ne (tgt := 65) d_mo_suffixBetween_59 (by decide) (by omega) (by omega) (fun h59 => ?_) (fun h59 => ?_)
        · skip
          refine Z_iload d_mo_suffixBetween_65 rfl ?_
          refine Z_iload_n d_mo_suffixBetween_67 rfl ?_
          refine Zn_iadd d_mo_suffixBetween_68 ?_
          refine Zn_istore [some (.int (nI a)), some (.int (nI b)), some (.int (nI sz)), some (.int (nI st)), some (.int (nI (x + st)))] d_mo_suffixBetween_69 (by decide) rfl ?_
          refine Z_goto (tgt := 39) d_mo_suffixBetween_71 (by decide) ?_
          first | (rw [sch, if_pos (by omega), if_pos t50, if_neg h59] at hQ; exact ih (x + st) (by omega) hQ) | (rw [sch, if_pos (by omega), if_neg (fun z => absurd (t50.symm.trans z) (by decide))] at hQ; exact ih (x + st) (by omega) hQ)
        · skip
          refine Z_iload d_mo_suffixBetween_62 rfl ?_
          refine Z_iret d_mo_suffixBetween_64 rfl ?_
          rw [sch, if_pos (by omega), if_pos t50, if_pos h59] at hQ
          exact hQ.1 _ rfl
set_option maxHeartbeats 4000000 in
theorem mo_suffixBetween_ok {Γ : zCtx} {M : List zE} (d : Nat) {a b : Nat} (ha : a < 19683) (hb : b ≤ 19683) : ZM Γ (d + 2) m_mo_suffixBetween [.int (nI a), .int (nI b)] M (zEq M (some (.int (oI (sfB a b) (-1))))) := by
  refine ZM.of mk_mo_suffixBetween (Nat.le_of_ble_eq_true rfl) ?_
  rw [show zEn [.int (nI a), .int (nI b)] = [some (.int (nI a)), some (.int (nI b))] from rfl]
  refine zPad 3 ?_
  show Z _ _ _ _ _ _ _ [some (.int (nI a)), some (.int (nI b)), none, none, none] _ _
  refine Zn_iconst (nI 1) d_mo_suffixBetween_0 (by decide) ?_
  refine Zn_istore_n [some (.int (nI a)), some (.int (nI b)), some (.int (nI 1)), none, none] d_mo_suffixBetween_1 (by decide) rfl ?_
  refine Z_iload_n d_mo_suffixBetween_2 rfl ?_
  refine Zn_iconst (nI 3) d_mo_suffixBetween_3 (by decide) ?_
  refine Zn_icmp_gt (a := 1) (b := 3) (tgt := 80) d_mo_suffixBetween_4 (by decide) (by decide) (by decide) (fun h => absurd h (by decide)) (fun _ => ?_)
  refine Z_iload_n d_mo_suffixBetween_7 rfl ?_
  refine Zn_iconst (nI 1) d_mo_suffixBetween_8 (by decide) ?_
  refine Zn_icmp_ne (a := 1) (b := 1) (tgt := 18) d_mo_suffixBetween_9 (by decide) (by decide) (by decide) (fun h => absurd h (by decide)) (fun _ => ?_)
  refine Zn_sipush (nI 729) d_mo_suffixBetween_12 (by decide) ?_
  refine Z_goto (tgt := 29) d_mo_suffixBetween_15 (by decide) ?_
  refine Zn_istore_n [some (.int (nI a)), some (.int (nI b)), some (.int (nI 1)), some (.int (nI 729)), none] d_mo_suffixBetween_29 (by decide) rfl ?_
  refine Z_iload_n d_mo_suffixBetween_30 rfl ?_
  refine Z_iload_n d_mo_suffixBetween_31 rfl ?_
  refine Zn_idiv d_mo_suffixBetween_32 (by omega) (by omega) (by omega) ?_
  refine Zn_iconst (nI 1) d_mo_suffixBetween_33 (by decide) ?_
  refine Zn_iadd d_mo_suffixBetween_34 ?_
  refine Z_iload_n d_mo_suffixBetween_35 rfl ?_
  refine Zn_imul d_mo_suffixBetween_36 ?_
  refine Zn_istore [some (.int (nI a)), some (.int (nI b)), some (.int (nI 1)), some (.int (nI 729)), some (.int (nI (((a / 729) + 1) * 729)))] d_mo_suffixBetween_37 (by decide) rfl ?_
  refine mo_sch_loop d hb (by decide) (by decide) _ 19999 _ ⟨by omega, by omega, by decide⟩ ⟨fun r hr => ⟨rfl, ?_⟩, fun hn1 y1 => ?_⟩
  · unfold sfB
    rw [hr]
    rfl
  · skip
    refine Zn_iinc [some (.int (nI a)), some (.int (nI b)), some (.int (nI 2)), some (.int (nI 729)), some (.int (nI y1))] (nI 2) d_mo_suffixBetween_74 rfl (by decide) (nI_add 1 1) rfl ?_
    refine Z_goto (tgt := 2) d_mo_suffixBetween_77 (by decide) ?_
    refine Z_iload_n d_mo_suffixBetween_2 rfl ?_
    refine Zn_iconst (nI 3) d_mo_suffixBetween_3 (by decide) ?_
    refine Zn_icmp_gt (a := 2) (b := 3) (tgt := 80) d_mo_suffixBetween_4 (by decide) (by decide) (by decide) (fun h => absurd h (by decide)) (fun _ => ?_)
    refine Z_iload_n d_mo_suffixBetween_7 rfl ?_
    refine Zn_iconst (nI 1) d_mo_suffixBetween_8 (by decide) ?_
    refine Zn_icmp_ne (a := 2) (b := 1) (tgt := 18) d_mo_suffixBetween_9 (by decide) (by decide) (by decide) (fun _ => ?_) (fun h => absurd h (by decide))
    refine Z_iload_n d_mo_suffixBetween_18 rfl ?_
    refine Zn_iconst (nI 2) d_mo_suffixBetween_19 (by decide) ?_
    refine Zn_icmp_ne (a := 2) (b := 2) (tgt := 28) d_mo_suffixBetween_20 (by decide) (by decide) (by decide) (fun h => absurd h (by decide)) (fun _ => ?_)
    refine Zn_bipush (nI 27) d_mo_suffixBetween_23 (by decide) ?_
    refine Z_goto (tgt := 29) d_mo_suffixBetween_25 (by decide) ?_
    refine Zn_istore_n [some (.int (nI a)), some (.int (nI b)), some (.int (nI 2)), some (.int (nI 27)), some (.int (nI y1))] d_mo_suffixBetween_29 (by decide) rfl ?_
    refine Z_iload_n d_mo_suffixBetween_30 rfl ?_
    refine Z_iload_n d_mo_suffixBetween_31 rfl ?_
    refine Zn_idiv d_mo_suffixBetween_32 (by omega) (by omega) (by omega) ?_
    refine Zn_iconst (nI 1) d_mo_suffixBetween_33 (by decide) ?_
    refine Zn_iadd d_mo_suffixBetween_34 ?_
    refine Z_iload_n d_mo_suffixBetween_35 rfl ?_
    refine Zn_imul d_mo_suffixBetween_36 ?_
    refine Zn_istore [some (.int (nI a)), some (.int (nI b)), some (.int (nI 2)), some (.int (nI 27)), some (.int (nI (((a / 27) + 1) * 27)))] d_mo_suffixBetween_37 (by decide) rfl ?_
    refine mo_sch_loop d hb (by decide) (by decide) _ 19999 _ ⟨by omega, by omega, by decide⟩ ⟨fun r hr => ⟨rfl, ?_⟩, fun hn2 y2 => ?_⟩
    · unfold sfB
      rw [hn1, hr]
      rfl
    · skip
      refine Zn_iinc [some (.int (nI a)), some (.int (nI b)), some (.int (nI 3)), some (.int (nI 27)), some (.int (nI y2))] (nI 3) d_mo_suffixBetween_74 rfl (by decide) (nI_add 2 1) rfl ?_
      refine Z_goto (tgt := 2) d_mo_suffixBetween_77 (by decide) ?_
      refine Z_iload_n d_mo_suffixBetween_2 rfl ?_
      refine Zn_iconst (nI 3) d_mo_suffixBetween_3 (by decide) ?_
      refine Zn_icmp_gt (a := 3) (b := 3) (tgt := 80) d_mo_suffixBetween_4 (by decide) (by decide) (by decide) (fun h => absurd h (by decide)) (fun _ => ?_)
      refine Z_iload_n d_mo_suffixBetween_7 rfl ?_
      refine Zn_iconst (nI 1) d_mo_suffixBetween_8 (by decide) ?_
      refine Zn_icmp_ne (a := 3) (b := 1) (tgt := 18) d_mo_suffixBetween_9 (by decide) (by decide) (by decide) (fun _ => ?_) (fun h => absurd h (by decide))
      refine Z_iload_n d_mo_suffixBetween_18 rfl ?_
      refine Zn_iconst (nI 2) d_mo_suffixBetween_19 (by decide) ?_
      refine Zn_icmp_ne (a := 3) (b := 2) (tgt := 28) d_mo_suffixBetween_20 (by decide) (by decide) (by decide) (fun _ => ?_) (fun h => absurd h (by decide))
      refine Zn_iconst (nI 1) d_mo_suffixBetween_28 (by decide) ?_
      refine Zn_istore_n [some (.int (nI a)), some (.int (nI b)), some (.int (nI 3)), some (.int (nI 1)), some (.int (nI y2))] d_mo_suffixBetween_29 (by decide) rfl ?_
      refine Z_iload_n d_mo_suffixBetween_30 rfl ?_
      refine Z_iload_n d_mo_suffixBetween_31 rfl ?_
      refine Zn_idiv d_mo_suffixBetween_32 (by omega) (by omega) (by omega) ?_
      refine Zn_iconst (nI 1) d_mo_suffixBetween_33 (by decide) ?_
      refine Zn_iadd d_mo_suffixBetween_34 ?_
      refine Z_iload_n d_mo_suffixBetween_35 rfl ?_
      refine Zn_imul d_mo_suffixBetween_36 ?_
      refine Zn_istore [some (.int (nI a)), some (.int (nI b)), some (.int (nI 3)), some (.int (nI 1)), some (.int (nI (((a / 1) + 1) * 1)))] d_mo_suffixBetween_37 (by decide) rfl ?_
      refine mo_sch_loop d hb (by decide) (by decide) _ 19999 _ ⟨by omega, by omega, by decide⟩ ⟨fun r hr => ⟨rfl, ?_⟩, fun hn3 y3 => ?_⟩
      · unfold sfB
        rw [hn1, hn2, hr]
        rfl
      · skip
        refine Zn_iinc [some (.int (nI a)), some (.int (nI b)), some (.int (nI 4)), some (.int (nI 1)), some (.int (nI y3))] (nI 4) d_mo_suffixBetween_74 rfl (by decide) (nI_add 3 1) rfl ?_
        refine Z_goto (tgt := 2) d_mo_suffixBetween_77 (by decide) ?_
        refine Z_iload_n d_mo_suffixBetween_2 rfl ?_
        refine Zn_iconst (nI 3) d_mo_suffixBetween_3 (by decide) ?_
        refine Zn_icmp_gt (a := 4) (b := 3) (tgt := 80) d_mo_suffixBetween_4 (by decide) (by decide) (by decide) (fun _ => ?_) (fun h => absurd h (by decide))
        refine Zn_iconst (-1) d_mo_suffixBetween_80 (by decide) ?_
        refine Z_iret d_mo_suffixBetween_81 rfl ?_
        refine ⟨rfl, ?_⟩
        unfold sfB
        rw [hn1, hn2, hn3]
        rfl
def lmA (G : Nat → Nat → Nat) (N v : Nat) : Nat := match nxC G (G 10 v) (G 12 v) N with
  | none => 19683
  | some q => if G 12 q / 19683 = G 12 v / 19683 then G 12 q % 19683 else 19683
theorem lmA_le {G : Nat → Nat → Nat} {N v : Nat} : lmA G N v ≤ 19683 := by
  unfold lmA
  split
  · exact Nat.le_refl _
  · rename_i q _
    have := Nat.mod_lt (G 12 q) (show 19683 > 0 by decide)
    split
    · exact Nat.le_of_lt this
    · exact Nat.le_refl _
def lbA (G : Nat → Nat → Nat) (N v : Nat) : Option Nat := (sfB (G 12 v % 19683) (lmA G N v)).map (fun x => G 12 v / 19683 * 19683 + x)
def lbE (G : Nat → Nat → Nat) (N a : Nat) : Option Nat := match lsC G a N with
  | none => some (1 * 19683)
  | some q => if G 12 q / 19683 + 1 ≤ 99 then some ((G 12 q / 19683 + 1) * 19683) else none
theorem sch_lt {st sz b : Nat} : ∀ {f x r : Nat}, sch st sz b f x = some r → r < b
  | 0, x, r, h => by cases h
  | f + 1, x, r, h => by
    unfold sch at h
    split at h
    · split at h
      · split at h
        · cases h; assumption
        · exact sch_lt h
      · exact sch_lt h
    · cases h
theorem sfB_lt {a b r : Nat} (h : sfB a b = some r) : r < b := by
  unfold sfB at h
  split at h
  · rename_i h1; cases h; exact sch_lt h1
  · split at h
    · rename_i h1; cases h; exact sch_lt h1
    · exact sch_lt h
set_option maxHeartbeats 4000000 in
theorem mo_labelAfter_ok {Γ : zCtx} {M : List zE} (d : Nat) {M0 : List zE} {s : Nat → Nat} {G : Nat → Nat → Nat} (hF : FW M0 M s G) (hB : nB (s 2) G) {v : Nat} (hv : v < s 2) : ZM Γ (d + 3) m_mo_labelAfter [.ref 123, .int (nI v)] M (zEq M (some (.int (oI (lbA G (s 2) v) (-1))))) := by
  refine ZM.of mk_mo_labelAfter (Nat.le_of_ble_eq_true rfl) ?_
  have hbv := hB.2 v hv
  have h160 := hB.1
  rw [show zEn [.ref 123, .int (nI v)] = [some (.ref 123), some (.int (nI v))] from rfl]
  refine zPad 3 ?_
  show Z _ _ _ _ _ _ _ [some (.ref 123), some (.int (nI v)), none, none, none] _ _
  refine Z_aload_n d_mo_labelAfter_0 rfl ?_
  refine Z_aload_n d_mo_labelAfter_1 rfl ?_
  refine Z_get (v := .ref 134) d_mo_labelAfter_2 lf_mo_40 hF.1 rfl ?_
  refine Z_iload_n d_mo_labelAfter_5 rfl ?_
  refine Zn_iald d_mo_labelAfter_6 hF.a10 (by omega) (by omega) ?_
  refine Z_aload_n d_mo_labelAfter_7 rfl ?_
  refine Z_get (v := .ref 136) d_mo_labelAfter_8 lf_mo_46 hF.1 rfl ?_
  refine Z_iload_n d_mo_labelAfter_11 rfl ?_
  refine Zn_iald d_mo_labelAfter_12 hF.a12 (by omega) (by omega) ?_
  refine zVe (As := [.int (mI (G 10 v)), .int (nI (G 12 v))]) (by omega) d_mo_labelAfter_13 lm_mo_165 hF.1 rfl rfl (Nat.le_of_ble_eq_true rfl) (mo_nextChild_ok (d + 1) hF hB (by omega) (by omega)) ?_
  rcases ho : nxC G (G 10 v) (G 12 v) (s 2) with _ | q
  · skip
    refine Zn_istore_n [some (.ref 123), some (.int (nI v)), some (.int (-1)), none, none] d_mo_labelAfter_16 (by decide) rfl ?_
    refine Z_iload_n d_mo_labelAfter_17 rfl ?_
    refine Z_if_lt (tgt := 48) d_mo_labelAfter_18 (by decide) (fun h18 => ?_) (fun h18 => ?_)
    · skip
      skip
      refine Zn_iconst (nI 0) d_mo_labelAfter_48 (by decide) ?_
      refine Zn_istore_n [some (.ref 123), some (.int (nI v)), some (.int (-1)), some (.int (nI 0)), none] d_mo_labelAfter_49 (by decide) rfl ?_
      refine Z_aload_n d_mo_labelAfter_50 rfl ?_
      refine Z_get (v := .ref 136) d_mo_labelAfter_51 lf_mo_46 hF.1 rfl ?_
      refine Z_iload_n d_mo_labelAfter_54 rfl ?_
      refine Zn_iald d_mo_labelAfter_55 hF.a12 (by omega) (by omega) ?_
      refine Zn_sipush (nI 19683) d_mo_labelAfter_56 (by decide) ?_
      refine Zn_irem d_mo_labelAfter_59 (by omega) (by omega) (by omega) ?_
      refine Z_iload_n d_mo_labelAfter_60 rfl ?_
      refine Zn_if_eq (a := 0) (tgt := 77) d_mo_labelAfter_61 (by decide) (by decide) (fun _ => ?_) (fun h => absurd h (by decide))
      refine Zn_sipush (nI 19683) d_mo_labelAfter_77 (by decide) ?_
      refine zTe (As := [.int (nI (G 12 v % 19683)), .int (nI 19683)]) (by omega) d_mo_labelAfter_80 lm_mo_183 rfl (Nat.le_of_ble_eq_true rfl) (mo_suffixBetween_ok d (by omega) (by omega)) ?_
      have hl : lbA G (s 2) v = (sfB (G 12 v % 19683) 19683).map (fun x => G 12 v / 19683 * 19683 + x) := by unfold lbA lmA; rw [ho]
      rcases hr : sfB (G 12 v % 19683) 19683 with _ | x
      · rw [hr] at hl
        refine Zn_istore [some (.ref 123), some (.int (nI v)), some (.int (-1)), some (.int (nI 0)), some (.int (-1))] d_mo_labelAfter_83 (by decide) rfl ?_
        refine Z_iload d_mo_labelAfter_85 rfl ?_
        refine Z_if_ge (tgt := 94) d_mo_labelAfter_87 (by decide) (fun h87 => ?_) (fun h87 => ?_)
        · skip
          exact absurd h87 (by decide) -- end
        · skip
          skip
          refine Zn_iconst (-1) d_mo_labelAfter_90 (by decide) ?_
          refine Z_goto (tgt := 111) d_mo_labelAfter_91 (by decide) ?_
          refine Z_iret d_mo_labelAfter_111 rfl ?_
          exact ⟨rfl, by rw [hl]; rfl⟩
      · rw [hr] at hl
        have hx := sfB_lt hr
        refine Zn_istore [some (.ref 123), some (.int (nI v)), some (.int (-1)), some (.int (nI 0)), some (.int (nI x))] d_mo_labelAfter_83 (by decide) rfl ?_
        refine Z_iload d_mo_labelAfter_85 rfl ?_
        refine Z_if_ge (tgt := 94) d_mo_labelAfter_87 (by decide) (fun h87 => ?_) (fun h87 => ?_)
        · skip
          skip
          refine Z_aload_n d_mo_labelAfter_94 rfl ?_
          refine Z_get (v := .ref 136) d_mo_labelAfter_95 lf_mo_46 hF.1 rfl ?_
          refine Z_iload_n d_mo_labelAfter_98 rfl ?_
          refine Zn_iald d_mo_labelAfter_99 hF.a12 (by omega) (by omega) ?_
          refine Zn_sipush (nI 19683) d_mo_labelAfter_100 (by decide) ?_
          refine Zn_idiv d_mo_labelAfter_103 (by omega) (by omega) (by omega) ?_
          refine Zn_sipush (nI 19683) d_mo_labelAfter_104 (by decide) ?_
          refine Zn_imul d_mo_labelAfter_107 ?_
          refine Z_iload d_mo_labelAfter_108 rfl ?_
          refine Zn_iadd d_mo_labelAfter_110 ?_
          refine Z_iret d_mo_labelAfter_111 rfl ?_
          exact ⟨rfl, by rw [hl]; rfl⟩
        · skip
          exact absurd (Int32.not_lt.mp (nI_pos (by omega))) h87 -- end
    · skip
      exact absurd (by decide) h18 -- end
  · skip
    have hq := nxC_lt ho
    have hbq := hB.2 q hq
    refine Zn_istore_n [some (.ref 123), some (.int (nI v)), some (.int (nI q)), none, none] d_mo_labelAfter_16 (by decide) rfl ?_
    refine Z_iload_n d_mo_labelAfter_17 rfl ?_
    refine Z_if_lt (tgt := 48) d_mo_labelAfter_18 (by decide) (fun h18 => ?_) (fun h18 => ?_)
    · skip
      exact absurd h18 (nI_pos (by omega)) -- end
    · skip
      skip
      refine Z_aload_n d_mo_labelAfter_21 rfl ?_
      refine Z_get (v := .ref 136) d_mo_labelAfter_22 lf_mo_46 hF.1 rfl ?_
      refine Z_iload_n d_mo_labelAfter_25 rfl ?_
      refine Zn_iald d_mo_labelAfter_26 hF.a12 (by omega) (by omega) ?_
      refine Zn_sipush (nI 19683) d_mo_labelAfter_27 (by decide) ?_
      refine Zn_idiv d_mo_labelAfter_30 (by omega) (by omega) (by omega) ?_
      refine Z_aload_n d_mo_labelAfter_31 rfl ?_
      refine Z_get (v := .ref 136) d_mo_labelAfter_32 lf_mo_46 hF.1 rfl ?_
      refine Z_iload_n d_mo_labelAfter_35 rfl ?_
      refine Zn_iald d_mo_labelAfter_36 hF.a12 (by omega) (by omega) ?_
      refine Zn_sipush (nI 19683) d_mo_labelAfter_37 (by decide) ?_
      refine Zn_idiv d_mo_labelAfter_40 (by omega) (by omega) (by omega) ?_
      refine Zn_icmp_ne (tgt := 48) d_mo_labelAfter_41 (by decide) (by omega) (by omega) (fun h41 => ?_) (fun h41 => ?_)
      · skip
        refine Zn_iconst (nI 0) d_mo_labelAfter_48 (by decide) ?_
        refine Zn_istore_n [some (.ref 123), some (.int (nI v)), some (.int (nI q)), some (.int (nI 0)), none] d_mo_labelAfter_49 (by decide) rfl ?_
        refine Z_aload_n d_mo_labelAfter_50 rfl ?_
        refine Z_get (v := .ref 136) d_mo_labelAfter_51 lf_mo_46 hF.1 rfl ?_
        refine Z_iload_n d_mo_labelAfter_54 rfl ?_
        refine Zn_iald d_mo_labelAfter_55 hF.a12 (by omega) (by omega) ?_
        refine Zn_sipush (nI 19683) d_mo_labelAfter_56 (by decide) ?_
        refine Zn_irem d_mo_labelAfter_59 (by omega) (by omega) (by omega) ?_
        refine Z_iload_n d_mo_labelAfter_60 rfl ?_
        refine Zn_if_eq (a := 0) (tgt := 77) d_mo_labelAfter_61 (by decide) (by decide) (fun _ => ?_) (fun h => absurd h (by decide))
        refine Zn_sipush (nI 19683) d_mo_labelAfter_77 (by decide) ?_
        refine zTe (As := [.int (nI (G 12 v % 19683)), .int (nI 19683)]) (by omega) d_mo_labelAfter_80 lm_mo_183 rfl (Nat.le_of_ble_eq_true rfl) (mo_suffixBetween_ok d (by omega) (by omega)) ?_
        have hl : lbA G (s 2) v = (sfB (G 12 v % 19683) 19683).map (fun x => G 12 v / 19683 * 19683 + x) := by unfold lbA lmA; rw [ho]; dsimp only; rw [if_neg h41]
        rcases hr : sfB (G 12 v % 19683) 19683 with _ | x
        · rw [hr] at hl
          refine Zn_istore [some (.ref 123), some (.int (nI v)), some (.int (nI q)), some (.int (nI 0)), some (.int (-1))] d_mo_labelAfter_83 (by decide) rfl ?_
          refine Z_iload d_mo_labelAfter_85 rfl ?_
          refine Z_if_ge (tgt := 94) d_mo_labelAfter_87 (by decide) (fun h87 => ?_) (fun h87 => ?_)
          · skip
            exact absurd h87 (by decide) -- end
          · skip
            skip
            refine Zn_iconst (-1) d_mo_labelAfter_90 (by decide) ?_
            refine Z_goto (tgt := 111) d_mo_labelAfter_91 (by decide) ?_
            refine Z_iret d_mo_labelAfter_111 rfl ?_
            exact ⟨rfl, by rw [hl]; rfl⟩
        · rw [hr] at hl
          have hx := sfB_lt hr
          refine Zn_istore [some (.ref 123), some (.int (nI v)), some (.int (nI q)), some (.int (nI 0)), some (.int (nI x))] d_mo_labelAfter_83 (by decide) rfl ?_
          refine Z_iload d_mo_labelAfter_85 rfl ?_
          refine Z_if_ge (tgt := 94) d_mo_labelAfter_87 (by decide) (fun h87 => ?_) (fun h87 => ?_)
          · skip
            skip
            refine Z_aload_n d_mo_labelAfter_94 rfl ?_
            refine Z_get (v := .ref 136) d_mo_labelAfter_95 lf_mo_46 hF.1 rfl ?_
            refine Z_iload_n d_mo_labelAfter_98 rfl ?_
            refine Zn_iald d_mo_labelAfter_99 hF.a12 (by omega) (by omega) ?_
            refine Zn_sipush (nI 19683) d_mo_labelAfter_100 (by decide) ?_
            refine Zn_idiv d_mo_labelAfter_103 (by omega) (by omega) (by omega) ?_
            refine Zn_sipush (nI 19683) d_mo_labelAfter_104 (by decide) ?_
            refine Zn_imul d_mo_labelAfter_107 ?_
            refine Z_iload d_mo_labelAfter_108 rfl ?_
            refine Zn_iadd d_mo_labelAfter_110 ?_
            refine Z_iret d_mo_labelAfter_111 rfl ?_
            exact ⟨rfl, by rw [hl]; rfl⟩
          · skip
            exact absurd (Int32.not_lt.mp (nI_pos (by omega))) h87 -- end
      · skip
        refine Zn_iconst (nI 1) d_mo_labelAfter_44 (by decide) ?_
        refine Z_goto (tgt := 49) d_mo_labelAfter_45 (by decide) ?_
        refine Zn_istore_n [some (.ref 123), some (.int (nI v)), some (.int (nI q)), some (.int (nI 1)), none] d_mo_labelAfter_49 (by decide) rfl ?_
        refine Z_aload_n d_mo_labelAfter_50 rfl ?_
        refine Z_get (v := .ref 136) d_mo_labelAfter_51 lf_mo_46 hF.1 rfl ?_
        refine Z_iload_n d_mo_labelAfter_54 rfl ?_
        refine Zn_iald d_mo_labelAfter_55 hF.a12 (by omega) (by omega) ?_
        refine Zn_sipush (nI 19683) d_mo_labelAfter_56 (by decide) ?_
        refine Zn_irem d_mo_labelAfter_59 (by omega) (by omega) (by omega) ?_
        refine Z_iload_n d_mo_labelAfter_60 rfl ?_
        refine Zn_if_eq (a := 1) (tgt := 77) d_mo_labelAfter_61 (by decide) (by decide) (fun h => absurd h (by decide)) (fun _ => ?_)
        refine Z_aload_n d_mo_labelAfter_64 rfl ?_
        refine Z_get (v := .ref 136) d_mo_labelAfter_65 lf_mo_46 hF.1 rfl ?_
        refine Z_iload_n d_mo_labelAfter_68 rfl ?_
        refine Zn_iald d_mo_labelAfter_69 hF.a12 (by omega) (by omega) ?_
        refine Zn_sipush (nI 19683) d_mo_labelAfter_70 (by decide) ?_
        refine Zn_irem d_mo_labelAfter_73 (by omega) (by omega) (by omega) ?_
        refine Z_goto (tgt := 80) d_mo_labelAfter_74 (by decide) ?_
        refine zTe (As := [.int (nI (G 12 v % 19683)), .int (nI ((G 12 q) % 19683))]) (by omega) d_mo_labelAfter_80 lm_mo_183 rfl (Nat.le_of_ble_eq_true rfl) (mo_suffixBetween_ok d (by omega) (by omega)) ?_
        have hl : lbA G (s 2) v = (sfB (G 12 v % 19683) ((G 12 q) % 19683)).map (fun x => G 12 v / 19683 * 19683 + x) := by unfold lbA lmA; rw [ho]; dsimp only; rw [if_pos h41]
        rcases hr : sfB (G 12 v % 19683) ((G 12 q) % 19683) with _ | x
        · rw [hr] at hl
          refine Zn_istore [some (.ref 123), some (.int (nI v)), some (.int (nI q)), some (.int (nI 1)), some (.int (-1))] d_mo_labelAfter_83 (by decide) rfl ?_
          refine Z_iload d_mo_labelAfter_85 rfl ?_
          refine Z_if_ge (tgt := 94) d_mo_labelAfter_87 (by decide) (fun h87 => ?_) (fun h87 => ?_)
          · skip
            exact absurd h87 (by decide) -- end
          · skip
            skip
            refine Zn_iconst (-1) d_mo_labelAfter_90 (by decide) ?_
            refine Z_goto (tgt := 111) d_mo_labelAfter_91 (by decide) ?_
            refine Z_iret d_mo_labelAfter_111 rfl ?_
            exact ⟨rfl, by rw [hl]; rfl⟩
        · rw [hr] at hl
          have hx := sfB_lt hr
          refine Zn_istore [some (.ref 123), some (.int (nI v)), some (.int (nI q)), some (.int (nI 1)), some (.int (nI x))] d_mo_labelAfter_83 (by decide) rfl ?_
          refine Z_iload d_mo_labelAfter_85 rfl ?_
          refine Z_if_ge (tgt := 94) d_mo_labelAfter_87 (by decide) (fun h87 => ?_) (fun h87 => ?_)
          · skip
            skip
            refine Z_aload_n d_mo_labelAfter_94 rfl ?_
            refine Z_get (v := .ref 136) d_mo_labelAfter_95 lf_mo_46 hF.1 rfl ?_
            refine Z_iload_n d_mo_labelAfter_98 rfl ?_
            refine Zn_iald d_mo_labelAfter_99 hF.a12 (by omega) (by omega) ?_
            refine Zn_sipush (nI 19683) d_mo_labelAfter_100 (by decide) ?_
            refine Zn_idiv d_mo_labelAfter_103 (by omega) (by omega) (by omega) ?_
            refine Zn_sipush (nI 19683) d_mo_labelAfter_104 (by decide) ?_
            refine Zn_imul d_mo_labelAfter_107 ?_
            refine Z_iload d_mo_labelAfter_108 rfl ?_
            refine Zn_iadd d_mo_labelAfter_110 ?_
            refine Z_iret d_mo_labelAfter_111 rfl ?_
            exact ⟨rfl, by rw [hl]; rfl⟩
          · skip
            exact absurd (Int32.not_lt.mp (nI_pos (by omega))) h87 -- end
set_option maxHeartbeats 4000000 in
theorem mo_labelAtEnd_ok {Γ : zCtx} {M : List zE} (d : Nat) {M0 : List zE} {s : Nat → Nat} {G : Nat → Nat → Nat} (hF : FW M0 M s G) (hB : nB (s 2) G) {a : Nat} (ha : a ≤ 1000) : ZM Γ (d + 2) m_mo_labelAtEnd [.ref 123, .int (mI a)] M (zEq M (some (.int (oI (lbE G (s 2) a) (-1))))) := by
  refine ZM.of mk_mo_labelAtEnd (Nat.le_of_ble_eq_true rfl) ?_
  rw [show zEn [.ref 123, .int (mI a)] = [some (.ref 123), some (.int (mI a))] from rfl]
  refine zPad 2 ?_
  show Z _ _ _ _ _ _ _ [some (.ref 123), some (.int (mI a)), none, none] _ _
  refine Z_aload_n d_mo_labelAtEnd_0 rfl ?_
  refine Z_iload_n d_mo_labelAtEnd_1 rfl ?_
  refine zVe (As := [.int (mI a)]) (by omega) d_mo_labelAtEnd_2 lm_mo_186 hF.1 rfl rfl (Nat.le_of_ble_eq_true rfl) (mo_lastChild_ok d hF hB ha) ?_
  rcases ho : lsC G a (s 2) with _ | q
  · skip
    refine Zn_istore_n [some (.ref 123), some (.int (mI a)), some (.int (-1)), none] d_mo_labelAtEnd_5 (by decide) rfl ?_
    refine Z_iload_n d_mo_labelAtEnd_6 rfl ?_
    refine Z_if_ge (tgt := 14) d_mo_labelAtEnd_7 (by decide) (fun h7 => ?_) (fun h7 => ?_)
    · skip
      exact absurd h7 (by decide) -- end
    · skip
      skip
      refine Zn_iconst (nI 1) d_mo_labelAtEnd_10 (by decide) ?_
      refine Z_goto (tgt := 26) d_mo_labelAtEnd_11 (by decide) ?_
      refine Zn_istore_n [some (.ref 123), some (.int (mI a)), some (.int (-1)), some (.int (nI 1))] d_mo_labelAtEnd_26 (by decide) rfl ?_
      refine Z_iload_n d_mo_labelAtEnd_27 rfl ?_
      refine Zn_bipush (nI 99) d_mo_labelAtEnd_28 (by decide) ?_
      refine Zn_icmp_le (a := 1) (b := 99) (tgt := 37) d_mo_labelAtEnd_30 (by decide) (by decide) (by decide) (fun _ => ?_) (fun h => absurd h (by decide))
      refine Z_iload_n d_mo_labelAtEnd_37 rfl ?_
      refine Zn_sipush (nI 19683) d_mo_labelAtEnd_38 (by decide) ?_
      refine Zn_imul d_mo_labelAtEnd_41 ?_
      refine Z_iret d_mo_labelAtEnd_42 rfl ?_
      refine ⟨rfl, ?_⟩
      unfold lbE
      rw [ho]
      first | rfl | (dsimp only; rw [if_pos h30]; rfl) | (dsimp only; rw [if_neg h30]; rfl)
  · skip
    have hq := lsC_lt ho
    have hbq := hB.2 q hq
    have h160 := hB.1
    refine Zn_istore_n [some (.ref 123), some (.int (mI a)), some (.int (nI q)), none] d_mo_labelAtEnd_5 (by decide) rfl ?_
    refine Z_iload_n d_mo_labelAtEnd_6 rfl ?_
    refine Z_if_ge (tgt := 14) d_mo_labelAtEnd_7 (by decide) (fun h7 => ?_) (fun h7 => ?_)
    · skip
      skip
      refine Z_aload_n d_mo_labelAtEnd_14 rfl ?_
      refine Z_get (v := .ref 136) d_mo_labelAtEnd_15 lf_mo_46 hF.1 rfl ?_
      refine Z_iload_n d_mo_labelAtEnd_18 rfl ?_
      refine Zn_iald d_mo_labelAtEnd_19 hF.a12 (by omega) (by omega) ?_
      refine Zn_sipush (nI 19683) d_mo_labelAtEnd_20 (by decide) ?_
      refine Zn_idiv d_mo_labelAtEnd_23 (by omega) (by omega) (by omega) ?_
      refine Zn_iconst (nI 1) d_mo_labelAtEnd_24 (by decide) ?_
      refine Zn_iadd d_mo_labelAtEnd_25 ?_
      refine Zn_istore_n [some (.ref 123), some (.int (mI a)), some (.int (nI q)), some (.int (nI (((G 12 q) / 19683) + 1)))] d_mo_labelAtEnd_26 (by decide) rfl ?_
      refine Z_iload_n d_mo_labelAtEnd_27 rfl ?_
      refine Zn_bipush (nI 99) d_mo_labelAtEnd_28 (by decide) ?_
      refine Zn_icmp_le (tgt := 37) d_mo_labelAtEnd_30 (by decide) (by omega) (by omega) (fun h30 => ?_) (fun h30 => ?_)
      · skip
        refine Z_iload_n d_mo_labelAtEnd_37 rfl ?_
        refine Zn_sipush (nI 19683) d_mo_labelAtEnd_38 (by decide) ?_
        refine Zn_imul d_mo_labelAtEnd_41 ?_
        refine Z_iret d_mo_labelAtEnd_42 rfl ?_
        refine ⟨rfl, ?_⟩
        unfold lbE
        rw [ho]
        first | rfl | (dsimp only; rw [if_pos h30]; rfl) | (dsimp only; rw [if_neg h30]; rfl)
      · skip
        refine Zn_iconst (-1) d_mo_labelAtEnd_33 (by decide) ?_
        refine Z_goto (tgt := 42) d_mo_labelAtEnd_34 (by decide) ?_
        refine Z_iret d_mo_labelAtEnd_42 rfl ?_
        refine ⟨rfl, ?_⟩
        unfold lbE
        rw [ho]
        first | rfl | (dsimp only; rw [if_pos h30]; rfl) | (dsimp only; rw [if_neg h30]; rfl)
    · skip
      exact absurd (Int32.not_lt.mp (nI_pos (by omega))) h7 -- end
