/-! what differs -/
def keq (S U : vSt) (o i : Nat) : Bool := decide (i < S.1 ∧ i < U.1 ∧ ek (S.2.1 i) = ek (U.2.1 i) ∧ et (S.2.1 i) = et (U.2.1 i) ∧ er (S.2.1 i) = er (U.2.1 i) ∧ (o = 0 ∨ eo (S.2.1 i) = eo (U.2.1 i)))
theorem er_eq {a b : Bool} {x y : Nat} (hx : x = if a = true then 1 else 0) (hb : b = decide (y ≠ 0)) (hy : y ≤ 1) : x = y ↔ a = b := by
  rcases (show y = 0 ∨ y = 1 by omega) with rfl | rfl <;> cases a <;> simp at hx hb <;> subst hx hb <;> simp
theorem dif_f {x y : zEnt} : dif x y = false ↔ ek x = ek y ∧ et x = et y ∧ er x = er y := by
  unfold dif
  by_cases h1 : ek x = ek y <;> by_cases h2 : et x = et y <;> by_cases h3 : er x = er y <;> simp [h1, h2, h3]
theorem fu_fdif {S U : vSt} : frst (fun i => !(keq S U 0 i)) (max S.1 U.1) = fdif S.1 U.1 S.2.1 U.2.1 := by
  unfold fdif
  cases hf : frst (fun i => dif (S.2.1 i) (U.2.1 i)) (min S.1 U.1) with
  | some i =>
    obtain ⟨h1, h2, h3⟩ := frst_some.mp hf
    refine frst_some.mpr ⟨by omega, ?_, fun j hj => ?_⟩
    · show (!(keq S U 0 i)) = true
      have : keq S U 0 i = false := decide_eq_false (fun z => by
        have := dif_f.mpr ⟨z.2.2.1, z.2.2.2.1, z.2.2.2.2.1⟩
        rw [h2] at this; cases this)
      rw [this]; rfl
    · show (!(keq S U 0 j)) = false
      have d := dif_f.mp (h3 j hj)
      have : keq S U 0 j = true := decide_eq_true ⟨by omega, by omega, d.1, d.2.1, d.2.2, Or.inl rfl⟩
      rw [this]; rfl
  | none =>
    have no := frst_none.mp hf
    have kt : ∀ j, j < min S.1 U.1 → keq S U 0 j = true := fun j hj => by
      have d := dif_f.mp (no j hj)
      exact decide_eq_true ⟨by omega, by omega, d.1, d.2.1, d.2.2, Or.inl rfl⟩
    dsimp only
    by_cases c : S.1 = U.1
    · rw [if_pos c]
      refine frst_none.mpr (fun j hj => ?_)
      show (!(keq S U 0 j)) = false
      rw [kt j (by omega)]; rfl
    · rw [if_neg c]
      refine frst_some.mpr ⟨by omega, ?_, fun j hj => ?_⟩
      · show (!(keq S U 0 (min S.1 U.1))) = true
        have : keq S U 0 (min S.1 U.1) = false := decide_eq_false (fun z => by omega)
        rw [this]; rfl
      · show (!(keq S U 0 j)) = false
        rw [kt j hj]; rfl
theorem fu_same {S U : vSt} : (frst (fun i => !(keq S U 1 i)) (max S.1 U.1)).isNone = same S.1 U.1 S.2.1 U.2.1 := by
  have key : (frst (fun i => !(keq S U 1 i)) (max S.1 U.1) = none) ↔ (fdif S.1 U.1 S.2.1 U.2.1 = none ∧ frst (fun i => decide (eo (S.2.1 i) ≠ eo (U.2.1 i))) S.1 = none) := by
    rw [← fu_fdif, frst_none, frst_none, frst_none]
    constructor
    · intro h
      have kt : ∀ j, j < max S.1 U.1 → keq S U 1 j = true := fun j hj => by
        have := h j hj
        cases hk : keq S U 1 j with
        | true => rfl
        | false => rw [hk] at this; cases this
      refine ⟨fun j hj => ?_, fun j hj => ?_⟩
      · have z := of_decide_eq_true (kt j hj)
        show (!(keq S U 0 j)) = false
        have : keq S U 0 j = true := decide_eq_true ⟨z.1, z.2.1, z.2.2.1, z.2.2.2.1, z.2.2.2.2.1, Or.inl rfl⟩
        rw [this]; rfl
      · have z := of_decide_eq_true (kt j (by omega))
        refine decide_eq_false (fun y => y ?_)
        rcases z.2.2.2.2.2 with t | t
        · omega
        · exact t
    · intro ⟨h1, h2⟩ j hj
      show (!(keq S U 1 j)) = false
      have k0 : keq S U 0 j = true := by
        have := h1 j hj
        cases hk : keq S U 0 j with
        | true => rfl
        | false => rw [hk] at this; cases this
      have z := of_decide_eq_true k0
      have e := of_decide_eq_false (h2 j z.1)
      have : keq S U 1 j = true := decide_eq_true ⟨z.1, z.2.1, z.2.2.1, z.2.2.2.1, z.2.2.2.2.1, Or.inr (Classical.not_not.mp e)⟩
      rw [this]; rfl
  unfold same
  cases ha : frst (fun i => !(keq S U 1 i)) (max S.1 U.1) with
  | none =>
    obtain ⟨k1, k2⟩ := key.mp ha
    rw [k1, k2]; rfl
  | some i =>
    cases hb : fdif S.1 U.1 S.2.1 U.2.1 with
    | some j => rfl
    | none =>
      cases hc : frst (fun i => decide (eo (S.2.1 i) ≠ eo (U.2.1 i))) S.1 with
      | some j => rfl
      | none => have := key.mpr ⟨hb, hc⟩; rw [ha] at this; cases this
set_option maxHeartbeats 4000000 in
theorem mo_isKept_ok {Γ : zCtx} {M : List zE} (d : Nat) {M0 : List zE} {s : Nat → Nat} {G : Nat → Nat → Nat} (hF : FW M0 M s G) {S U : vSt} {n0 : Nat} {K : Nat → Nat} (hRO : RO U n0 s G) (hND : nodes (s 2) G K) (hod : od U.1 U.2.1 (s 2) G K U.1) (hk : kpt S G S.1) (h10 : s 10 = S.1) (hS60 : S.1 ≤ 60) (hg : ∀ i, i < S.1 → gk (ek (S.2.1 i))) {i o : Nat} (hi : i < 1000) (ho : o ≤ 1)  : ZM Γ (d + 2) m_mo_isKept [.ref 123, .int (nI i), .int (nI o)] M (zEq M (some (.int (nI (if keq S U o i = true then 1 else 0))))) := by
  refine ZM.of mk_mo_isKept (Nat.le_of_ble_eq_true rfl) ?_
  have hs3 := hRO.nn
  rw [show zEn [.ref 123, .int (nI i), .int (nI o)] = [some (.ref 123), some (.int (nI i)), some (.int (nI o))] from rfl]
  refine zPad 3 ?_
  show Z _ _ _ _ _ _ _ [some (.ref 123), some (.int (nI i)), some (.int (nI o)), none, none, none] _ _
  refine Z_iload_n d_mo_isKept_0 rfl ?_
  refine Z_aload_n d_mo_isKept_1 rfl ?_
  refine Z_get (v := .int (nI (s 10))) d_mo_isKept_2 lf_mo_334 hF.1 rfl ?_
  refine Zn_icmp_ge (tgt := 16) d_mo_isKept_5 (by decide) (by omega) (by omega) (fun h5 => ?_) (fun h5 => ?_)
  · skip
    skip
    refine Zn_iconst (nI 0) d_mo_isKept_16 (by decide) ?_
    refine Z_zret d_mo_isKept_17 rfl rfl ?_
    refine ⟨rfl, ?_⟩
    rw [if_neg (show ¬ keq S U o i = true from fun z => by
      have z := of_decide_eq_true z
      omega)]
  · skip
    refine Z_iload_n d_mo_isKept_8 rfl ?_
    refine Z_aload_n d_mo_isKept_9 rfl ?_
    refine Z_get (v := .int (nI (s 3))) d_mo_isKept_10 lf_mo_148 hF.1 rfl ?_
    refine Zn_icmp_lt (tgt := 18) d_mo_isKept_13 (by decide) (by omega) (by omega) (fun h13 => ?_) (fun h13 => ?_)
    · skip
      have hat := hRO.at (show i < U.1 by omega)
      have hkp := hk i (by omega)
      have hL11 := lab_lt (ek (S.2.1 i)) 1
      have hL12 := lab_lt (ek (S.2.1 i)) 2
      have hL13 := lab_lt (ek (S.2.1 i)) 3
      have hL21 := lab_lt (ek (U.2.1 i)) 1
      have hL22 := lab_lt (ek (U.2.1 i)) 2
      have hL23 := lab_lt (ek (U.2.1 i)) 3
      have her := er_eq hkp.2.2.2.2.2 hat.2.2.2.2.1 hat.2.2.2.2.2.2.2.1
      have h29 : G 29 i ≤ 1 := by rw [hkp.2.2.2.2.2]; split <;> omega
      have hgi := hg i (by omega)
      obtain ⟨o1, o2, o3⟩ := hod i (by omega)
      have hgu := (hND.1 _ o1 o2).1
      rw [o3] at hgu
      have hnn := hRO.nn
      refine Z_aload_n d_mo_isKept_18 rfl ?_
      refine Z_get (v := .ref 142) d_mo_isKept_19 lf_mo_65 hF.1 rfl ?_
      refine Z_iload_n d_mo_isKept_22 rfl ?_
      refine Zn_iald d_mo_isKept_23 hF.a18 (by omega) (by omega) ?_
      refine Zn_istore_n [some (.ref 123), some (.int (nI i)), some (.int (nI o)), some (.int (nI (G 18 i))), none, none] d_mo_isKept_24 (by decide) rfl ?_
      refine Z_aload_n d_mo_isKept_25 rfl ?_
      refine Z_get (v := .ref 151) d_mo_isKept_26 lf_mo_92 hF.1 rfl ?_
      refine Z_iload_n d_mo_isKept_29 rfl ?_
      refine Zn_iald d_mo_isKept_30 hF.a27 (by omega) (by omega) ?_
      refine Z_aload_n d_mo_isKept_31 rfl ?_
      refine Z_get (v := .ref 137) d_mo_isKept_32 lf_mo_49 hF.1 rfl ?_
      refine Z_iload_n d_mo_isKept_35 rfl ?_
      refine Zn_iald d_mo_isKept_36 hF.a13 (by omega) (by omega) ?_
      refine Z_icmp_ne (tgt := 78) d_mo_isKept_37 (by decide) (fun h37 => ?_) (fun h37 => ?_)
      · skip
        skip
        refine Zn_iconst (nI 0) d_mo_isKept_78 (by decide) ?_
        refine Zn_istore [some (.ref 123), some (.int (nI i)), some (.int (nI o)), some (.int (nI (G 18 i))), some (.int (nI 0)), none] d_mo_isKept_79 (by decide) rfl ?_
        refine Zn_iconst (nI 1) d_mo_isKept_81 (by decide) ?_
        refine Zn_istore [some (.ref 123), some (.int (nI i)), some (.int (nI o)), some (.int (nI (G 18 i))), some (.int (nI 0)), some (.int (nI 1))] d_mo_isKept_82 (by decide) rfl ?_
        refine Z_iload d_mo_isKept_84 rfl ?_
        refine Zn_iconst (nI 3) d_mo_isKept_86 (by decide) ?_
        refine Zn_icmp_gt (a := 1) (b := 3) (tgt := 131) d_mo_isKept_87 (by decide) (by decide) (by decide) (fun h => absurd h (by decide)) (fun _ => ?_)
        refine Z_iload d_mo_isKept_90 rfl ?_
        refine Zn_if_eq (a := 0) (tgt := 122) d_mo_isKept_92 (by decide) (by decide) (fun _ => ?_) (fun h => absurd h (by decide))
        refine Zn_iconst (nI 0) d_mo_isKept_122 (by decide) ?_
        refine Zn_istore [some (.ref 123), some (.int (nI i)), some (.int (nI o)), some (.int (nI (G 18 i))), some (.int (nI 0)), some (.int (nI 1))] d_mo_isKept_123 (by decide) rfl ?_
        refine Zn_iinc [some (.ref 123), some (.int (nI i)), some (.int (nI o)), some (.int (nI (G 18 i))), some (.int (nI 0)), some (.int (nI 2))] (nI 2) d_mo_isKept_125 rfl (by decide) (nI_add 1 1) rfl ?_
        refine Z_goto (tgt := 84) d_mo_isKept_128 (by decide) ?_
        refine Z_iload d_mo_isKept_84 rfl ?_
        refine Zn_iconst (nI 3) d_mo_isKept_86 (by decide) ?_
        refine Zn_icmp_gt (a := 2) (b := 3) (tgt := 131) d_mo_isKept_87 (by decide) (by decide) (by decide) (fun h => absurd h (by decide)) (fun _ => ?_)
        refine Z_iload d_mo_isKept_90 rfl ?_
        refine Zn_if_eq (a := 0) (tgt := 122) d_mo_isKept_92 (by decide) (by decide) (fun _ => ?_) (fun h => absurd h (by decide))
        refine Zn_iconst (nI 0) d_mo_isKept_122 (by decide) ?_
        refine Zn_istore [some (.ref 123), some (.int (nI i)), some (.int (nI o)), some (.int (nI (G 18 i))), some (.int (nI 0)), some (.int (nI 2))] d_mo_isKept_123 (by decide) rfl ?_
        refine Zn_iinc [some (.ref 123), some (.int (nI i)), some (.int (nI o)), some (.int (nI (G 18 i))), some (.int (nI 0)), some (.int (nI 3))] (nI 3) d_mo_isKept_125 rfl (by decide) (nI_add 2 1) rfl ?_
        refine Z_goto (tgt := 84) d_mo_isKept_128 (by decide) ?_
        refine Z_iload d_mo_isKept_84 rfl ?_
        refine Zn_iconst (nI 3) d_mo_isKept_86 (by decide) ?_
        refine Zn_icmp_gt (a := 3) (b := 3) (tgt := 131) d_mo_isKept_87 (by decide) (by decide) (by decide) (fun h => absurd h (by decide)) (fun _ => ?_)
        refine Z_iload d_mo_isKept_90 rfl ?_
        refine Zn_if_eq (a := 0) (tgt := 122) d_mo_isKept_92 (by decide) (by decide) (fun _ => ?_) (fun h => absurd h (by decide))
        refine Zn_iconst (nI 0) d_mo_isKept_122 (by decide) ?_
        refine Zn_istore [some (.ref 123), some (.int (nI i)), some (.int (nI o)), some (.int (nI (G 18 i))), some (.int (nI 0)), some (.int (nI 3))] d_mo_isKept_123 (by decide) rfl ?_
        refine Zn_iinc [some (.ref 123), some (.int (nI i)), some (.int (nI o)), some (.int (nI (G 18 i))), some (.int (nI 0)), some (.int (nI 4))] (nI 4) d_mo_isKept_125 rfl (by decide) (nI_add 3 1) rfl ?_
        refine Z_goto (tgt := 84) d_mo_isKept_128 (by decide) ?_
        refine Z_iload d_mo_isKept_84 rfl ?_
        refine Zn_iconst (nI 3) d_mo_isKept_86 (by decide) ?_
        refine Zn_icmp_gt (a := 4) (b := 3) (tgt := 131) d_mo_isKept_87 (by decide) (by decide) (by decide) (fun _ => ?_) (fun h => absurd h (by decide))
        refine Z_iload d_mo_isKept_131 rfl ?_
        refine Z_zret d_mo_isKept_133 rfl rfl ?_
        refine ⟨rfl, ?_⟩
        rw [if_neg (show ¬ keq S U o i = true from fun z => by
          have z := of_decide_eq_true z
          exact h37 (by rw [hkp.2.2.2.1, ← hat.2.2.2.1]; exact z.2.2.2.1))]
      · skip
        refine Z_aload_n d_mo_isKept_40 rfl ?_
        refine Z_get (v := .ref 153) d_mo_isKept_41 lf_mo_98 hF.1 rfl ?_
        refine Z_iload_n d_mo_isKept_44 rfl ?_
        refine Zn_zald d_mo_isKept_45 hF.a29 (by omega) (by omega) ?_
        refine Z_aload_n d_mo_isKept_46 rfl ?_
        refine Z_get (v := .ref 140) d_mo_isKept_47 lf_mo_58 hF.1 rfl ?_
        refine Z_iload_n d_mo_isKept_50 rfl ?_
        refine Zn_zald d_mo_isKept_51 hF.a16 (by omega) (by omega) ?_
        refine Zn_icmp_ne (tgt := 78) d_mo_isKept_52 (by decide) (by omega) (by omega) (fun h52 => ?_) (fun h52 => ?_)
        · skip
          skip
          refine Zn_iconst (nI 0) d_mo_isKept_78 (by decide) ?_
          refine Zn_istore [some (.ref 123), some (.int (nI i)), some (.int (nI o)), some (.int (nI (G 18 i))), some (.int (nI 0)), none] d_mo_isKept_79 (by decide) rfl ?_
          refine Zn_iconst (nI 1) d_mo_isKept_81 (by decide) ?_
          refine Zn_istore [some (.ref 123), some (.int (nI i)), some (.int (nI o)), some (.int (nI (G 18 i))), some (.int (nI 0)), some (.int (nI 1))] d_mo_isKept_82 (by decide) rfl ?_
          refine Z_iload d_mo_isKept_84 rfl ?_
          refine Zn_iconst (nI 3) d_mo_isKept_86 (by decide) ?_
          refine Zn_icmp_gt (a := 1) (b := 3) (tgt := 131) d_mo_isKept_87 (by decide) (by decide) (by decide) (fun h => absurd h (by decide)) (fun _ => ?_)
          refine Z_iload d_mo_isKept_90 rfl ?_
          refine Zn_if_eq (a := 0) (tgt := 122) d_mo_isKept_92 (by decide) (by decide) (fun _ => ?_) (fun h => absurd h (by decide))
          refine Zn_iconst (nI 0) d_mo_isKept_122 (by decide) ?_
          refine Zn_istore [some (.ref 123), some (.int (nI i)), some (.int (nI o)), some (.int (nI (G 18 i))), some (.int (nI 0)), some (.int (nI 1))] d_mo_isKept_123 (by decide) rfl ?_
          refine Zn_iinc [some (.ref 123), some (.int (nI i)), some (.int (nI o)), some (.int (nI (G 18 i))), some (.int (nI 0)), some (.int (nI 2))] (nI 2) d_mo_isKept_125 rfl (by decide) (nI_add 1 1) rfl ?_
          refine Z_goto (tgt := 84) d_mo_isKept_128 (by decide) ?_
          refine Z_iload d_mo_isKept_84 rfl ?_
          refine Zn_iconst (nI 3) d_mo_isKept_86 (by decide) ?_
          refine Zn_icmp_gt (a := 2) (b := 3) (tgt := 131) d_mo_isKept_87 (by decide) (by decide) (by decide) (fun h => absurd h (by decide)) (fun _ => ?_)
          refine Z_iload d_mo_isKept_90 rfl ?_
          refine Zn_if_eq (a := 0) (tgt := 122) d_mo_isKept_92 (by decide) (by decide) (fun _ => ?_) (fun h => absurd h (by decide))
          refine Zn_iconst (nI 0) d_mo_isKept_122 (by decide) ?_
          refine Zn_istore [some (.ref 123), some (.int (nI i)), some (.int (nI o)), some (.int (nI (G 18 i))), some (.int (nI 0)), some (.int (nI 2))] d_mo_isKept_123 (by decide) rfl ?_
          refine Zn_iinc [some (.ref 123), some (.int (nI i)), some (.int (nI o)), some (.int (nI (G 18 i))), some (.int (nI 0)), some (.int (nI 3))] (nI 3) d_mo_isKept_125 rfl (by decide) (nI_add 2 1) rfl ?_
          refine Z_goto (tgt := 84) d_mo_isKept_128 (by decide) ?_
          refine Z_iload d_mo_isKept_84 rfl ?_
          refine Zn_iconst (nI 3) d_mo_isKept_86 (by decide) ?_
          refine Zn_icmp_gt (a := 3) (b := 3) (tgt := 131) d_mo_isKept_87 (by decide) (by decide) (by decide) (fun h => absurd h (by decide)) (fun _ => ?_)
          refine Z_iload d_mo_isKept_90 rfl ?_
          refine Zn_if_eq (a := 0) (tgt := 122) d_mo_isKept_92 (by decide) (by decide) (fun _ => ?_) (fun h => absurd h (by decide))
          refine Zn_iconst (nI 0) d_mo_isKept_122 (by decide) ?_
          refine Zn_istore [some (.ref 123), some (.int (nI i)), some (.int (nI o)), some (.int (nI (G 18 i))), some (.int (nI 0)), some (.int (nI 3))] d_mo_isKept_123 (by decide) rfl ?_
          refine Zn_iinc [some (.ref 123), some (.int (nI i)), some (.int (nI o)), some (.int (nI (G 18 i))), some (.int (nI 0)), some (.int (nI 4))] (nI 4) d_mo_isKept_125 rfl (by decide) (nI_add 3 1) rfl ?_
          refine Z_goto (tgt := 84) d_mo_isKept_128 (by decide) ?_
          refine Z_iload d_mo_isKept_84 rfl ?_
          refine Zn_iconst (nI 3) d_mo_isKept_86 (by decide) ?_
          refine Zn_icmp_gt (a := 4) (b := 3) (tgt := 131) d_mo_isKept_87 (by decide) (by decide) (by decide) (fun _ => ?_) (fun h => absurd h (by decide))
          refine Z_iload d_mo_isKept_131 rfl ?_
          refine Z_zret d_mo_isKept_133 rfl rfl ?_
          refine ⟨rfl, ?_⟩
          rw [if_neg (show ¬ keq S U o i = true from fun z => by
            have z := of_decide_eq_true z
            exact h52 (her.mpr z.2.2.2.2.1))]
        · skip
          refine Z_iload_n d_mo_isKept_55 rfl ?_
          refine Zn_if_eq (tgt := 74) d_mo_isKept_56 (by decide) (by omega) (fun h56 => ?_) (fun h56 => ?_)
          · skip
            skip
            refine Zn_iconst (nI 1) d_mo_isKept_74 (by decide) ?_
            refine Z_goto (tgt := 79) d_mo_isKept_75 (by decide) ?_
            refine Zn_istore [some (.ref 123), some (.int (nI i)), some (.int (nI o)), some (.int (nI (G 18 i))), some (.int (nI 1)), none] d_mo_isKept_79 (by decide) rfl ?_
            refine Zn_iconst (nI 1) d_mo_isKept_81 (by decide) ?_
            refine Zn_istore [some (.ref 123), some (.int (nI i)), some (.int (nI o)), some (.int (nI (G 18 i))), some (.int (nI 1)), some (.int (nI 1))] d_mo_isKept_82 (by decide) rfl ?_
            refine Z_iload d_mo_isKept_84 rfl ?_
            refine Zn_iconst (nI 3) d_mo_isKept_86 (by decide) ?_
            refine Zn_icmp_gt (a := 1) (b := 3) (tgt := 131) d_mo_isKept_87 (by decide) (by decide) (by decide) (fun h => absurd h (by decide)) (fun _ => ?_)
            refine Z_iload d_mo_isKept_90 rfl ?_
            refine Zn_if_eq (a := 1) (tgt := 122) d_mo_isKept_92 (by decide) (by decide) (fun h => absurd h (by decide)) (fun _ => ?_)
            refine Z_aload_n d_mo_isKept_95 rfl ?_
            refine Z_get (v := .ref 150) d_mo_isKept_96 lf_mo_89 hF.1 rfl ?_
            refine Zn_iconst (nI 3) d_mo_isKept_99 (by decide) ?_
            refine Z_iload_n d_mo_isKept_100 rfl ?_
            refine Zn_imul d_mo_isKept_101 ?_
            refine Z_iload d_mo_isKept_102 rfl ?_
            refine Zn_iadd d_mo_isKept_104 ?_
            refine Zn_iconst (nI 1) d_mo_isKept_105 (by decide) ?_
            refine Zn_isub d_mo_isKept_106 (by omega) ?_
            refine Zn_iald d_mo_isKept_107 hF.a26 (by omega) (by omega) ?_
            rw [show 3 * i + 1 - 1 = 3 * i by omega, hkp.1]
            refine Z_aload_n d_mo_isKept_108 rfl ?_
            refine Z_iload_n d_mo_isKept_109 rfl ?_
            refine Z_iload d_mo_isKept_110 rfl ?_
            refine zVe (As := [.int (nI (G 18 i)), .int (nI 1)]) (by omega) d_mo_isKept_112 lm_mo_337 hF.1 rfl rfl (Nat.le_of_ble_eq_true rfl) (mo_labelAt_ok d hF hND hnn.2.2.2.1 rfl rfl rfl (by omega) (by omega) o1 o2) ?_
            rw [o3]
            refine Zn_icmp_ne (tgt := 122) d_mo_isKept_115 (by decide) (by omega) (by omega) (fun h115 => ?_) (fun h115 => ?_)
            · skip
              skip
              refine Zn_iconst (nI 0) d_mo_isKept_122 (by decide) ?_
              refine Zn_istore [some (.ref 123), some (.int (nI i)), some (.int (nI o)), some (.int (nI (G 18 i))), some (.int (nI 0)), some (.int (nI 1))] d_mo_isKept_123 (by decide) rfl ?_
              refine Zn_iinc [some (.ref 123), some (.int (nI i)), some (.int (nI o)), some (.int (nI (G 18 i))), some (.int (nI 0)), some (.int (nI 2))] (nI 2) d_mo_isKept_125 rfl (by decide) (nI_add 1 1) rfl ?_
              refine Z_goto (tgt := 84) d_mo_isKept_128 (by decide) ?_
              refine Z_iload d_mo_isKept_84 rfl ?_
              refine Zn_iconst (nI 3) d_mo_isKept_86 (by decide) ?_
              refine Zn_icmp_gt (a := 2) (b := 3) (tgt := 131) d_mo_isKept_87 (by decide) (by decide) (by decide) (fun h => absurd h (by decide)) (fun _ => ?_)
              refine Z_iload d_mo_isKept_90 rfl ?_
              refine Zn_if_eq (a := 0) (tgt := 122) d_mo_isKept_92 (by decide) (by decide) (fun _ => ?_) (fun h => absurd h (by decide))
              refine Zn_iconst (nI 0) d_mo_isKept_122 (by decide) ?_
              refine Zn_istore [some (.ref 123), some (.int (nI i)), some (.int (nI o)), some (.int (nI (G 18 i))), some (.int (nI 0)), some (.int (nI 2))] d_mo_isKept_123 (by decide) rfl ?_
              refine Zn_iinc [some (.ref 123), some (.int (nI i)), some (.int (nI o)), some (.int (nI (G 18 i))), some (.int (nI 0)), some (.int (nI 3))] (nI 3) d_mo_isKept_125 rfl (by decide) (nI_add 2 1) rfl ?_
              refine Z_goto (tgt := 84) d_mo_isKept_128 (by decide) ?_
              refine Z_iload d_mo_isKept_84 rfl ?_
              refine Zn_iconst (nI 3) d_mo_isKept_86 (by decide) ?_
              refine Zn_icmp_gt (a := 3) (b := 3) (tgt := 131) d_mo_isKept_87 (by decide) (by decide) (by decide) (fun h => absurd h (by decide)) (fun _ => ?_)
              refine Z_iload d_mo_isKept_90 rfl ?_
              refine Zn_if_eq (a := 0) (tgt := 122) d_mo_isKept_92 (by decide) (by decide) (fun _ => ?_) (fun h => absurd h (by decide))
              refine Zn_iconst (nI 0) d_mo_isKept_122 (by decide) ?_
              refine Zn_istore [some (.ref 123), some (.int (nI i)), some (.int (nI o)), some (.int (nI (G 18 i))), some (.int (nI 0)), some (.int (nI 3))] d_mo_isKept_123 (by decide) rfl ?_
              refine Zn_iinc [some (.ref 123), some (.int (nI i)), some (.int (nI o)), some (.int (nI (G 18 i))), some (.int (nI 0)), some (.int (nI 4))] (nI 4) d_mo_isKept_125 rfl (by decide) (nI_add 3 1) rfl ?_
              refine Z_goto (tgt := 84) d_mo_isKept_128 (by decide) ?_
              refine Z_iload d_mo_isKept_84 rfl ?_
              refine Zn_iconst (nI 3) d_mo_isKept_86 (by decide) ?_
              refine Zn_icmp_gt (a := 4) (b := 3) (tgt := 131) d_mo_isKept_87 (by decide) (by decide) (by decide) (fun _ => ?_) (fun h => absurd h (by decide))
              refine Z_iload d_mo_isKept_131 rfl ?_
              refine Z_zret d_mo_isKept_133 rfl rfl ?_
              refine ⟨rfl, ?_⟩
              rw [if_neg (show ¬ keq S U o i = true from fun z => by
                have z := of_decide_eq_true z
                exact h115 (by rw [z.2.2.1]))]
            · skip
              have hE1 : lab (ek (S.2.1 i)) 1 = lab (ek (U.2.1 i)) 1 := h115
              refine Zn_iconst (nI 1) d_mo_isKept_118 (by decide) ?_
              refine Z_goto (tgt := 123) d_mo_isKept_119 (by decide) ?_
              refine Zn_istore [some (.ref 123), some (.int (nI i)), some (.int (nI o)), some (.int (nI (G 18 i))), some (.int (nI 1)), some (.int (nI 1))] d_mo_isKept_123 (by decide) rfl ?_
              refine Zn_iinc [some (.ref 123), some (.int (nI i)), some (.int (nI o)), some (.int (nI (G 18 i))), some (.int (nI 1)), some (.int (nI 2))] (nI 2) d_mo_isKept_125 rfl (by decide) (nI_add 1 1) rfl ?_
              refine Z_goto (tgt := 84) d_mo_isKept_128 (by decide) ?_
              refine Z_iload d_mo_isKept_84 rfl ?_
              refine Zn_iconst (nI 3) d_mo_isKept_86 (by decide) ?_
              refine Zn_icmp_gt (a := 2) (b := 3) (tgt := 131) d_mo_isKept_87 (by decide) (by decide) (by decide) (fun h => absurd h (by decide)) (fun _ => ?_)
              refine Z_iload d_mo_isKept_90 rfl ?_
              refine Zn_if_eq (a := 1) (tgt := 122) d_mo_isKept_92 (by decide) (by decide) (fun h => absurd h (by decide)) (fun _ => ?_)
              refine Z_aload_n d_mo_isKept_95 rfl ?_
              refine Z_get (v := .ref 150) d_mo_isKept_96 lf_mo_89 hF.1 rfl ?_
              refine Zn_iconst (nI 3) d_mo_isKept_99 (by decide) ?_
              refine Z_iload_n d_mo_isKept_100 rfl ?_
              refine Zn_imul d_mo_isKept_101 ?_
              refine Z_iload d_mo_isKept_102 rfl ?_
              refine Zn_iadd d_mo_isKept_104 ?_
              refine Zn_iconst (nI 1) d_mo_isKept_105 (by decide) ?_
              refine Zn_isub d_mo_isKept_106 (by omega) ?_
              refine Zn_iald d_mo_isKept_107 hF.a26 (by omega) (by omega) ?_
              rw [show 3 * i + 2 - 1 = 3 * i + 1 by omega, hkp.2.1]
              refine Z_aload_n d_mo_isKept_108 rfl ?_
              refine Z_iload_n d_mo_isKept_109 rfl ?_
              refine Z_iload d_mo_isKept_110 rfl ?_
              refine zVe (As := [.int (nI (G 18 i)), .int (nI 2)]) (by omega) d_mo_isKept_112 lm_mo_337 hF.1 rfl rfl (Nat.le_of_ble_eq_true rfl) (mo_labelAt_ok d hF hND hnn.2.2.2.1 rfl rfl rfl (by omega) (by omega) o1 o2) ?_
              rw [o3]
              refine Zn_icmp_ne (tgt := 122) d_mo_isKept_115 (by decide) (by omega) (by omega) (fun h115 => ?_) (fun h115 => ?_)
              · skip
                skip
                refine Zn_iconst (nI 0) d_mo_isKept_122 (by decide) ?_
                refine Zn_istore [some (.ref 123), some (.int (nI i)), some (.int (nI o)), some (.int (nI (G 18 i))), some (.int (nI 0)), some (.int (nI 2))] d_mo_isKept_123 (by decide) rfl ?_
                refine Zn_iinc [some (.ref 123), some (.int (nI i)), some (.int (nI o)), some (.int (nI (G 18 i))), some (.int (nI 0)), some (.int (nI 3))] (nI 3) d_mo_isKept_125 rfl (by decide) (nI_add 2 1) rfl ?_
                refine Z_goto (tgt := 84) d_mo_isKept_128 (by decide) ?_
                refine Z_iload d_mo_isKept_84 rfl ?_
                refine Zn_iconst (nI 3) d_mo_isKept_86 (by decide) ?_
                refine Zn_icmp_gt (a := 3) (b := 3) (tgt := 131) d_mo_isKept_87 (by decide) (by decide) (by decide) (fun h => absurd h (by decide)) (fun _ => ?_)
                refine Z_iload d_mo_isKept_90 rfl ?_
                refine Zn_if_eq (a := 0) (tgt := 122) d_mo_isKept_92 (by decide) (by decide) (fun _ => ?_) (fun h => absurd h (by decide))
                refine Zn_iconst (nI 0) d_mo_isKept_122 (by decide) ?_
                refine Zn_istore [some (.ref 123), some (.int (nI i)), some (.int (nI o)), some (.int (nI (G 18 i))), some (.int (nI 0)), some (.int (nI 3))] d_mo_isKept_123 (by decide) rfl ?_
                refine Zn_iinc [some (.ref 123), some (.int (nI i)), some (.int (nI o)), some (.int (nI (G 18 i))), some (.int (nI 0)), some (.int (nI 4))] (nI 4) d_mo_isKept_125 rfl (by decide) (nI_add 3 1) rfl ?_
                refine Z_goto (tgt := 84) d_mo_isKept_128 (by decide) ?_
                refine Z_iload d_mo_isKept_84 rfl ?_
                refine Zn_iconst (nI 3) d_mo_isKept_86 (by decide) ?_
                refine Zn_icmp_gt (a := 4) (b := 3) (tgt := 131) d_mo_isKept_87 (by decide) (by decide) (by decide) (fun _ => ?_) (fun h => absurd h (by decide))
                refine Z_iload d_mo_isKept_131 rfl ?_
                refine Z_zret d_mo_isKept_133 rfl rfl ?_
                refine ⟨rfl, ?_⟩
                rw [if_neg (show ¬ keq S U o i = true from fun z => by
                  have z := of_decide_eq_true z
                  exact h115 (by rw [z.2.2.1]))]
              · skip
                have hE2 : lab (ek (S.2.1 i)) 2 = lab (ek (U.2.1 i)) 2 := h115
                refine Zn_iconst (nI 1) d_mo_isKept_118 (by decide) ?_
                refine Z_goto (tgt := 123) d_mo_isKept_119 (by decide) ?_
                refine Zn_istore [some (.ref 123), some (.int (nI i)), some (.int (nI o)), some (.int (nI (G 18 i))), some (.int (nI 1)), some (.int (nI 2))] d_mo_isKept_123 (by decide) rfl ?_
                refine Zn_iinc [some (.ref 123), some (.int (nI i)), some (.int (nI o)), some (.int (nI (G 18 i))), some (.int (nI 1)), some (.int (nI 3))] (nI 3) d_mo_isKept_125 rfl (by decide) (nI_add 2 1) rfl ?_
                refine Z_goto (tgt := 84) d_mo_isKept_128 (by decide) ?_
                refine Z_iload d_mo_isKept_84 rfl ?_
                refine Zn_iconst (nI 3) d_mo_isKept_86 (by decide) ?_
                refine Zn_icmp_gt (a := 3) (b := 3) (tgt := 131) d_mo_isKept_87 (by decide) (by decide) (by decide) (fun h => absurd h (by decide)) (fun _ => ?_)
                refine Z_iload d_mo_isKept_90 rfl ?_
                refine Zn_if_eq (a := 1) (tgt := 122) d_mo_isKept_92 (by decide) (by decide) (fun h => absurd h (by decide)) (fun _ => ?_)
                refine Z_aload_n d_mo_isKept_95 rfl ?_
                refine Z_get (v := .ref 150) d_mo_isKept_96 lf_mo_89 hF.1 rfl ?_
                refine Zn_iconst (nI 3) d_mo_isKept_99 (by decide) ?_
                refine Z_iload_n d_mo_isKept_100 rfl ?_
                refine Zn_imul d_mo_isKept_101 ?_
                refine Z_iload d_mo_isKept_102 rfl ?_
                refine Zn_iadd d_mo_isKept_104 ?_
                refine Zn_iconst (nI 1) d_mo_isKept_105 (by decide) ?_
                refine Zn_isub d_mo_isKept_106 (by omega) ?_
                refine Zn_iald d_mo_isKept_107 hF.a26 (by omega) (by omega) ?_
                rw [show 3 * i + 3 - 1 = 3 * i + 2 by omega, hkp.2.2.1]
                refine Z_aload_n d_mo_isKept_108 rfl ?_
                refine Z_iload_n d_mo_isKept_109 rfl ?_
                refine Z_iload d_mo_isKept_110 rfl ?_
                refine zVe (As := [.int (nI (G 18 i)), .int (nI 3)]) (by omega) d_mo_isKept_112 lm_mo_337 hF.1 rfl rfl (Nat.le_of_ble_eq_true rfl) (mo_labelAt_ok d hF hND hnn.2.2.2.1 rfl rfl rfl (by omega) (by omega) o1 o2) ?_
                rw [o3]
                refine Zn_icmp_ne (tgt := 122) d_mo_isKept_115 (by decide) (by omega) (by omega) (fun h115 => ?_) (fun h115 => ?_)
                · skip
                  skip
                  refine Zn_iconst (nI 0) d_mo_isKept_122 (by decide) ?_
                  refine Zn_istore [some (.ref 123), some (.int (nI i)), some (.int (nI o)), some (.int (nI (G 18 i))), some (.int (nI 0)), some (.int (nI 3))] d_mo_isKept_123 (by decide) rfl ?_
                  refine Zn_iinc [some (.ref 123), some (.int (nI i)), some (.int (nI o)), some (.int (nI (G 18 i))), some (.int (nI 0)), some (.int (nI 4))] (nI 4) d_mo_isKept_125 rfl (by decide) (nI_add 3 1) rfl ?_
                  refine Z_goto (tgt := 84) d_mo_isKept_128 (by decide) ?_
                  refine Z_iload d_mo_isKept_84 rfl ?_
                  refine Zn_iconst (nI 3) d_mo_isKept_86 (by decide) ?_
                  refine Zn_icmp_gt (a := 4) (b := 3) (tgt := 131) d_mo_isKept_87 (by decide) (by decide) (by decide) (fun _ => ?_) (fun h => absurd h (by decide))
                  refine Z_iload d_mo_isKept_131 rfl ?_
                  refine Z_zret d_mo_isKept_133 rfl rfl ?_
                  refine ⟨rfl, ?_⟩
                  rw [if_neg (show ¬ keq S U o i = true from fun z => by
                    have z := of_decide_eq_true z
                    exact h115 (by rw [z.2.2.1]))]
                · skip
                  have hE3 : lab (ek (S.2.1 i)) 3 = lab (ek (U.2.1 i)) 3 := h115
                  refine Zn_iconst (nI 1) d_mo_isKept_118 (by decide) ?_
                  refine Z_goto (tgt := 123) d_mo_isKept_119 (by decide) ?_
                  refine Zn_istore [some (.ref 123), some (.int (nI i)), some (.int (nI o)), some (.int (nI (G 18 i))), some (.int (nI 1)), some (.int (nI 3))] d_mo_isKept_123 (by decide) rfl ?_
                  refine Zn_iinc [some (.ref 123), some (.int (nI i)), some (.int (nI o)), some (.int (nI (G 18 i))), some (.int (nI 1)), some (.int (nI 4))] (nI 4) d_mo_isKept_125 rfl (by decide) (nI_add 3 1) rfl ?_
                  refine Z_goto (tgt := 84) d_mo_isKept_128 (by decide) ?_
                  refine Z_iload d_mo_isKept_84 rfl ?_
                  refine Zn_iconst (nI 3) d_mo_isKept_86 (by decide) ?_
                  refine Zn_icmp_gt (a := 4) (b := 3) (tgt := 131) d_mo_isKept_87 (by decide) (by decide) (by decide) (fun _ => ?_) (fun h => absurd h (by decide))
                  refine Z_iload d_mo_isKept_131 rfl ?_
                  refine Z_zret d_mo_isKept_133 rfl rfl ?_
                  refine ⟨rfl, ?_⟩
                  rw [if_pos (show keq S U o i = true from decide_eq_true ⟨by omega, by omega, gk_same hgi hgu hE1 hE2 hE3, by rw [← hkp.2.2.2.1, hat.2.2.2.1]; exact h37, her.mp h52, Or.inl h56⟩)]
          · skip
            refine Z_aload_n d_mo_isKept_59 rfl ?_
            refine Z_get (v := .ref 152) d_mo_isKept_60 lf_mo_95 hF.1 rfl ?_
            refine Z_iload_n d_mo_isKept_63 rfl ?_
            refine Zn_iald d_mo_isKept_64 hF.a28 (by omega) (by omega) ?_
            refine Z_aload_n d_mo_isKept_65 rfl ?_
            refine Z_get (v := .ref 138) d_mo_isKept_66 lf_mo_52 hF.1 rfl ?_
            refine Z_iload_n d_mo_isKept_69 rfl ?_
            refine Zn_iald d_mo_isKept_70 hF.a14 (by omega) (by omega) ?_
            refine Z_icmp_ne (tgt := 78) d_mo_isKept_71 (by decide) (fun h71 => ?_) (fun h71 => ?_)
            · skip
              skip
              refine Zn_iconst (nI 0) d_mo_isKept_78 (by decide) ?_
              refine Zn_istore [some (.ref 123), some (.int (nI i)), some (.int (nI o)), some (.int (nI (G 18 i))), some (.int (nI 0)), none] d_mo_isKept_79 (by decide) rfl ?_
              refine Zn_iconst (nI 1) d_mo_isKept_81 (by decide) ?_
              refine Zn_istore [some (.ref 123), some (.int (nI i)), some (.int (nI o)), some (.int (nI (G 18 i))), some (.int (nI 0)), some (.int (nI 1))] d_mo_isKept_82 (by decide) rfl ?_
              refine Z_iload d_mo_isKept_84 rfl ?_
              refine Zn_iconst (nI 3) d_mo_isKept_86 (by decide) ?_
              refine Zn_icmp_gt (a := 1) (b := 3) (tgt := 131) d_mo_isKept_87 (by decide) (by decide) (by decide) (fun h => absurd h (by decide)) (fun _ => ?_)
              refine Z_iload d_mo_isKept_90 rfl ?_
              refine Zn_if_eq (a := 0) (tgt := 122) d_mo_isKept_92 (by decide) (by decide) (fun _ => ?_) (fun h => absurd h (by decide))
              refine Zn_iconst (nI 0) d_mo_isKept_122 (by decide) ?_
              refine Zn_istore [some (.ref 123), some (.int (nI i)), some (.int (nI o)), some (.int (nI (G 18 i))), some (.int (nI 0)), some (.int (nI 1))] d_mo_isKept_123 (by decide) rfl ?_
              refine Zn_iinc [some (.ref 123), some (.int (nI i)), some (.int (nI o)), some (.int (nI (G 18 i))), some (.int (nI 0)), some (.int (nI 2))] (nI 2) d_mo_isKept_125 rfl (by decide) (nI_add 1 1) rfl ?_
              refine Z_goto (tgt := 84) d_mo_isKept_128 (by decide) ?_
              refine Z_iload d_mo_isKept_84 rfl ?_
              refine Zn_iconst (nI 3) d_mo_isKept_86 (by decide) ?_
              refine Zn_icmp_gt (a := 2) (b := 3) (tgt := 131) d_mo_isKept_87 (by decide) (by decide) (by decide) (fun h => absurd h (by decide)) (fun _ => ?_)
              refine Z_iload d_mo_isKept_90 rfl ?_
              refine Zn_if_eq (a := 0) (tgt := 122) d_mo_isKept_92 (by decide) (by decide) (fun _ => ?_) (fun h => absurd h (by decide))
              refine Zn_iconst (nI 0) d_mo_isKept_122 (by decide) ?_
              refine Zn_istore [some (.ref 123), some (.int (nI i)), some (.int (nI o)), some (.int (nI (G 18 i))), some (.int (nI 0)), some (.int (nI 2))] d_mo_isKept_123 (by decide) rfl ?_
              refine Zn_iinc [some (.ref 123), some (.int (nI i)), some (.int (nI o)), some (.int (nI (G 18 i))), some (.int (nI 0)), some (.int (nI 3))] (nI 3) d_mo_isKept_125 rfl (by decide) (nI_add 2 1) rfl ?_
              refine Z_goto (tgt := 84) d_mo_isKept_128 (by decide) ?_
              refine Z_iload d_mo_isKept_84 rfl ?_
              refine Zn_iconst (nI 3) d_mo_isKept_86 (by decide) ?_
              refine Zn_icmp_gt (a := 3) (b := 3) (tgt := 131) d_mo_isKept_87 (by decide) (by decide) (by decide) (fun h => absurd h (by decide)) (fun _ => ?_)
              refine Z_iload d_mo_isKept_90 rfl ?_
              refine Zn_if_eq (a := 0) (tgt := 122) d_mo_isKept_92 (by decide) (by decide) (fun _ => ?_) (fun h => absurd h (by decide))
              refine Zn_iconst (nI 0) d_mo_isKept_122 (by decide) ?_
              refine Zn_istore [some (.ref 123), some (.int (nI i)), some (.int (nI o)), some (.int (nI (G 18 i))), some (.int (nI 0)), some (.int (nI 3))] d_mo_isKept_123 (by decide) rfl ?_
              refine Zn_iinc [some (.ref 123), some (.int (nI i)), some (.int (nI o)), some (.int (nI (G 18 i))), some (.int (nI 0)), some (.int (nI 4))] (nI 4) d_mo_isKept_125 rfl (by decide) (nI_add 3 1) rfl ?_
              refine Z_goto (tgt := 84) d_mo_isKept_128 (by decide) ?_
              refine Z_iload d_mo_isKept_84 rfl ?_
              refine Zn_iconst (nI 3) d_mo_isKept_86 (by decide) ?_
              refine Zn_icmp_gt (a := 4) (b := 3) (tgt := 131) d_mo_isKept_87 (by decide) (by decide) (by decide) (fun _ => ?_) (fun h => absurd h (by decide))
              refine Z_iload d_mo_isKept_131 rfl ?_
              refine Z_zret d_mo_isKept_133 rfl rfl ?_
              refine ⟨rfl, ?_⟩
              rw [if_neg (show ¬ keq S U o i = true from fun z => by
                have z := of_decide_eq_true z
                exact z.2.2.2.2.2.elim h56 (fun y => h71 (by rw [hkp.2.2.2.2.1, ← hat.2.2.2.2.2.1]; exact y)))]
            · skip
              skip
              refine Zn_iconst (nI 1) d_mo_isKept_74 (by decide) ?_
              refine Z_goto (tgt := 79) d_mo_isKept_75 (by decide) ?_
              refine Zn_istore [some (.ref 123), some (.int (nI i)), some (.int (nI o)), some (.int (nI (G 18 i))), some (.int (nI 1)), none] d_mo_isKept_79 (by decide) rfl ?_
              refine Zn_iconst (nI 1) d_mo_isKept_81 (by decide) ?_
              refine Zn_istore [some (.ref 123), some (.int (nI i)), some (.int (nI o)), some (.int (nI (G 18 i))), some (.int (nI 1)), some (.int (nI 1))] d_mo_isKept_82 (by decide) rfl ?_
              refine Z_iload d_mo_isKept_84 rfl ?_
              refine Zn_iconst (nI 3) d_mo_isKept_86 (by decide) ?_
              refine Zn_icmp_gt (a := 1) (b := 3) (tgt := 131) d_mo_isKept_87 (by decide) (by decide) (by decide) (fun h => absurd h (by decide)) (fun _ => ?_)
              refine Z_iload d_mo_isKept_90 rfl ?_
              refine Zn_if_eq (a := 1) (tgt := 122) d_mo_isKept_92 (by decide) (by decide) (fun h => absurd h (by decide)) (fun _ => ?_)
              refine Z_aload_n d_mo_isKept_95 rfl ?_
              refine Z_get (v := .ref 150) d_mo_isKept_96 lf_mo_89 hF.1 rfl ?_
              refine Zn_iconst (nI 3) d_mo_isKept_99 (by decide) ?_
              refine Z_iload_n d_mo_isKept_100 rfl ?_
              refine Zn_imul d_mo_isKept_101 ?_
              refine Z_iload d_mo_isKept_102 rfl ?_
              refine Zn_iadd d_mo_isKept_104 ?_
              refine Zn_iconst (nI 1) d_mo_isKept_105 (by decide) ?_
              refine Zn_isub d_mo_isKept_106 (by omega) ?_
              refine Zn_iald d_mo_isKept_107 hF.a26 (by omega) (by omega) ?_
              rw [show 3 * i + 1 - 1 = 3 * i by omega, hkp.1]
              refine Z_aload_n d_mo_isKept_108 rfl ?_
              refine Z_iload_n d_mo_isKept_109 rfl ?_
              refine Z_iload d_mo_isKept_110 rfl ?_
              refine zVe (As := [.int (nI (G 18 i)), .int (nI 1)]) (by omega) d_mo_isKept_112 lm_mo_337 hF.1 rfl rfl (Nat.le_of_ble_eq_true rfl) (mo_labelAt_ok d hF hND hnn.2.2.2.1 rfl rfl rfl (by omega) (by omega) o1 o2) ?_
              rw [o3]
              refine Zn_icmp_ne (tgt := 122) d_mo_isKept_115 (by decide) (by omega) (by omega) (fun h115 => ?_) (fun h115 => ?_)
              · skip
                skip
                refine Zn_iconst (nI 0) d_mo_isKept_122 (by decide) ?_
                refine Zn_istore [some (.ref 123), some (.int (nI i)), some (.int (nI o)), some (.int (nI (G 18 i))), some (.int (nI 0)), some (.int (nI 1))] d_mo_isKept_123 (by decide) rfl ?_
                refine Zn_iinc [some (.ref 123), some (.int (nI i)), some (.int (nI o)), some (.int (nI (G 18 i))), some (.int (nI 0)), some (.int (nI 2))] (nI 2) d_mo_isKept_125 rfl (by decide) (nI_add 1 1) rfl ?_
                refine Z_goto (tgt := 84) d_mo_isKept_128 (by decide) ?_
                refine Z_iload d_mo_isKept_84 rfl ?_
                refine Zn_iconst (nI 3) d_mo_isKept_86 (by decide) ?_
                refine Zn_icmp_gt (a := 2) (b := 3) (tgt := 131) d_mo_isKept_87 (by decide) (by decide) (by decide) (fun h => absurd h (by decide)) (fun _ => ?_)
                refine Z_iload d_mo_isKept_90 rfl ?_
                refine Zn_if_eq (a := 0) (tgt := 122) d_mo_isKept_92 (by decide) (by decide) (fun _ => ?_) (fun h => absurd h (by decide))
                refine Zn_iconst (nI 0) d_mo_isKept_122 (by decide) ?_
                refine Zn_istore [some (.ref 123), some (.int (nI i)), some (.int (nI o)), some (.int (nI (G 18 i))), some (.int (nI 0)), some (.int (nI 2))] d_mo_isKept_123 (by decide) rfl ?_
                refine Zn_iinc [some (.ref 123), some (.int (nI i)), some (.int (nI o)), some (.int (nI (G 18 i))), some (.int (nI 0)), some (.int (nI 3))] (nI 3) d_mo_isKept_125 rfl (by decide) (nI_add 2 1) rfl ?_
                refine Z_goto (tgt := 84) d_mo_isKept_128 (by decide) ?_
                refine Z_iload d_mo_isKept_84 rfl ?_
                refine Zn_iconst (nI 3) d_mo_isKept_86 (by decide) ?_
                refine Zn_icmp_gt (a := 3) (b := 3) (tgt := 131) d_mo_isKept_87 (by decide) (by decide) (by decide) (fun h => absurd h (by decide)) (fun _ => ?_)
                refine Z_iload d_mo_isKept_90 rfl ?_
                refine Zn_if_eq (a := 0) (tgt := 122) d_mo_isKept_92 (by decide) (by decide) (fun _ => ?_) (fun h => absurd h (by decide))
                refine Zn_iconst (nI 0) d_mo_isKept_122 (by decide) ?_
                refine Zn_istore [some (.ref 123), some (.int (nI i)), some (.int (nI o)), some (.int (nI (G 18 i))), some (.int (nI 0)), some (.int (nI 3))] d_mo_isKept_123 (by decide) rfl ?_
                refine Zn_iinc [some (.ref 123), some (.int (nI i)), some (.int (nI o)), some (.int (nI (G 18 i))), some (.int (nI 0)), some (.int (nI 4))] (nI 4) d_mo_isKept_125 rfl (by decide) (nI_add 3 1) rfl ?_
                refine Z_goto (tgt := 84) d_mo_isKept_128 (by decide) ?_
                refine Z_iload d_mo_isKept_84 rfl ?_
                refine Zn_iconst (nI 3) d_mo_isKept_86 (by decide) ?_
                refine Zn_icmp_gt (a := 4) (b := 3) (tgt := 131) d_mo_isKept_87 (by decide) (by decide) (by decide) (fun _ => ?_) (fun h => absurd h (by decide))
                refine Z_iload d_mo_isKept_131 rfl ?_
                refine Z_zret d_mo_isKept_133 rfl rfl ?_
                refine ⟨rfl, ?_⟩
                rw [if_neg (show ¬ keq S U o i = true from fun z => by
                  have z := of_decide_eq_true z
                  exact h115 (by rw [z.2.2.1]))]
              · skip
                have hE1 : lab (ek (S.2.1 i)) 1 = lab (ek (U.2.1 i)) 1 := h115
                refine Zn_iconst (nI 1) d_mo_isKept_118 (by decide) ?_
                refine Z_goto (tgt := 123) d_mo_isKept_119 (by decide) ?_
                refine Zn_istore [some (.ref 123), some (.int (nI i)), some (.int (nI o)), some (.int (nI (G 18 i))), some (.int (nI 1)), some (.int (nI 1))] d_mo_isKept_123 (by decide) rfl ?_
                refine Zn_iinc [some (.ref 123), some (.int (nI i)), some (.int (nI o)), some (.int (nI (G 18 i))), some (.int (nI 1)), some (.int (nI 2))] (nI 2) d_mo_isKept_125 rfl (by decide) (nI_add 1 1) rfl ?_
                refine Z_goto (tgt := 84) d_mo_isKept_128 (by decide) ?_
                refine Z_iload d_mo_isKept_84 rfl ?_
                refine Zn_iconst (nI 3) d_mo_isKept_86 (by decide) ?_
                refine Zn_icmp_gt (a := 2) (b := 3) (tgt := 131) d_mo_isKept_87 (by decide) (by decide) (by decide) (fun h => absurd h (by decide)) (fun _ => ?_)
                refine Z_iload d_mo_isKept_90 rfl ?_
                refine Zn_if_eq (a := 1) (tgt := 122) d_mo_isKept_92 (by decide) (by decide) (fun h => absurd h (by decide)) (fun _ => ?_)
                refine Z_aload_n d_mo_isKept_95 rfl ?_
                refine Z_get (v := .ref 150) d_mo_isKept_96 lf_mo_89 hF.1 rfl ?_
                refine Zn_iconst (nI 3) d_mo_isKept_99 (by decide) ?_
                refine Z_iload_n d_mo_isKept_100 rfl ?_
                refine Zn_imul d_mo_isKept_101 ?_
                refine Z_iload d_mo_isKept_102 rfl ?_
                refine Zn_iadd d_mo_isKept_104 ?_
                refine Zn_iconst (nI 1) d_mo_isKept_105 (by decide) ?_
                refine Zn_isub d_mo_isKept_106 (by omega) ?_
                refine Zn_iald d_mo_isKept_107 hF.a26 (by omega) (by omega) ?_
                rw [show 3 * i + 2 - 1 = 3 * i + 1 by omega, hkp.2.1]
                refine Z_aload_n d_mo_isKept_108 rfl ?_
                refine Z_iload_n d_mo_isKept_109 rfl ?_
                refine Z_iload d_mo_isKept_110 rfl ?_
                refine zVe (As := [.int (nI (G 18 i)), .int (nI 2)]) (by omega) d_mo_isKept_112 lm_mo_337 hF.1 rfl rfl (Nat.le_of_ble_eq_true rfl) (mo_labelAt_ok d hF hND hnn.2.2.2.1 rfl rfl rfl (by omega) (by omega) o1 o2) ?_
                rw [o3]
                refine Zn_icmp_ne (tgt := 122) d_mo_isKept_115 (by decide) (by omega) (by omega) (fun h115 => ?_) (fun h115 => ?_)
                · skip
                  skip
                  refine Zn_iconst (nI 0) d_mo_isKept_122 (by decide) ?_
                  refine Zn_istore [some (.ref 123), some (.int (nI i)), some (.int (nI o)), some (.int (nI (G 18 i))), some (.int (nI 0)), some (.int (nI 2))] d_mo_isKept_123 (by decide) rfl ?_
                  refine Zn_iinc [some (.ref 123), some (.int (nI i)), some (.int (nI o)), some (.int (nI (G 18 i))), some (.int (nI 0)), some (.int (nI 3))] (nI 3) d_mo_isKept_125 rfl (by decide) (nI_add 2 1) rfl ?_
                  refine Z_goto (tgt := 84) d_mo_isKept_128 (by decide) ?_
                  refine Z_iload d_mo_isKept_84 rfl ?_
                  refine Zn_iconst (nI 3) d_mo_isKept_86 (by decide) ?_
                  refine Zn_icmp_gt (a := 3) (b := 3) (tgt := 131) d_mo_isKept_87 (by decide) (by decide) (by decide) (fun h => absurd h (by decide)) (fun _ => ?_)
                  refine Z_iload d_mo_isKept_90 rfl ?_
                  refine Zn_if_eq (a := 0) (tgt := 122) d_mo_isKept_92 (by decide) (by decide) (fun _ => ?_) (fun h => absurd h (by decide))
                  refine Zn_iconst (nI 0) d_mo_isKept_122 (by decide) ?_
                  refine Zn_istore [some (.ref 123), some (.int (nI i)), some (.int (nI o)), some (.int (nI (G 18 i))), some (.int (nI 0)), some (.int (nI 3))] d_mo_isKept_123 (by decide) rfl ?_
                  refine Zn_iinc [some (.ref 123), some (.int (nI i)), some (.int (nI o)), some (.int (nI (G 18 i))), some (.int (nI 0)), some (.int (nI 4))] (nI 4) d_mo_isKept_125 rfl (by decide) (nI_add 3 1) rfl ?_
                  refine Z_goto (tgt := 84) d_mo_isKept_128 (by decide) ?_
                  refine Z_iload d_mo_isKept_84 rfl ?_
                  refine Zn_iconst (nI 3) d_mo_isKept_86 (by decide) ?_
                  refine Zn_icmp_gt (a := 4) (b := 3) (tgt := 131) d_mo_isKept_87 (by decide) (by decide) (by decide) (fun _ => ?_) (fun h => absurd h (by decide))
                  refine Z_iload d_mo_isKept_131 rfl ?_
                  refine Z_zret d_mo_isKept_133 rfl rfl ?_
                  refine ⟨rfl, ?_⟩
                  rw [if_neg (show ¬ keq S U o i = true from fun z => by
                    have z := of_decide_eq_true z
                    exact h115 (by rw [z.2.2.1]))]
                · skip
                  have hE2 : lab (ek (S.2.1 i)) 2 = lab (ek (U.2.1 i)) 2 := h115
                  refine Zn_iconst (nI 1) d_mo_isKept_118 (by decide) ?_
                  refine Z_goto (tgt := 123) d_mo_isKept_119 (by decide) ?_
                  refine Zn_istore [some (.ref 123), some (.int (nI i)), some (.int (nI o)), some (.int (nI (G 18 i))), some (.int (nI 1)), some (.int (nI 2))] d_mo_isKept_123 (by decide) rfl ?_
                  refine Zn_iinc [some (.ref 123), some (.int (nI i)), some (.int (nI o)), some (.int (nI (G 18 i))), some (.int (nI 1)), some (.int (nI 3))] (nI 3) d_mo_isKept_125 rfl (by decide) (nI_add 2 1) rfl ?_
                  refine Z_goto (tgt := 84) d_mo_isKept_128 (by decide) ?_
                  refine Z_iload d_mo_isKept_84 rfl ?_
                  refine Zn_iconst (nI 3) d_mo_isKept_86 (by decide) ?_
                  refine Zn_icmp_gt (a := 3) (b := 3) (tgt := 131) d_mo_isKept_87 (by decide) (by decide) (by decide) (fun h => absurd h (by decide)) (fun _ => ?_)
                  refine Z_iload d_mo_isKept_90 rfl ?_
                  refine Zn_if_eq (a := 1) (tgt := 122) d_mo_isKept_92 (by decide) (by decide) (fun h => absurd h (by decide)) (fun _ => ?_)
                  refine Z_aload_n d_mo_isKept_95 rfl ?_
                  refine Z_get (v := .ref 150) d_mo_isKept_96 lf_mo_89 hF.1 rfl ?_
                  refine Zn_iconst (nI 3) d_mo_isKept_99 (by decide) ?_
                  refine Z_iload_n d_mo_isKept_100 rfl ?_
                  refine Zn_imul d_mo_isKept_101 ?_
                  refine Z_iload d_mo_isKept_102 rfl ?_
                  refine Zn_iadd d_mo_isKept_104 ?_
                  refine Zn_iconst (nI 1) d_mo_isKept_105 (by decide) ?_
                  refine Zn_isub d_mo_isKept_106 (by omega) ?_
                  refine Zn_iald d_mo_isKept_107 hF.a26 (by omega) (by omega) ?_
                  rw [show 3 * i + 3 - 1 = 3 * i + 2 by omega, hkp.2.2.1]
                  refine Z_aload_n d_mo_isKept_108 rfl ?_
                  refine Z_iload_n d_mo_isKept_109 rfl ?_
                  refine Z_iload d_mo_isKept_110 rfl ?_
                  refine zVe (As := [.int (nI (G 18 i)), .int (nI 3)]) (by omega) d_mo_isKept_112 lm_mo_337 hF.1 rfl rfl (Nat.le_of_ble_eq_true rfl) (mo_labelAt_ok d hF hND hnn.2.2.2.1 rfl rfl rfl (by omega) (by omega) o1 o2) ?_
                  rw [o3]
                  refine Zn_icmp_ne (tgt := 122) d_mo_isKept_115 (by decide) (by omega) (by omega) (fun h115 => ?_) (fun h115 => ?_)
                  · skip
                    skip
                    refine Zn_iconst (nI 0) d_mo_isKept_122 (by decide) ?_
                    refine Zn_istore [some (.ref 123), some (.int (nI i)), some (.int (nI o)), some (.int (nI (G 18 i))), some (.int (nI 0)), some (.int (nI 3))] d_mo_isKept_123 (by decide) rfl ?_
                    refine Zn_iinc [some (.ref 123), some (.int (nI i)), some (.int (nI o)), some (.int (nI (G 18 i))), some (.int (nI 0)), some (.int (nI 4))] (nI 4) d_mo_isKept_125 rfl (by decide) (nI_add 3 1) rfl ?_
                    refine Z_goto (tgt := 84) d_mo_isKept_128 (by decide) ?_
                    refine Z_iload d_mo_isKept_84 rfl ?_
                    refine Zn_iconst (nI 3) d_mo_isKept_86 (by decide) ?_
                    refine Zn_icmp_gt (a := 4) (b := 3) (tgt := 131) d_mo_isKept_87 (by decide) (by decide) (by decide) (fun _ => ?_) (fun h => absurd h (by decide))
                    refine Z_iload d_mo_isKept_131 rfl ?_
                    refine Z_zret d_mo_isKept_133 rfl rfl ?_
                    refine ⟨rfl, ?_⟩
                    rw [if_neg (show ¬ keq S U o i = true from fun z => by
                      have z := of_decide_eq_true z
                      exact h115 (by rw [z.2.2.1]))]
                  · skip
                    have hE3 : lab (ek (S.2.1 i)) 3 = lab (ek (U.2.1 i)) 3 := h115
                    refine Zn_iconst (nI 1) d_mo_isKept_118 (by decide) ?_
                    refine Z_goto (tgt := 123) d_mo_isKept_119 (by decide) ?_
                    refine Zn_istore [some (.ref 123), some (.int (nI i)), some (.int (nI o)), some (.int (nI (G 18 i))), some (.int (nI 1)), some (.int (nI 3))] d_mo_isKept_123 (by decide) rfl ?_
                    refine Zn_iinc [some (.ref 123), some (.int (nI i)), some (.int (nI o)), some (.int (nI (G 18 i))), some (.int (nI 1)), some (.int (nI 4))] (nI 4) d_mo_isKept_125 rfl (by decide) (nI_add 3 1) rfl ?_
                    refine Z_goto (tgt := 84) d_mo_isKept_128 (by decide) ?_
                    refine Z_iload d_mo_isKept_84 rfl ?_
                    refine Zn_iconst (nI 3) d_mo_isKept_86 (by decide) ?_
                    refine Zn_icmp_gt (a := 4) (b := 3) (tgt := 131) d_mo_isKept_87 (by decide) (by decide) (by decide) (fun _ => ?_) (fun h => absurd h (by decide))
                    refine Z_iload d_mo_isKept_131 rfl ?_
                    refine Z_zret d_mo_isKept_133 rfl rfl ?_
                    refine ⟨rfl, ?_⟩
                    rw [if_pos (show keq S U o i = true from decide_eq_true ⟨by omega, by omega, gk_same hgi hgu hE1 hE2 hE3, by rw [← hkp.2.2.2.1, hat.2.2.2.1]; exact h37, her.mp h52, Or.inr (by rw [← hkp.2.2.2.2.1, hat.2.2.2.2.2.1]; exact h71)⟩)]
    · skip
      skip
      refine Zn_iconst (nI 0) d_mo_isKept_16 (by decide) ?_
      refine Z_zret d_mo_isKept_17 rfl rfl ?_
      refine ⟨rfl, ?_⟩
      rw [if_neg (show ¬ keq S U o i = true from fun z => by
        have z := of_decide_eq_true z
        omega)]
set_option maxHeartbeats 4000000 in
theorem mo_fu_loop {Γ : zCtx} (d : Nat) {M : List zE} {M0 : List zE} {s : Nat → Nat} {G : Nat → Nat → Nat} (hF : FW M0 M s G) {S U : vSt} {n0 : Nat} {K : Nat → Nat} (hRO : RO U n0 s G) (hND : nodes (s 2) G K) (hod : od U.1 U.2.1 (s 2) G K U.1) (hk : kpt S G S.1) (h10 : s 10 = S.1) (hS60 : S.1 ≤ 60) (hg : ∀ i, i < S.1 → gk (ek (S.2.1 i))) {o : Nat} (ho : o ≤ 1)  : ∀ (f : Nat) (i : Nat), i ≤ max S.1 U.1 → max S.1 U.1 < i + f → frst (fun i => !(keq S U o i)) i = none → ∀ Q : List zE → Option Value → Prop, Q M (some (.int (oI (frst (fun i => !(keq S U o i)) (max S.1 U.1)) (-9)))) → Z Γ (zRm (d + 3) m_mo_firstUnlike) m_mo_firstUnlike (zPh Γ m_mo_firstUnlike Q) 0 0 2 [some (.ref 123), some (.int (nI o)), some (.int (nI i))] [] M := by
  intro f
  induction f with
  | zero => intro i hi hf; exact absurd hf (by omega)
  | succ f ih =>
    intro i hi hf hno Q hQ
    have hs3 := hRO.nn
    refine Z_iload_n d_mo_firstUnlike_2 rfl ?_
    refine Z_aload_n d_mo_firstUnlike_3 rfl ?_
    refine Z_get (v := .int (nI (s 10))) d_mo_firstUnlike_4 lf_mo_334 hF.1 rfl ?_
    refine Zn_icmp_lt (tgt := 18) d_mo_firstUnlike_7 (by decide) (by omega) (by omega) (fun h7 => ?_) (fun h7 => ?_)
    · skip
      refine Z_aload_n d_mo_firstUnlike_18 rfl ?_
      refine Z_iload_n d_mo_firstUnlike_19 rfl ?_
      refine Z_iload_n d_mo_firstUnlike_20 rfl ?_
      refine zVe (As := [.int (nI i), .int (nI o)]) (by omega) d_mo_firstUnlike_21 lm_mo_340 hF.1 rfl rfl (Nat.le_of_ble_eq_true rfl) (mo_isKept_ok d hF hRO hND hod hk h10 hS60 hg (by omega) ho) ?_
      rcases hq : keq S U o i with _ | _
      · skip
        refine Zn_if_ne (a := 0) (tgt := 29) d_mo_firstUnlike_24 (by decide) (by decide) (fun h => absurd h (by decide)) (fun _ => ?_)
        refine Z_iload_n d_mo_firstUnlike_27 rfl ?_
        refine Z_iret d_mo_firstUnlike_28 rfl ?_
        rw [frst_at (i := i) (by omega) hno (by show (!(keq S U o i)) = true; rw [hq]; rfl)] at hQ
        exact hQ
      · skip
        refine Zn_if_ne (a := 1) (tgt := 29) d_mo_firstUnlike_24 (by decide) (by decide) (fun _ => ?_) (fun h => absurd h (by decide))
        refine Zn_iinc [some (.ref 123), some (.int (nI o)), some (.int (nI (i + 1)))] (nI (i + 1)) d_mo_firstUnlike_29 rfl (by decide) (nI_add i 1) rfl ?_
        refine Z_goto (tgt := 2) d_mo_firstUnlike_32 (by decide) ?_
        exact ih (i + 1) (by omega) (by omega) (frst_next hno (by show (!(keq S U o i)) = false; rw [hq]; rfl)) Q hQ
    · skip
      refine Z_iload_n d_mo_firstUnlike_10 rfl ?_
      refine Z_aload_n d_mo_firstUnlike_11 rfl ?_
      refine Z_get (v := .int (nI (s 3))) d_mo_firstUnlike_12 lf_mo_148 hF.1 rfl ?_
      refine Zn_icmp_ge (tgt := 35) d_mo_firstUnlike_15 (by decide) (by omega) (by omega) (fun h15 => ?_) (fun h15 => ?_)
      · skip
        refine Zn_bipush (-9) d_mo_firstUnlike_35 (by decide) ?_
        refine Z_iret d_mo_firstUnlike_37 rfl ?_
        have ei : i = max S.1 U.1 := by omega
        rw [← ei, hno] at hQ
        exact hQ
      · skip
        refine Z_aload_n d_mo_firstUnlike_18 rfl ?_
        refine Z_iload_n d_mo_firstUnlike_19 rfl ?_
        refine Z_iload_n d_mo_firstUnlike_20 rfl ?_
        refine zVe (As := [.int (nI i), .int (nI o)]) (by omega) d_mo_firstUnlike_21 lm_mo_340 hF.1 rfl rfl (Nat.le_of_ble_eq_true rfl) (mo_isKept_ok d hF hRO hND hod hk h10 hS60 hg (by omega) ho) ?_
        rcases hq : keq S U o i with _ | _
        · skip
          refine Zn_if_ne (a := 0) (tgt := 29) d_mo_firstUnlike_24 (by decide) (by decide) (fun h => absurd h (by decide)) (fun _ => ?_)
          refine Z_iload_n d_mo_firstUnlike_27 rfl ?_
          refine Z_iret d_mo_firstUnlike_28 rfl ?_
          rw [frst_at (i := i) (by omega) hno (by show (!(keq S U o i)) = true; rw [hq]; rfl)] at hQ
          exact hQ
        · skip
          refine Zn_if_ne (a := 1) (tgt := 29) d_mo_firstUnlike_24 (by decide) (by decide) (fun _ => ?_) (fun h => absurd h (by decide))
          refine Zn_iinc [some (.ref 123), some (.int (nI o)), some (.int (nI (i + 1)))] (nI (i + 1)) d_mo_firstUnlike_29 rfl (by decide) (nI_add i 1) rfl ?_
          refine Z_goto (tgt := 2) d_mo_firstUnlike_32 (by decide) ?_
          exact ih (i + 1) (by omega) (by omega) (frst_next hno (by show (!(keq S U o i)) = false; rw [hq]; rfl)) Q hQ
set_option maxHeartbeats 4000000 in
theorem mo_firstUnlike_ok {Γ : zCtx} {M : List zE} (d : Nat) {M0 : List zE} {s : Nat → Nat} {G : Nat → Nat → Nat} (hF : FW M0 M s G) {S U : vSt} {n0 : Nat} {K : Nat → Nat} (hRO : RO U n0 s G) (hND : nodes (s 2) G K) (hod : od U.1 U.2.1 (s 2) G K U.1) (hk : kpt S G S.1) (h10 : s 10 = S.1) (hS60 : S.1 ≤ 60) (hg : ∀ i, i < S.1 → gk (ek (S.2.1 i))) {o : Nat} (ho : o ≤ 1)  : ZM Γ (d + 3) m_mo_firstUnlike [.ref 123, .int (nI o)] M (zEq M (some (.int (oI (frst (fun i => !(keq S U o i)) (max S.1 U.1)) (-9))))) := by
  refine ZM.of mk_mo_firstUnlike (Nat.le_of_ble_eq_true rfl) ?_
  rw [show zEn [.ref 123, .int (nI o)] = [some (.ref 123), some (.int (nI o))] from rfl]
  refine zPad 1 ?_
  show Z _ _ _ _ _ _ _ [some (.ref 123), some (.int (nI o)), none] _ _
  refine Zn_iconst (nI 0) d_mo_firstUnlike_0 (by decide) ?_
  refine Zn_istore_n [some (.ref 123), some (.int (nI o)), some (.int (nI 0))] d_mo_firstUnlike_1 (by decide) rfl ?_
  exact mo_fu_loop d hF hRO hND hod hk h10 hS60 hg ho (max S.1 U.1 + 1) 0 (by omega) (by omega) rfl _ ⟨rfl, rfl⟩
