/-! the contracts of Provisions -/
set_option maxHeartbeats 4000000 in
theorem pv_has_ok {Γ : zCtx} {M : List zE} (d : Nat) {b n : Nat} {e : Nat → zEnt} (hP : PvAt M b n e) (hn : n ≤ 60) {j : Nat} (hj : j < 2147483648) : ZM Γ (d + 1) m_pv_has [.ref b, .int (nI j)] M (zEq M (some (.int (nI (if j < n then 1 else 0))))) := by
  refine ZM.of mk_pv_has (Nat.le_of_ble_eq_true rfl) ?_
  obtain ⟨h0, h1, h2, h3, h4, h5⟩ := id hP
  refine Z_iload_n d_pv_has_0 rfl ?_
  refine Zn_if_lt (tgt := 16) d_pv_has_1 (by decide) (by omega) ?_
  refine Z_iload_n d_pv_has_4 rfl ?_
  refine Z_aload_n d_pv_has_5 rfl ?_
  refine Z_get d_pv_has_6 lf_pv_29 (by assumption) rfl ?_
  refine Zn_icmp_ge (tgt := 16) d_pv_has_9 (by decide) (by omega) (by omega) (fun h9 => ?_) (fun h9 => ?_)
  · skip
    refine Zn_iconst (nI 0) d_pv_has_16 (by decide) ?_
    refine Z_zret d_pv_has_17 rfl rfl ?_
    refine ⟨rfl, ?_⟩
    first | rw [if_pos (by omega)] | rw [if_neg (by omega)]
  · skip
    refine Zn_iconst (nI 1) d_pv_has_12 (by decide) ?_
    refine Z_goto (tgt := 17) d_pv_has_13 (by decide) ?_
    refine Z_zret d_pv_has_17 rfl rfl ?_
    refine ⟨rfl, ?_⟩
    first | rw [if_pos (by omega)] | rw [if_neg (by omega)]
theorem pv_has_neg {Γ : zCtx} {M : List zE} (d : Nat) {b : Nat} {x : Int32} (hx : x < 0) : ZM Γ (d + 1) m_pv_has [.ref b, .int x] M (zEq M (some (.int (nI 0)))) := by
  refine ZM.of mk_pv_has (Nat.le_of_ble_eq_true rfl) ?_
  refine Z_iload_n d_pv_has_0 rfl ?_
  refine Z_if_lt (tgt := 16) d_pv_has_1 (by decide) (fun _ => ?_) (fun h => absurd hx h)
  refine Zn_iconst (nI 0) d_pv_has_16 (by decide) ?_
  exact Z_zret d_pv_has_17 rfl rfl ⟨rfl, rfl⟩
theorem frst_next {P : Nat → Bool} {i : Nat} (h : frst P i = none) (hp : P i = false) : frst P (i + 1) = none := by
  unfold frst
  rw [h, hp]
  rfl
theorem frst_at {P : Nat → Bool} {i n : Nat} (hi : i < n) (h : frst P i = none) (hp : P i = true) : frst P n = some i := frst_some.mpr ⟨hi, hp, frst_none.mp h⟩
set_option maxHeartbeats 4000000 in
theorem pv_positionOf_loop {Γ : zCtx} {M : List zE} (d : Nat) {b n : Nat} {e : Nat → zEnt} (hP : PvAt M b n e) (hn : n ≤ 60) (hk : ∀ i, i < n → ek (e i) < 2 ^ 63) {k : Nat} (hk9 : k < 2 ^ 63) : ∀ (f : Nat) (i : Nat), i ≤ n → n < i + f → ∀ Q : List zE → Option Value → Prop, frst (fun i => decide (ek (e i) = k)) i = none → Q M (some (.int (oI (frst (fun i => decide (ek (e i) = k)) n) (-1)))) → Z Γ (zRm (d + 1) m_pv_positionOf) m_pv_positionOf (zPh Γ m_pv_positionOf Q) 0 0 2 [some (.ref b), some (.long (lN k)), none, some (.int (nI i))] [] M := by
  intro f
  induction f with
  | zero => intro i hi hf; exact absurd hf (by omega)
  | succ f ih =>
    intro i hi hf Q hN hQ
    obtain ⟨h0, h1, h2, h3, h4, h5⟩ := id hP
    refine Z_iload_n d_pv_positionOf_2 rfl ?_
    refine Z_aload_n d_pv_positionOf_3 rfl ?_
    refine Z_get d_pv_positionOf_4 lf_pv_29 (by assumption) rfl ?_
    refine Zn_icmp_ge (tgt := 29) d_pv_positionOf_7 (by decide) (by omega) (by omega) (fun h7 => ?_) (fun h7 => ?_)
    · skip
      have hi : i = n := by omega
      subst hi
      refine Zn_iconst (-1) d_pv_positionOf_29 (by decide) ?_
      refine Z_iret d_pv_positionOf_30 rfl ?_
      rw [hN] at hQ
      exact hQ
    · skip
      refine Z_aload_n d_pv_positionOf_10 rfl ?_
      refine Z_get d_pv_positionOf_11 lf_pv_9 (by assumption) rfl ?_
      refine Z_iload_n d_pv_positionOf_14 rfl ?_
      refine Zn_lald d_pv_positionOf_15 (by assumption) (by omega) (by omega) ?_
      refine Z_lload_n d_pv_positionOf_16 rfl ?_
      refine Z_lcmp d_pv_positionOf_17 ?_
      refine Z_if_ne (tgt := 23) d_pv_positionOf_18 (by decide) (fun h18 => ?_) (fun h18 => ?_)
      · skip
        have h18 : decide (ek (e i) = k) = false := decide_eq_false (fun z => h18 ((zlN (hk i (by omega)) hk9).mpr z))
        refine Zn_iinc [some (.ref b), some (.long (lN k)), none, some (.int (nI (i + 1)))] (nI (i + 1)) d_pv_positionOf_23 rfl (by decide) (nI_add i 1) rfl ?_
        refine Z_goto (tgt := 2) d_pv_positionOf_26 (by decide) ?_
        exact ih (i + 1) (by omega) (by omega) Q (frst_next hN h18) hQ
      · skip
        have h18 : decide (ek (e i) = k) = true := decide_eq_true ((zlN (hk i (by omega)) hk9).mp h18)
        refine Z_iload_n d_pv_positionOf_21 rfl ?_
        refine Z_iret d_pv_positionOf_22 rfl ?_
        rw [frst_at (P := fun i => decide (ek (e i) = k)) (by omega) hN h18] at hQ
        exact hQ
set_option maxHeartbeats 4000000 in
theorem pv_positionOf_ok {Γ : zCtx} {M : List zE} (d : Nat) {b n : Nat} {e : Nat → zEnt} (hP : PvAt M b n e) (hn : n ≤ 60) (hk : ∀ i, i < n → ek (e i) < 2 ^ 63) {k : Nat} (hk9 : k < 2 ^ 63) : ZM Γ (d + 1) m_pv_positionOf [.ref b, .long (lN k)] M (zEq M (some (.int (oI (frst (fun i => decide (ek (e i) = k)) n) (-1))))) := by
  refine ZM.of mk_pv_positionOf (Nat.le_of_ble_eq_true rfl) ?_
  rw [show zEn [.ref b, .long (lN k)] = [some (.ref b), some (.long (lN k)), none] from rfl]
  refine zPad 1 ?_
  show Z _ _ _ _ _ _ _ [some (.ref b), some (.long (lN k)), none, none] _ _
  refine Zn_iconst (nI 0) d_pv_positionOf_0 (by decide) ?_
  refine Zn_istore_n [some (.ref b), some (.long (lN k)), none, some (.int (nI 0))] d_pv_positionOf_1 (by decide) rfl ?_
  exact pv_positionOf_loop d hP hn hk hk9 (n + 1) 0 (by omega) (by omega) _ rfl ⟨rfl, rfl⟩
set_option maxHeartbeats 4000000 in
theorem pv_positionOfOrigin_loop {Γ : zCtx} {M : List zE} (d : Nat) {b n : Nat} {e : Nat → zEnt} (hP : PvAt M b n e) (hn : n ≤ 60) {x : Int32} (hx : ¬ x < 0) : ∀ (f : Nat) (i : Nat), i ≤ n → n < i + f → ∀ Q : List zE → Option Value → Prop, frst (fun i => decide (eo (e i) = x)) i = none → Q M (some (.int (oI (frst (fun i => decide (eo (e i) = x)) n) (-1)))) → Z Γ (zRm (d + 1) m_pv_positionOfOrigin) m_pv_positionOfOrigin (zPh Γ m_pv_positionOfOrigin Q) 0 0 2 [some (.ref b), some (.int x), some (.int (nI i))] [] M := by
  intro f
  induction f with
  | zero => intro i hi hf; exact absurd hf (by omega)
  | succ f ih =>
    intro i hi hf Q hN hQ
    obtain ⟨h0, h1, h2, h3, h4, h5⟩ := id hP
    refine Z_iload_n d_pv_positionOfOrigin_2 rfl ?_
    refine Z_if_lt (tgt := 32) d_pv_positionOfOrigin_3 (by decide) (fun h3 => ?_) (fun h3 => ?_)
    · skip
      exact absurd h3 hx -- end
    · skip
      refine Z_iload_n d_pv_positionOfOrigin_6 rfl ?_
      refine Z_aload_n d_pv_positionOfOrigin_7 rfl ?_
      refine Z_get d_pv_positionOfOrigin_8 lf_pv_29 (by assumption) rfl ?_
      refine Zn_icmp_ge (tgt := 32) d_pv_positionOfOrigin_11 (by decide) (by omega) (by omega) (fun h11 => ?_) (fun h11 => ?_)
      · skip
        have hi : i = n := by omega
        subst hi
        refine Zn_iconst (-1) d_pv_positionOfOrigin_32 (by decide) ?_
        refine Z_iret d_pv_positionOfOrigin_33 rfl ?_
        rw [hN] at hQ
        exact hQ
      · skip
        refine Z_aload_n d_pv_positionOfOrigin_14 rfl ?_
        refine Z_get d_pv_positionOfOrigin_15 lf_pv_23 (by assumption) rfl ?_
        refine Z_iload_n d_pv_positionOfOrigin_18 rfl ?_
        refine Zn_iald d_pv_positionOfOrigin_19 (by assumption) (by omega) (by omega) ?_
        refine Z_iload_n d_pv_positionOfOrigin_20 rfl ?_
        refine Z_icmp_ne (tgt := 26) d_pv_positionOfOrigin_21 (by decide) (fun h21 => ?_) (fun h21 => ?_)
        · skip
          have h21 : decide (eo (e i) = x) = false := decide_eq_false h21
          refine Zn_iinc [some (.ref b), some (.int x), some (.int (nI (i + 1)))] (nI (i + 1)) d_pv_positionOfOrigin_26 rfl (by decide) (nI_add i 1) rfl ?_
          refine Z_goto (tgt := 2) d_pv_positionOfOrigin_29 (by decide) ?_
          exact ih (i + 1) (by omega) (by omega) Q (frst_next hN h21) hQ
        · skip
          have h21 : decide (eo (e i) = x) = true := decide_eq_true h21
          refine Z_iload_n d_pv_positionOfOrigin_24 rfl ?_
          refine Z_iret d_pv_positionOfOrigin_25 rfl ?_
          rw [frst_at (P := fun i => decide (eo (e i) = x)) (by omega) hN h21] at hQ
          exact hQ
set_option maxHeartbeats 4000000 in
theorem pv_positionOfOrigin_ok {Γ : zCtx} {M : List zE} (d : Nat) {b n : Nat} {e : Nat → zEnt} (hP : PvAt M b n e) (hn : n ≤ 60) {x : Int32} (hx : ¬ x < 0) : ZM Γ (d + 1) m_pv_positionOfOrigin [.ref b, .int x] M (zEq M (some (.int (oI (frst (fun i => decide (eo (e i) = x)) n) (-1))))) := by
  refine ZM.of mk_pv_positionOfOrigin (Nat.le_of_ble_eq_true rfl) ?_
  rw [show zEn [.ref b, .int x] = [some (.ref b), some (.int x)] from rfl]
  refine zPad 1 ?_
  show Z _ _ _ _ _ _ _ [some (.ref b), some (.int x), none] _ _
  refine Zn_iconst (nI 0) d_pv_positionOfOrigin_0 (by decide) ?_
  refine Zn_istore_n [some (.ref b), some (.int x), some (.int (nI 0))] d_pv_positionOfOrigin_1 (by decide) rfl ?_
  exact pv_positionOfOrigin_loop d hP hn hx (n + 1) 0 (by omega) (by omega) _ rfl ⟨rfl, rfl⟩
theorem pv_positionOfOrigin_neg {Γ : zCtx} {M : List zE} (d : Nat) {b : Nat} {x : Int32} (hx : x < 0) : ZM Γ (d + 1) m_pv_positionOfOrigin [.ref b, .int x] M (zEq M (some (.int (-1)))) := by
  refine ZM.of mk_pv_positionOfOrigin (Nat.le_of_ble_eq_true rfl) ?_
  rw [show zEn [.ref b, .int x] = [some (.ref b), some (.int x)] from rfl]
  refine zPad 1 ?_
  show Z _ _ _ _ _ _ _ [some (.ref b), some (.int x), none] _ _
  refine Zn_iconst (nI 0) d_pv_positionOfOrigin_0 (by decide) ?_
  refine Zn_istore_n [some (.ref b), some (.int x), some (.int (nI 0))] d_pv_positionOfOrigin_1 (by decide) rfl ?_
  refine Z_iload_n d_pv_positionOfOrigin_2 rfl ?_
  refine Z_if_lt (tgt := 32) d_pv_positionOfOrigin_3 (by decide) (fun _ => ?_) (fun h => absurd hx h)
  refine Zn_iconst (-1) d_pv_positionOfOrigin_32 (by decide) ?_
  exact Z_iret d_pv_positionOfOrigin_33 rfl ⟨rfl, rfl⟩
