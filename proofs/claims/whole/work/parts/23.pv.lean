/-! the contracts of Provisions -/
set_option maxHeartbeats 4000000 in
theorem pv_has_ok {Γ : zCtx} {M : List zE} (d : Nat) {b n : Nat} {e : Nat → zEnt} (hP : PvAt M b n e) (hn : n ≤ 60) {j : Nat} (hj : j < 2147483648) : ZM Γ (d + 1) m_pv_has [.ref b, .int (nI j)] M (zEq M (some (.int (nI (if j < n then 1 else 0))))) := by
  refine ZM.of mk_pv_has (Nat.le_of_ble_eq_true rfl) ?_
  obtain ⟨h0, h1, h2, h3, h4, h5⟩ := id hP
  refine Z_iload_n d_pv_has_0 rfl ?_
  refine Zn_if_lt (tgt := 16) d_pv_has_1 (by decide) (by omega) ?_
  refine Z_iload_n d_pv_has_4 rfl ?_
  refine Z_aload_n d_pv_has_5 rfl ?_
  refine Z_get d_pv_has_6 lf_pv_29 (by assumption) rfl ?_
  refine Zn_icmp_ge (tgt := 16) d_pv_has_9 (by decide) (by omega) (by omega) (fun h9 => ?_) (fun h9 => ?_)
  · skip
    refine Zn_iconst (nI 0) d_pv_has_16 (by decide) ?_
    refine Z_zret d_pv_has_17 rfl rfl ?_
    refine ⟨rfl, ?_⟩
    first | rw [if_pos (by omega)] | rw [if_neg (by omega)]
  · skip
    refine Zn_iconst (nI 1) d_pv_has_12 (by decide) ?_
    refine Z_goto (tgt := 17) d_pv_has_13 (by decide) ?_
    refine Z_zret d_pv_has_17 rfl rfl ?_
    refine ⟨rfl, ?_⟩
    first | rw [if_pos (by omega)] | rw [if_neg (by omega)]
theorem pv_has_neg {Γ : zCtx} {M : List zE} (d : Nat) {b : Nat} {x : Int32} (hx : x < 0) : ZM Γ (d + 1) m_pv_has [.ref b, .int x] M (zEq M (some (.int (nI 0)))) := by
  refine ZM.of mk_pv_has (Nat.le_of_ble_eq_true rfl) ?_
  refine Z_iload_n d_pv_has_0 rfl ?_
  refine Z_if_lt (tgt := 16) d_pv_has_1 (by decide) (fun _ => ?_) (fun h => absurd hx h)
  refine Zn_iconst (nI 0) d_pv_has_16 (by decide) ?_
  exact Z_zret d_pv_has_17 rfl rfl ⟨rfl, rfl⟩
theorem frst_next {P : Nat → Bool} {i : Nat} (h : frst P i = none) (hp : P i = false) : frst P (i + 1) = none := by
  unfold frst
  rw [h, hp]
  rfl
theorem frst_at {P : Nat → Bool} {i n : Nat} (hi : i < n) (h : frst P i = none) (hp : P i = true) : frst P n = some i := frst_some.mpr ⟨hi, hp, frst_none.mp h⟩
set_option maxHeartbeats 4000000 in
theorem pv_positionOf_loop {Γ : zCtx} {M : List zE} (d : Nat) {b n : Nat} {e : Nat → zEnt} (hP : PvAt M b n e) (hn : n ≤ 60) (hk : ∀ i, i < n → ek (e i) < 2 ^ 63) {k : Nat} (hk9 : k < 2 ^ 63) : ∀ (f : Nat) (i : Nat), i ≤ n → n < i + f → ∀ Q : List zE → Option Value → Prop, frst (fun i => decide (ek (e i) = k)) i = none → Q M (some (.int (oI (frst (fun i => decide (ek (e i) = k)) n) (-1)))) → Z Γ (zRm (d + 1) m_pv_positionOf) m_pv_positionOf (zPh Γ m_pv_positionOf Q) 0 0 2 [some (.ref b), some (.long (lN k)), none, some (.int (nI i))] [] M := by
  intro f
  induction f with
  | zero => intro i hi hf; exact absurd hf (by omega)
  | succ f ih =>
    intro i hi hf Q hN hQ
    obtain ⟨h0, h1, h2, h3, h4, h5⟩ := id hP
    refine Z_iload_n d_pv_positionOf_2 rfl ?_
    refine Z_aload_n d_pv_positionOf_3 rfl ?_
    refine Z_get d_pv_positionOf_4 lf_pv_29 (by assumption) rfl ?_
    refine Zn_icmp_ge (tgt := 29) d_pv_positionOf_7 (by decide) (by omega) (by omega) (fun h7 => ?_) (fun h7 => ?_)
    · skip
      have hi : i = n := by omega
      subst hi
      refine Zn_iconst (-1) d_pv_positionOf_29 (by decide) ?_
      refine Z_iret d_pv_positionOf_30 rfl ?_
      rw [hN] at hQ
      exact hQ
    · skip
      refine Z_aload_n d_pv_positionOf_10 rfl ?_
      refine Z_get d_pv_positionOf_11 lf_pv_9 (by assumption) rfl ?_
      refine Z_iload_n d_pv_positionOf_14 rfl ?_
      refine Zn_lald d_pv_positionOf_15 (by assumption) (by omega) (by omega) ?_
      refine Z_lload_n d_pv_positionOf_16 rfl ?_
      refine Z_lcmp d_pv_positionOf_17 ?_
      refine Z_if_ne (tgt := 23) d_pv_positionOf_18 (by decide) (fun h18 => ?_) (fun h18 => ?_)
      · skip
        have h18 : decide (ek (e i) = k) = false := decide_eq_false (fun z => h18 ((zlN (hk i (by omega)) hk9).mpr z))
        refine Zn_iinc [some (.ref b), some (.long (lN k)), none, some (.int (nI (i + 1)))] (nI (i + 1)) d_pv_positionOf_23 rfl (by decide) (nI_add i 1) rfl ?_
        refine Z_goto (tgt := 2) d_pv_positionOf_26 (by decide) ?_
        exact ih (i + 1) (by omega) (by omega) Q (frst_next hN h18) hQ
      · skip
        have h18 : decide (ek (e i) = k) = true := decide_eq_true ((zlN (hk i (by omega)) hk9).mp h18)
        refine Z_iload_n d_pv_positionOf_21 rfl ?_
        refine Z_iret d_pv_positionOf_22 rfl ?_
        rw [frst_at (P := fun i => decide (ek (e i) = k)) (by omega) hN h18] at hQ
        exact hQ
set_option maxHeartbeats 4000000 in
theorem pv_positionOf_ok {Γ : zCtx} {M : List zE} (d : Nat) {b n : Nat} {e : Nat → zEnt} (hP : PvAt M b n e) (hn : n ≤ 60) (hk : ∀ i, i < n → ek (e i) < 2 ^ 63) {k : Nat} (hk9 : k < 2 ^ 63) : ZM Γ (d + 1) m_pv_positionOf [.ref b, .long (lN k)] M (zEq M (some (.int (oI (frst (fun i => decide (ek (e i) = k)) n) (-1))))) := by
  refine ZM.of mk_pv_positionOf (Nat.le_of_ble_eq_true rfl) ?_
  rw [show zEn [.ref b, .long (lN k)] = [some (.ref b), some (.long (lN k)), none] from rfl]
  refine zPad 1 ?_
  show Z _ _ _ _ _ _ _ [some (.ref b), some (.long (lN k)), none, none] _ _
  refine Zn_iconst (nI 0) d_pv_positionOf_0 (by decide) ?_
  refine Zn_istore_n [some (.ref b), some (.long (lN k)), none, some (.int (nI 0))] d_pv_positionOf_1 (by decide) rfl ?_
  exact pv_positionOf_loop d hP hn hk hk9 (n + 1) 0 (by omega) (by omega) _ rfl ⟨rfl, rfl⟩
set_option maxHeartbeats 4000000 in
theorem pv_positionOfOrigin_loop {Γ : zCtx} {M : List zE} (d : Nat) {b n : Nat} {e : Nat → zEnt} (hP : PvAt M b n e) (hn : n ≤ 60) {x : Int32} (hx : ¬ x < 0) : ∀ (f : Nat) (i : Nat), i ≤ n → n < i + f → ∀ Q : List zE → Option Value → Prop, frst (fun i => decide (eo (e i) = x)) i = none → Q M (some (.int (oI (frst (fun i => decide (eo (e i) = x)) n) (-1)))) → Z Γ (zRm (d + 1) m_pv_positionOfOrigin) m_pv_positionOfOrigin (zPh Γ m_pv_positionOfOrigin Q) 0 0 2 [some (.ref b), some (.int x), some (.int (nI i))] [] M := by
  intro f
  induction f with
  | zero => intro i hi hf; exact absurd hf (by omega)
  | succ f ih =>
    intro i hi hf Q hN hQ
    obtain ⟨h0, h1, h2, h3, h4, h5⟩ := id hP
    refine Z_iload_n d_pv_positionOfOrigin_2 rfl ?_
    refine Z_if_lt (tgt := 32) d_pv_positionOfOrigin_3 (by decide) (fun h3 => ?_) (fun h3 => ?_)
    · skip
      exact absurd h3 hx -- end
    · skip
      refine Z_iload_n d_pv_positionOfOrigin_6 rfl ?_
      refine Z_aload_n d_pv_positionOfOrigin_7 rfl ?_
      refine Z_get d_pv_positionOfOrigin_8 lf_pv_29 (by assumption) rfl ?_
      refine Zn_icmp_ge (tgt := 32) d_pv_positionOfOrigin_11 (by decide) (by omega) (by omega) (fun h11 => ?_) (fun h11 => ?_)
      · skip
        have hi : i = n := by omega
        subst hi
        refine Zn_iconst (-1) d_pv_positionOfOrigin_32 (by decide) ?_
        refine Z_iret d_pv_positionOfOrigin_33 rfl ?_
        rw [hN] at hQ
        exact hQ
      · skip
        refine Z_aload_n d_pv_positionOfOrigin_14 rfl ?_
        refine Z_get d_pv_positionOfOrigin_15 lf_pv_23 (by assumption) rfl ?_
        refine Z_iload_n d_pv_positionOfOrigin_18 rfl ?_
        refine Zn_iald d_pv_positionOfOrigin_19 (by assumption) (by omega) (by omega) ?_
        refine Z_iload_n d_pv_positionOfOrigin_20 rfl ?_
        refine Z_icmp_ne (tgt := 26) d_pv_positionOfOrigin_21 (by decide) (fun h21 => ?_) (fun h21 => ?_)
        · skip
          have h21 : decide (eo (e i) = x) = false := decide_eq_false h21
          refine Zn_iinc [some (.ref b), some (.int x), some (.int (nI (i + 1)))] (nI (i + 1)) d_pv_positionOfOrigin_26 rfl (by decide) (nI_add i 1) rfl ?_
          refine Z_goto (tgt := 2) d_pv_positionOfOrigin_29 (by decide) ?_
          exact ih (i + 1) (by omega) (by omega) Q (frst_next hN h21) hQ
        · skip
          have h21 : decide (eo (e i) = x) = true := decide_eq_true h21
          refine Z_iload_n d_pv_positionOfOrigin_24 rfl ?_
          refine Z_iret d_pv_positionOfOrigin_25 rfl ?_
          rw [frst_at (P := fun i => decide (eo (e i) = x)) (by omega) hN h21] at hQ
          exact hQ
set_option maxHeartbeats 4000000 in
theorem pv_positionOfOrigin_ok {Γ : zCtx} {M : List zE} (d : Nat) {b n : Nat} {e : Nat → zEnt} (hP : PvAt M b n e) (hn : n ≤ 60) {x : Int32} (hx : ¬ x < 0) : ZM Γ (d + 1) m_pv_positionOfOrigin [.ref b, .int x] M (zEq M (some (.int (oI (frst (fun i => decide (eo (e i) = x)) n) (-1))))) := by
  refine ZM.of mk_pv_positionOfOrigin (Nat.le_of_ble_eq_true rfl) ?_
  rw [show zEn [.ref b, .int x] = [some (.ref b), some (.int x)] from rfl]
  refine zPad 1 ?_
  show Z _ _ _ _ _ _ _ [some (.ref b), some (.int x), none] _ _
  refine Zn_iconst (nI 0) d_pv_positionOfOrigin_0 (by decide) ?_
  refine Zn_istore_n [some (.ref b), some (.int x), some (.int (nI 0))] d_pv_positionOfOrigin_1 (by decide) rfl ?_
  exact pv_positionOfOrigin_loop d hP hn hx (n + 1) 0 (by omega) (by omega) _ rfl ⟨rfl, rfl⟩
theorem pv_positionOfOrigin_neg {Γ : zCtx} {M : List zE} (d : Nat) {b : Nat} {x : Int32} (hx : x < 0) : ZM Γ (d + 1) m_pv_positionOfOrigin [.ref b, .int x] M (zEq M (some (.int (-1)))) := by
  refine ZM.of mk_pv_positionOfOrigin (Nat.le_of_ble_eq_true rfl) ?_
  rw [show zEn [.ref b, .int x] = [some (.ref b), some (.int x)] from rfl]
  refine zPad 1 ?_
  show Z _ _ _ _ _ _ _ [some (.ref b), some (.int x), none] _ _
  refine Zn_iconst (nI 0) d_pv_positionOfOrigin_0 (by decide) ?_
  refine Zn_istore_n [some (.ref b), some (.int x), some (.int (nI 0))] d_pv_positionOfOrigin_1 (by decide) rfl ?_
  refine Z_iload_n d_pv_positionOfOrigin_2 rfl ?_
  refine Z_if_lt (tgt := 32) d_pv_positionOfOrigin_3 (by decide) (fun _ => ?_) (fun h => absurd hx h)
  refine Zn_iconst (-1) d_pv_positionOfOrigin_32 (by decide) ?_
  exact Z_iret d_pv_positionOfOrigin_33 rfl ⟨rfl, rfl⟩
def inF (n : Nat) (e : Nat → zEnt) (x : Int32) : Option Nat := match frst (fun i => decide (eo (e i) = x)) n with
  | some i => if er (e i) then none else some i
  | none => none
set_option maxHeartbeats 4000000 in
theorem pv_positionInForce_ok {Γ : zCtx} {M : List zE} (d : Nat) {b n : Nat} {e : Nat → zEnt} (hP : PvAt M b n e) (hn : n ≤ 60) {x : Int32} (hx : ¬ x < 0) : ZM Γ (d + 2) m_pv_positionInForce [.ref b, .int x] M (zEq M (some (.int (oI (inF n e x) (-1))))) := by
  refine ZM.of mk_pv_positionInForce (Nat.le_of_ble_eq_true rfl) ?_
  obtain ⟨h0, h1, h2, h3, h4, h5⟩ := id hP
  rw [show zEn [.ref b, .int x] = [some (.ref b), some (.int x)] from rfl]
  refine zPad 1 ?_
  show Z _ _ _ _ _ _ _ [some (.ref b), some (.int x), none] _ _
  refine Z_aload_n d_pv_positionInForce_0 rfl ?_
  refine Z_iload_n d_pv_positionInForce_1 rfl ?_
  refine zVe (As := [.int x]) (by omega) d_pv_positionInForce_2 lm_pv_39 (by assumption) rfl rfl (Nat.le_of_ble_eq_true rfl) (pv_positionOfOrigin_ok d hP hn hx) ?_
  rcases hr : frst (fun i => decide (eo (e i) = x)) n with _ | i
  · skip
    refine Zn_istore_n [some (.ref b), some (.int x), some (.int (-1))] d_pv_positionInForce_5 (by decide) rfl ?_
    refine Z_iload_n d_pv_positionInForce_6 rfl ?_
    refine Z_if_lt (tgt := 23) d_pv_positionInForce_7 (by decide) (fun h7 => ?_) (fun h7 => ?_)
    · skip
      refine Z_iload_n d_pv_positionInForce_23 rfl ?_
      refine Z_iret d_pv_positionInForce_24 rfl ?_
      refine ⟨rfl, ?_⟩
      unfold inF
      rw [hr]
      first | rfl | (simp [h16, oI]; done)
    · skip
      exact absurd (by decide) h7 -- end
  · skip
    have hi := (frst_some.mp hr).1
    refine Zn_istore_n [some (.ref b), some (.int x), some (.int (nI i))] d_pv_positionInForce_5 (by decide) rfl ?_
    refine Z_iload_n d_pv_positionInForce_6 rfl ?_
    refine Zn_if_lt (tgt := 23) d_pv_positionInForce_7 (by decide) (by omega) ?_
    refine Z_aload_n d_pv_positionInForce_10 rfl ?_
    refine Z_get d_pv_positionInForce_11 lf_pv_19 (by assumption) rfl ?_
    refine Z_iload_n d_pv_positionInForce_14 rfl ?_
    refine Zn_zald d_pv_positionInForce_15 (by assumption) (by omega) (by omega) ?_
    refine Z_if_eq (tgt := 23) d_pv_positionInForce_16 (by decide) (fun h16 => ?_) (fun h16 => ?_)
    · skip
      have h16 := bI_0.mp h16
      refine Z_iload_n d_pv_positionInForce_23 rfl ?_
      refine Z_iret d_pv_positionInForce_24 rfl ?_
      refine ⟨rfl, ?_⟩
      unfold inF
      rw [hr]
      first | rfl | (simp [h16, oI]; done)
    · skip
      have h16 : er (e i) = true := by cases hh : er (e i) with
        | true => rfl
        | false => exact absurd (bI_0.mpr hh) h16
      refine Zn_iconst (-1) d_pv_positionInForce_19 (by decide) ?_
      refine Z_goto (tgt := 24) d_pv_positionInForce_20 (by decide) ?_
      refine Z_iret d_pv_positionInForce_24 rfl ?_
      refine ⟨rfl, ?_⟩
      unfold inF
      rw [hr]
      first | rfl | (simp [h16, oI]; done)
theorem pv_positionInForce_neg {Γ : zCtx} {M : List zE} (d : Nat) {b n : Nat} {e : Nat → zEnt} (hP : PvAt M b n e) {x : Int32} (hx : x < 0) : ZM Γ (d + 2) m_pv_positionInForce [.ref b, .int x] M (zEq M (some (.int (-1)))) := by
  refine ZM.of mk_pv_positionInForce (Nat.le_of_ble_eq_true rfl) ?_
  obtain ⟨h0, h1, h2, h3, h4, h5⟩ := id hP
  rw [show zEn [.ref b, .int x] = [some (.ref b), some (.int x)] from rfl]
  refine zPad 1 ?_
  show Z _ _ _ _ _ _ _ [some (.ref b), some (.int x), none] _ _
  refine Z_aload_n d_pv_positionInForce_0 rfl ?_
  refine Z_iload_n d_pv_positionInForce_1 rfl ?_
  refine zVe (As := [.int x]) (by omega) d_pv_positionInForce_2 lm_pv_39 (by assumption) rfl rfl (Nat.le_of_ble_eq_true rfl) (pv_positionOfOrigin_neg d hx) ?_
  refine Zn_istore_n [some (.ref b), some (.int x), some (.int (-1))] d_pv_positionInForce_5 (by decide) rfl ?_
  refine Z_iload_n d_pv_positionInForce_6 rfl ?_
  refine Z_if_lt (tgt := 23) d_pv_positionInForce_7 (by decide) (fun _ => ?_) (fun h => absurd (by decide) h)
  refine Z_iload_n d_pv_positionInForce_23 rfl ?_
  exact Z_iret d_pv_positionInForce_24 rfl ⟨rfl, rfl⟩
def gm (e : Nat → zEnt) (k : Nat) : Nat → Nat
  | 0 => 0
  | i + 1 => if par (ek (e i)) = k then max (gm e k i) (lab (ek (e i)) (lev k + 1) / 19683) else gm e k i
theorem gm_le (e : Nat → zEnt) (k : Nat) : ∀ i, gm e k i ≤ 106
  | 0 => by simp [gm]
  | i + 1 => by
    have ih := gm_le e k i
    have h := lab_lt (ek (e i)) (lev k + 1)
    unfold gm
    split <;> omega
def newl (n : Nat) (e : Nat → zEnt) (k : Nat) : Option Nat := if gm e k n < 99 then some ((gm e k n + 1) * 19683) else none
theorem par_le (k : Nat) : par k ≤ k := by unfold par; split; omega; split <;> omega
theorem zn_max {a b : Nat} (ha : a < 2147483648) (hb : b < 2147483648) : (if nI a < nI b then nI b else nI a) = nI (max a b) := by
  by_cases h : a < b
  · rw [if_pos ((zn_lt ha hb).mpr h), Nat.max_eq_right (by omega)]
  · rw [if_neg (fun q => h ((zn_lt ha hb).mp q)), Nat.max_eq_left (by omega)]
theorem zn_min {a b : Nat} (ha : a < 2147483648) (hb : b < 2147483648) : (if nI b < nI a then nI b else nI a) = nI (min a b) := by
  by_cases h : b < a
  · rw [if_pos ((zn_lt hb ha).mpr h), Nat.min_eq_right (by omega)]
  · rw [if_neg (fun q => h ((zn_lt hb ha).mp q)), Nat.min_eq_left (by omega)]
set_option maxHeartbeats 4000000 in
theorem pv_newl_loop {Γ : zCtx} {M : List zE} (d : Nat) {b n : Nat} {e : Nat → zEnt} (hP : PvAt M b n e) (hn : n ≤ 60) (hk : ∀ i, i < n → ek (e i) < 2 ^ 63) {k : Nat} (hk9 : k < 2 ^ 63) (hlv : lev k ≤ 2) : ∀ (f : Nat) (i : Nat), i ≤ n → n < i + f → ∀ Q : List zE → Option Value → Prop, Q M (some (.int (oI (newl n e k) (-7)))) → Z Γ (zRm (d + 2) m_pv_labelOfNewLastChild) m_pv_labelOfNewLastChild (zPh Γ m_pv_labelOfNewLastChild Q) 0 0 13 [some (.ref b), some (.long (lN k)), none, some (.int (nI (lev k + 1))), some (.int (nI (gm e k i))), some (.int (nI i))] [] M := by
  intro f
  induction f with
  | zero => intro i hi hf; exact absurd hf (by omega)
  | succ f ih =>
    intro i hi hf Q hQ
    obtain ⟨h0, h1, h2, h3, h4, h5⟩ := id hP
    have hpl := par_le (ek (e i))
    have hgm := gm_le e k i
    have hlb := lab_lt (ek (e i)) (lev k + 1)
    have hgn := gm_le e k n
    have hkk := hk i
    refine Z_iload d_pv_labelOfNewLastChild_13 rfl ?_
    refine Z_aload_n d_pv_labelOfNewLastChild_15 rfl ?_
    refine Z_get d_pv_labelOfNewLastChild_16 lf_pv_29 (by assumption) rfl ?_
    refine Zn_icmp_ge (tgt := 64) d_pv_labelOfNewLastChild_19 (by decide) (by omega) (by omega) (fun h19 => ?_) (fun h19 => ?_)
    · skip
      have hi : i = n := by omega
      subst hi
      refine Z_iload d_pv_labelOfNewLastChild_64 rfl ?_
      refine Zn_bipush (nI 99) d_pv_labelOfNewLastChild_66 (by decide) ?_
      refine Zn_icmp_ge (tgt := 81) d_pv_labelOfNewLastChild_68 (by decide) (by omega) (by omega) (fun h68 => ?_) (fun h68 => ?_)
      · skip
        refine Zn_bipush (-7) d_pv_labelOfNewLastChild_81 (by decide) ?_
        refine Z_iret d_pv_labelOfNewLastChild_83 rfl ?_
        unfold newl at hQ
        first | (rw [if_pos (by omega)] at hQ; exact hQ) | (rw [if_neg (by omega)] at hQ; exact hQ)
      · skip
        refine Z_iload d_pv_labelOfNewLastChild_71 rfl ?_
        refine Zn_iconst (nI 1) d_pv_labelOfNewLastChild_73 (by decide) ?_
        refine Zn_iadd d_pv_labelOfNewLastChild_74 ?_
        refine zTe (As := [.int (nI ((gm e k i) + 1))]) (by omega) d_pv_labelOfNewLastChild_75 lm_pv_63 rfl (Nat.le_of_ble_eq_true rfl) (pa_labelOfNumber_ok (d + 0)) ?_
        refine Z_goto (tgt := 83) d_pv_labelOfNewLastChild_78 (by decide) ?_
        refine Z_iret d_pv_labelOfNewLastChild_83 rfl ?_
        unfold newl at hQ
        first | (rw [if_pos (by omega)] at hQ; exact hQ) | (rw [if_neg (by omega)] at hQ; exact hQ)
    · skip
      refine Z_aload_n d_pv_labelOfNewLastChild_22 rfl ?_
      refine Z_get d_pv_labelOfNewLastChild_23 lf_pv_9 (by assumption) rfl ?_
      refine Z_iload d_pv_labelOfNewLastChild_26 rfl ?_
      refine Zn_lald d_pv_labelOfNewLastChild_28 (by assumption) (by omega) (by omega) ?_
      refine zTe (As := [.long (lN (ek (e i)))]) (by omega) d_pv_labelOfNewLastChild_29 lm_pv_49 rfl (Nat.le_of_ble_eq_true rfl) (pa_parentOf_ok (d + 0) (hk i (by omega))) ?_
      refine Z_lload_n d_pv_labelOfNewLastChild_32 rfl ?_
      refine Z_lcmp d_pv_labelOfNewLastChild_33 ?_
      refine Z_if_ne (tgt := 58) d_pv_labelOfNewLastChild_34 (by decide) (fun h34 => ?_) (fun h34 => ?_)
      · skip
        have h34 : ¬ par (ek (e i)) = k := fun z => h34 ((zlN (by omega) hk9).mpr z)
        refine Zn_iinc [some (.ref b), some (.long (lN k)), none, some (.int (nI (lev k + 1))), some (.int (nI (gm e k i))), some (.int (nI (i + 1)))] (nI (i + 1)) d_pv_labelOfNewLastChild_58 rfl (by decide) (nI_add i 1) rfl ?_
        refine Z_goto (tgt := 13) d_pv_labelOfNewLastChild_61 (by decide) ?_
        rw [show nI (gm e k i) = nI (gm e k (i + 1)) from by rw [gm, if_neg h34]]
        exact ih (i + 1) (by omega) (by omega) Q hQ
      · skip
        have h34 : par (ek (e i)) = k := (zlN (by omega) hk9).mp h34
        refine Z_iload d_pv_labelOfNewLastChild_37 rfl ?_
        refine Z_aload_n d_pv_labelOfNewLastChild_39 rfl ?_
        refine Z_get d_pv_labelOfNewLastChild_40 lf_pv_9 (by assumption) rfl ?_
        refine Z_iload d_pv_labelOfNewLastChild_43 rfl ?_
        refine Zn_lald d_pv_labelOfNewLastChild_45 (by assumption) (by omega) (by omega) ?_
        refine Z_iload_n d_pv_labelOfNewLastChild_46 rfl ?_
        refine zTe (As := [.long (lN (ek (e i))), .int (nI (lev k + 1))]) (by omega) d_pv_labelOfNewLastChild_47 lm_pv_53 rfl (Nat.le_of_ble_eq_true rfl) (pa_labelAt_ok (d + 0) (hk i (by omega)) (by omega) (by omega)) ?_
        refine zTe (As := [.int (nI (lab (ek (e i)) (lev k + 1)))]) (by omega) d_pv_labelOfNewLastChild_50 lm_pv_57 rfl (Nat.le_of_ble_eq_true rfl) (pa_numberOf_ok (d + 0) (by omega)) ?_
        refine zMax (by omega) d_pv_labelOfNewLastChild_53 lmm_pv_60 (Nat.le_of_ble_eq_true rfl) ?_
        rw [zn_max (by omega) (by omega)]
        refine Zn_istore [some (.ref b), some (.long (lN k)), none, some (.int (nI (lev k + 1))), some (.int (nI (max (gm e k i) (lab (ek (e i)) (lev k + 1) / 19683)))), some (.int (nI i))] d_pv_labelOfNewLastChild_56 (by decide) rfl ?_
        refine Zn_iinc [some (.ref b), some (.long (lN k)), none, some (.int (nI (lev k + 1))), some (.int (nI (max (gm e k i) (lab (ek (e i)) (lev k + 1) / 19683)))), some (.int (nI (i + 1)))] (nI (i + 1)) d_pv_labelOfNewLastChild_58 rfl (by decide) (nI_add i 1) rfl ?_
        refine Z_goto (tgt := 13) d_pv_labelOfNewLastChild_61 (by decide) ?_
        rw [show nI (max (gm e k i) (lab (ek (e i)) (lev k + 1) / 19683)) = nI (gm e k (i + 1)) from by rw [gm, if_pos h34]]
        exact ih (i + 1) (by omega) (by omega) Q hQ
set_option maxHeartbeats 4000000 in
theorem pv_newl_ok {Γ : zCtx} {M : List zE} (d : Nat) {b n : Nat} {e : Nat → zEnt} (hP : PvAt M b n e) (hn : n ≤ 60) (hk : ∀ i, i < n → ek (e i) < 2 ^ 63) {k : Nat} (hk9 : k < 2 ^ 63) (hlv : lev k ≤ 2) : ZM Γ (d + 2) m_pv_labelOfNewLastChild [.ref b, .long (lN k)] M (zEq M (some (.int (oI (newl n e k) (-7))))) := by
  refine ZM.of mk_pv_labelOfNewLastChild (Nat.le_of_ble_eq_true rfl) ?_
  rw [show zEn [.ref b, .long (lN k)] = [some (.ref b), some (.long (lN k)), none] from rfl]
  refine zPad 3 ?_
  show Z _ _ _ _ _ _ _ [some (.ref b), some (.long (lN k)), none, none, none, none] _ _
  refine Z_lload_n d_pv_labelOfNewLastChild_0 rfl ?_
  refine zTe (As := [.long (lN k)]) (by omega) d_pv_labelOfNewLastChild_1 lm_pv_43 rfl (Nat.le_of_ble_eq_true rfl) (pa_levelOf_ok (d + 0) hk9) ?_
  refine Zn_iconst (nI 1) d_pv_labelOfNewLastChild_4 (by decide) ?_
  refine Zn_iadd d_pv_labelOfNewLastChild_5 ?_
  refine Zn_istore_n [some (.ref b), some (.long (lN k)), none, some (.int (nI ((lev k) + 1))), none, none] d_pv_labelOfNewLastChild_6 (by decide) rfl ?_
  refine Zn_iconst (nI 0) d_pv_labelOfNewLastChild_7 (by decide) ?_
  refine Zn_istore [some (.ref b), some (.long (lN k)), none, some (.int (nI ((lev k) + 1))), some (.int (nI 0)), none] d_pv_labelOfNewLastChild_8 (by decide) rfl ?_
  refine Zn_iconst (nI 0) d_pv_labelOfNewLastChild_10 (by decide) ?_
  refine Zn_istore [some (.ref b), some (.long (lN k)), none, some (.int (nI ((lev k) + 1))), some (.int (nI 0)), some (.int (nI 0))] d_pv_labelOfNewLastChild_11 (by decide) rfl ?_
  exact pv_newl_loop d hP hn hk hk9 hlv (n + 1) 0 (by omega) (by omega) _ ⟨rfl, rfl⟩
def lim (e : Nat → zEnt) (k q : Nat) : Nat → Nat
  | 0 => (lab k (lev k) / 19683 + 1) * 19683
  | i + 1 => if k < ek (e i) ∧ ek (e i) ≠ q ∧ par (ek (e i)) = par k then min (lim e k q i) (lab (ek (e i)) (lev k)) else lim e k q i
theorem lim_le (e : Nat → zEnt) (k q : Nat) : ∀ i, lim e k q i ≤ 2200000
  | 0 => by have h := lab_lt k (lev k); unfold lim; omega
  | i + 1 => by
    have ih := lim_le e k q i
    unfold lim
    split <;> omega
def aftl (n : Nat) (e : Nat → zEnt) (k q : Nat) : Option Nat := betw (lab k (lev k)) (lim e k q n)
set_option maxHeartbeats 4000000 in
theorem pv_aftl_loop {Γ : zCtx} {M : List zE} (d : Nat) {b n : Nat} {e : Nat → zEnt} (hP : PvAt M b n e) (hn : n ≤ 60) (hk : ∀ i, i < n → ek (e i) < 2 ^ 63) {k q : Nat} (hk9 : k < 2 ^ 63) (hq9 : q < 2 ^ 63) (hlv : 1 ≤ lev k) : ∀ (f : Nat) (i : Nat) (y : Option Value), i ≤ n → n < i + f → ∀ Q : List zE → Option Value → Prop, Q M (some (.int (oI (aftl n e k q) (-7)))) → Z Γ (zRm (d + 2) m_pv_labelAfter) m_pv_labelAfter (zPh Γ m_pv_labelAfter Q) 0 0 35 [some (.ref b), some (.long (lN k)), none, some (.long (lN q)), none, some (.int (nI (lev k))), some (.int (nI (lab k (lev k)))), some (.int (nI (lim e k q i))), some (.long (lN (par k))), none, some (.int (nI i)), y, none] [] M := by
  intro f
  induction f with
  | zero => intro i y hi hf; exact absurd hf (by omega)
  | succ f ih =>
    intro i y hi hf Q hQ
    obtain ⟨h0, h1, h2, h3, h4, h5⟩ := id hP
    have hpl := par_le (ek (e i))
    have hpk := par_le k
    have hli := lim_le e k q i
    have hln := lim_le e k q n
    have hlb := lab_lt (ek (e i)) (lev k)
    have hlk := lab_lt k (lev k)
    have hl3 := lev_le k
    have hkk := hk i
    refine Z_iload d_pv_labelAfter_35 rfl ?_
    refine Z_aload_n d_pv_labelAfter_37 rfl ?_
    refine Z_get d_pv_labelAfter_38 lf_pv_29 (by assumption) rfl ?_
    refine Zn_icmp_ge (tgt := 98) d_pv_labelAfter_41 (by decide) (by omega) (by omega) (fun h41 => ?_) (fun h41 => ?_)
    · skip
      have hi : i = n := by omega
      subst hi
      refine Z_iload d_pv_labelAfter_98 rfl ?_
      refine Z_iload d_pv_labelAfter_100 rfl ?_
      refine zTe (As := [.int (nI (lab k (lev k))), .int (nI (lim e k q i))]) (by omega) d_pv_labelAfter_102 lm_pv_66 rfl (Nat.le_of_ble_eq_true rfl) (pa_labelBetween_ok d (by omega) (by omega)) ?_
      refine Z_iret d_pv_labelAfter_105 rfl ?_
      exact hQ
    · skip
      refine Z_aload_n d_pv_labelAfter_44 rfl ?_
      refine Z_get d_pv_labelAfter_45 lf_pv_9 (by assumption) rfl ?_
      refine Z_iload d_pv_labelAfter_48 rfl ?_
      refine Zn_lald d_pv_labelAfter_50 (by assumption) (by omega) (by omega) ?_
      refine Zn_lstore [some (.ref b), some (.long (lN k)), none, some (.long (lN q)), none, some (.int (nI (lev k))), some (.int (nI (lab k (lev k)))), some (.int (nI (lim e k q i))), some (.long (lN (par k))), none, some (.int (nI i)), some (.long (lN (ek (e i)))), none] d_pv_labelAfter_51 (by decide) rfl ?_
      refine Z_lload d_pv_labelAfter_53 rfl ?_
      refine Z_lload_n d_pv_labelAfter_55 rfl ?_
      refine Z_lcmp d_pv_labelAfter_56 ?_
      refine Z_if_le (tgt := 92) d_pv_labelAfter_57 (by decide) (fun h57 => ?_) (fun h57 => ?_)
      · skip
        have h57 := (zlN_le (by omega) hk9).mp h57
        refine Zn_iinc [some (.ref b), some (.long (lN k)), none, some (.long (lN q)), none, some (.int (nI (lev k))), some (.int (nI (lab k (lev k)))), some (.int (nI (lim e k q i))), some (.long (lN (par k))), none, some (.int (nI (i + 1))), some (.long (lN (ek (e i)))), none] (nI (i + 1)) d_pv_labelAfter_92 rfl (by decide) (nI_add i 1) rfl ?_
        refine Z_goto (tgt := 35) d_pv_labelAfter_95 (by decide) ?_
        rw [show nI (lim e k q i) = nI (lim e k q (i + 1)) from by rw [lim, if_neg (by rintro ⟨z1, z2, z3⟩; first | exact absurd z1 (by omega) | exact absurd h64 z2 | exact h75 z3)]]
        exact ih (i + 1) _ (by omega) (by omega) Q hQ
      · skip
        have h57 : ¬ ek (e i) ≤ k := fun z => h57 ((zlN_le (by omega) hk9).mpr z)
        refine Z_lload d_pv_labelAfter_60 rfl ?_
        refine Z_lload_n d_pv_labelAfter_62 rfl ?_
        refine Z_lcmp d_pv_labelAfter_63 ?_
        refine Z_if_eq (tgt := 92) d_pv_labelAfter_64 (by decide) (fun h64 => ?_) (fun h64 => ?_)
        · skip
          have h64 : ek (e i) = q := (zlN (by omega) hq9).mp h64
          refine Zn_iinc [some (.ref b), some (.long (lN k)), none, some (.long (lN q)), none, some (.int (nI (lev k))), some (.int (nI (lab k (lev k)))), some (.int (nI (lim e k q i))), some (.long (lN (par k))), none, some (.int (nI (i + 1))), some (.long (lN (ek (e i)))), none] (nI (i + 1)) d_pv_labelAfter_92 rfl (by decide) (nI_add i 1) rfl ?_
          refine Z_goto (tgt := 35) d_pv_labelAfter_95 (by decide) ?_
          rw [show nI (lim e k q i) = nI (lim e k q (i + 1)) from by rw [lim, if_neg (by rintro ⟨z1, z2, z3⟩; first | exact absurd z1 (by omega) | exact absurd h64 z2 | exact h75 z3)]]
          exact ih (i + 1) _ (by omega) (by omega) Q hQ
        · skip
          have h64 : ¬ ek (e i) = q := fun z => h64 ((zlN (by omega) hq9).mpr z)
          refine Z_lload d_pv_labelAfter_67 rfl ?_
          refine zTe (As := [.long (lN (ek (e i)))]) (by omega) d_pv_labelAfter_69 lm_pv_49 rfl (Nat.le_of_ble_eq_true rfl) (pa_parentOf_ok (d + 0) (hk i (by omega))) ?_
          refine Z_lload d_pv_labelAfter_72 rfl ?_
          refine Z_lcmp d_pv_labelAfter_74 ?_
          refine Z_if_ne (tgt := 92) d_pv_labelAfter_75 (by decide) (fun h75 => ?_) (fun h75 => ?_)
          · skip
            have h75 : ¬ par (ek (e i)) = par k := fun z => h75 ((zlN (by omega) (by omega)).mpr z)
            refine Zn_iinc [some (.ref b), some (.long (lN k)), none, some (.long (lN q)), none, some (.int (nI (lev k))), some (.int (nI (lab k (lev k)))), some (.int (nI (lim e k q i))), some (.long (lN (par k))), none, some (.int (nI (i + 1))), some (.long (lN (ek (e i)))), none] (nI (i + 1)) d_pv_labelAfter_92 rfl (by decide) (nI_add i 1) rfl ?_
            refine Z_goto (tgt := 35) d_pv_labelAfter_95 (by decide) ?_
            rw [show nI (lim e k q i) = nI (lim e k q (i + 1)) from by rw [lim, if_neg (by rintro ⟨z1, z2, z3⟩; first | exact absurd z1 (by omega) | exact absurd h64 z2 | exact h75 z3)]]
            exact ih (i + 1) _ (by omega) (by omega) Q hQ
          · skip
            have h75 : par (ek (e i)) = par k := (zlN (by omega) (by omega)).mp h75
            refine Z_iload d_pv_labelAfter_78 rfl ?_
            refine Z_lload d_pv_labelAfter_80 rfl ?_
            refine Z_iload d_pv_labelAfter_82 rfl ?_
            refine zTe (As := [.long (lN (ek (e i))), .int (nI (lev k))]) (by omega) d_pv_labelAfter_84 lm_pv_53 rfl (Nat.le_of_ble_eq_true rfl) (pa_labelAt_ok (d + 0) (hk i (by omega)) (by omega) (by omega)) ?_
            refine zMin (by omega) d_pv_labelAfter_87 lmm_pv_33 (Nat.le_of_ble_eq_true rfl) ?_
            rw [zn_min (by omega) (by omega)]
            refine Zn_istore [some (.ref b), some (.long (lN k)), none, some (.long (lN q)), none, some (.int (nI (lev k))), some (.int (nI (lab k (lev k)))), some (.int (nI (min (lim e k q i) (lab (ek (e i)) (lev k))))), some (.long (lN (par k))), none, some (.int (nI i)), some (.long (lN (ek (e i)))), none] d_pv_labelAfter_90 (by decide) rfl ?_
            refine Zn_iinc [some (.ref b), some (.long (lN k)), none, some (.long (lN q)), none, some (.int (nI (lev k))), some (.int (nI (lab k (lev k)))), some (.int (nI (min (lim e k q i) (lab (ek (e i)) (lev k))))), some (.long (lN (par k))), none, some (.int (nI (i + 1))), some (.long (lN (ek (e i)))), none] (nI (i + 1)) d_pv_labelAfter_92 rfl (by decide) (nI_add i 1) rfl ?_
            refine Z_goto (tgt := 35) d_pv_labelAfter_95 (by decide) ?_
            rw [show nI (min (lim e k q i) (lab (ek (e i)) (lev k))) = nI (lim e k q (i + 1)) from by rw [lim, if_pos ⟨by omega, h64, h75⟩]]
            exact ih (i + 1) _ (by omega) (by omega) Q hQ
set_option maxHeartbeats 4000000 in
theorem pv_aftl_ok {Γ : zCtx} {M : List zE} (d : Nat) {b n : Nat} {e : Nat → zEnt} (hP : PvAt M b n e) (hn : n ≤ 60) (hk : ∀ i, i < n → ek (e i) < 2 ^ 63) {k q : Nat} (hk9 : k < 2 ^ 63) (hq9 : q < 2 ^ 63) (hlv : 1 ≤ lev k) : ZM Γ (d + 2) m_pv_labelAfter [.ref b, .long (lN k), .long (lN q)] M (zEq M (some (.int (oI (aftl n e k q) (-7))))) := by
  refine ZM.of mk_pv_labelAfter (Nat.le_of_ble_eq_true rfl) ?_
  have hlk := lab_lt k (lev k)
  have hl3 := lev_le k
  rw [show zEn [.ref b, .long (lN k), .long (lN q)] = [some (.ref b), some (.long (lN k)), none, some (.long (lN q)), none] from rfl]
  refine zPad 8 ?_
  show Z _ _ _ _ _ _ _ [some (.ref b), some (.long (lN k)), none, some (.long (lN q)), none, none, none, none, none, none, none, none, none] _ _
  refine Z_lload_n d_pv_labelAfter_0 rfl ?_
  refine zTe (As := [.long (lN k)]) (by omega) d_pv_labelAfter_1 lm_pv_43 rfl (Nat.le_of_ble_eq_true rfl) (pa_levelOf_ok (d + 0) hk9) ?_
  refine Zn_istore [some (.ref b), some (.long (lN k)), none, some (.long (lN q)), none, some (.int (nI (lev k))), none, none, none, none, none, none, none] d_pv_labelAfter_4 (by decide) rfl ?_
  refine Z_lload_n d_pv_labelAfter_6 rfl ?_
  refine Z_iload d_pv_labelAfter_7 rfl ?_
  refine zTe (As := [.long (lN k), .int (nI (lev k))]) (by omega) d_pv_labelAfter_9 lm_pv_53 rfl (Nat.le_of_ble_eq_true rfl) (pa_labelAt_ok (d + 0) hk9 (by omega) (by omega)) ?_
  refine Zn_istore [some (.ref b), some (.long (lN k)), none, some (.long (lN q)), none, some (.int (nI (lev k))), some (.int (nI (lab k (lev k)))), none, none, none, none, none, none] d_pv_labelAfter_12 (by decide) rfl ?_
  refine Z_iload d_pv_labelAfter_14 rfl ?_
  refine zTe (As := [.int (nI (lab k (lev k)))]) (by omega) d_pv_labelAfter_16 lm_pv_57 rfl (Nat.le_of_ble_eq_true rfl) (pa_numberOf_ok (d + 0) (by omega)) ?_
  refine Zn_iconst (nI 1) d_pv_labelAfter_19 (by decide) ?_
  refine Zn_iadd d_pv_labelAfter_20 ?_
  refine zTe (As := [.int (nI (((lab k (lev k)) / 19683) + 1))]) (by omega) d_pv_labelAfter_21 lm_pv_63 rfl (Nat.le_of_ble_eq_true rfl) (pa_labelOfNumber_ok (d + 0)) ?_
  refine Zn_istore [some (.ref b), some (.long (lN k)), none, some (.long (lN q)), none, some (.int (nI (lev k))), some (.int (nI (lab k (lev k)))), some (.int (nI ((((lab k (lev k)) / 19683) + 1) * 19683))), none, none, none, none, none] d_pv_labelAfter_24 (by decide) rfl ?_
  refine Z_lload_n d_pv_labelAfter_26 rfl ?_
  refine zTe (As := [.long (lN k)]) (by omega) d_pv_labelAfter_27 lm_pv_49 rfl (Nat.le_of_ble_eq_true rfl) (pa_parentOf_ok (d + 0) hk9) ?_
  refine Zn_lstore [some (.ref b), some (.long (lN k)), none, some (.long (lN q)), none, some (.int (nI (lev k))), some (.int (nI (lab k (lev k)))), some (.int (nI ((((lab k (lev k)) / 19683) + 1) * 19683))), some (.long (lN (par k))), none, none, none, none] d_pv_labelAfter_30 (by decide) rfl ?_
  refine Zn_iconst (nI 0) d_pv_labelAfter_32 (by decide) ?_
  refine Zn_istore [some (.ref b), some (.long (lN k)), none, some (.long (lN q)), none, some (.int (nI (lev k))), some (.int (nI (lab k (lev k)))), some (.int (nI ((((lab k (lev k)) / 19683) + 1) * 19683))), some (.long (lN (par k))), none, some (.int (nI 0)), none, none] d_pv_labelAfter_33 (by decide) rfl ?_
  exact pv_aftl_loop d hP hn hk hk9 hq9 hlv (n + 1) 0 _ (by omega) (by omega) _ ⟨rfl, rfl⟩
