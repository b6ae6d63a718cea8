/-! amendments in a block -/
def AmAt (M : List zE) (b m : Nat) (dy sz kd pt gl : Nat → Nat) (tx : Nat → Int32) : Prop :=
  M[b]? = some (.inr (0, [.int (nI m), .ref (b + 1), .ref (b + 2), .ref (b + 3), .ref (b + 4), .ref (b + 5), .ref (b + 6)])) ∧ M[b + 1]? = some (.inl (0, 8, .inl (fun i => nI (dy i)))) ∧ M[b + 2]? = some (.inl (0, 8, .inl (fun i => nI (sz i)))) ∧ M[b + 3]? = some (.inl (0, 120, .inl (fun i => nI (kd i)))) ∧
  M[b + 4]? = some (.inl (1, 120, .inr (.inl (fun i => lN (pt i))))) ∧ M[b + 5]? = some (.inl (1, 120, .inr (.inl (fun i => lN (gl i))))) ∧ M[b + 6]? = some (.inl (0, 120, .inl tx))
theorem AmAt.fr {M M1 : List zE} {b m lo w : Nat} {dy sz kd pt gl : Nat → Nat} {tx : Nat → Int32} (h : AmAt M b m dy sz kd pt gl tx) (hf : zFr M M1 lo w) (hd : b + 7 ≤ lo ∨ lo + w ≤ b) : AmAt M1 b m dy sz kd pt gl tx := by
  obtain ⟨h0, h1, h2, h3, h4, h5, h6⟩ := h
  exact ⟨by rw [hf.2 _ (by omega)]; exact h0, by rw [hf.2 _ (by omega)]; exact h1, by rw [hf.2 _ (by omega)]; exact h2, by rw [hf.2 _ (by omega)]; exact h3, by rw [hf.2 _ (by omega)]; exact h4, by rw [hf.2 _ (by omega)]; exact h5, by rw [hf.2 _ (by omega)]; exact h6⟩
def nup (f : Nat → Nat) (k v : Nat) : Nat → Nat := fun j => if j = k then v else f j
theorem nup_s {f : Nat → Nat} {k v : Nat} : nup f k v k = v := if_pos rfl
theorem nup_n {f : Nat → Nat} {j k v : Nat} (h : j ≠ k) : nup f k v j = f j := if_neg h
theorem upd_nI {f : Nat → Nat} {k v : Nat} : upd (fun i => nI (f i)) k (nI v) = fun i => nI (nup f k v i) := by
  funext i; unfold upd nup; split <;> rfl
theorem updL_lN {f : Nat → Nat} {k v : Nat} : vp_updL (fun i => lN (f i)) k (lN v) = fun i => lN (nup f k v i) := by
  funext i; unfold vp_updL nup; split <;> rfl
theorem cpy_all {α : Type} {f g : Nat → α} {n : Nat} (h : ∀ i, n ≤ i → g i = f i) : va_cpy f g 0 0 n = f := by
  funext i
  by_cases hi : i < n
  · rw [pk_cpy_in (by omega) (by omega)]; congr 1; omega
  · rw [pk_cpy_out (by omega)]; exact h i (by omega)
def bef (dy : Nat → Nat) (a c : Nat) : Bool := decide (dy a < dy c) || (decide (dy a = dy c) && decide (a < c))
set_option maxHeartbeats 4000000 in
theorem am_has_ok {Γ : zCtx} {M : List zE} (d : Nat) {b m : Nat} {dy sz kd pt gl : Nat → Nat} {tx : Nat → Int32} (hP : AmAt M b m dy sz kd pt gl tx) (hm : m ≤ 8) {j : Nat} (hj : j < 2147483648) : ZM Γ (d + 1) m_am_has [.ref b, .int (nI j)] M (zEq M (some (.int (nI (if j < m then 1 else 0))))) := by
  refine ZM.of mk_am_has (Nat.le_of_ble_eq_true rfl) ?_
  obtain ⟨h0, h1, h2, h3, h4, h5, h6⟩ := id hP
  refine Z_iload_n d_am_has_0 rfl ?_
  refine Zn_if_lt (tgt := 16) d_am_has_1 (by decide) (by omega) ?_
  refine Z_iload_n d_am_has_4 rfl ?_
  refine Z_aload_n d_am_has_5 rfl ?_
  refine Z_get d_am_has_6 lf_am_31 (by assumption) rfl ?_
  refine Zn_icmp_ge (tgt := 16) d_am_has_9 (by decide) (by omega) (by omega) (fun h9 => ?_) (fun h9 => ?_)
  · skip
    refine Zn_iconst (nI 0) d_am_has_16 (by decide) ?_
    refine Z_zret d_am_has_17 rfl rfl ?_
    refine ⟨rfl, ?_⟩
    first | rw [if_pos (by omega)] | rw [if_neg (by omega)]
  · skip
    refine Zn_iconst (nI 1) d_am_has_12 (by decide) ?_
    refine Z_goto (tgt := 17) d_am_has_13 (by decide) ?_
    refine Z_zret d_am_has_17 rfl rfl ?_
    refine ⟨rfl, ?_⟩
    first | rw [if_pos (by omega)] | rw [if_neg (by omega)]
theorem am_has_neg {Γ : zCtx} {M : List zE} (d : Nat) {b : Nat} {x : Int32} (hx : x < 0) : ZM Γ (d + 1) m_am_has [.ref b, .int x] M (zEq M (some (.int (nI 0)))) := by
  refine ZM.of mk_am_has (Nat.le_of_ble_eq_true rfl) ?_
  refine Z_iload_n d_am_has_0 rfl ?_
  refine Z_if_lt (tgt := 16) d_am_has_1 (by decide) (fun _ => ?_) (fun h => absurd hx h)
  refine Zn_iconst (nI 0) d_am_has_16 (by decide) ?_
  exact Z_zret d_am_has_17 rfl rfl ⟨rfl, rfl⟩
theorem bef_iff {dy : Nat → Nat} {a c : Nat} : bef dy a c = true ↔ dy a < dy c ∨ (dy a = dy c ∧ a < c) := by unfold bef; simp
set_option maxHeartbeats 4000000 in
theorem am_isBefore_ok {Γ : zCtx} {M : List zE} (d : Nat) {b m : Nat} {dy sz kd pt gl : Nat → Nat} {tx : Nat → Int32} (hP : AmAt M b m dy sz kd pt gl tx) (hm : m ≤ 8) (hdy : ∀ i, i < m → dy i ≤ 9999) {a c : Nat} (ha : a < m) (hc : c < m) : ZM Γ (d + 1) m_am_isBefore [.ref b, .int (nI a), .int (nI c)] M (zEq M (some (.int (nI (if bef dy a c then 1 else 0))))) := by
  refine ZM.of mk_am_isBefore (Nat.le_of_ble_eq_true rfl) ?_
  obtain ⟨h0, h1, h2, h3, h4, h5, h6⟩ := id hP
  have ga := hdy a ha
  have gc := hdy c hc
  refine Z_aload_n d_am_isBefore_0 rfl ?_
  refine Z_get d_am_isBefore_1 lf_am_9 (by assumption) rfl ?_
  refine Z_iload_n d_am_isBefore_4 rfl ?_
  refine Zn_iald d_am_isBefore_5 (by assumption) (by omega) (by omega) ?_
  refine Z_aload_n d_am_isBefore_6 rfl ?_
  refine Z_get d_am_isBefore_7 lf_am_9 (by assumption) rfl ?_
  refine Z_iload_n d_am_isBefore_10 rfl ?_
  refine Zn_iald d_am_isBefore_11 (by assumption) (by omega) (by omega) ?_
  refine Zn_icmp_lt (tgt := 35) d_am_isBefore_12 (by decide) (by omega) (by omega) (fun h12 => ?_) (fun h12 => ?_)
  · skip
    refine Zn_iconst (nI 1) d_am_isBefore_35 (by decide) ?_
    refine Z_goto (tgt := 40) d_am_isBefore_36 (by decide) ?_
    refine Z_zret d_am_isBefore_40 rfl rfl ?_
    refine ⟨rfl, ?_⟩
    first | (rw [if_pos (bef_iff.mpr (by omega))]) | (rw [if_neg (fun z => absurd (bef_iff.mp z) (by omega))])
  · skip
    refine Z_aload_n d_am_isBefore_15 rfl ?_
    refine Z_get d_am_isBefore_16 lf_am_9 (by assumption) rfl ?_
    refine Z_iload_n d_am_isBefore_19 rfl ?_
    refine Zn_iald d_am_isBefore_20 (by assumption) (by omega) (by omega) ?_
    refine Z_aload_n d_am_isBefore_21 rfl ?_
    refine Z_get d_am_isBefore_22 lf_am_9 (by assumption) rfl ?_
    refine Z_iload_n d_am_isBefore_25 rfl ?_
    refine Zn_iald d_am_isBefore_26 (by assumption) (by omega) (by omega) ?_
    refine Zn_icmp_ne (tgt := 39) d_am_isBefore_27 (by decide) (by omega) (by omega) (fun h27 => ?_) (fun h27 => ?_)
    · skip
      refine Zn_iconst (nI 0) d_am_isBefore_39 (by decide) ?_
      refine Z_zret d_am_isBefore_40 rfl rfl ?_
      refine ⟨rfl, ?_⟩
      first | (rw [if_pos (bef_iff.mpr (by omega))]) | (rw [if_neg (fun z => absurd (bef_iff.mp z) (by omega))])
    · skip
      refine Z_iload_n d_am_isBefore_30 rfl ?_
      refine Z_iload_n d_am_isBefore_31 rfl ?_
      refine Zn_icmp_ge (tgt := 39) d_am_isBefore_32 (by decide) (by omega) (by omega) (fun h32 => ?_) (fun h32 => ?_)
      · skip
        refine Zn_iconst (nI 0) d_am_isBefore_39 (by decide) ?_
        refine Z_zret d_am_isBefore_40 rfl rfl ?_
        refine ⟨rfl, ?_⟩
        first | (rw [if_pos (bef_iff.mpr (by omega))]) | (rw [if_neg (fun z => absurd (bef_iff.mp z) (by omega))])
      · skip
        refine Zn_iconst (nI 1) d_am_isBefore_35 (by decide) ?_
        refine Z_goto (tgt := 40) d_am_isBefore_36 (by decide) ?_
        refine Z_zret d_am_isBefore_40 rfl rfl ?_
        refine ⟨rfl, ?_⟩
        first | (rw [if_pos (bef_iff.mpr (by omega))]) | (rw [if_neg (fun z => absurd (bef_iff.mp z) (by omega))])
def oB (o : Option Nat) (f : Nat → Bool) : Bool := match o with
  | none => true
  | some a => f a
def nxA (dy : Nat → Nat) (o : Option Nat) : Nat → Option Nat
  | 0 => none
  | i + 1 => if oB o (fun a => bef dy a i) && oB (nxA dy o i) (fun q => bef dy i q) then some i else nxA dy o i
theorem nxA_lt {dy : Nat → Nat} {o : Option Nat} : ∀ {i q : Nat}, nxA dy o i = some q → q < i
  | 0, q, h => by simp [nxA] at h
  | i + 1, q, h => by
    rw [nxA] at h
    rcases Bool.eq_false_or_eq_true (oB o (fun a => bef dy a i) && oB (nxA dy o i) (fun q => bef dy i q)) with hc | hc
    · rw [hc, if_pos rfl] at h
      cases h; omega
    · rw [hc, if_neg (by decide)] at h
      have := nxA_lt h; omega
theorem zn_m1 {z : Nat} (hz : z < 2147483648) : ¬ nI z = -1 := by
  intro h
  have h2 := nI_pos hz
  rw [h] at h2
  exact h2 (by decide)
set_option maxHeartbeats 4000000 in
theorem am_first_loop {Γ : zCtx} {M : List zE} (d : Nat) {b m : Nat} {dy sz kd pt gl : Nat → Nat} {tx : Nat → Int32} (hP : AmAt M b m dy sz kd pt gl tx) (hm : m ≤ 8) (hdy : ∀ i, i < m → dy i ≤ 9999) : ∀ (f i : Nat) (y : Option Value), i ≤ m → m < i + f → ∀ Q : List zE → Option Value → Prop, Q M (some (.int (oI (nxA dy none m) (-1)))) → Z Γ (zRm (d + 2) m_am_nextAfter) m_am_nextAfter (zPh Γ m_am_nextAfter Q) 0 0 4 [some (.ref b), some (.int (-1)), some (.int (oI (nxA dy none i) (-1))), some (.int (nI i)), y] [] M := by
  intro f
  induction f with
  | zero => intro i y hi hf; exact absurd hf (by omega)
  | succ f ih =>
    intro i y hi hf Q hQ
    obtain ⟨h0, h1, h2, h3, h4, h5, h6⟩ := id hP
    have gi := hdy i
    rcases hb : nxA dy none i with _ | q
    · skip
      refine Z_iload_n d_am_nextAfter_4 rfl ?_
      refine Z_aload_n d_am_nextAfter_5 rfl ?_
      refine Z_get d_am_nextAfter_6 lf_am_31 (by assumption) rfl ?_
      refine Zn_icmp_ge (tgt := 60) d_am_nextAfter_9 (by decide) (by omega) (by omega) (fun h9 => ?_) (fun h9 => ?_)
      · skip
        have hi : i = m := by omega
        subst hi
        refine Z_iload_n d_am_nextAfter_60 rfl ?_
        refine Z_iret d_am_nextAfter_61 rfl ?_
        rw [hb] at hQ
        exact hQ
      · skip
        refine Z_iload_n d_am_nextAfter_12 rfl ?_
        refine Zn_iconst (-1) d_am_nextAfter_13 (by decide) ?_
        refine Z_icmp_eq (tgt := 26) d_am_nextAfter_14 (by decide) (fun h14 => ?_) (fun h14 => ?_)
        · skip
          refine Zn_iconst (nI 1) d_am_nextAfter_26 (by decide) ?_
          refine Z_goto (tgt := 31) d_am_nextAfter_27 (by decide) ?_
          refine Zn_istore [some (.ref b), some (.int (-1)), some (.int (-1)), some (.int (nI i)), some (.int (nI 1))] d_am_nextAfter_31 (by decide) rfl ?_
          refine Z_iload d_am_nextAfter_33 rfl ?_
          refine Zn_if_eq (a := 1) (tgt := 54) d_am_nextAfter_35 (by decide) (by decide) (fun h => absurd h (by decide)) (fun _ => ?_)
          refine Z_iload_n d_am_nextAfter_38 rfl ?_
          refine Zn_iconst (-1) d_am_nextAfter_39 (by decide) ?_
          refine Z_icmp_eq (tgt := 52) d_am_nextAfter_40 (by decide) (fun h40 => ?_) (fun h40 => ?_)
          · skip
            skip
            refine Z_iload_n d_am_nextAfter_52 rfl ?_
            refine Zn_istore_n [some (.ref b), some (.int (-1)), some (.int (nI i)), some (.int (nI i)), some (.int (nI 1))] d_am_nextAfter_53 (by decide) rfl ?_
            refine Zn_iinc [some (.ref b), some (.int (-1)), some (.int (nI i)), some (.int (nI (i + 1))), some (.int (nI 1))] (nI (i + 1)) d_am_nextAfter_54 rfl (by decide) (nI_add i 1) rfl ?_
            refine Z_goto (tgt := 4) d_am_nextAfter_57 (by decide) ?_
            have hs : nxA dy none (i + 1) = some i := by
              rw [nxA, hb]
              simp [oB]
            have z := ih (i + 1) (some (.int (nI 1))) (by omega) (by omega) Q hQ
            rw [hs] at z
            exact z
          · skip
            exact absurd rfl h40 -- end
        · skip
          exact absurd rfl h14 -- end
    · skip
      have hq := nxA_lt hb
      refine Z_iload_n d_am_nextAfter_4 rfl ?_
      refine Z_aload_n d_am_nextAfter_5 rfl ?_
      refine Z_get d_am_nextAfter_6 lf_am_31 (by assumption) rfl ?_
      refine Zn_icmp_ge (tgt := 60) d_am_nextAfter_9 (by decide) (by omega) (by omega) (fun h9 => ?_) (fun h9 => ?_)
      · skip
        have hi : i = m := by omega
        subst hi
        refine Z_iload_n d_am_nextAfter_60 rfl ?_
        refine Z_iret d_am_nextAfter_61 rfl ?_
        rw [hb] at hQ
        exact hQ
      · skip
        refine Z_iload_n d_am_nextAfter_12 rfl ?_
        refine Zn_iconst (-1) d_am_nextAfter_13 (by decide) ?_
        refine Z_icmp_eq (tgt := 26) d_am_nextAfter_14 (by decide) (fun h14 => ?_) (fun h14 => ?_)
        · skip
          refine Zn_iconst (nI 1) d_am_nextAfter_26 (by decide) ?_
          refine Z_goto (tgt := 31) d_am_nextAfter_27 (by decide) ?_
          refine Zn_istore [some (.ref b), some (.int (-1)), some (.int (nI q)), some (.int (nI i)), some (.int (nI 1))] d_am_nextAfter_31 (by decide) rfl ?_
          refine Z_iload d_am_nextAfter_33 rfl ?_
          refine Zn_if_eq (a := 1) (tgt := 54) d_am_nextAfter_35 (by decide) (by decide) (fun h => absurd h (by decide)) (fun _ => ?_)
          refine Z_iload_n d_am_nextAfter_38 rfl ?_
          refine Zn_iconst (-1) d_am_nextAfter_39 (by decide) ?_
          refine Z_icmp_eq (tgt := 52) d_am_nextAfter_40 (by decide) (fun h40 => ?_) (fun h40 => ?_)
          · skip
            exact absurd h40 (zn_m1 (by omega)) -- end
          · skip
            skip
            refine Z_aload_n d_am_nextAfter_43 rfl ?_
            refine Z_iload_n d_am_nextAfter_44 rfl ?_
            refine Z_iload_n d_am_nextAfter_45 rfl ?_
            refine zVe (As := [.int (nI i), .int (nI q)]) (by omega) d_am_nextAfter_46 lm_am_41 (by assumption) rfl rfl (Nat.le_of_ble_eq_true rfl) (am_isBefore_ok d hP hm hdy (a := i) (c := q) (by omega) (by omega)) ?_
            have hle : (if bef dy i q = true then 1 else 0) < 2147483648 := by split <;> decide
            refine Zn_if_eq (tgt := 54) d_am_nextAfter_49 (by decide) (by omega) (fun h49 => ?_) (fun h49 => ?_)
            · skip
              have h49 : bef dy i q = false := by
                cases hh : bef dy i q with
                | false => rfl
                | true => rw [hh] at h49; exact absurd h49 (by decide)
              refine Zn_iinc [some (.ref b), some (.int (-1)), some (.int (nI q)), some (.int (nI (i + 1))), some (.int (nI 1))] (nI (i + 1)) d_am_nextAfter_54 rfl (by decide) (nI_add i 1) rfl ?_
              refine Z_goto (tgt := 4) d_am_nextAfter_57 (by decide) ?_
              have hs : nxA dy none (i + 1) = some q := by
                rw [nxA, hb]
                simp [oB, h49]
              have z := ih (i + 1) (some (.int (nI 1))) (by omega) (by omega) Q hQ
              rw [hs] at z
              exact z
            · skip
              have h49 : bef dy i q = true := by
                cases hh : bef dy i q with
                | true => rfl
                | false => rw [hh] at h49; exact absurd rfl h49
              refine Z_iload_n d_am_nextAfter_52 rfl ?_
              refine Zn_istore_n [some (.ref b), some (.int (-1)), some (.int (nI i)), some (.int (nI i)), some (.int (nI 1))] d_am_nextAfter_53 (by decide) rfl ?_
              refine Zn_iinc [some (.ref b), some (.int (-1)), some (.int (nI i)), some (.int (nI (i + 1))), some (.int (nI 1))] (nI (i + 1)) d_am_nextAfter_54 rfl (by decide) (nI_add i 1) rfl ?_
              refine Z_goto (tgt := 4) d_am_nextAfter_57 (by decide) ?_
              have hs : nxA dy none (i + 1) = some i := by
                rw [nxA, hb]
                simp [oB, h49]
              have z := ih (i + 1) (some (.int (nI 1))) (by omega) (by omega) Q hQ
              rw [hs] at z
              exact z
        · skip
          exact absurd rfl h14 -- end
set_option maxHeartbeats 4000000 in
theorem am_first_ok {Γ : zCtx} {M : List zE} (d : Nat) {b m : Nat} {dy sz kd pt gl : Nat → Nat} {tx : Nat → Int32} (hP : AmAt M b m dy sz kd pt gl tx) (hm : m ≤ 8) (hdy : ∀ i, i < m → dy i ≤ 9999) : ZM Γ (d + 2) m_am_nextAfter [.ref b, .int (-1)] M (zEq M (some (.int (oI (nxA dy none m) (-1))))) := by
  refine ZM.of mk_am_nextAfter (Nat.le_of_ble_eq_true rfl) ?_
  rw [show zEn [.ref b, .int (-1)] = [some (.ref b), some (.int (-1))] from rfl]
  refine zPad 3 ?_
  show Z _ _ _ _ _ _ _ [some (.ref b), some (.int (-1)), none, none, none] _ _
  refine Zn_iconst (-1) d_am_nextAfter_0 (by decide) ?_
  refine Zn_istore_n [some (.ref b), some (.int (-1)), some (.int (-1)), none, none] d_am_nextAfter_1 (by decide) rfl ?_
  refine Zn_iconst (nI 0) d_am_nextAfter_2 (by decide) ?_
  refine Zn_istore_n [some (.ref b), some (.int (-1)), some (.int (-1)), some (.int (nI 0)), none] d_am_nextAfter_3 (by decide) rfl ?_
  exact am_first_loop d hP hm hdy (m + 1) 0 _ (by omega) (by omega) _ ⟨rfl, rfl⟩
set_option maxHeartbeats 4000000 in
theorem am_next_loop {Γ : zCtx} {M : List zE} (d : Nat) {b m : Nat} {dy sz kd pt gl : Nat → Nat} {tx : Nat → Int32} (hP : AmAt M b m dy sz kd pt gl tx) (hm : m ≤ 8) (hdy : ∀ i, i < m → dy i ≤ 9999) {a : Nat} (ha : a < m) : ∀ (f i : Nat) (y : Option Value), i ≤ m → m < i + f → ∀ Q : List zE → Option Value → Prop, Q M (some (.int (oI (nxA dy (some a) m) (-1)))) → Z Γ (zRm (d + 2) m_am_nextAfter) m_am_nextAfter (zPh Γ m_am_nextAfter Q) 0 0 4 [some (.ref b), some (.int (nI a)), some (.int (oI (nxA dy (some a) i) (-1))), some (.int (nI i)), y] [] M := by
  intro f
  induction f with
  | zero => intro i y hi hf; exact absurd hf (by omega)
  | succ f ih =>
    intro i y hi hf Q hQ
    obtain ⟨h0, h1, h2, h3, h4, h5, h6⟩ := id hP
    have gi := hdy i
    rcases hb : nxA dy (some a) i with _ | q
    · skip
      refine Z_iload_n d_am_nextAfter_4 rfl ?_
      refine Z_aload_n d_am_nextAfter_5 rfl ?_
      refine Z_get d_am_nextAfter_6 lf_am_31 (by assumption) rfl ?_
      refine Zn_icmp_ge (tgt := 60) d_am_nextAfter_9 (by decide) (by omega) (by omega) (fun h9 => ?_) (fun h9 => ?_)
      · skip
        have hi : i = m := by omega
        subst hi
        refine Z_iload_n d_am_nextAfter_60 rfl ?_
        refine Z_iret d_am_nextAfter_61 rfl ?_
        rw [hb] at hQ
        exact hQ
      · skip
        refine Z_iload_n d_am_nextAfter_12 rfl ?_
        refine Zn_iconst (-1) d_am_nextAfter_13 (by decide) ?_
        refine Z_icmp_eq (tgt := 26) d_am_nextAfter_14 (by decide) (fun h14 => ?_) (fun h14 => ?_)
        · skip
          exact absurd h14 (zn_m1 (by omega)) -- end
        · skip
          refine Z_aload_n d_am_nextAfter_17 rfl ?_
          refine Z_iload_n d_am_nextAfter_18 rfl ?_
          refine Z_iload_n d_am_nextAfter_19 rfl ?_
          refine zVe (As := [.int (nI a), .int (nI i)]) (by omega) d_am_nextAfter_20 lm_am_41 (by assumption) rfl rfl (Nat.le_of_ble_eq_true rfl) (am_isBefore_ok d hP hm hdy (a := a) (c := i) (by omega) (by omega)) ?_
          have hle : (if bef dy a i = true then 1 else 0) < 2147483648 := by split <;> decide
          refine Zn_if_eq (tgt := 30) d_am_nextAfter_23 (by decide) (by omega) (fun h23 => ?_) (fun h23 => ?_)
          · skip
            have h23 : bef dy a i = false := by
              cases hh : bef dy a i with
              | false => rfl
              | true => rw [hh] at h23; exact absurd h23 (by decide)
            refine Zn_iconst (nI 0) d_am_nextAfter_30 (by decide) ?_
            refine Zn_istore [some (.ref b), some (.int (nI a)), some (.int (-1)), some (.int (nI i)), some (.int (nI 0))] d_am_nextAfter_31 (by decide) rfl ?_
            refine Z_iload d_am_nextAfter_33 rfl ?_
            refine Zn_if_eq (a := 0) (tgt := 54) d_am_nextAfter_35 (by decide) (by decide) (fun _ => ?_) (fun h => absurd h (by decide))
            refine Zn_iinc [some (.ref b), some (.int (nI a)), some (.int (-1)), some (.int (nI (i + 1))), some (.int (nI 0))] (nI (i + 1)) d_am_nextAfter_54 rfl (by decide) (nI_add i 1) rfl ?_
            refine Z_goto (tgt := 4) d_am_nextAfter_57 (by decide) ?_
            have hs : nxA dy (some a) (i + 1) = none := by
              rw [nxA, hb]
              simp [oB, h23]
            have z := ih (i + 1) (some (.int (nI 0))) (by omega) (by omega) Q hQ
            rw [hs] at z
            exact z
          · skip
            have h23 : bef dy a i = true := by
              cases hh : bef dy a i with
              | true => rfl
              | false => rw [hh] at h23; exact absurd rfl h23
            refine Zn_iconst (nI 1) d_am_nextAfter_26 (by decide) ?_
            refine Z_goto (tgt := 31) d_am_nextAfter_27 (by decide) ?_
            refine Zn_istore [some (.ref b), some (.int (nI a)), some (.int (-1)), some (.int (nI i)), some (.int (nI 1))] d_am_nextAfter_31 (by decide) rfl ?_
            refine Z_iload d_am_nextAfter_33 rfl ?_
            refine Zn_if_eq (a := 1) (tgt := 54) d_am_nextAfter_35 (by decide) (by decide) (fun h => absurd h (by decide)) (fun _ => ?_)
            refine Z_iload_n d_am_nextAfter_38 rfl ?_
            refine Zn_iconst (-1) d_am_nextAfter_39 (by decide) ?_
            refine Z_icmp_eq (tgt := 52) d_am_nextAfter_40 (by decide) (fun h40 => ?_) (fun h40 => ?_)
            · skip
              skip
              refine Z_iload_n d_am_nextAfter_52 rfl ?_
              refine Zn_istore_n [some (.ref b), some (.int (nI a)), some (.int (nI i)), some (.int (nI i)), some (.int (nI 1))] d_am_nextAfter_53 (by decide) rfl ?_
              refine Zn_iinc [some (.ref b), some (.int (nI a)), some (.int (nI i)), some (.int (nI (i + 1))), some (.int (nI 1))] (nI (i + 1)) d_am_nextAfter_54 rfl (by decide) (nI_add i 1) rfl ?_
              refine Z_goto (tgt := 4) d_am_nextAfter_57 (by decide) ?_
              have hs : nxA dy (some a) (i + 1) = some i := by
                rw [nxA, hb]
                simp [oB, h23]
              have z := ih (i + 1) (some (.int (nI 1))) (by omega) (by omega) Q hQ
              rw [hs] at z
              exact z
            · skip
              exact absurd rfl h40 -- end
    · skip
      have hq := nxA_lt hb
      refine Z_iload_n d_am_nextAfter_4 rfl ?_
      refine Z_aload_n d_am_nextAfter_5 rfl ?_
      refine Z_get d_am_nextAfter_6 lf_am_31 (by assumption) rfl ?_
      refine Zn_icmp_ge (tgt := 60) d_am_nextAfter_9 (by decide) (by omega) (by omega) (fun h9 => ?_) (fun h9 => ?_)
      · skip
        have hi : i = m := by omega
        subst hi
        refine Z_iload_n d_am_nextAfter_60 rfl ?_
        refine Z_iret d_am_nextAfter_61 rfl ?_
        rw [hb] at hQ
        exact hQ
      · skip
        refine Z_iload_n d_am_nextAfter_12 rfl ?_
        refine Zn_iconst (-1) d_am_nextAfter_13 (by decide) ?_
        refine Z_icmp_eq (tgt := 26) d_am_nextAfter_14 (by decide) (fun h14 => ?_) (fun h14 => ?_)
        · skip
          exact absurd h14 (zn_m1 (by omega)) -- end
        · skip
          refine Z_aload_n d_am_nextAfter_17 rfl ?_
          refine Z_iload_n d_am_nextAfter_18 rfl ?_
          refine Z_iload_n d_am_nextAfter_19 rfl ?_
          refine zVe (As := [.int (nI a), .int (nI i)]) (by omega) d_am_nextAfter_20 lm_am_41 (by assumption) rfl rfl (Nat.le_of_ble_eq_true rfl) (am_isBefore_ok d hP hm hdy (a := a) (c := i) (by omega) (by omega)) ?_
          have hle : (if bef dy a i = true then 1 else 0) < 2147483648 := by split <;> decide
          refine Zn_if_eq (tgt := 30) d_am_nextAfter_23 (by decide) (by omega) (fun h23 => ?_) (fun h23 => ?_)
          · skip
            have h23 : bef dy a i = false := by
              cases hh : bef dy a i with
              | false => rfl
              | true => rw [hh] at h23; exact absurd h23 (by decide)
            refine Zn_iconst (nI 0) d_am_nextAfter_30 (by decide) ?_
            refine Zn_istore [some (.ref b), some (.int (nI a)), some (.int (nI q)), some (.int (nI i)), some (.int (nI 0))] d_am_nextAfter_31 (by decide) rfl ?_
            refine Z_iload d_am_nextAfter_33 rfl ?_
            refine Zn_if_eq (a := 0) (tgt := 54) d_am_nextAfter_35 (by decide) (by decide) (fun _ => ?_) (fun h => absurd h (by decide))
            refine Zn_iinc [some (.ref b), some (.int (nI a)), some (.int (nI q)), some (.int (nI (i + 1))), some (.int (nI 0))] (nI (i + 1)) d_am_nextAfter_54 rfl (by decide) (nI_add i 1) rfl ?_
            refine Z_goto (tgt := 4) d_am_nextAfter_57 (by decide) ?_
            have hs : nxA dy (some a) (i + 1) = some q := by
              rw [nxA, hb]
              simp [oB, h23]
            have z := ih (i + 1) (some (.int (nI 0))) (by omega) (by omega) Q hQ
            rw [hs] at z
            exact z
          · skip
            have h23 : bef dy a i = true := by
              cases hh : bef dy a i with
              | true => rfl
              | false => rw [hh] at h23; exact absurd rfl h23
            refine Zn_iconst (nI 1) d_am_nextAfter_26 (by decide) ?_
            refine Z_goto (tgt := 31) d_am_nextAfter_27 (by decide) ?_
            refine Zn_istore [some (.ref b), some (.int (nI a)), some (.int (nI q)), some (.int (nI i)), some (.int (nI 1))] d_am_nextAfter_31 (by decide) rfl ?_
            refine Z_iload d_am_nextAfter_33 rfl ?_
            refine Zn_if_eq (a := 1) (tgt := 54) d_am_nextAfter_35 (by decide) (by decide) (fun h => absurd h (by decide)) (fun _ => ?_)
            refine Z_iload_n d_am_nextAfter_38 rfl ?_
            refine Zn_iconst (-1) d_am_nextAfter_39 (by decide) ?_
            refine Z_icmp_eq (tgt := 52) d_am_nextAfter_40 (by decide) (fun h40 => ?_) (fun h40 => ?_)
            · skip
              exact absurd h40 (zn_m1 (by omega)) -- end
            · skip
              skip
              refine Z_aload_n d_am_nextAfter_43 rfl ?_
              refine Z_iload_n d_am_nextAfter_44 rfl ?_
              refine Z_iload_n d_am_nextAfter_45 rfl ?_
              refine zVe (As := [.int (nI i), .int (nI q)]) (by omega) d_am_nextAfter_46 lm_am_41 (by assumption) rfl rfl (Nat.le_of_ble_eq_true rfl) (am_isBefore_ok d hP hm hdy (a := i) (c := q) (by omega) (by omega)) ?_
              have hle : (if bef dy i q = true then 1 else 0) < 2147483648 := by split <;> decide
              refine Zn_if_eq (tgt := 54) d_am_nextAfter_49 (by decide) (by omega) (fun h49 => ?_) (fun h49 => ?_)
              · skip
                have h49 : bef dy i q = false := by
                  cases hh : bef dy i q with
                  | false => rfl
                  | true => rw [hh] at h49; exact absurd h49 (by decide)
                refine Zn_iinc [some (.ref b), some (.int (nI a)), some (.int (nI q)), some (.int (nI (i + 1))), some (.int (nI 1))] (nI (i + 1)) d_am_nextAfter_54 rfl (by decide) (nI_add i 1) rfl ?_
                refine Z_goto (tgt := 4) d_am_nextAfter_57 (by decide) ?_
                have hs : nxA dy (some a) (i + 1) = some q := by
                  rw [nxA, hb]
                  simp [oB, h23, h49]
                have z := ih (i + 1) (some (.int (nI 1))) (by omega) (by omega) Q hQ
                rw [hs] at z
                exact z
              · skip
                have h49 : bef dy i q = true := by
                  cases hh : bef dy i q with
                  | true => rfl
                  | false => rw [hh] at h49; exact absurd rfl h49
                refine Z_iload_n d_am_nextAfter_52 rfl ?_
                refine Zn_istore_n [some (.ref b), some (.int (nI a)), some (.int (nI i)), some (.int (nI i)), some (.int (nI 1))] d_am_nextAfter_53 (by decide) rfl ?_
                refine Zn_iinc [some (.ref b), some (.int (nI a)), some (.int (nI i)), some (.int (nI (i + 1))), some (.int (nI 1))] (nI (i + 1)) d_am_nextAfter_54 rfl (by decide) (nI_add i 1) rfl ?_
                refine Z_goto (tgt := 4) d_am_nextAfter_57 (by decide) ?_
                have hs : nxA dy (some a) (i + 1) = some i := by
                  rw [nxA, hb]
                  simp [oB, h23, h49]
                have z := ih (i + 1) (some (.int (nI 1))) (by omega) (by omega) Q hQ
                rw [hs] at z
                exact z
set_option maxHeartbeats 4000000 in
theorem am_next_ok {Γ : zCtx} {M : List zE} (d : Nat) {b m : Nat} {dy sz kd pt gl : Nat → Nat} {tx : Nat → Int32} (hP : AmAt M b m dy sz kd pt gl tx) (hm : m ≤ 8) (hdy : ∀ i, i < m → dy i ≤ 9999) {a : Nat} (ha : a < m) : ZM Γ (d + 2) m_am_nextAfter [.ref b, .int (nI a)] M (zEq M (some (.int (oI (nxA dy (some a) m) (-1))))) := by
  refine ZM.of mk_am_nextAfter (Nat.le_of_ble_eq_true rfl) ?_
  rw [show zEn [.ref b, .int (nI a)] = [some (.ref b), some (.int (nI a))] from rfl]
  refine zPad 3 ?_
  show Z _ _ _ _ _ _ _ [some (.ref b), some (.int (nI a)), none, none, none] _ _
  refine Zn_iconst (-1) d_am_nextAfter_0 (by decide) ?_
  refine Zn_istore_n [some (.ref b), some (.int (nI a)), some (.int (-1)), none, none] d_am_nextAfter_1 (by decide) rfl ?_
  refine Zn_iconst (nI 0) d_am_nextAfter_2 (by decide) ?_
  refine Zn_istore_n [some (.ref b), some (.int (nI a)), some (.int (-1)), some (.int (nI 0)), none] d_am_nextAfter_3 (by decide) rfl ?_
  exact am_next_loop d hP hm hdy ha (m + 1) 0 _ (by omega) (by omega) _ ⟨rfl, rfl⟩
set_option maxHeartbeats 4000000 in
theorem am_copyFrom_ok {Γ : zCtx} {M : List zE} (d : Nat) {b m : Nat} {dy sz kd pt gl : Nat → Nat} {tx : Nat → Int32} (hP : AmAt M b m dy sz kd pt gl tx) (hm : m ≤ 8) {c m2 : Nat} {dy2 sz2 kd2 pt2 gl2 : Nat → Nat} {tx2 : Nat → Int32} (hO0 : AmAt M c m2 dy2 sz2 kd2 pt2 gl2 tx2) (hd : c + 7 ≤ b ∨ b + 7 ≤ c) (ho1 : ∀ i, 8 ≤ i → dy i = dy2 i ∧ sz i = sz2 i) (ho2 : ∀ i, 120 ≤ i → kd i = kd2 i ∧ pt i = pt2 i ∧ gl i = gl2 i ∧ tx i = tx2 i) : ZM Γ (d + 1) m_am_copyFrom [.ref b, .ref c] M (fun M1 v => v = none ∧ AmAt M1 b m2 dy2 sz2 kd2 pt2 gl2 tx2 ∧ zFr M M1 b 7) := by
  refine ZM.of mk_am_copyFrom (Nat.le_of_ble_eq_true rfl) ?_
  obtain ⟨h0, h1, h2, h3, h4, h5, h6⟩ := id hP
  have hO : ∀ M1, zFr M M1 b 7 → AmAt M1 c m2 dy2 sz2 kd2 pt2 gl2 tx2 := fun M1 hf => hO0.fr hf hd
  have hout1 : ∀ i, 8 ≤ i → nI (dy i) = nI (dy2 i) := fun i hi => by rw [(ho1 i hi).1]
  have hout2 : ∀ i, 8 ≤ i → nI (sz i) = nI (sz2 i) := fun i hi => by rw [(ho1 i hi).2]
  have hout3 : ∀ i, 120 ≤ i → nI (kd i) = nI (kd2 i) := fun i hi => by rw [(ho2 i hi).1]
  have hout4 : ∀ i, 120 ≤ i → lN (pt i) = lN (pt2 i) := fun i hi => by rw [(ho2 i hi).2.1]
  have hout5 : ∀ i, 120 ≤ i → lN (gl i) = lN (gl2 i) := fun i hi => by rw [(ho2 i hi).2.2.1]
  have hout6 : ∀ i, 120 ≤ i → tx i = tx2 i := fun i hi => (ho2 i hi).2.2.2
  refine Z_aload_n d_am_copyFrom_0 rfl ?_
  refine Z_aload_n d_am_copyFrom_1 rfl ?_
  refine Z_get d_am_copyFrom_2 lf_am_31 ((hO _ (by (repeat (first | exact zFr.rf | refine zFr.set ?_ (by omega) (by omega))))).1) rfl ?_
  refine Z_puti d_am_copyFrom_5 lf_am_31 (by assumption) rfl rfl (Nat.le_of_ble_eq_true rfl) ?_
  replace h0 := st_eq (c' := .inr (0, [.int (nI m2), .ref (b + 1), .ref (b + 2), .ref (b + 3), .ref (b + 4), .ref (b + 5), .ref (b + 6)])) h0
  replace h1 := (st_ne (k := b) (j := b + 1) (c' := .inr (0, [.int (nI m2), .ref (b + 1), .ref (b + 2), .ref (b + 3), .ref (b + 4), .ref (b + 5), .ref (b + 6)])) (by omega)).trans h1
  replace h2 := (st_ne (k := b) (j := b + 2) (c' := .inr (0, [.int (nI m2), .ref (b + 1), .ref (b + 2), .ref (b + 3), .ref (b + 4), .ref (b + 5), .ref (b + 6)])) (by omega)).trans h2
  replace h3 := (st_ne (k := b) (j := b + 3) (c' := .inr (0, [.int (nI m2), .ref (b + 1), .ref (b + 2), .ref (b + 3), .ref (b + 4), .ref (b + 5), .ref (b + 6)])) (by omega)).trans h3
  replace h4 := (st_ne (k := b) (j := b + 4) (c' := .inr (0, [.int (nI m2), .ref (b + 1), .ref (b + 2), .ref (b + 3), .ref (b + 4), .ref (b + 5), .ref (b + 6)])) (by omega)).trans h4
  replace h5 := (st_ne (k := b) (j := b + 5) (c' := .inr (0, [.int (nI m2), .ref (b + 1), .ref (b + 2), .ref (b + 3), .ref (b + 4), .ref (b + 5), .ref (b + 6)])) (by omega)).trans h5
  replace h6 := (st_ne (k := b) (j := b + 6) (c' := .inr (0, [.int (nI m2), .ref (b + 1), .ref (b + 2), .ref (b + 3), .ref (b + 4), .ref (b + 5), .ref (b + 6)])) (by omega)).trans h6
  show Z _ _ _ _ _ _ _ _ _ (M.set b (.inr (0, [.int (nI m2), .ref (b + 1), .ref (b + 2), .ref (b + 3), .ref (b + 4), .ref (b + 5), .ref (b + 6)])))
  refine Z_aload_n d_am_copyFrom_8 rfl ?_
  refine Z_get d_am_copyFrom_9 lf_am_9 ((hO _ (by (repeat (first | exact zFr.rf | refine zFr.set ?_ (by omega) (by omega))))).1) rfl ?_
  refine Zn_iconst (nI 0) d_am_copyFrom_12 (by decide) ?_
  refine Z_aload_n d_am_copyFrom_13 rfl ?_
  refine Z_get d_am_copyFrom_14 lf_am_9 (by assumption) rfl ?_
  refine Zn_iconst (nI 0) d_am_copyFrom_17 (by decide) ?_
  refine Zn_bipush (nI 8) d_am_copyFrom_18 (by decide) ?_
  refine zCpi (by omega) d_am_copyFrom_20 lc_am_35 ((hO _ (by (repeat (first | exact zFr.rf | refine zFr.set ?_ (by omega) (by omega))))).2.1) (by assumption) (by omega) (by omega) (by omega) (by omega) (Nat.le_of_ble_eq_true rfl) ?_
  rw [cpy_all (hout1)]
  replace h0 := (st_ne (k := b + 1) (j := b) (c' := .inl (0, 8, .inl (fun i => nI (dy2 i)))) (by omega)).trans h0
  replace h1 := st_eq (c' := .inl (0, 8, .inl (fun i => nI (dy2 i)))) h1
  replace h2 := (st_ne (k := b + 1) (j := b + 2) (c' := .inl (0, 8, .inl (fun i => nI (dy2 i)))) (by omega)).trans h2
  replace h3 := (st_ne (k := b + 1) (j := b + 3) (c' := .inl (0, 8, .inl (fun i => nI (dy2 i)))) (by omega)).trans h3
  replace h4 := (st_ne (k := b + 1) (j := b + 4) (c' := .inl (0, 8, .inl (fun i => nI (dy2 i)))) (by omega)).trans h4
  replace h5 := (st_ne (k := b + 1) (j := b + 5) (c' := .inl (0, 8, .inl (fun i => nI (dy2 i)))) (by omega)).trans h5
  replace h6 := (st_ne (k := b + 1) (j := b + 6) (c' := .inl (0, 8, .inl (fun i => nI (dy2 i)))) (by omega)).trans h6
  refine Z_aload_n d_am_copyFrom_23 rfl ?_
  refine Z_get d_am_copyFrom_24 lf_am_15 ((hO _ (by (repeat (first | exact zFr.rf | refine zFr.set ?_ (by omega) (by omega))))).1) rfl ?_
  refine Zn_iconst (nI 0) d_am_copyFrom_27 (by decide) ?_
  refine Z_aload_n d_am_copyFrom_28 rfl ?_
  refine Z_get d_am_copyFrom_29 lf_am_15 (by assumption) rfl ?_
  refine Zn_iconst (nI 0) d_am_copyFrom_32 (by decide) ?_
  refine Zn_bipush (nI 8) d_am_copyFrom_33 (by decide) ?_
  refine zCpi (by omega) d_am_copyFrom_35 lc_am_35 ((hO _ (by (repeat (first | exact zFr.rf | refine zFr.set ?_ (by omega) (by omega))))).2.2.1) (by assumption) (by omega) (by omega) (by omega) (by omega) (Nat.le_of_ble_eq_true rfl) ?_
  rw [cpy_all (hout2)]
  replace h0 := (st_ne (k := b + 2) (j := b) (c' := .inl (0, 8, .inl (fun i => nI (sz2 i)))) (by omega)).trans h0
  replace h1 := (st_ne (k := b + 2) (j := b + 1) (c' := .inl (0, 8, .inl (fun i => nI (sz2 i)))) (by omega)).trans h1
  replace h2 := st_eq (c' := .inl (0, 8, .inl (fun i => nI (sz2 i)))) h2
  replace h3 := (st_ne (k := b + 2) (j := b + 3) (c' := .inl (0, 8, .inl (fun i => nI (sz2 i)))) (by omega)).trans h3
  replace h4 := (st_ne (k := b + 2) (j := b + 4) (c' := .inl (0, 8, .inl (fun i => nI (sz2 i)))) (by omega)).trans h4
  replace h5 := (st_ne (k := b + 2) (j := b + 5) (c' := .inl (0, 8, .inl (fun i => nI (sz2 i)))) (by omega)).trans h5
  replace h6 := (st_ne (k := b + 2) (j := b + 6) (c' := .inl (0, 8, .inl (fun i => nI (sz2 i)))) (by omega)).trans h6
  refine Z_aload_n d_am_copyFrom_38 rfl ?_
  refine Z_get d_am_copyFrom_39 lf_am_18 ((hO _ (by (repeat (first | exact zFr.rf | refine zFr.set ?_ (by omega) (by omega))))).1) rfl ?_
  refine Zn_iconst (nI 0) d_am_copyFrom_42 (by decide) ?_
  refine Z_aload_n d_am_copyFrom_43 rfl ?_
  refine Z_get d_am_copyFrom_44 lf_am_18 (by assumption) rfl ?_
  refine Zn_iconst (nI 0) d_am_copyFrom_47 (by decide) ?_
  refine Zn_bipush (nI 120) d_am_copyFrom_48 (by decide) ?_
  refine zCpi (by omega) d_am_copyFrom_50 lc_am_35 ((hO _ (by (repeat (first | exact zFr.rf | refine zFr.set ?_ (by omega) (by omega))))).2.2.2.1) (by assumption) (by omega) (by omega) (by omega) (by omega) (Nat.le_of_ble_eq_true rfl) ?_
  rw [cpy_all (hout3)]
  replace h0 := (st_ne (k := b + 3) (j := b) (c' := .inl (0, 120, .inl (fun i => nI (kd2 i)))) (by omega)).trans h0
  replace h1 := (st_ne (k := b + 3) (j := b + 1) (c' := .inl (0, 120, .inl (fun i => nI (kd2 i)))) (by omega)).trans h1
  replace h2 := (st_ne (k := b + 3) (j := b + 2) (c' := .inl (0, 120, .inl (fun i => nI (kd2 i)))) (by omega)).trans h2
  replace h3 := st_eq (c' := .inl (0, 120, .inl (fun i => nI (kd2 i)))) h3
  replace h4 := (st_ne (k := b + 3) (j := b + 4) (c' := .inl (0, 120, .inl (fun i => nI (kd2 i)))) (by omega)).trans h4
  replace h5 := (st_ne (k := b + 3) (j := b + 5) (c' := .inl (0, 120, .inl (fun i => nI (kd2 i)))) (by omega)).trans h5
  replace h6 := (st_ne (k := b + 3) (j := b + 6) (c' := .inl (0, 120, .inl (fun i => nI (kd2 i)))) (by omega)).trans h6
  refine Z_aload_n d_am_copyFrom_53 rfl ?_
  refine Z_get d_am_copyFrom_54 lf_am_21 ((hO _ (by (repeat (first | exact zFr.rf | refine zFr.set ?_ (by omega) (by omega))))).1) rfl ?_
  refine Zn_iconst (nI 0) d_am_copyFrom_57 (by decide) ?_
  refine Z_aload_n d_am_copyFrom_58 rfl ?_
  refine Z_get d_am_copyFrom_59 lf_am_21 (by assumption) rfl ?_
  refine Zn_iconst (nI 0) d_am_copyFrom_62 (by decide) ?_
  refine Zn_bipush (nI 120) d_am_copyFrom_63 (by decide) ?_
  refine zCpl (by omega) d_am_copyFrom_65 lc_am_35 ((hO _ (by (repeat (first | exact zFr.rf | refine zFr.set ?_ (by omega) (by omega))))).2.2.2.2.1) (by assumption) (by omega) (by omega) (by omega) (by omega) (Nat.le_of_ble_eq_true rfl) ?_
  rw [cpy_all (hout4)]
  replace h0 := (st_ne (k := b + 4) (j := b) (c' := .inl (1, 120, .inr (.inl (fun i => lN (pt2 i))))) (by omega)).trans h0
  replace h1 := (st_ne (k := b + 4) (j := b + 1) (c' := .inl (1, 120, .inr (.inl (fun i => lN (pt2 i))))) (by omega)).trans h1
  replace h2 := (st_ne (k := b + 4) (j := b + 2) (c' := .inl (1, 120, .inr (.inl (fun i => lN (pt2 i))))) (by omega)).trans h2
  replace h3 := (st_ne (k := b + 4) (j := b + 3) (c' := .inl (1, 120, .inr (.inl (fun i => lN (pt2 i))))) (by omega)).trans h3
  replace h4 := st_eq (c' := .inl (1, 120, .inr (.inl (fun i => lN (pt2 i))))) h4
  replace h5 := (st_ne (k := b + 4) (j := b + 5) (c' := .inl (1, 120, .inr (.inl (fun i => lN (pt2 i))))) (by omega)).trans h5
  replace h6 := (st_ne (k := b + 4) (j := b + 6) (c' := .inl (1, 120, .inr (.inl (fun i => lN (pt2 i))))) (by omega)).trans h6
  refine Z_aload_n d_am_copyFrom_68 rfl ?_
  refine Z_get d_am_copyFrom_69 lf_am_25 ((hO _ (by (repeat (first | exact zFr.rf | refine zFr.set ?_ (by omega) (by omega))))).1) rfl ?_
  refine Zn_iconst (nI 0) d_am_copyFrom_72 (by decide) ?_
  refine Z_aload_n d_am_copyFrom_73 rfl ?_
  refine Z_get d_am_copyFrom_74 lf_am_25 (by assumption) rfl ?_
  refine Zn_iconst (nI 0) d_am_copyFrom_77 (by decide) ?_
  refine Zn_bipush (nI 120) d_am_copyFrom_78 (by decide) ?_
  refine zCpl (by omega) d_am_copyFrom_80 lc_am_35 ((hO _ (by (repeat (first | exact zFr.rf | refine zFr.set ?_ (by omega) (by omega))))).2.2.2.2.2.1) (by assumption) (by omega) (by omega) (by omega) (by omega) (Nat.le_of_ble_eq_true rfl) ?_
  rw [cpy_all (hout5)]
  replace h0 := (st_ne (k := b + 5) (j := b) (c' := .inl (1, 120, .inr (.inl (fun i => lN (gl2 i))))) (by omega)).trans h0
  replace h1 := (st_ne (k := b + 5) (j := b + 1) (c' := .inl (1, 120, .inr (.inl (fun i => lN (gl2 i))))) (by omega)).trans h1
  replace h2 := (st_ne (k := b + 5) (j := b + 2) (c' := .inl (1, 120, .inr (.inl (fun i => lN (gl2 i))))) (by omega)).trans h2
  replace h3 := (st_ne (k := b + 5) (j := b + 3) (c' := .inl (1, 120, .inr (.inl (fun i => lN (gl2 i))))) (by omega)).trans h3
  replace h4 := (st_ne (k := b + 5) (j := b + 4) (c' := .inl (1, 120, .inr (.inl (fun i => lN (gl2 i))))) (by omega)).trans h4
  replace h5 := st_eq (c' := .inl (1, 120, .inr (.inl (fun i => lN (gl2 i))))) h5
  replace h6 := (st_ne (k := b + 5) (j := b + 6) (c' := .inl (1, 120, .inr (.inl (fun i => lN (gl2 i))))) (by omega)).trans h6
  refine Z_aload_n d_am_copyFrom_83 rfl ?_
  refine Z_get d_am_copyFrom_84 lf_am_28 ((hO _ (by (repeat (first | exact zFr.rf | refine zFr.set ?_ (by omega) (by omega))))).1) rfl ?_
  refine Zn_iconst (nI 0) d_am_copyFrom_87 (by decide) ?_
  refine Z_aload_n d_am_copyFrom_88 rfl ?_
  refine Z_get d_am_copyFrom_89 lf_am_28 (by assumption) rfl ?_
  refine Zn_iconst (nI 0) d_am_copyFrom_92 (by decide) ?_
  refine Zn_bipush (nI 120) d_am_copyFrom_93 (by decide) ?_
  refine zCpi (by omega) d_am_copyFrom_95 lc_am_35 ((hO _ (by (repeat (first | exact zFr.rf | refine zFr.set ?_ (by omega) (by omega))))).2.2.2.2.2.2) (by assumption) (by omega) (by omega) (by omega) (by omega) (Nat.le_of_ble_eq_true rfl) ?_
  rw [cpy_all (hout6)]
  replace h0 := (st_ne (k := b + 6) (j := b) (c' := .inl (0, 120, .inl tx2)) (by omega)).trans h0
  replace h1 := (st_ne (k := b + 6) (j := b + 1) (c' := .inl (0, 120, .inl tx2)) (by omega)).trans h1
  replace h2 := (st_ne (k := b + 6) (j := b + 2) (c' := .inl (0, 120, .inl tx2)) (by omega)).trans h2
  replace h3 := (st_ne (k := b + 6) (j := b + 3) (c' := .inl (0, 120, .inl tx2)) (by omega)).trans h3
  replace h4 := (st_ne (k := b + 6) (j := b + 4) (c' := .inl (0, 120, .inl tx2)) (by omega)).trans h4
  replace h5 := (st_ne (k := b + 6) (j := b + 5) (c' := .inl (0, 120, .inl tx2)) (by omega)).trans h5
  replace h6 := st_eq (c' := .inl (0, 120, .inl tx2)) h6
  refine Z_vret d_am_copyFrom_98 rfl ?_
  exact ⟨rfl, ⟨h0, h1, h2, h3, h4, h5, h6⟩, by (repeat (first | exact zFr.rf | refine zFr.set ?_ (by omega) (by omega)))⟩
