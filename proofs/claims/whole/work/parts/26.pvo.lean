/-! order, renumbering -/
/-- e' is e in another order -/
def zPerm (n : Nat) (e e' : Nat → zEnt) : Prop := ∃ g h : Nat → Nat, (∀ i, i < n → g i < n ∧ h i < n ∧ g (h i) = i ∧ h (g i) = i) ∧ ∀ i, i < n → e' i = e (g i)
theorem zPerm.rf {n : Nat} {e : Nat → zEnt} : zPerm n e e := ⟨id, id, fun i h => ⟨h, h, rfl, rfl⟩, fun _ _ => rfl⟩
theorem zPerm.trans {n : Nat} {e e1 e2 : Nat → zEnt} (h : zPerm n e e1) (h' : zPerm n e1 e2) : zPerm n e e2 := by
  obtain ⟨g, k, a1, a2⟩ := h
  obtain ⟨g', k', b1, b2⟩ := h'
  refine ⟨fun i => g (g' i), fun i => k' (k i), fun i hi => ?_, fun i hi => ?_⟩
  · obtain ⟨c1, c2, c3, c4⟩ := b1 i hi
    obtain ⟨d1, d2, d3, d4⟩ := a1 i hi
    have e1 := a1 (g' i) c1
    have e2 := b1 (k i) d2
    refine ⟨e1.1, e2.2.1, ?_, ?_⟩
    · show g (g' (k' (k i))) = i
      rw [e2.2.2.1, d3]
    · show k' (k (g (g' i))) = i
      rw [e1.2.2.2, c4]
  · rw [b2 i hi]
    exact a2 (g' i) (b1 i hi).1
theorem eswp_at {e : Nat → zEnt} {a c i : Nat} : eswp e a c i = if i = c then e a else if i = a then e c else e i := by
  unfold eswp eup
  rfl
theorem zPerm.swap {n a c : Nat} {e : Nat → zEnt} (ha : a < n) (hc : c < n) : zPerm n e (eswp e a c) := by
  refine ⟨fun i => if i = c then a else if i = a then c else i, fun i => if i = c then a else if i = a then c else i, fun i hi => ?_, fun i hi => ?_⟩
  · by_cases h1 : i = c
    · subst h1
      by_cases h2 : a = i
      · subst h2; simp [ha]
      · simp [ha, h2]
    · by_cases h2 : i = a
      · subst h2; simp [h1, hc]
      · simp [h1, h2, hi]
  · rw [eswp_at]
    by_cases h1 : i = c
    · simp [h1]
    · by_cases h2 : i = a
      · subst h2; simp [h1]
      · simp [h1, h2]
def roI (e : Nat → zEnt) (i j : Nat) : Prop := (∀ p q, p < q → q ≤ i → p ≠ j → q ≠ j → ek (e p) ≤ ek (e q)) ∧ ∀ q, j < q → q ≤ i → ek (e j) ≤ ek (e q)
theorem roI_exit {e : Nat → zEnt} {i j : Nat} (h : roI e i j) (hj : j = 0 ∨ ek (e (j - 1)) ≤ ek (e j)) : ∀ p q, p < q → q < i + 1 → ek (e p) ≤ ek (e q) := by
  intro p q hpq hq
  by_cases h1 : p = j
  · subst h1; exact h.2 q hpq (by omega)
  · by_cases h2 : q = j
    · subst h2
      rcases hj with hj | hj
      · omega
      · by_cases h3 : p = q - 1
        · subst h3; exact hj
        · exact Nat.le_trans (h.1 p (q - 1) (by omega) (by omega) h1 (by omega)) hj
    · exact h.1 p q hpq (by omega) h1 h2
theorem roI_swap {e : Nat → zEnt} {i j : Nat} (hj : 0 < j) (hji : j ≤ i) (h : roI e i j) (hlt : ek (e j) ≤ ek (e (j - 1))) : roI (eswp e (j - 1) j) i (j - 1) := by
  have at1 : ∀ p, p ≠ j → p ≠ j - 1 → eswp e (j - 1) j p = e p := fun p h1 h2 => by rw [eswp_at, if_neg h1, if_neg h2]
  have atj : eswp e (j - 1) j j = e (j - 1) := by rw [eswp_at, if_pos rfl]
  have atk : eswp e (j - 1) j (j - 1) = e j := by rw [eswp_at, if_neg (by omega), if_pos rfl]
  refine ⟨fun p q hpq hq hp1 hq1 => ?_, fun q hq1 hq2 => ?_⟩
  · by_cases h1 : p = j
    · subst h1
      rw [atj, at1 q (by omega) (by omega)]
      exact h.1 (p - 1) q (by omega) hq (by omega) (by omega)
    · by_cases h2 : q = j
      · subst h2
        rw [atj, at1 p h1 hp1]
        exact h.1 p (q - 1) (by omega) (by omega) h1 (by omega)
      · rw [at1 p h1 hp1, at1 q h2 hq1]
        exact h.1 p q hpq hq h1 h2
  · rw [atk]
    by_cases h2 : q = j
    · subst h2; rw [atj]; exact hlt
    · rw [at1 q h2 (by omega)]
      exact h.2 q (by omega) hq2
theorem roI_start {e : Nat → zEnt} {i : Nat} (h : ∀ p q, p < q → q < i → ek (e p) ≤ ek (e q)) : roI e i i := ⟨fun p q h1 h2 _ h4 => h p q h1 (by omega), fun q h1 h2 => absurd h1 (by omega)⟩
theorem eswp_k {e : Nat → zEnt} {n a c : Nat} (ha : a < n) (hc : c < n) (hk : ∀ i, i < n → ek (e i) < 2 ^ 63) : ∀ i, i < n → ek (eswp e a c i) < 2 ^ 63 := by
  intro i hi
  rw [eswp_at]
  split
  · exact hk a ha
  · split
    · exact hk c hc
    · exact hk i hi
set_option maxHeartbeats 4000000 in
theorem pv_ro_in {Γ : zCtx} {M0 : List zE} {Q : List zE → Option Value → Prop} {e0 : Nat → zEnt} (d : Nat) {b n i : Nat} (hn : n ≤ 60) (hi : i < n) : ∀ (f j : Nat) (M : List zE) (e : Nat → zEnt), j < f → j ≤ i → PvAt M b n e → zFr M0 M b 6 → (∀ i, i < n → ek (e i) < 2 ^ 63) → zPerm n e0 e → roI e i j → (∀ (M1 : List zE) (e1 : Nat → zEnt) (j1 : Nat), PvAt M1 b n e1 → zFr M0 M1 b 6 → (∀ i, i < n → ek (e1 i) < 2 ^ 63) → zPerm n e0 e1 → (∀ p q, p < q → q < i + 1 → ek (e1 p) ≤ ek (e1 q)) → Z Γ (zRm (d + 2) m_pv_restoreOrder) m_pv_restoreOrder (zPh Γ m_pv_restoreOrder Q) 0 0 48 [some (.ref b), some (.int (nI i)), some (.int (nI j1))] [] M1) → Z Γ (zRm (d + 2) m_pv_restoreOrder) m_pv_restoreOrder (zPh Γ m_pv_restoreOrder Q) 0 0 12 [some (.ref b), some (.int (nI i)), some (.int (nI j))] [] M := by
  intro f
  induction f with
  | zero => intro j M e hf; exact absurd hf (by omega)
  | succ f ih =>
    intro j M e hf hji hP hF hk hpm hI hQ
    obtain ⟨h0, h1, h2, h3, h4, h5⟩ := id hP
    refine Z_iload_n d_pv_restoreOrder_12 rfl ?_
    refine Zn_if_le (tgt := 48) d_pv_restoreOrder_13 (by decide) (by omega) (fun h13 => ?_) (fun h13 => ?_)
    · skip
      exact hQ M e j hP hF hk hpm (roI_exit hI (Or.inl h13)) -- end
    · skip
      refine Z_aload_n d_pv_restoreOrder_16 rfl ?_
      refine Z_get d_pv_restoreOrder_17 lf_pv_9 (by assumption) rfl ?_
      refine Z_iload_n d_pv_restoreOrder_20 rfl ?_
      refine Zn_iconst (nI 1) d_pv_restoreOrder_21 (by decide) ?_
      refine Zn_isub d_pv_restoreOrder_22 (by omega) ?_
      refine Zn_lald d_pv_restoreOrder_23 (by assumption) (by omega) (by omega) ?_
      refine Z_aload_n d_pv_restoreOrder_24 rfl ?_
      refine Z_get d_pv_restoreOrder_25 lf_pv_9 (by assumption) rfl ?_
      refine Z_iload_n d_pv_restoreOrder_28 rfl ?_
      refine Zn_lald d_pv_restoreOrder_29 (by assumption) (by omega) (by omega) ?_
      refine Z_lcmp d_pv_restoreOrder_30 ?_
      refine Z_if_le (tgt := 48) d_pv_restoreOrder_31 (by decide) (fun h31 => ?_) (fun h31 => ?_)
      · skip
        have h31 := (zlN_le (hk _ (by omega)) (hk _ (by omega))).mp h31
        exact hQ M e j hP hF hk hpm (roI_exit hI (Or.inr h31)) -- end
      · skip
        have h31 : ¬ ek (e (j - 1)) ≤ ek (e j) := fun z => h31 ((zlN_le (hk _ (by omega)) (hk _ (by omega))).mpr z)
        refine Z_aload_n d_pv_restoreOrder_34 rfl ?_
        refine Z_iload_n d_pv_restoreOrder_35 rfl ?_
        refine Zn_iconst (nI 1) d_pv_restoreOrder_36 (by decide) ?_
        refine Zn_isub d_pv_restoreOrder_37 (by omega) ?_
        refine Z_iload_n d_pv_restoreOrder_38 rfl ?_
        refine zV (As := [.int (nI (j - 1)), .int (nI j)]) (by omega) d_pv_restoreOrder_39 lm_pv_81 (by assumption) rfl rfl (Nat.le_of_ble_eq_true rfl) (pv_swap_ok d hP hn (a := j - 1) (c := j) (by omega) (by omega)) (fun M1 v hq hlen => ?_)
        obtain ⟨rfl, hP1, hF1⟩ := hq
        refine Zn_iinc [some (.ref b), some (.int (nI i)), some (.int (nI (j - 1)))] (nI (j - 1)) d_pv_restoreOrder_42 rfl (by decide) (zn_dec (n := 1) (by omega)) rfl ?_
        refine Z_goto (tgt := 12) d_pv_restoreOrder_45 (by decide) ?_
        exact ih (j - 1) M1 _ (by omega) (by omega) hP1 (hF.trans hF1) (eswp_k (by omega) (by omega) hk) (hpm.trans (zPerm.swap (by omega) (by omega))) (roI_swap h13 hji hI (by omega)) hQ
set_option maxHeartbeats 4000000 in
theorem pv_ro_out {Γ : zCtx} {M0 : List zE} {Q : List zE → Option Value → Prop} {e0 : Nat → zEnt} (d : Nat) {b n : Nat} (hn : n ≤ 60) : ∀ (f i : Nat) (M : List zE) (e : Nat → zEnt) (y : Option Value), 1 ≤ i → i ≤ n + 1 → n < i + f → PvAt M b n e → zFr M0 M b 6 → (∀ i, i < n → ek (e i) < 2 ^ 63) → zPerm n e0 e → (∀ p q, p < q → q < i → ek (e p) ≤ ek (e q)) → (∀ (M1 : List zE) (e1 : Nat → zEnt), PvAt M1 b n e1 → zFr M0 M1 b 6 → (∀ i, i < n → ek (e1 i) < 2 ^ 63) → zPerm n e0 e1 → (∀ p q, p < q → q < n → ek (e1 p) ≤ ek (e1 q)) → Q M1 none) → Z Γ (zRm (d + 2) m_pv_restoreOrder) m_pv_restoreOrder (zPh Γ m_pv_restoreOrder Q) 0 0 2 [some (.ref b), some (.int (nI i)), y] [] M := by
  intro f
  induction f with
  | zero => intro i M e y _ _ hf hP hF hk hpm hs hQ
            obtain ⟨h0, h1, h2, h3, h4, h5⟩ := id hP
            refine Z_iload_n d_pv_restoreOrder_2 rfl ?_
            refine Z_aload_n d_pv_restoreOrder_3 rfl ?_
            refine Z_get d_pv_restoreOrder_4 lf_pv_29 (by assumption) rfl ?_
            refine Zn_icmp_ge (tgt := 54) d_pv_restoreOrder_7 (by decide) (by omega) (by omega) (fun h7 => ?_) (fun h7 => absurd h7 (by omega))
            refine Z_vret d_pv_restoreOrder_54 rfl ?_
            exact hQ M e hP hF hk hpm (fun p q g1 g2 => hs p q g1 (by omega))
  | succ f ih =>
    intro i M e y hi1 hi2 hf hP hF hk hpm hs hQ
    obtain ⟨h0, h1, h2, h3, h4, h5⟩ := id hP
    refine Z_iload_n d_pv_restoreOrder_2 rfl ?_
    refine Z_aload_n d_pv_restoreOrder_3 rfl ?_
    refine Z_get d_pv_restoreOrder_4 lf_pv_29 (by assumption) rfl ?_
    refine Zn_icmp_ge (tgt := 54) d_pv_restoreOrder_7 (by decide) (by omega) (by omega) (fun h7 => ?_) (fun h7 => ?_)
    · skip
      skip
      refine Z_vret d_pv_restoreOrder_54 rfl ?_
      exact hQ M e hP hF hk hpm (fun p q g1 g2 => hs p q g1 (by omega))
    · skip
      skip
      refine Z_iload_n d_pv_restoreOrder_10 rfl ?_
      refine Zn_istore_n [some (.ref b), some (.int (nI i)), some (.int (nI i))] d_pv_restoreOrder_11 (by decide) rfl ?_
      refine pv_ro_in (e0 := e0) d hn (by omega) (i + 1) i M e (by omega) (Nat.le_refl i) hP hF hk hpm (roI_start hs) (fun M1 e1 j1 hP1 hF1 hk1 hpm1 hs1 => ?_)
      refine Zn_iinc [some (.ref b), some (.int (nI (i + 1))), some (.int (nI j1))] (nI (i + 1)) d_pv_restoreOrder_48 rfl (by decide) (nI_add i 1) rfl ?_
      refine Z_goto (tgt := 2) d_pv_restoreOrder_51 (by decide) ?_
      exact ih (i + 1) M1 e1 _ (by omega) (by omega) (by omega) hP1 hF1 hk1 hpm1 hs1 hQ
set_option maxHeartbeats 4000000 in
theorem pv_restoreOrder_ok {Γ : zCtx} {M : List zE} (d : Nat) {b n : Nat} {e : Nat → zEnt} (hP : PvAt M b n e) (hn : n ≤ 60) (hk : ∀ i, i < n → ek (e i) < 2 ^ 63) : ZM Γ (d + 2) m_pv_restoreOrder [.ref b] M (fun M1 v => v = none ∧ ∃ e1, PvAt M1 b n e1 ∧ zFr M M1 b 6 ∧ (∀ i, i < n → ek (e1 i) < 2 ^ 63) ∧ zPerm n e e1 ∧ ∀ p q, p < q → q < n → ek (e1 p) ≤ ek (e1 q)) := by
  refine ZM.of mk_pv_restoreOrder (Nat.le_of_ble_eq_true rfl) ?_
  rw [show zEn [.ref b] = [some (.ref b)] from rfl]
  refine zPad 2 ?_
  show Z _ _ _ _ _ _ _ [some (.ref b), none, none] _ _
  refine Zn_iconst (nI 1) d_pv_restoreOrder_0 (by decide) ?_
  refine Zn_istore_n [some (.ref b), some (.int (nI 1)), none] d_pv_restoreOrder_1 (by decide) rfl ?_
  exact pv_ro_out (e0 := e) d hn (n + 1) 1 M e _ (by omega) (by omega) (by omega) hP zFr.rf hk zPerm.rf (fun p q g1 g2 => absurd g1 (by omega)) (fun M1 e1 a1 a2 a3 a4 a5 => ⟨rfl, e1, a1, a2, a3, a4, a5⟩)
def rnStep (k : Nat) (s : Nat × Bool × List zEnt) (x : zEnt) : Nat × Bool × List zEnt :=
  if ek x ≠ k ∧ ek x / un (lev k) = k / un (lev k) then
    (if lev (ek x) = lev k + 1 then (if er x then (s.1, true, s.2.2) else (s.1 + 1, false, s.2.2 ++ [sK x (putl (ek x) (lev k + 1) ((s.1 + 1) * 19683))])) else if s.2.1 then s else (s.1, s.2.1, s.2.2 ++ [sK x (putl (ek x) (lev k + 1) (s.1 * 19683))]))
  else (s.1, s.2.1, s.2.2 ++ [x])
def rnS (e : Nat → zEnt) (k : Nat) : Nat → Nat × Bool × List zEnt
  | 0 => (0, false, [])
  | i + 1 => rnStep k (rnS e k i) (e i)
theorem rnS_le (e : Nat → zEnt) (k : Nat) : ∀ i, (rnS e k i).1 ≤ i ∧ (rnS e k i).2.2.length ≤ i
  | 0 => by simp [rnS]
  | i + 1 => by
    have ih := rnS_le e k i
    unfold rnS rnStep
    split
    · split
      · split
        · exact ⟨by show (rnS e k i).1 ≤ _; omega, by show (rnS e k i).2.2.length ≤ _; omega⟩
        · exact ⟨by show _ + 1 ≤ _; omega, by show (_ ++ [_]).length ≤ _; rw [List.length_append]; simp only [List.length_cons, List.length_nil]; omega⟩
      · split
        · exact ⟨by omega, by omega⟩
        · exact ⟨by show (rnS e k i).1 ≤ _; omega, by show (_ ++ [_]).length ≤ _; rw [List.length_append]; simp only [List.length_cons, List.length_nil]; omega⟩
    · exact ⟨by show (rnS e k i).1 ≤ _; omega, by show (_ ++ [_]).length ≤ _; rw [List.length_append]; simp only [List.length_cons, List.length_nil]; omega⟩
/-- what is kept so far stands first, what is still to come stands where it stood -/
def rnI (e e1 : Nat → zEnt) (o : List zEnt) (i : Nat) : Prop := (∀ j x, o[j]? = some x → e1 j = x) ∧ ∀ j, i ≤ j → e1 j = e j
theorem rnI_keep {e e1 : Nat → zEnt} {o : List zEnt} {i : Nat} (h : rnI e e1 o i) (hl : o.length ≤ i) (x : zEnt) (e2 : Nat → zEnt) (hx : e2 i = x) (ho : ∀ j, j ≠ i → e2 j = e1 j) : rnI e (eswp e2 o.length i) (o ++ [x]) (i + 1) := by
  refine ⟨fun j y hy => ?_, fun j hj => ?_⟩
  · rw [eswp_at]
    by_cases h1 : j < o.length
    · rw [List.getElem?_append_left h1] at hy
      rw [if_neg (by omega), if_neg (by omega), ho j (by omega)]
      exact h.1 j y hy
    · rw [List.getElem?_append_right (by omega)] at hy
      have hj0 : j - o.length < 1 := (List.getElem?_eq_some_iff.mp hy).1
      rw [show j - o.length = 0 by omega] at hy
      cases hy
      have hjo : j = o.length := by omega
      subst hjo
      by_cases h2 : o.length = i
      · rw [if_pos h2, h2]; exact hx
      · rw [if_neg h2, if_pos rfl]; exact hx
  · rw [eswp_at, if_neg (by omega), if_neg (by omega), ho j (by omega)]
    exact h.2 j (by omega)
theorem rnI_skip {e e1 : Nat → zEnt} {o : List zEnt} {i : Nat} (h : rnI e e1 o i) : rnI e e1 o (i + 1) := ⟨h.1, fun j hj => h.2 j (by omega)⟩
theorem wi_lev {k q : Nat} (h : q / un (lev k) = k / un (lev k)) (hne : ¬ q = k) : lev k ≤ 2 := by
  have h3 := lev_le k
  rcases (show lev k ≤ 2 ∨ lev k = 3 by omega) with z | z
  · exact z
  · rw [z, un_3, Nat.div_one, Nat.div_one] at h
    exact absurd h hne
set_option maxHeartbeats 4000000 in
theorem pv_renumber_loop {Γ : zCtx} {M0 : List zE} (d : Nat) {b n : Nat} {e : Nat → zEnt} (hn : n ≤ 60) (hk : ∀ i, i < n → ek (e i) < 2 ^ 63) {k : Nat} (hk9 : k < 2 ^ 63) (hlv : 1 ≤ lev k) : ∀ (f : Nat) (i : Nat) (M : List zE) (e1 : Nat → zEnt) (y : Option Value), i ≤ n → n < i + f → PvAt M b n e1 → zFr M0 M b 6 → rnI e e1 (rnS e k i).2.2 i → ∀ Q : List zE → Option Value → Prop, (∀ (M1 : List zE) (e2 : Nat → zEnt), PvAt M1 b (rnS e k n).2.2.length e2 → zFr M0 M1 b 6 → (∀ j x, (rnS e k n).2.2[j]? = some x → e2 j = x) → Q M1 none) → Z Γ (zRm (d + 2) m_pv_renumberChildren) m_pv_renumberChildren (zPh Γ m_pv_renumberChildren Q) 0 0 22 [some (.ref b), some (.long (lN k)), none, some (.int (nI (lev k))), some (.int (nI (lev k + 1))), some (.int (nI ((rnS e k i).1))), some (.int (bI (rnS e k i).2.1)), some (.int (nI ((rnS e k i).2.2.length))), some (.int (nI i)), y, none] [] M := by
  intro f
  induction f with
  | zero => intro i M e1 y hi hf; exact absurd hf (by omega)
  | succ f ih =>
    intro i M e1 y hi hf hP hF hE Q hQ
    obtain ⟨h0, h1, h2, h3, h4, h5⟩ := id hP
    have hl3 := lev_le k
    have hkk := hk i
    have hrl := rnS_le e k i
    have hrn := rnS_le e k n
    refine Z_iload d_pv_renumberChildren_22 rfl ?_
    refine Z_aload_n d_pv_renumberChildren_24 rfl ?_
    refine Z_get d_pv_renumberChildren_25 lf_pv_29 (by assumption) rfl ?_
    refine Zn_icmp_ge (tgt := 135) d_pv_renumberChildren_28 (by decide) (by omega) (by omega) (fun h28 => ?_) (fun h28 => ?_)
    · skip
      have hi : i = n := by omega
      subst hi
      refine Z_aload_n d_pv_renumberChildren_135 rfl ?_
      refine Z_iload d_pv_renumberChildren_136 rfl ?_
      refine Z_puti d_pv_renumberChildren_138 lf_pv_29 (by assumption) rfl rfl (Nat.le_of_ble_eq_true rfl) ?_
      refine Z_vret d_pv_renumberChildren_141 rfl ?_
      exact hQ _ e1 (hP.putN) (by (repeat (first | exact hF | exact zFr.rf | refine zFr.set ?_ (by omega) (by omega)))) hE.1
    · skip
      refine Z_aload_n d_pv_renumberChildren_31 rfl ?_
      refine Z_get d_pv_renumberChildren_32 lf_pv_9 (by assumption) rfl ?_
      refine Z_iload d_pv_renumberChildren_35 rfl ?_
      refine Zn_lald d_pv_renumberChildren_37 (by assumption) (by omega) (by omega) ?_
      rw [hE.2 i (Nat.le_refl i)]
      refine Zn_lstore [some (.ref b), some (.long (lN k)), none, some (.int (nI (lev k))), some (.int (nI (lev k + 1))), some (.int (nI ((rnS e k i).1))), some (.int (bI (rnS e k i).2.1)), some (.int (nI ((rnS e k i).2.2.length))), some (.int (nI i)), some (.long (lN (ek (e i)))), none] d_pv_renumberChildren_38 (by decide) rfl ?_
      refine Z_lload d_pv_renumberChildren_40 rfl ?_
      refine Z_lload_n d_pv_renumberChildren_42 rfl ?_
      refine Z_lcmp d_pv_renumberChildren_43 ?_
      refine Z_if_eq (tgt := 118) d_pv_renumberChildren_44 (by decide) (fun h44 => ?_) (fun h44 => ?_)
      · skip
        have h44 := (zlN (hk i (by omega)) hk9).mp h44
        refine Z_aload_n d_pv_renumberChildren_118 rfl ?_
        refine Z_iload d_pv_renumberChildren_119 rfl ?_
        refine Z_iload d_pv_renumberChildren_121 rfl ?_
        refine zV (As := [.int (nI ((rnS e k i).2.2.length)), .int (nI i)]) (by omega) d_pv_renumberChildren_123 lm_pv_81 (by assumption) rfl rfl (Nat.le_of_ble_eq_true rfl) (pv_swap_ok d hP hn (a := (rnS e k i).2.2.length) (c := i) (by omega) (by omega)) (fun M1 v hq hlen => ?_)
        obtain ⟨rfl, hP1, hF1⟩ := hq
        refine Zn_iinc [some (.ref b), some (.long (lN k)), none, some (.int (nI (lev k))), some (.int (nI (lev k + 1))), some (.int (nI ((rnS e k i).1))), some (.int (bI (rnS e k i).2.1)), some (.int (nI (((rnS e k i).2.2.length) + 1))), some (.int (nI i)), some (.long (lN (ek (e i)))), none] (nI (((rnS e k i).2.2.length) + 1)) d_pv_renumberChildren_126 rfl (by decide) (nI_add ((rnS e k i).2.2.length) 1) rfl ?_
        refine Zn_iinc [some (.ref b), some (.long (lN k)), none, some (.int (nI (lev k))), some (.int (nI (lev k + 1))), some (.int (nI ((rnS e k i).1))), some (.int (bI (rnS e k i).2.1)), some (.int (nI (((rnS e k i).2.2.length) + 1))), some (.int (nI (i + 1))), some (.long (lN (ek (e i)))), none] (nI (i + 1)) d_pv_renumberChildren_129 rfl (by decide) (nI_add i 1) rfl ?_
        refine Z_goto (tgt := 22) d_pv_renumberChildren_132 (by decide) ?_
        have hs : rnS e k (i + 1) = ((rnS e k i).1, (rnS e k i).2.1, (rnS e k i).2.2 ++ [e i]) := (by rw [rnS, rnStep]; rw [if_neg (by first | exact (fun z => z.1 h44) | exact (fun z => hw z.2))])
        have z := ih (i + 1) M1 _ (some (.long (lN (ek (e i))))) (by omega) (by omega) hP1 (zFr.trans (by (repeat (first | exact hF | exact zFr.rf | refine zFr.set ?_ (by omega) (by omega)))) hF1) (by rw [hs]; exact rnI_keep hE (rnS_le e k i).2 _ _ (hE.2 i (Nat.le_refl i)) (fun j _ => rfl)) Q hQ
        rw [hs] at z
        simp only [List.length_append, List.length_cons, List.length_nil] at z
        exact z
      · skip
        have h44 : ¬ ek (e i) = k := fun z => h44 ((zlN (hk i (by omega)) hk9).mpr z)
        refine Z_lload d_pv_renumberChildren_47 rfl ?_
        refine Z_lload_n d_pv_renumberChildren_49 rfl ?_
        refine Z_iload_n d_pv_renumberChildren_50 rfl ?_
        refine zTe (As := [.long (lN (ek (e i))), .long (lN k), .int (nI (lev k))]) (by omega) d_pv_renumberChildren_51 lm_pv_69 rfl (Nat.le_of_ble_eq_true rfl) (pa_isWithin_ok d (hk i (by omega)) hk9 (by omega) (by omega)) ?_
        have hle : (if ek (e i) / un (lev k) = k / un (lev k) then 1 else 0) < 2147483648 := by split <;> decide
        refine Zn_if_eq (tgt := 118) d_pv_renumberChildren_54 (by decide) (by omega) (fun h54 => ?_) (fun h54 => ?_)
        · skip
          have hw : ¬ ek (e i) / un (lev k) = k / un (lev k) := fun z => by rw [if_pos z] at h54; exact absurd h54 (by decide)
          refine Z_aload_n d_pv_renumberChildren_118 rfl ?_
          refine Z_iload d_pv_renumberChildren_119 rfl ?_
          refine Z_iload d_pv_renumberChildren_121 rfl ?_
          refine zV (As := [.int (nI ((rnS e k i).2.2.length)), .int (nI i)]) (by omega) d_pv_renumberChildren_123 lm_pv_81 (by assumption) rfl rfl (Nat.le_of_ble_eq_true rfl) (pv_swap_ok d hP hn (a := (rnS e k i).2.2.length) (c := i) (by omega) (by omega)) (fun M1 v hq hlen => ?_)
          obtain ⟨rfl, hP1, hF1⟩ := hq
          refine Zn_iinc [some (.ref b), some (.long (lN k)), none, some (.int (nI (lev k))), some (.int (nI (lev k + 1))), some (.int (nI ((rnS e k i).1))), some (.int (bI (rnS e k i).2.1)), some (.int (nI (((rnS e k i).2.2.length) + 1))), some (.int (nI i)), some (.long (lN (ek (e i)))), none] (nI (((rnS e k i).2.2.length) + 1)) d_pv_renumberChildren_126 rfl (by decide) (nI_add ((rnS e k i).2.2.length) 1) rfl ?_
          refine Zn_iinc [some (.ref b), some (.long (lN k)), none, some (.int (nI (lev k))), some (.int (nI (lev k + 1))), some (.int (nI ((rnS e k i).1))), some (.int (bI (rnS e k i).2.1)), some (.int (nI (((rnS e k i).2.2.length) + 1))), some (.int (nI (i + 1))), some (.long (lN (ek (e i)))), none] (nI (i + 1)) d_pv_renumberChildren_129 rfl (by decide) (nI_add i 1) rfl ?_
          refine Z_goto (tgt := 22) d_pv_renumberChildren_132 (by decide) ?_
          have hs : rnS e k (i + 1) = ((rnS e k i).1, (rnS e k i).2.1, (rnS e k i).2.2 ++ [e i]) := (by rw [rnS, rnStep]; rw [if_neg (by first | exact (fun z => z.1 h44) | exact (fun z => hw z.2))])
          have z := ih (i + 1) M1 _ (some (.long (lN (ek (e i))))) (by omega) (by omega) hP1 (zFr.trans (by (repeat (first | exact hF | exact zFr.rf | refine zFr.set ?_ (by omega) (by omega)))) hF1) (by rw [hs]; exact rnI_keep hE (rnS_le e k i).2 _ _ (hE.2 i (Nat.le_refl i)) (fun j _ => rfl)) Q hQ
          rw [hs] at z
          simp only [List.length_append, List.length_cons, List.length_nil] at z
          exact z
        · skip
          have hw : ek (e i) / un (lev k) = k / un (lev k) := by
            rcases Nat.decEq (ek (e i) / un (lev k)) (k / un (lev k)) with z | z
            · rw [if_neg z] at h54; exact absurd rfl h54
            · exact z
          have hl2 := wi_lev hw h44
          have hlx := lev_le (ek (e i))
          refine Z_lload d_pv_renumberChildren_57 rfl ?_
          refine zTe (As := [.long (lN (ek (e i)))]) (by omega) d_pv_renumberChildren_59 lm_pv_43 rfl (Nat.le_of_ble_eq_true rfl) (pa_levelOf_ok d (hk i (by omega))) ?_
          refine Z_iload d_pv_renumberChildren_62 rfl ?_
          refine Zn_icmp_ne (tgt := 91) d_pv_renumberChildren_64 (by decide) (by omega) (by omega) (fun h64 => ?_) (fun h64 => ?_)
          · skip
            refine Z_iload d_pv_renumberChildren_91 rfl ?_
            refine Z_if_eq (tgt := 99) d_pv_renumberChildren_93 (by decide) (fun h93 => ?_) (fun h93 => ?_)
            · skip
              have h93 : (rnS e k i).2.1 = false := bI_0.mp h93
              refine Z_aload_n d_pv_renumberChildren_99 rfl ?_
              refine Z_get d_pv_renumberChildren_100 lf_pv_9 (by assumption) rfl ?_
              refine Z_iload d_pv_renumberChildren_103 rfl ?_
              refine Z_lload d_pv_renumberChildren_105 rfl ?_
              refine Z_iload d_pv_renumberChildren_107 rfl ?_
              refine Z_iload d_pv_renumberChildren_109 rfl ?_
              refine zTe (As := [.int (nI ((rnS e k i).1))]) (by omega) d_pv_renumberChildren_111 lm_pv_63 rfl (Nat.le_of_ble_eq_true rfl) (pa_labelOfNumber_ok d) ?_
              refine zTe (As := [.long (lN (ek (e i))), .int (nI (lev k + 1)), .int (nI (((rnS e k i).1) * 19683))]) (by omega) d_pv_renumberChildren_114 lm_pv_77 rfl (Nat.le_of_ble_eq_true rfl) (pa_withLabel_ok d (hk i (by omega)) (by omega) (by omega) (by omega)) ?_
              refine Zn_last d_pv_renumberChildren_117 (by assumption) (by omega) (by omega) ?_
              obtain ⟨e_1, he_1⟩ : ∃ x, x = eup e1 i (sK (e1 i) (putl (ek (e i)) (lev k + 1) (((rnS e k i).1) * 19683))) := ⟨_, rfl⟩
              have hP := hP.putK (j := i) (k := (putl (ek (e i)) (lev k + 1) (((rnS e k i).1) * 19683)))
              rw [← he_1] at hP
              obtain ⟨h0, h1, h2, h3, h4, h5⟩ := id hP
              refine Z_aload_n d_pv_renumberChildren_118 rfl ?_
              refine Z_iload d_pv_renumberChildren_119 rfl ?_
              refine Z_iload d_pv_renumberChildren_121 rfl ?_
              refine zV (As := [.int (nI ((rnS e k i).2.2.length)), .int (nI i)]) (by omega) d_pv_renumberChildren_123 lm_pv_81 (by assumption) rfl rfl (Nat.le_of_ble_eq_true rfl) (pv_swap_ok d hP hn (a := (rnS e k i).2.2.length) (c := i) (by omega) (by omega)) (fun M1 v hq hlen => ?_)
              obtain ⟨rfl, hP1, hF1⟩ := hq
              refine Zn_iinc [some (.ref b), some (.long (lN k)), none, some (.int (nI (lev k))), some (.int (nI (lev k + 1))), some (.int (nI ((rnS e k i).1))), some (.int (bI (rnS e k i).2.1)), some (.int (nI (((rnS e k i).2.2.length) + 1))), some (.int (nI i)), some (.long (lN (ek (e i)))), none] (nI (((rnS e k i).2.2.length) + 1)) d_pv_renumberChildren_126 rfl (by decide) (nI_add ((rnS e k i).2.2.length) 1) rfl ?_
              refine Zn_iinc [some (.ref b), some (.long (lN k)), none, some (.int (nI (lev k))), some (.int (nI (lev k + 1))), some (.int (nI ((rnS e k i).1))), some (.int (bI (rnS e k i).2.1)), some (.int (nI (((rnS e k i).2.2.length) + 1))), some (.int (nI (i + 1))), some (.long (lN (ek (e i)))), none] (nI (i + 1)) d_pv_renumberChildren_129 rfl (by decide) (nI_add i 1) rfl ?_
              refine Z_goto (tgt := 22) d_pv_renumberChildren_132 (by decide) ?_
              have hs : rnS e k (i + 1) = ((rnS e k i).1, (rnS e k i).2.1, (rnS e k i).2.2 ++ [sK (e i) (putl (ek (e i)) (lev k + 1) ((rnS e k i).1 * 19683))]) := (by rw [rnS, rnStep, if_pos ⟨h44, hw⟩, if_neg h64, if_neg (by rw [h93]; decide)])
              have z := ih (i + 1) M1 _ (some (.long (lN (ek (e i))))) (by omega) (by omega) hP1 (zFr.trans (by (repeat (first | exact hF | exact zFr.rf | refine zFr.set ?_ (by omega) (by omega)))) hF1) (by rw [hs]; exact rnI_keep hE (rnS_le e k i).2 _ _ (by rw [he_1, eup_s, hE.2 i (Nat.le_refl i)]) (fun j hj => by rw [he_1, eup_n hj])) Q hQ
              rw [hs] at z
              simp only [List.length_append, List.length_cons, List.length_nil] at z
              exact z
            · skip
              have h93 : (rnS e k i).2.1 = true := by
                cases hh : (rnS e k i).2.1 with
                | true => rfl
                | false => exact absurd (bI_0.mpr hh) h93
              refine Z_goto (tgt := 129) d_pv_renumberChildren_96 (by decide) ?_
              refine Zn_iinc [some (.ref b), some (.long (lN k)), none, some (.int (nI (lev k))), some (.int (nI (lev k + 1))), some (.int (nI ((rnS e k i).1))), some (.int (bI (rnS e k i).2.1)), some (.int (nI ((rnS e k i).2.2.length))), some (.int (nI (i + 1))), some (.long (lN (ek (e i)))), none] (nI (i + 1)) d_pv_renumberChildren_129 rfl (by decide) (nI_add i 1) rfl ?_
              refine Z_goto (tgt := 22) d_pv_renumberChildren_132 (by decide) ?_
              have hs : rnS e k (i + 1) = (rnS e k i) := (by rw [rnS, rnStep, if_pos ⟨h44, hw⟩, if_neg h64, if_pos h93])
              have z := ih (i + 1) M e1 (some (.long (lN (ek (e i))))) (by omega) (by omega) hP hF (by rw [hs]; exact rnI_skip hE) Q hQ
              rw [hs] at z
              exact z
          · skip
            refine Z_aload_n d_pv_renumberChildren_67 rfl ?_
            refine Z_get d_pv_renumberChildren_68 lf_pv_19 (by assumption) rfl ?_
            refine Z_iload d_pv_renumberChildren_71 rfl ?_
            refine Zn_zald d_pv_renumberChildren_73 (by assumption) (by omega) (by omega) ?_
            rw [hE.2 i (Nat.le_refl i)]
            refine Zn_istore [some (.ref b), some (.long (lN k)), none, some (.int (nI (lev k))), some (.int (nI (lev k + 1))), some (.int (nI ((rnS e k i).1))), some (.int (bI (er (e i)))), some (.int (nI ((rnS e k i).2.2.length))), some (.int (nI i)), some (.long (lN (ek (e i)))), none] d_pv_renumberChildren_74 (by decide) rfl ?_
            refine Z_iload d_pv_renumberChildren_76 rfl ?_
            refine Z_iload d_pv_renumberChildren_78 rfl ?_
            refine Z_if_eq (tgt := 87) d_pv_renumberChildren_80 (by decide) (fun h80 => ?_) (fun h80 => ?_)
            · skip
              have h80 := bI_0.mp h80
              refine Zn_iconst (nI 1) d_pv_renumberChildren_87 (by decide) ?_
              refine Zn_iadd d_pv_renumberChildren_88 ?_
              refine Zn_istore [some (.ref b), some (.long (lN k)), none, some (.int (nI (lev k))), some (.int (nI (lev k + 1))), some (.int (nI (((rnS e k i).1) + 1))), some (.int (bI (er (e i)))), some (.int (nI ((rnS e k i).2.2.length))), some (.int (nI i)), some (.long (lN (ek (e i)))), none] d_pv_renumberChildren_89 (by decide) rfl ?_
              refine Z_iload d_pv_renumberChildren_91 rfl ?_
              refine Z_if_eq (tgt := 99) d_pv_renumberChildren_93 (by decide) (fun h93 => ?_) (fun h93 => ?_)
              · skip
                skip
                refine Z_aload_n d_pv_renumberChildren_99 rfl ?_
                refine Z_get d_pv_renumberChildren_100 lf_pv_9 (by assumption) rfl ?_
                refine Z_iload d_pv_renumberChildren_103 rfl ?_
                refine Z_lload d_pv_renumberChildren_105 rfl ?_
                refine Z_iload d_pv_renumberChildren_107 rfl ?_
                refine Z_iload d_pv_renumberChildren_109 rfl ?_
                refine zTe (As := [.int (nI (((rnS e k i).1) + 1))]) (by omega) d_pv_renumberChildren_111 lm_pv_63 rfl (Nat.le_of_ble_eq_true rfl) (pa_labelOfNumber_ok d) ?_
                refine zTe (As := [.long (lN (ek (e i))), .int (nI (lev k + 1)), .int (nI ((((rnS e k i).1) + 1) * 19683))]) (by omega) d_pv_renumberChildren_114 lm_pv_77 rfl (Nat.le_of_ble_eq_true rfl) (pa_withLabel_ok d (hk i (by omega)) (by omega) (by omega) (by omega)) ?_
                refine Zn_last d_pv_renumberChildren_117 (by assumption) (by omega) (by omega) ?_
                obtain ⟨e_1, he_1⟩ : ∃ x, x = eup e1 i (sK (e1 i) (putl (ek (e i)) (lev k + 1) ((((rnS e k i).1) + 1) * 19683))) := ⟨_, rfl⟩
                have hP := hP.putK (j := i) (k := (putl (ek (e i)) (lev k + 1) ((((rnS e k i).1) + 1) * 19683)))
                rw [← he_1] at hP
                obtain ⟨h0, h1, h2, h3, h4, h5⟩ := id hP
                refine Z_aload_n d_pv_renumberChildren_118 rfl ?_
                refine Z_iload d_pv_renumberChildren_119 rfl ?_
                refine Z_iload d_pv_renumberChildren_121 rfl ?_
                refine zV (As := [.int (nI ((rnS e k i).2.2.length)), .int (nI i)]) (by omega) d_pv_renumberChildren_123 lm_pv_81 (by assumption) rfl rfl (Nat.le_of_ble_eq_true rfl) (pv_swap_ok d hP hn (a := (rnS e k i).2.2.length) (c := i) (by omega) (by omega)) (fun M1 v hq hlen => ?_)
                obtain ⟨rfl, hP1, hF1⟩ := hq
                refine Zn_iinc [some (.ref b), some (.long (lN k)), none, some (.int (nI (lev k))), some (.int (nI (lev k + 1))), some (.int (nI (((rnS e k i).1) + 1))), some (.int (bI (er (e i)))), some (.int (nI (((rnS e k i).2.2.length) + 1))), some (.int (nI i)), some (.long (lN (ek (e i)))), none] (nI (((rnS e k i).2.2.length) + 1)) d_pv_renumberChildren_126 rfl (by decide) (nI_add ((rnS e k i).2.2.length) 1) rfl ?_
                refine Zn_iinc [some (.ref b), some (.long (lN k)), none, some (.int (nI (lev k))), some (.int (nI (lev k + 1))), some (.int (nI (((rnS e k i).1) + 1))), some (.int (bI (er (e i)))), some (.int (nI (((rnS e k i).2.2.length) + 1))), some (.int (nI (i + 1))), some (.long (lN (ek (e i)))), none] (nI (i + 1)) d_pv_renumberChildren_129 rfl (by decide) (nI_add i 1) rfl ?_
                refine Z_goto (tgt := 22) d_pv_renumberChildren_132 (by decide) ?_
                have hs : rnS e k (i + 1) = ((rnS e k i).1 + 1, false, (rnS e k i).2.2 ++ [sK (e i) (putl (ek (e i)) (lev k + 1) (((rnS e k i).1 + 1) * 19683))]) := (by rw [rnS, rnStep, if_pos ⟨h44, hw⟩, if_pos h64, if_neg (by rw [h80]; decide)])
                have z := ih (i + 1) M1 _ (some (.long (lN (ek (e i))))) (by omega) (by omega) hP1 (zFr.trans (by (repeat (first | exact hF | exact zFr.rf | refine zFr.set ?_ (by omega) (by omega)))) hF1) (by rw [hs]; exact rnI_keep hE (rnS_le e k i).2 _ _ (by rw [he_1, eup_s, hE.2 i (Nat.le_refl i)]) (fun j hj => by rw [he_1, eup_n hj])) Q hQ
                rw [hs] at z
                simp only [List.length_append, List.length_cons, List.length_nil] at z
                rw [show bI (er (e i)) = bI false from by rw [h80]]
                exact z
              · skip
                exact absurd (bI_0.mpr h80) h93 -- end
            · skip
              have h80 : er (e i) = true := by
                cases hh : er (e i) with
                | true => rfl
                | false => exact absurd (bI_0.mpr hh) h80
              refine Zn_iconst (nI 0) d_pv_renumberChildren_83 (by decide) ?_
              refine Z_goto (tgt := 88) d_pv_renumberChildren_84 (by decide) ?_
              refine Zn_iadd d_pv_renumberChildren_88 ?_
              refine Zn_istore [some (.ref b), some (.long (lN k)), none, some (.int (nI (lev k))), some (.int (nI (lev k + 1))), some (.int (nI (((rnS e k i).1) + 0))), some (.int (bI (er (e i)))), some (.int (nI ((rnS e k i).2.2.length))), some (.int (nI i)), some (.long (lN (ek (e i)))), none] d_pv_renumberChildren_89 (by decide) rfl ?_
              refine Z_iload d_pv_renumberChildren_91 rfl ?_
              refine Z_if_eq (tgt := 99) d_pv_renumberChildren_93 (by decide) (fun h93 => ?_) (fun h93 => ?_)
              · skip
                exact absurd (h80.symm.trans (bI_0.mp h93)) (by decide) -- end
              · skip
                skip
                refine Z_goto (tgt := 129) d_pv_renumberChildren_96 (by decide) ?_
                refine Zn_iinc [some (.ref b), some (.long (lN k)), none, some (.int (nI (lev k))), some (.int (nI (lev k + 1))), some (.int (nI (((rnS e k i).1) + 0))), some (.int (bI (er (e i)))), some (.int (nI ((rnS e k i).2.2.length))), some (.int (nI (i + 1))), some (.long (lN (ek (e i)))), none] (nI (i + 1)) d_pv_renumberChildren_129 rfl (by decide) (nI_add i 1) rfl ?_
                refine Z_goto (tgt := 22) d_pv_renumberChildren_132 (by decide) ?_
                have hs : rnS e k (i + 1) = ((rnS e k i).1, true, (rnS e k i).2.2) := (by rw [rnS, rnStep, if_pos ⟨h44, hw⟩, if_pos h64, if_pos h80])
                have z := ih (i + 1) M e1 (some (.long (lN (ek (e i))))) (by omega) (by omega) hP hF (by rw [hs]; exact rnI_skip hE) Q hQ
                rw [hs] at z
                rw [show bI (er (e i)) = bI true from by rw [h80]]
                exact z
set_option maxHeartbeats 4000000 in
theorem pv_renumber_ok {Γ : zCtx} {M : List zE} (d : Nat) {b n : Nat} {e : Nat → zEnt} (hP : PvAt M b n e) (hn : n ≤ 60) (hk : ∀ i, i < n → ek (e i) < 2 ^ 63) {k : Nat} (hk9 : k < 2 ^ 63) (hlv : 1 ≤ lev k) : ZM Γ (d + 2) m_pv_renumberChildren [.ref b, .long (lN k)] M (fun M1 v => v = none ∧ ∃ e2, PvAt M1 b (rnS e k n).2.2.length e2 ∧ zFr M M1 b 6 ∧ ∀ j x, (rnS e k n).2.2[j]? = some x → e2 j = x) := by
  refine ZM.of mk_pv_renumberChildren (Nat.le_of_ble_eq_true rfl) ?_
  rw [show zEn [.ref b, .long (lN k)] = [some (.ref b), some (.long (lN k)), none] from rfl]
  refine zPad 8 ?_
  show Z _ _ _ _ _ _ _ [some (.ref b), some (.long (lN k)), none, none, none, none, none, none, none, none, none] _ _
  refine Z_lload_n d_pv_renumberChildren_0 rfl ?_
  refine zTe (As := [.long (lN k)]) (by omega) d_pv_renumberChildren_1 lm_pv_43 rfl (Nat.le_of_ble_eq_true rfl) (pa_levelOf_ok d hk9) ?_
  refine Zn_istore_n [some (.ref b), some (.long (lN k)), none, some (.int (nI (lev k))), none, none, none, none, none, none, none] d_pv_renumberChildren_4 (by decide) rfl ?_
  refine Z_iload_n d_pv_renumberChildren_5 rfl ?_
  refine Zn_iconst (nI 1) d_pv_renumberChildren_6 (by decide) ?_
  refine Zn_iadd d_pv_renumberChildren_7 ?_
  refine Zn_istore [some (.ref b), some (.long (lN k)), none, some (.int (nI (lev k))), some (.int (nI ((lev k) + 1))), none, none, none, none, none, none] d_pv_renumberChildren_8 (by decide) rfl ?_
  refine Zn_iconst (nI 0) d_pv_renumberChildren_10 (by decide) ?_
  refine Zn_istore [some (.ref b), some (.long (lN k)), none, some (.int (nI (lev k))), some (.int (nI ((lev k) + 1))), some (.int (nI 0)), none, none, none, none, none] d_pv_renumberChildren_11 (by decide) rfl ?_
  refine Zn_iconst (nI 0) d_pv_renumberChildren_13 (by decide) ?_
  refine Zn_istore [some (.ref b), some (.long (lN k)), none, some (.int (nI (lev k))), some (.int (nI ((lev k) + 1))), some (.int (nI 0)), some (.int (nI 0)), none, none, none, none] d_pv_renumberChildren_14 (by decide) rfl ?_
  refine Zn_iconst (nI 0) d_pv_renumberChildren_16 (by decide) ?_
  refine Zn_istore [some (.ref b), some (.long (lN k)), none, some (.int (nI (lev k))), some (.int (nI ((lev k) + 1))), some (.int (nI 0)), some (.int (nI 0)), some (.int (nI 0)), none, none, none] d_pv_renumberChildren_17 (by decide) rfl ?_
  refine Zn_iconst (nI 0) d_pv_renumberChildren_19 (by decide) ?_
  refine Zn_istore [some (.ref b), some (.long (lN k)), none, some (.int (nI (lev k))), some (.int (nI ((lev k) + 1))), some (.int (nI 0)), some (.int (nI 0)), some (.int (nI 0)), some (.int (nI 0)), none, none] d_pv_renumberChildren_20 (by decide) rfl ?_
  exact pv_renumber_loop (e := e) d hn hk hk9 hlv (n + 1) 0 M e _ (by omega) (by omega) hP zFr.rf ⟨fun j x h => by simp [rnS] at h, fun _ _ => rfl⟩ _ (fun M1 e2 a1 a2 a3 => ⟨rfl, e2, a1, a2, a3⟩)
