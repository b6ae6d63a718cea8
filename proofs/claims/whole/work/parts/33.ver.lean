/-! a version in a block of 10 cells -/
def VeAt (M : List zE) (b n : Nat) (e : Nat → zEnt) (q : Nat) (ca ci cr : Nat → Nat) : Prop :=
  M[b]? = some (.inr (5, [.ref (b + 1), .int (nI q), .ref (b + 7), .ref (b + 8), .ref (b + 9)])) ∧ PvAt M (b + 1) n e ∧ M[b + 7]? = some (.inl (0, 120, .inl (fun i => nI (ca i)))) ∧ M[b + 8]? = some (.inl (0, 120, .inl (fun i => nI (ci i)))) ∧ M[b + 9]? = some (.inl (0, 120, .inl (fun i => nI (cr i))))
theorem VeAt.fr {M M1 : List zE} {b n q lo w : Nat} {e : Nat → zEnt} {ca ci cr : Nat → Nat} (h : VeAt M b n e q ca ci cr) (hf : zFr M M1 lo w) (hd : b + 10 ≤ lo ∨ lo + w ≤ b) : VeAt M1 b n e q ca ci cr := by
  obtain ⟨h0, h1, h2, h3, h4⟩ := h
  exact ⟨by rw [hf.2 _ (by omega)]; exact h0, h1.fr hf (by omega), by rw [hf.2 _ (by omega)]; exact h2, by rw [hf.2 _ (by omega)]; exact h3, by rw [hf.2 _ (by omega)]; exact h4⟩
theorem VeAt.pv {M M1 : List zE} {b n n' q : Nat} {e e' : Nat → zEnt} {ca ci cr : Nat → Nat} (h : VeAt M b n e q ca ci cr) (hp : PvAt M1 (b + 1) n' e') (hf : zFr M M1 (b + 1) 6) : VeAt M1 b n' e' q ca ci cr := by
  obtain ⟨h0, h1, h2, h3, h4⟩ := h
  exact ⟨by rw [hf.2 _ (by omega)]; exact h0, hp, by rw [hf.2 _ (by omega)]; exact h2, by rw [hf.2 _ (by omega)]; exact h3, by rw [hf.2 _ (by omega)]; exact h4⟩
theorem VeAt.q {M : List zE} {b n q q' : Nat} {e : Nat → zEnt} {ca ci cr : Nat → Nat} (h : VeAt M b n e q ca ci cr) : VeAt (M.set b (.inr (5, [.ref (b + 1), .int (nI q'), .ref (b + 7), .ref (b + 8), .ref (b + 9)]))) b n e q' ca ci cr := by
  obtain ⟨h0, h1, h2, h3, h4⟩ := h
  exact ⟨st_eq h0, h1.fr (lo := b) (w := 1) (zFr.rf.set (by omega) (by omega)) (by omega), (st_ne (by omega)).trans h2, (st_ne (by omega)).trans h3, (st_ne (by omega)).trans h4⟩
theorem VeAt.ca {M : List zE} {b n q k v : Nat} {e : Nat → zEnt} {ca ci cr : Nat → Nat} (h : VeAt M b n e q ca ci cr) : VeAt (M.set (b + 7) (.inl (0, 120, .inl (upd (fun i => nI (ca i)) k (nI v))))) b n e q (nup ca k v) ci cr := by
  obtain ⟨h0, h1, h2, h3, h4⟩ := h
  rw [upd_nI]
  exact ⟨(st_ne (by omega)).trans h0, h1.fr (lo := b + 7) (w := 1) (zFr.rf.set (by omega) (by omega)) (by omega), st_eq h2, (st_ne (by omega)).trans h3, (st_ne (by omega)).trans h4⟩
theorem VeAt.ci {M : List zE} {b n q k v : Nat} {e : Nat → zEnt} {ca ci cr : Nat → Nat} (h : VeAt M b n e q ca ci cr) : VeAt (M.set (b + 8) (.inl (0, 120, .inl (upd (fun i => nI (ci i)) k (nI v))))) b n e q ca (nup ci k v) cr := by
  obtain ⟨h0, h1, h2, h3, h4⟩ := h
  rw [upd_nI]
  exact ⟨(st_ne (by omega)).trans h0, h1.fr (lo := b + 8) (w := 1) (zFr.rf.set (by omega) (by omega)) (by omega), (st_ne (by omega)).trans h2, st_eq h3, (st_ne (by omega)).trans h4⟩
theorem VeAt.cr {M : List zE} {b n q k v : Nat} {e : Nat → zEnt} {ca ci cr : Nat → Nat} (h : VeAt M b n e q ca ci cr) : VeAt (M.set (b + 9) (.inl (0, 120, .inl (upd (fun i => nI (cr i)) k (nI v))))) b n e q ca ci (nup cr k v) := by
  obtain ⟨h0, h1, h2, h3, h4⟩ := h
  rw [upd_nI]
  exact ⟨(st_ne (by omega)).trans h0, h1.fr (lo := b + 9) (w := 1) (zFr.rf.set (by omega) (by omega)) (by omega), (st_ne (by omega)).trans h2, (st_ne (by omega)).trans h3, st_eq h4⟩
def posK (n : Nat) (e : Nat → zEnt) (k : Nat) : Option Nat := frst (fun i => decide (ek (e i) = k)) n
theorem pv_posK_ok {Γ : zCtx} {M : List zE} (d : Nat) {b n : Nat} {e : Nat → zEnt} (hP : PvAt M b n e) (hn : n ≤ 60) (hk : ∀ i, i < n → ek (e i) < 2 ^ 63) {k : Nat} (hk9 : k < 2 ^ 63) : ZM Γ (d + 1) m_pv_positionOf [.ref b, .long (lN k)] M (zEq M (some (.int (oI (posK n e k) (-1))))) := pv_positionOf_ok d hP hn hk hk9
def rsn (n : Nat) (e : Nat → zEnt) (kd k g : Nat) : Nat := match posK n e k, posK n e g with
  | some i, some j => if (er (e i) || er (e j)) = true then 2 else if kd = 1 ∧ lev k = 3 then 3 else if kd = 4 ∧ (lev k ≠ lev g ∨ k = g) then 3 else if kd ≤ 1 ∧ 60 ≤ n then 4 else 0
  | _, _ => 1
theorem rsn_eq {n : Nat} {e : Nat → zEnt} {kd k g i j : Nat} (h1 : posK n e k = some i) (h2 : posK n e g = some j) : rsn n e kd k g = if (er (e i) || er (e j)) = true then 2 else if kd = 1 ∧ lev k = 3 then 3 else if kd = 4 ∧ (lev k ≠ lev g ∨ k = g) then 3 else if kd ≤ 1 ∧ 60 ≤ n then 4 else 0 := by
  unfold rsn
  rw [h1, h2]
theorem rsn_n1 {n : Nat} {e : Nat → zEnt} {kd k g : Nat} (h1 : posK n e k = none) : rsn n e kd k g = 1 := by
  unfold rsn
  rw [h1]
theorem rsn_n2 {n : Nat} {e : Nat → zEnt} {kd k g : Nat} (h1 : posK n e g = none) : rsn n e kd k g = 1 := by
  unfold rsn
  rw [h1]
  cases posK n e k <;> rfl
def srtd (n : Nat) (e : Nat → zEnt) : Prop := ∀ p q, p < q → q < n → ek (e p) ≤ ek (e q)
/-- what an instruction that can be applied does -/
def vC (kd k g : Nat) (t : Int32) (a n : Nat) (e : Nat → zEnt) (n' : Nat) (e' : Nat → zEnt) (r : Nat) : Prop := match kd with
  | 0 => (aftl n e k 0 = none ∧ r = 5 ∧ n' = n ∧ e' = e) ∨ ∃ lb, aftl n e k 0 = some lb ∧ r = 0 ∧ n' = n + 1 ∧ zPerm (n + 1) (eup e n (putl k (lev k) lb, t, false, -9, nI a)) e' ∧ srtd (n + 1) e'
  | 1 => (newl n e k = none ∧ r = 5 ∧ n' = n ∧ e' = e) ∨ ∃ lb, newl n e k = some lb ∧ r = 0 ∧ n' = n + 1 ∧ zPerm (n + 1) (eup e n (putl k (lev k + 1) lb, t, false, -9, nI a)) e' ∧ srtd (n + 1) e'
  | 2 => ∃ i, posK n e k = some i ∧ r = 0 ∧ n' = n ∧ e' = eup e i (sT (e i) t)
  | 3 => r = 0 ∧ n' = n ∧ e' = rpE e k n
  | 4 => (aftl n e g k = none ∧ r = 5 ∧ n' = n ∧ e' = e) ∨ ∃ lb, aftl n e g k = some lb ∧ r = 0 ∧ n' = n ∧ zPerm n (cpE e k (putl g (lev g) lb) n) e' ∧ srtd n e'
  | _ => r = 0 ∧ n' = (rnS e k n).2.2.length ∧ ∀ j x, (rnS e k n).2.2[j]? = some x → e' j = x
/-- a key whose labels are labels -/
def vkey (k : Nat) : Prop := k < 2 ^ 63 ∧ 1 ≤ lev k ∧ ∀ l, 1 ≤ l → l ≤ 3 → lab k l < 1968300
def vInv (n : Nat) (e : Nat → zEnt) : Prop := n ≤ 60 ∧ ∀ i, i < n → vkey (ek (e i))
theorem vInv.k {n : Nat} {e : Nat → zEnt} (h : vInv n e) : ∀ i, i < n → ek (e i) < 2 ^ 63 := fun i hi => (h.2 i hi).1
theorem betw_lt {l m x : Nat} (h : betw l m = some x) : x < m := by
  unfold betw at h
  split at h
  · cases h; assumption
  · split at h
    · cases h
    · split at h
      · cases h; assumption
      · split at h
        · cases h
        · split at h
          · cases h; assumption
          · cases h
theorem lim_mono (e : Nat → zEnt) (k q : Nat) : ∀ i, lim e k q i ≤ (lab k (lev k) / 19683 + 1) * 19683
  | 0 => Nat.le_refl _
  | i + 1 => by
    have ih := lim_mono e k q i
    unfold lim
    split <;> omega
theorem aftl_lt {n : Nat} {e : Nat → zEnt} {k q x : Nat} (h : aftl n e k q = some x) (hk : lab k (lev k) < 1968300) : x < 1968300 := by
  have h1 := betw_lt h
  have h2 := lim_mono e k q n
  omega
theorem newl_lt {n : Nat} {e : Nat → zEnt} {k x : Nat} (h : newl n e k = some x) : x < 1968300 := by
  unfold newl at h
  split at h
  · cases h; omega
  · cases h
theorem putl_lt {k l b : Nat} (hk : k < 2 ^ 63) (h1 : 1 ≤ l) (h3 : l ≤ 3) (hb : b < 2097152) : putl k l b < 2 ^ 63 := by
  unfold putl
  rcases (show l = 1 ∨ l = 2 ∨ l = 3 by omega) with rfl | rfl | rfl
  · rw [un_1]; omega
  · rw [un_2]; omega
  · rw [un_3]; omega
theorem lev_un {k : Nat} : k % un (lev k) = 0 := by
  unfold lev
  split
  · rw [un_3, Nat.mod_one]
  · split
    · rw [un_2]; omega
    · split
      · rename_i h; rw [h]; exact Nat.zero_mod _
      · rw [un_1]; omega
theorem putl_un {k b : Nat} : putl k (lev k) b % un (lev k) = 0 := by
  unfold putl
  rw [lev_un, Nat.add_zero, Nat.mul_assoc, ← Nat.mul_comm (un (lev k)) b, ← Nat.mul_add]
  exact Nat.mul_mod_right _ _
set_option maxHeartbeats 4000000 in
theorem ver_hasConflict_ok {Γ : zCtx} {M : List zE} (d : Nat) {b n q : Nat} {e : Nat → zEnt} {ca ci cr : Nat → Nat} (hV : VeAt M b n e q ca ci cr) (hb : b ≤ 1000) (hq : q ≤ 120) {j : Nat} (hj : j < 2147483648) : ZM Γ (d + 1) m_ver_hasConflict [.ref b, .int (nI j)] M (zEq M (some (.int (nI (if j < q then 1 else 0))))) := by
  refine ZM.of mk_ver_hasConflict (Nat.le_of_ble_eq_true rfl) ?_
  refine Z_iload_n d_ver_hasConflict_0 rfl ?_
  refine Zn_if_lt (tgt := 16) d_ver_hasConflict_1 (by decide) (by omega) ?_
  refine Z_iload_n d_ver_hasConflict_4 rfl ?_
  refine Z_aload_n d_ver_hasConflict_5 rfl ?_
  refine Z_get d_ver_hasConflict_6 lf_ver_58 hV.1 rfl ?_
  refine Zn_icmp_ge (tgt := 16) d_ver_hasConflict_9 (by decide) (by omega) (by omega) (fun h9 => ?_) (fun h9 => ?_)
  · skip
    refine Zn_iconst (nI 0) d_ver_hasConflict_16 (by decide) ?_
    refine Z_zret d_ver_hasConflict_17 rfl rfl ?_
    refine ⟨rfl, ?_⟩
    first | rw [if_pos (by omega)] | rw [if_neg (by omega)]
  · skip
    refine Zn_iconst (nI 1) d_ver_hasConflict_12 (by decide) ?_
    refine Z_goto (tgt := 17) d_ver_hasConflict_13 (by decide) ?_
    refine Z_zret d_ver_hasConflict_17 rfl rfl ?_
    refine ⟨rfl, ?_⟩
    first | rw [if_pos (by omega)] | rw [if_neg (by omega)]
theorem ver_hasConflict_neg {Γ : zCtx} {M : List zE} (d : Nat) {b : Nat} {x : Int32} (hx : x < 0) : ZM Γ (d + 1) m_ver_hasConflict [.ref b, .int x] M (zEq M (some (.int (nI 0)))) := by
  refine ZM.of mk_ver_hasConflict (Nat.le_of_ble_eq_true rfl) ?_
  refine Z_iload_n d_ver_hasConflict_0 rfl ?_
  refine Z_if_lt (tgt := 16) d_ver_hasConflict_1 (by decide) (fun _ => ?_) (fun h => absurd hx h)
  refine Zn_iconst (nI 0) d_ver_hasConflict_16 (by decide) ?_
  exact Z_zret d_ver_hasConflict_17 rfl rfl ⟨rfl, rfl⟩
set_option maxHeartbeats 4000000 in
theorem ver_keepConflict_ok {Γ : zCtx} {M : List zE} (d : Nat) {b n q : Nat} {e : Nat → zEnt} {ca ci cr : Nat → Nat} (hV : VeAt M b n e q ca ci cr) (hb : b ≤ 1000) (hq : q < 120) {a i r : Nat} : ZM Γ (d + 1) m_ver_keepConflict [.ref b, .int (nI a), .int (nI i), .int (nI r)] M (fun M1 v => v = none ∧ VeAt M1 b n e (q + 1) (nup ca q a) (nup ci q i) (nup cr q r) ∧ zFr M M1 b 10) := by
  refine ZM.of mk_ver_keepConflict (Nat.le_of_ble_eq_true rfl) ?_
  refine Z_aload_n d_ver_keepConflict_0 rfl ?_
  refine Z_get d_ver_keepConflict_1 lf_ver_58 hV.1 rfl ?_
  refine Zn_bipush (nI 120) d_ver_keepConflict_4 (by decide) ?_
  refine Zn_icmp_lt (tgt := 10) d_ver_keepConflict_6 (by decide) (by omega) (by omega) (fun h6 => ?_) (fun h6 => ?_)
  · skip
    refine Z_aload_n d_ver_keepConflict_10 rfl ?_
    refine Z_get d_ver_keepConflict_11 lf_ver_18 hV.1 rfl ?_
    refine Z_aload_n d_ver_keepConflict_14 rfl ?_
    refine Z_get d_ver_keepConflict_15 lf_ver_58 hV.1 rfl ?_
    refine Z_iload_n d_ver_keepConflict_18 rfl ?_
    refine Zn_iast d_ver_keepConflict_19 hV.2.2.1 (by omega) (by omega) ?_
    have hV := hV.ca (k := q) (v := a)
    refine Z_aload_n d_ver_keepConflict_20 rfl ?_
    refine Z_get d_ver_keepConflict_21 lf_ver_22 hV.1 rfl ?_
    refine Z_aload_n d_ver_keepConflict_24 rfl ?_
    refine Z_get d_ver_keepConflict_25 lf_ver_58 hV.1 rfl ?_
    refine Z_iload_n d_ver_keepConflict_28 rfl ?_
    refine Zn_iast d_ver_keepConflict_29 hV.2.2.2.1 (by omega) (by omega) ?_
    have hV := hV.ci (k := q) (v := i)
    refine Z_aload_n d_ver_keepConflict_30 rfl ?_
    refine Z_get d_ver_keepConflict_31 lf_ver_25 hV.1 rfl ?_
    refine Z_aload_n d_ver_keepConflict_34 rfl ?_
    refine Z_get d_ver_keepConflict_35 lf_ver_58 hV.1 rfl ?_
    refine Z_iload_n d_ver_keepConflict_38 rfl ?_
    refine Zn_iast d_ver_keepConflict_39 hV.2.2.2.2 (by omega) (by omega) ?_
    have hV := hV.cr (k := q) (v := r)
    refine Z_aload_n d_ver_keepConflict_40 rfl ?_
    refine Z_dup d_ver_keepConflict_41 rfl ?_
    refine Z_get d_ver_keepConflict_42 lf_ver_58 hV.1 rfl ?_
    refine Zn_iconst (nI 1) d_ver_keepConflict_45 (by decide) ?_
    refine Zn_iadd d_ver_keepConflict_46 ?_
    refine Z_puti d_ver_keepConflict_47 lf_ver_58 hV.1 rfl rfl (Nat.le_of_ble_eq_true rfl) ?_
    refine Z_vret d_ver_keepConflict_50 rfl ?_
    exact ⟨rfl, hV.q, by (repeat (first | exact hF | exact zFr.rf | refine zFr.set ?_ (by omega) (by omega)))⟩
  · skip
    exact absurd hq h6 -- end
set_option maxHeartbeats 4000000 in
theorem ver_reason_mv {Γ : zCtx} {M : List zE} (d : Nat) {b n q : Nat} {e : Nat → zEnt} {ca ci cr : Nat → Nat} (hV : VeAt M b n e q ca ci cr) (hb : b ≤ 1000) {c m : Nat} {dy sz kd pt gl : Nat → Nat} {tx : Nat → Int32} (hA : AmAt M c m dy sz kd pt gl tx) (hI : vInv n e) {s : Nat} (hs : s < 120) (hks : kd s ≤ 5) (hkp : pt s < 2 ^ 63) (hkg : gl s < 2 ^ 63) (hmv : kd s = 4) : ZM Γ (d + 2) m_ver_reasonAgainst [.ref b, .ref c, .int (nI s)] M (zEq M (some (.int (nI (rsn n e (kd s) (pt s) (gl s)))))) := by
  refine ZM.of mk_ver_reasonAgainst (Nat.le_of_ble_eq_true rfl) ?_
  have hl1 := lev_le (pt s)
  have hl2 := lev_le (gl s)
  have hn := hI.1
  rw [show zEn [.ref b, .ref c, .int (nI s)] = [some (.ref b), some (.ref c), some (.int (nI s))] from rfl]
  refine zPad 8 ?_
  show Z _ _ _ _ _ _ _ [some (.ref b), some (.ref c), some (.int (nI s)), none, none, none, none, none, none, none, none] _ _
  refine Z_aload_n d_ver_reasonAgainst_0 rfl ?_
  refine Z_get d_ver_reasonAgainst_1 lf_ver_83 hA.1 rfl ?_
  refine Z_iload_n d_ver_reasonAgainst_4 rfl ?_
  refine Zn_iald d_ver_reasonAgainst_5 hA.2.2.2.1 (by omega) (by omega) ?_
  refine Zn_istore_n [some (.ref b), some (.ref c), some (.int (nI s)), some (.int (nI (kd s))), none, none, none, none, none, none, none] d_ver_reasonAgainst_6 (by decide) rfl ?_
  refine Z_aload_n d_ver_reasonAgainst_7 rfl ?_
  refine Z_get d_ver_reasonAgainst_8 lf_ver_86 hA.1 rfl ?_
  refine Z_iload_n d_ver_reasonAgainst_11 rfl ?_
  refine Zn_lald d_ver_reasonAgainst_12 hA.2.2.2.2.1 (by omega) (by omega) ?_
  refine Zn_lstore [some (.ref b), some (.ref c), some (.int (nI s)), some (.int (nI (kd s))), some (.long (lN (pt s))), none, none, none, none, none, none] d_ver_reasonAgainst_13 (by decide) rfl ?_
  refine Z_iload_n d_ver_reasonAgainst_15 rfl ?_
  refine Zn_iconst (nI 4) d_ver_reasonAgainst_16 (by decide) ?_
  refine Zn_icmp_ne (tgt := 29) d_ver_reasonAgainst_17 (by decide) (by omega) (by omega) (fun h17 => ?_) (fun h17 => ?_)
  · skip
    exact absurd hmv h17 -- end
  · skip
    skip
    refine Z_aload_n d_ver_reasonAgainst_20 rfl ?_
    refine Z_get d_ver_reasonAgainst_21 lf_ver_90 hA.1 rfl ?_
    refine Z_iload_n d_ver_reasonAgainst_24 rfl ?_
    refine Zn_lald d_ver_reasonAgainst_25 hA.2.2.2.2.2.1 (by omega) (by omega) ?_
    refine Z_goto (tgt := 31) d_ver_reasonAgainst_26 (by decide) ?_
    refine Zn_lstore [some (.ref b), some (.ref c), some (.int (nI s)), some (.int (nI (kd s))), some (.long (lN (pt s))), none, some (.long (lN (gl s))), none, none, none, none] d_ver_reasonAgainst_31 (by decide) rfl ?_
    refine Z_aload_n d_ver_reasonAgainst_33 rfl ?_
    refine Z_get d_ver_reasonAgainst_34 lf_ver_12 hV.1 rfl ?_
    refine Z_lload d_ver_reasonAgainst_37 rfl ?_
    refine zVe (As := [.long (lN (pt s))]) (by omega) d_ver_reasonAgainst_39 lm_ver_93 hV.2.1.1 rfl rfl (Nat.le_of_ble_eq_true rfl) (pv_posK_ok (d + 0) hV.2.1 hI.1 hI.k (k := pt s) hkp) ?_
    rcases hr : posK n e (pt s) with _ | i
    · skip
      refine Zn_istore [some (.ref b), some (.ref c), some (.int (nI s)), some (.int (nI (kd s))), some (.long (lN (pt s))), none, some (.long (lN (gl s))), none, some (.int (-1)), none, none] d_ver_reasonAgainst_42 (by decide) rfl ?_
      refine Z_aload_n d_ver_reasonAgainst_44 rfl ?_
      refine Z_get d_ver_reasonAgainst_45 lf_ver_12 hV.1 rfl ?_
      refine Z_lload d_ver_reasonAgainst_48 rfl ?_
      refine zVe (As := [.long (lN (gl s))]) (by omega) d_ver_reasonAgainst_50 lm_ver_93 hV.2.1.1 rfl rfl (Nat.le_of_ble_eq_true rfl) (pv_posK_ok (d + 0) hV.2.1 hI.1 hI.k (k := gl s) hkg) ?_
      rcases hr2 : posK n e (gl s) with _ | i2
      · skip
        refine Zn_istore [some (.ref b), some (.ref c), some (.int (nI s)), some (.int (nI (kd s))), some (.long (lN (pt s))), none, some (.long (lN (gl s))), none, some (.int (-1)), some (.int (-1)), none] d_ver_reasonAgainst_53 (by decide) rfl ?_
        refine Z_iload d_ver_reasonAgainst_55 rfl ?_
        refine Z_if_lt (tgt := 65) d_ver_reasonAgainst_57 (by decide) (fun h57 => ?_) (fun h57 => ?_)
        · skip
          refine Zn_iconst (nI 1) d_ver_reasonAgainst_65 (by decide) ?_
          refine Z_iret d_ver_reasonAgainst_66 rfl ?_
          first | exact ⟨rfl, by rw [rsn_n1 hr]⟩ | exact ⟨rfl, by rw [rsn_n2 hr2]⟩
        · skip
          exact absurd (by decide) h57 -- end
      · skip
        have hi2 := (frst_some.mp hr2).1
        refine Zn_istore [some (.ref b), some (.ref c), some (.int (nI s)), some (.int (nI (kd s))), some (.long (lN (pt s))), none, some (.long (lN (gl s))), none, some (.int (-1)), some (.int (nI i2)), none] d_ver_reasonAgainst_53 (by decide) rfl ?_
        refine Z_iload d_ver_reasonAgainst_55 rfl ?_
        refine Z_if_lt (tgt := 65) d_ver_reasonAgainst_57 (by decide) (fun h57 => ?_) (fun h57 => ?_)
        · skip
          refine Zn_iconst (nI 1) d_ver_reasonAgainst_65 (by decide) ?_
          refine Z_iret d_ver_reasonAgainst_66 rfl ?_
          first | exact ⟨rfl, by rw [rsn_n1 hr]⟩ | exact ⟨rfl, by rw [rsn_n2 hr2]⟩
        · skip
          exact absurd (by decide) h57 -- end
    · skip
      have hi := (frst_some.mp hr).1
      refine Zn_istore [some (.ref b), some (.ref c), some (.int (nI s)), some (.int (nI (kd s))), some (.long (lN (pt s))), none, some (.long (lN (gl s))), none, some (.int (nI i)), none, none] d_ver_reasonAgainst_42 (by decide) rfl ?_
      refine Z_aload_n d_ver_reasonAgainst_44 rfl ?_
      refine Z_get d_ver_reasonAgainst_45 lf_ver_12 hV.1 rfl ?_
      refine Z_lload d_ver_reasonAgainst_48 rfl ?_
      refine zVe (As := [.long (lN (gl s))]) (by omega) d_ver_reasonAgainst_50 lm_ver_93 hV.2.1.1 rfl rfl (Nat.le_of_ble_eq_true rfl) (pv_posK_ok (d + 0) hV.2.1 hI.1 hI.k (k := gl s) hkg) ?_
      rcases hr2 : posK n e (gl s) with _ | i2
      · skip
        refine Zn_istore [some (.ref b), some (.ref c), some (.int (nI s)), some (.int (nI (kd s))), some (.long (lN (pt s))), none, some (.long (lN (gl s))), none, some (.int (nI i)), some (.int (-1)), none] d_ver_reasonAgainst_53 (by decide) rfl ?_
        refine Z_iload d_ver_reasonAgainst_55 rfl ?_
        refine Zn_if_lt (tgt := 65) d_ver_reasonAgainst_57 (by decide) (by omega) ?_
        refine Z_iload d_ver_reasonAgainst_60 rfl ?_
        refine Z_if_ge (tgt := 67) d_ver_reasonAgainst_62 (by decide) (fun h62 => ?_) (fun h62 => ?_)
        · skip
          exact absurd h62 (by decide) -- end
        · skip
          refine Zn_iconst (nI 1) d_ver_reasonAgainst_65 (by decide) ?_
          refine Z_iret d_ver_reasonAgainst_66 rfl ?_
          first | exact ⟨rfl, by rw [rsn_n1 hr]⟩ | exact ⟨rfl, by rw [rsn_n2 hr2]⟩
      · skip
        have hi2 := (frst_some.mp hr2).1
        refine Zn_istore [some (.ref b), some (.ref c), some (.int (nI s)), some (.int (nI (kd s))), some (.long (lN (pt s))), none, some (.long (lN (gl s))), none, some (.int (nI i)), some (.int (nI i2)), none] d_ver_reasonAgainst_53 (by decide) rfl ?_
        refine Z_iload d_ver_reasonAgainst_55 rfl ?_
        refine Zn_if_lt (tgt := 65) d_ver_reasonAgainst_57 (by decide) (by omega) ?_
        refine Z_iload d_ver_reasonAgainst_60 rfl ?_
        refine Zn_if_ge (tgt := 67) d_ver_reasonAgainst_62 (by decide) (by omega) ?_
        refine Z_aload_n d_ver_reasonAgainst_67 rfl ?_
        refine Z_get d_ver_reasonAgainst_68 lf_ver_12 hV.1 rfl ?_
        refine Z_get d_ver_reasonAgainst_71 lf_ver_97 hV.2.1.1 rfl ?_
        refine Z_iload d_ver_reasonAgainst_74 rfl ?_
        refine Zn_zald d_ver_reasonAgainst_76 hV.2.1.2.2.2.1 (by omega) (by omega) ?_
        refine Z_if_ne (tgt := 93) d_ver_reasonAgainst_77 (by decide) (fun h77 => ?_) (fun h77 => ?_)
        · skip
          have h77 : er (e i) = true := by
            cases hh : er (e i) with
            | true => rfl
            | false => exact absurd (bI_0.mpr hh) h77
          have her : (er (e i) || er (e i2)) = true := by rw [h77]; rfl
          refine Zn_iconst (nI 2) d_ver_reasonAgainst_93 (by decide) ?_
          refine Z_iret d_ver_reasonAgainst_94 rfl ?_
          first | (exfalso; omega) | (refine ⟨rfl, ?_⟩; rw [rsn_eq hr hr2, her]; (repeat (first | rw [if_neg (by first | decide | omega)] | rw [if_pos (by first | rfl | omega)])); done)
        · skip
          have h77 := bI_0.mp h77
          refine Z_aload_n d_ver_reasonAgainst_80 rfl ?_
          refine Z_get d_ver_reasonAgainst_81 lf_ver_12 hV.1 rfl ?_
          refine Z_get d_ver_reasonAgainst_84 lf_ver_97 hV.2.1.1 rfl ?_
          refine Z_iload d_ver_reasonAgainst_87 rfl ?_
          refine Zn_zald d_ver_reasonAgainst_89 hV.2.1.2.2.2.1 (by omega) (by omega) ?_
          refine Z_if_eq (tgt := 95) d_ver_reasonAgainst_90 (by decide) (fun h90 => ?_) (fun h90 => ?_)
          · skip
            have h90 := bI_0.mp h90
            have her : (er (e i) || er (e i2)) = false := by rw [h77, h90]; rfl
            refine Z_lload d_ver_reasonAgainst_95 rfl ?_
            refine zTe (As := [.long (lN (pt s))]) (by omega) d_ver_reasonAgainst_97 lm_ver_101 rfl (Nat.le_of_ble_eq_true rfl) (pa_levelOf_ok (d + 0) hkp) ?_
            refine Zn_istore [some (.ref b), some (.ref c), some (.int (nI s)), some (.int (nI (kd s))), some (.long (lN (pt s))), none, some (.long (lN (gl s))), none, some (.int (nI i)), some (.int (nI i2)), some (.int (nI (lev (pt s))))] d_ver_reasonAgainst_100 (by decide) rfl ?_
            refine Z_iload_n d_ver_reasonAgainst_102 rfl ?_
            refine Zn_iconst (nI 1) d_ver_reasonAgainst_103 (by decide) ?_
            refine Zn_icmp_ne (tgt := 115) d_ver_reasonAgainst_104 (by decide) (by omega) (by omega) (fun h104 => ?_) (fun h104 => ?_)
            · skip
              refine Z_iload_n d_ver_reasonAgainst_115 rfl ?_
              refine Zn_iconst (nI 4) d_ver_reasonAgainst_116 (by decide) ?_
              refine Zn_icmp_ne (tgt := 140) d_ver_reasonAgainst_117 (by decide) (by omega) (by omega) (fun h117 => ?_) (fun h117 => ?_)
              · skip
                refine Z_iload_n d_ver_reasonAgainst_140 rfl ?_
                refine Zn_if_eq (tgt := 149) d_ver_reasonAgainst_141 (by decide) (by omega) (fun h141 => ?_) (fun h141 => ?_)
                · skip
                  refine Z_aload_n d_ver_reasonAgainst_149 rfl ?_
                  refine Z_get d_ver_reasonAgainst_150 lf_ver_12 hV.1 rfl ?_
                  refine Z_get d_ver_reasonAgainst_153 lf_ver_106 hV.2.1.1 rfl ?_
                  refine Zn_bipush (nI 60) d_ver_reasonAgainst_156 (by decide) ?_
                  refine Zn_icmp_lt (tgt := 163) d_ver_reasonAgainst_158 (by decide) (by omega) (by omega) (fun h158 => ?_) (fun h158 => ?_)
                  · skip
                    refine Zn_iconst (nI 0) d_ver_reasonAgainst_163 (by decide) ?_
                    refine Z_iret d_ver_reasonAgainst_164 rfl ?_
                    first | (exfalso; omega) | (refine ⟨rfl, ?_⟩; rw [rsn_eq hr hr2, her]; (repeat (first | rw [if_neg (by first | decide | omega)] | rw [if_pos (by first | rfl | omega)])); done)
                  · skip
                    refine Zn_iconst (nI 4) d_ver_reasonAgainst_161 (by decide) ?_
                    refine Z_iret d_ver_reasonAgainst_162 rfl ?_
                    first | (exfalso; omega) | (refine ⟨rfl, ?_⟩; rw [rsn_eq hr hr2, her]; (repeat (first | rw [if_neg (by first | decide | omega)] | rw [if_pos (by first | rfl | omega)])); done)
                · skip
                  refine Z_iload_n d_ver_reasonAgainst_144 rfl ?_
                  refine Zn_iconst (nI 1) d_ver_reasonAgainst_145 (by decide) ?_
                  refine Zn_icmp_ne (tgt := 163) d_ver_reasonAgainst_146 (by decide) (by omega) (by omega) (fun h146 => ?_) (fun h146 => ?_)
                  · skip
                    refine Zn_iconst (nI 0) d_ver_reasonAgainst_163 (by decide) ?_
                    refine Z_iret d_ver_reasonAgainst_164 rfl ?_
                    first | (exfalso; omega) | (refine ⟨rfl, ?_⟩; rw [rsn_eq hr hr2, her]; (repeat (first | rw [if_neg (by first | decide | omega)] | rw [if_pos (by first | rfl | omega)])); done)
                  · skip
                    refine Z_aload_n d_ver_reasonAgainst_149 rfl ?_
                    refine Z_get d_ver_reasonAgainst_150 lf_ver_12 hV.1 rfl ?_
                    refine Z_get d_ver_reasonAgainst_153 lf_ver_106 hV.2.1.1 rfl ?_
                    refine Zn_bipush (nI 60) d_ver_reasonAgainst_156 (by decide) ?_
                    refine Zn_icmp_lt (tgt := 163) d_ver_reasonAgainst_158 (by decide) (by omega) (by omega) (fun h158 => ?_) (fun h158 => ?_)
                    · skip
                      refine Zn_iconst (nI 0) d_ver_reasonAgainst_163 (by decide) ?_
                      refine Z_iret d_ver_reasonAgainst_164 rfl ?_
                      first | (exfalso; omega) | (refine ⟨rfl, ?_⟩; rw [rsn_eq hr hr2, her]; (repeat (first | rw [if_neg (by first | decide | omega)] | rw [if_pos (by first | rfl | omega)])); done)
                    · skip
                      refine Zn_iconst (nI 4) d_ver_reasonAgainst_161 (by decide) ?_
                      refine Z_iret d_ver_reasonAgainst_162 rfl ?_
                      first | (exfalso; omega) | (refine ⟨rfl, ?_⟩; rw [rsn_eq hr hr2, her]; (repeat (first | rw [if_neg (by first | decide | omega)] | rw [if_pos (by first | rfl | omega)])); done)
              · skip
                refine Z_iload d_ver_reasonAgainst_120 rfl ?_
                refine Z_lload d_ver_reasonAgainst_122 rfl ?_
                refine zTe (As := [.long (lN (gl s))]) (by omega) d_ver_reasonAgainst_124 lm_ver_101 rfl (Nat.le_of_ble_eq_true rfl) (pa_levelOf_ok (d + 0) hkg) ?_
                refine Zn_icmp_ne (tgt := 138) d_ver_reasonAgainst_127 (by decide) (by omega) (by omega) (fun h127 => ?_) (fun h127 => ?_)
                · skip
                  refine Zn_iconst (nI 3) d_ver_reasonAgainst_138 (by decide) ?_
                  refine Z_iret d_ver_reasonAgainst_139 rfl ?_
                  first | (exfalso; omega) | (refine ⟨rfl, ?_⟩; rw [rsn_eq hr hr2, her]; (repeat (first | rw [if_neg (by first | decide | omega)] | rw [if_pos (by first | rfl | omega)])); done)
                · skip
                  refine Z_lload d_ver_reasonAgainst_130 rfl ?_
                  refine Z_lload d_ver_reasonAgainst_132 rfl ?_
                  refine Z_lcmp d_ver_reasonAgainst_134 ?_
                  refine Z_if_ne (tgt := 140) d_ver_reasonAgainst_135 (by decide) (fun h135 => ?_) (fun h135 => ?_)
                  · skip
                    have h135 : ¬ pt s = gl s := fun z => h135 ((zlN hkp hkg).mpr z)
                    refine Z_iload_n d_ver_reasonAgainst_140 rfl ?_
                    refine Zn_if_eq (tgt := 149) d_ver_reasonAgainst_141 (by decide) (by omega) (fun h141 => ?_) (fun h141 => ?_)
                    · skip
                      refine Z_aload_n d_ver_reasonAgainst_149 rfl ?_
                      refine Z_get d_ver_reasonAgainst_150 lf_ver_12 hV.1 rfl ?_
                      refine Z_get d_ver_reasonAgainst_153 lf_ver_106 hV.2.1.1 rfl ?_
                      refine Zn_bipush (nI 60) d_ver_reasonAgainst_156 (by decide) ?_
                      refine Zn_icmp_lt (tgt := 163) d_ver_reasonAgainst_158 (by decide) (by omega) (by omega) (fun h158 => ?_) (fun h158 => ?_)
                      · skip
                        refine Zn_iconst (nI 0) d_ver_reasonAgainst_163 (by decide) ?_
                        refine Z_iret d_ver_reasonAgainst_164 rfl ?_
                        first | (exfalso; omega) | (refine ⟨rfl, ?_⟩; rw [rsn_eq hr hr2, her]; (repeat (first | rw [if_neg (by first | decide | omega)] | rw [if_pos (by first | rfl | omega)])); done)
                      · skip
                        refine Zn_iconst (nI 4) d_ver_reasonAgainst_161 (by decide) ?_
                        refine Z_iret d_ver_reasonAgainst_162 rfl ?_
                        first | (exfalso; omega) | (refine ⟨rfl, ?_⟩; rw [rsn_eq hr hr2, her]; (repeat (first | rw [if_neg (by first | decide | omega)] | rw [if_pos (by first | rfl | omega)])); done)
                    · skip
                      refine Z_iload_n d_ver_reasonAgainst_144 rfl ?_
                      refine Zn_iconst (nI 1) d_ver_reasonAgainst_145 (by decide) ?_
                      refine Zn_icmp_ne (tgt := 163) d_ver_reasonAgainst_146 (by decide) (by omega) (by omega) (fun h146 => ?_) (fun h146 => ?_)
                      · skip
                        refine Zn_iconst (nI 0) d_ver_reasonAgainst_163 (by decide) ?_
                        refine Z_iret d_ver_reasonAgainst_164 rfl ?_
                        first | (exfalso; omega) | (refine ⟨rfl, ?_⟩; rw [rsn_eq hr hr2, her]; (repeat (first | rw [if_neg (by first | decide | omega)] | rw [if_pos (by first | rfl | omega)])); done)
                      · skip
                        refine Z_aload_n d_ver_reasonAgainst_149 rfl ?_
                        refine Z_get d_ver_reasonAgainst_150 lf_ver_12 hV.1 rfl ?_
                        refine Z_get d_ver_reasonAgainst_153 lf_ver_106 hV.2.1.1 rfl ?_
                        refine Zn_bipush (nI 60) d_ver_reasonAgainst_156 (by decide) ?_
                        refine Zn_icmp_lt (tgt := 163) d_ver_reasonAgainst_158 (by decide) (by omega) (by omega) (fun h158 => ?_) (fun h158 => ?_)
                        · skip
                          refine Zn_iconst (nI 0) d_ver_reasonAgainst_163 (by decide) ?_
                          refine Z_iret d_ver_reasonAgainst_164 rfl ?_
                          first | (exfalso; omega) | (refine ⟨rfl, ?_⟩; rw [rsn_eq hr hr2, her]; (repeat (first | rw [if_neg (by first | decide | omega)] | rw [if_pos (by first | rfl | omega)])); done)
                        · skip
                          refine Zn_iconst (nI 4) d_ver_reasonAgainst_161 (by decide) ?_
                          refine Z_iret d_ver_reasonAgainst_162 rfl ?_
                          first | (exfalso; omega) | (refine ⟨rfl, ?_⟩; rw [rsn_eq hr hr2, her]; (repeat (first | rw [if_neg (by first | decide | omega)] | rw [if_pos (by first | rfl | omega)])); done)
                  · skip
                    have h135 : pt s = gl s := (zlN hkp hkg).mp h135
                    refine Zn_iconst (nI 3) d_ver_reasonAgainst_138 (by decide) ?_
                    refine Z_iret d_ver_reasonAgainst_139 rfl ?_
                    first | (exfalso; omega) | (refine ⟨rfl, ?_⟩; rw [rsn_eq hr hr2, her]; (repeat (first | rw [if_neg (by first | decide | omega)] | rw [if_pos (by first | rfl | omega)])); done)
            · skip
              refine Z_iload d_ver_reasonAgainst_107 rfl ?_
              refine Zn_iconst (nI 3) d_ver_reasonAgainst_109 (by decide) ?_
              refine Zn_icmp_ne (tgt := 115) d_ver_reasonAgainst_110 (by decide) (by omega) (by omega) (fun h110 => ?_) (fun h110 => ?_)
              · skip
                refine Z_iload_n d_ver_reasonAgainst_115 rfl ?_
                refine Zn_iconst (nI 4) d_ver_reasonAgainst_116 (by decide) ?_
                refine Zn_icmp_ne (tgt := 140) d_ver_reasonAgainst_117 (by decide) (by omega) (by omega) (fun h117 => ?_) (fun h117 => ?_)
                · skip
                  refine Z_iload_n d_ver_reasonAgainst_140 rfl ?_
                  refine Zn_if_eq (tgt := 149) d_ver_reasonAgainst_141 (by decide) (by omega) (fun h141 => ?_) (fun h141 => ?_)
                  · skip
                    refine Z_aload_n d_ver_reasonAgainst_149 rfl ?_
                    refine Z_get d_ver_reasonAgainst_150 lf_ver_12 hV.1 rfl ?_
                    refine Z_get d_ver_reasonAgainst_153 lf_ver_106 hV.2.1.1 rfl ?_
                    refine Zn_bipush (nI 60) d_ver_reasonAgainst_156 (by decide) ?_
                    refine Zn_icmp_lt (tgt := 163) d_ver_reasonAgainst_158 (by decide) (by omega) (by omega) (fun h158 => ?_) (fun h158 => ?_)
                    · skip
                      refine Zn_iconst (nI 0) d_ver_reasonAgainst_163 (by decide) ?_
                      refine Z_iret d_ver_reasonAgainst_164 rfl ?_
                      first | (exfalso; omega) | (refine ⟨rfl, ?_⟩; rw [rsn_eq hr hr2, her]; (repeat (first | rw [if_neg (by first | decide | omega)] | rw [if_pos (by first | rfl | omega)])); done)
                    · skip
                      refine Zn_iconst (nI 4) d_ver_reasonAgainst_161 (by decide) ?_
                      refine Z_iret d_ver_reasonAgainst_162 rfl ?_
                      first | (exfalso; omega) | (refine ⟨rfl, ?_⟩; rw [rsn_eq hr hr2, her]; (repeat (first | rw [if_neg (by first | decide | omega)] | rw [if_pos (by first | rfl | omega)])); done)
                  · skip
                    refine Z_iload_n d_ver_reasonAgainst_144 rfl ?_
                    refine Zn_iconst (nI 1) d_ver_reasonAgainst_145 (by decide) ?_
                    refine Zn_icmp_ne (tgt := 163) d_ver_reasonAgainst_146 (by decide) (by omega) (by omega) (fun h146 => ?_) (fun h146 => ?_)
                    · skip
                      refine Zn_iconst (nI 0) d_ver_reasonAgainst_163 (by decide) ?_
                      refine Z_iret d_ver_reasonAgainst_164 rfl ?_
                      first | (exfalso; omega) | (refine ⟨rfl, ?_⟩; rw [rsn_eq hr hr2, her]; (repeat (first | rw [if_neg (by first | decide | omega)] | rw [if_pos (by first | rfl | omega)])); done)
                    · skip
                      refine Z_aload_n d_ver_reasonAgainst_149 rfl ?_
                      refine Z_get d_ver_reasonAgainst_150 lf_ver_12 hV.1 rfl ?_
                      refine Z_get d_ver_reasonAgainst_153 lf_ver_106 hV.2.1.1 rfl ?_
                      refine Zn_bipush (nI 60) d_ver_reasonAgainst_156 (by decide) ?_
                      refine Zn_icmp_lt (tgt := 163) d_ver_reasonAgainst_158 (by decide) (by omega) (by omega) (fun h158 => ?_) (fun h158 => ?_)
                      · skip
                        refine Zn_iconst (nI 0) d_ver_reasonAgainst_163 (by decide) ?_
                        refine Z_iret d_ver_reasonAgainst_164 rfl ?_
                        first | (exfalso; omega) | (refine ⟨rfl, ?_⟩; rw [rsn_eq hr hr2, her]; (repeat (first | rw [if_neg (by first | decide | omega)] | rw [if_pos (by first | rfl | omega)])); done)
                      · skip
                        refine Zn_iconst (nI 4) d_ver_reasonAgainst_161 (by decide) ?_
                        refine Z_iret d_ver_reasonAgainst_162 rfl ?_
                        first | (exfalso; omega) | (refine ⟨rfl, ?_⟩; rw [rsn_eq hr hr2, her]; (repeat (first | rw [if_neg (by first | decide | omega)] | rw [if_pos (by first | rfl | omega)])); done)
                · skip
                  refine Z_iload d_ver_reasonAgainst_120 rfl ?_
                  refine Z_lload d_ver_reasonAgainst_122 rfl ?_
                  refine zTe (As := [.long (lN (gl s))]) (by omega) d_ver_reasonAgainst_124 lm_ver_101 rfl (Nat.le_of_ble_eq_true rfl) (pa_levelOf_ok (d + 0) hkg) ?_
                  refine Zn_icmp_ne (tgt := 138) d_ver_reasonAgainst_127 (by decide) (by omega) (by omega) (fun h127 => ?_) (fun h127 => ?_)
                  · skip
                    refine Zn_iconst (nI 3) d_ver_reasonAgainst_138 (by decide) ?_
                    refine Z_iret d_ver_reasonAgainst_139 rfl ?_
                    first | (exfalso; omega) | (refine ⟨rfl, ?_⟩; rw [rsn_eq hr hr2, her]; (repeat (first | rw [if_neg (by first | decide | omega)] | rw [if_pos (by first | rfl | omega)])); done)
                  · skip
                    refine Z_lload d_ver_reasonAgainst_130 rfl ?_
                    refine Z_lload d_ver_reasonAgainst_132 rfl ?_
                    refine Z_lcmp d_ver_reasonAgainst_134 ?_
                    refine Z_if_ne (tgt := 140) d_ver_reasonAgainst_135 (by decide) (fun h135 => ?_) (fun h135 => ?_)
                    · skip
                      have h135 : ¬ pt s = gl s := fun z => h135 ((zlN hkp hkg).mpr z)
                      refine Z_iload_n d_ver_reasonAgainst_140 rfl ?_
                      refine Zn_if_eq (tgt := 149) d_ver_reasonAgainst_141 (by decide) (by omega) (fun h141 => ?_) (fun h141 => ?_)
                      · skip
                        refine Z_aload_n d_ver_reasonAgainst_149 rfl ?_
                        refine Z_get d_ver_reasonAgainst_150 lf_ver_12 hV.1 rfl ?_
                        refine Z_get d_ver_reasonAgainst_153 lf_ver_106 hV.2.1.1 rfl ?_
                        refine Zn_bipush (nI 60) d_ver_reasonAgainst_156 (by decide) ?_
                        refine Zn_icmp_lt (tgt := 163) d_ver_reasonAgainst_158 (by decide) (by omega) (by omega) (fun h158 => ?_) (fun h158 => ?_)
                        · skip
                          refine Zn_iconst (nI 0) d_ver_reasonAgainst_163 (by decide) ?_
                          refine Z_iret d_ver_reasonAgainst_164 rfl ?_
                          first | (exfalso; omega) | (refine ⟨rfl, ?_⟩; rw [rsn_eq hr hr2, her]; (repeat (first | rw [if_neg (by first | decide | omega)] | rw [if_pos (by first | rfl | omega)])); done)
                        · skip
                          refine Zn_iconst (nI 4) d_ver_reasonAgainst_161 (by decide) ?_
                          refine Z_iret d_ver_reasonAgainst_162 rfl ?_
                          first | (exfalso; omega) | (refine ⟨rfl, ?_⟩; rw [rsn_eq hr hr2, her]; (repeat (first | rw [if_neg (by first | decide | omega)] | rw [if_pos (by first | rfl | omega)])); done)
                      · skip
                        refine Z_iload_n d_ver_reasonAgainst_144 rfl ?_
                        refine Zn_iconst (nI 1) d_ver_reasonAgainst_145 (by decide) ?_
                        refine Zn_icmp_ne (tgt := 163) d_ver_reasonAgainst_146 (by decide) (by omega) (by omega) (fun h146 => ?_) (fun h146 => ?_)
                        · skip
                          refine Zn_iconst (nI 0) d_ver_reasonAgainst_163 (by decide) ?_
                          refine Z_iret d_ver_reasonAgainst_164 rfl ?_
                          first | (exfalso; omega) | (refine ⟨rfl, ?_⟩; rw [rsn_eq hr hr2, her]; (repeat (first | rw [if_neg (by first | decide | omega)] | rw [if_pos (by first | rfl | omega)])); done)
                        · skip
                          refine Z_aload_n d_ver_reasonAgainst_149 rfl ?_
                          refine Z_get d_ver_reasonAgainst_150 lf_ver_12 hV.1 rfl ?_
                          refine Z_get d_ver_reasonAgainst_153 lf_ver_106 hV.2.1.1 rfl ?_
                          refine Zn_bipush (nI 60) d_ver_reasonAgainst_156 (by decide) ?_
                          refine Zn_icmp_lt (tgt := 163) d_ver_reasonAgainst_158 (by decide) (by omega) (by omega) (fun h158 => ?_) (fun h158 => ?_)
                          · skip
                            refine Zn_iconst (nI 0) d_ver_reasonAgainst_163 (by decide) ?_
                            refine Z_iret d_ver_reasonAgainst_164 rfl ?_
                            first | (exfalso; omega) | (refine ⟨rfl, ?_⟩; rw [rsn_eq hr hr2, her]; (repeat (first | rw [if_neg (by first | decide | omega)] | rw [if_pos (by first | rfl | omega)])); done)
                          · skip
                            refine Zn_iconst (nI 4) d_ver_reasonAgainst_161 (by decide) ?_
                            refine Z_iret d_ver_reasonAgainst_162 rfl ?_
                            first | (exfalso; omega) | (refine ⟨rfl, ?_⟩; rw [rsn_eq hr hr2, her]; (repeat (first | rw [if_neg (by first | decide | omega)] | rw [if_pos (by first | rfl | omega)])); done)
                    · skip
                      have h135 : pt s = gl s := (zlN hkp hkg).mp h135
                      refine Zn_iconst (nI 3) d_ver_reasonAgainst_138 (by decide) ?_
                      refine Z_iret d_ver_reasonAgainst_139 rfl ?_
                      first | (exfalso; omega) | (refine ⟨rfl, ?_⟩; rw [rsn_eq hr hr2, her]; (repeat (first | rw [if_neg (by first | decide | omega)] | rw [if_pos (by first | rfl | omega)])); done)
              · skip
                refine Zn_iconst (nI 3) d_ver_reasonAgainst_113 (by decide) ?_
                refine Z_iret d_ver_reasonAgainst_114 rfl ?_
                first | (exfalso; omega) | (refine ⟨rfl, ?_⟩; rw [rsn_eq hr hr2, her]; (repeat (first | rw [if_neg (by first | decide | omega)] | rw [if_pos (by first | rfl | omega)])); done)
          · skip
            have h90 : er (e i2) = true := by
              cases hh : er (e i2) with
              | true => rfl
              | false => exact absurd (bI_0.mpr hh) h90
            have her : (er (e i) || er (e i2)) = true := by rw [h90]; cases er (e i) <;> rfl
            refine Zn_iconst (nI 2) d_ver_reasonAgainst_93 (by decide) ?_
            refine Z_iret d_ver_reasonAgainst_94 rfl ?_
            first | (exfalso; omega) | (refine ⟨rfl, ?_⟩; rw [rsn_eq hr hr2, her]; (repeat (first | rw [if_neg (by first | decide | omega)] | rw [if_pos (by first | rfl | omega)])); done)
set_option maxHeartbeats 4000000 in
theorem ver_reason_no {Γ : zCtx} {M : List zE} (d : Nat) {b n q : Nat} {e : Nat → zEnt} {ca ci cr : Nat → Nat} (hV : VeAt M b n e q ca ci cr) (hb : b ≤ 1000) {c m : Nat} {dy sz kd pt gl : Nat → Nat} {tx : Nat → Int32} (hA : AmAt M c m dy sz kd pt gl tx) (hI : vInv n e) {s : Nat} (hs : s < 120) (hks : kd s ≤ 5) (hkp : pt s < 2 ^ 63) (hkg : gl s < 2 ^ 63) (hmv : ¬ kd s = 4) : ZM Γ (d + 2) m_ver_reasonAgainst [.ref b, .ref c, .int (nI s)] M (zEq M (some (.int (nI (rsn n e (kd s) (pt s) (pt s)))))) := by
  refine ZM.of mk_ver_reasonAgainst (Nat.le_of_ble_eq_true rfl) ?_
  have hl1 := lev_le (pt s)
  have hl2 := lev_le (gl s)
  have hn := hI.1
  rw [show zEn [.ref b, .ref c, .int (nI s)] = [some (.ref b), some (.ref c), some (.int (nI s))] from rfl]
  refine zPad 8 ?_
  show Z _ _ _ _ _ _ _ [some (.ref b), some (.ref c), some (.int (nI s)), none, none, none, none, none, none, none, none] _ _
  refine Z_aload_n d_ver_reasonAgainst_0 rfl ?_
  refine Z_get d_ver_reasonAgainst_1 lf_ver_83 hA.1 rfl ?_
  refine Z_iload_n d_ver_reasonAgainst_4 rfl ?_
  refine Zn_iald d_ver_reasonAgainst_5 hA.2.2.2.1 (by omega) (by omega) ?_
  refine Zn_istore_n [some (.ref b), some (.ref c), some (.int (nI s)), some (.int (nI (kd s))), none, none, none, none, none, none, none] d_ver_reasonAgainst_6 (by decide) rfl ?_
  refine Z_aload_n d_ver_reasonAgainst_7 rfl ?_
  refine Z_get d_ver_reasonAgainst_8 lf_ver_86 hA.1 rfl ?_
  refine Z_iload_n d_ver_reasonAgainst_11 rfl ?_
  refine Zn_lald d_ver_reasonAgainst_12 hA.2.2.2.2.1 (by omega) (by omega) ?_
  refine Zn_lstore [some (.ref b), some (.ref c), some (.int (nI s)), some (.int (nI (kd s))), some (.long (lN (pt s))), none, none, none, none, none, none] d_ver_reasonAgainst_13 (by decide) rfl ?_
  refine Z_iload_n d_ver_reasonAgainst_15 rfl ?_
  refine Zn_iconst (nI 4) d_ver_reasonAgainst_16 (by decide) ?_
  refine Zn_icmp_ne (tgt := 29) d_ver_reasonAgainst_17 (by decide) (by omega) (by omega) (fun h17 => ?_) (fun h17 => ?_)
  · skip
    skip
    refine Z_lload d_ver_reasonAgainst_29 rfl ?_
    refine Zn_lstore [some (.ref b), some (.ref c), some (.int (nI s)), some (.int (nI (kd s))), some (.long (lN (pt s))), none, some (.long (lN (pt s))), none, none, none, none] d_ver_reasonAgainst_31 (by decide) rfl ?_
    refine Z_aload_n d_ver_reasonAgainst_33 rfl ?_
    refine Z_get d_ver_reasonAgainst_34 lf_ver_12 hV.1 rfl ?_
    refine Z_lload d_ver_reasonAgainst_37 rfl ?_
    refine zVe (As := [.long (lN (pt s))]) (by omega) d_ver_reasonAgainst_39 lm_ver_93 hV.2.1.1 rfl rfl (Nat.le_of_ble_eq_true rfl) (pv_posK_ok (d + 0) hV.2.1 hI.1 hI.k (k := pt s) hkp) ?_
    rcases hr : posK n e (pt s) with _ | i
    · skip
      refine Zn_istore [some (.ref b), some (.ref c), some (.int (nI s)), some (.int (nI (kd s))), some (.long (lN (pt s))), none, some (.long (lN (pt s))), none, some (.int (-1)), none, none] d_ver_reasonAgainst_42 (by decide) rfl ?_
      refine Z_aload_n d_ver_reasonAgainst_44 rfl ?_
      refine Z_get d_ver_reasonAgainst_45 lf_ver_12 hV.1 rfl ?_
      refine Z_lload d_ver_reasonAgainst_48 rfl ?_
      refine zVe (As := [.long (lN (pt s))]) (by omega) d_ver_reasonAgainst_50 lm_ver_93 hV.2.1.1 rfl rfl (Nat.le_of_ble_eq_true rfl) (pv_posK_ok (d + 0) hV.2.1 hI.1 hI.k (k := pt s) hkp) ?_
      rcases hr2 : posK n e (pt s) with _ | i2
      · skip
        refine Zn_istore [some (.ref b), some (.ref c), some (.int (nI s)), some (.int (nI (kd s))), some (.long (lN (pt s))), none, some (.long (lN (pt s))), none, some (.int (-1)), some (.int (-1)), none] d_ver_reasonAgainst_53 (by decide) rfl ?_
        refine Z_iload d_ver_reasonAgainst_55 rfl ?_
        refine Z_if_lt (tgt := 65) d_ver_reasonAgainst_57 (by decide) (fun h57 => ?_) (fun h57 => ?_)
        · skip
          refine Zn_iconst (nI 1) d_ver_reasonAgainst_65 (by decide) ?_
          refine Z_iret d_ver_reasonAgainst_66 rfl ?_
          first | exact ⟨rfl, by rw [rsn_n1 hr]⟩ | exact ⟨rfl, by rw [rsn_n2 hr2]⟩
        · skip
          exact absurd (by decide) h57 -- end
      · skip
        have hi2 := (frst_some.mp hr2).1
        refine Zn_istore [some (.ref b), some (.ref c), some (.int (nI s)), some (.int (nI (kd s))), some (.long (lN (pt s))), none, some (.long (lN (pt s))), none, some (.int (-1)), some (.int (nI i2)), none] d_ver_reasonAgainst_53 (by decide) rfl ?_
        refine Z_iload d_ver_reasonAgainst_55 rfl ?_
        refine Z_if_lt (tgt := 65) d_ver_reasonAgainst_57 (by decide) (fun h57 => ?_) (fun h57 => ?_)
        · skip
          refine Zn_iconst (nI 1) d_ver_reasonAgainst_65 (by decide) ?_
          refine Z_iret d_ver_reasonAgainst_66 rfl ?_
          first | exact ⟨rfl, by rw [rsn_n1 hr]⟩ | exact ⟨rfl, by rw [rsn_n2 hr2]⟩
        · skip
          exact absurd (by decide) h57 -- end
    · skip
      have hi := (frst_some.mp hr).1
      refine Zn_istore [some (.ref b), some (.ref c), some (.int (nI s)), some (.int (nI (kd s))), some (.long (lN (pt s))), none, some (.long (lN (pt s))), none, some (.int (nI i)), none, none] d_ver_reasonAgainst_42 (by decide) rfl ?_
      refine Z_aload_n d_ver_reasonAgainst_44 rfl ?_
      refine Z_get d_ver_reasonAgainst_45 lf_ver_12 hV.1 rfl ?_
      refine Z_lload d_ver_reasonAgainst_48 rfl ?_
      refine zVe (As := [.long (lN (pt s))]) (by omega) d_ver_reasonAgainst_50 lm_ver_93 hV.2.1.1 rfl rfl (Nat.le_of_ble_eq_true rfl) (pv_posK_ok (d + 0) hV.2.1 hI.1 hI.k (k := pt s) hkp) ?_
      rcases hr2 : posK n e (pt s) with _ | i2
      · skip
        refine Zn_istore [some (.ref b), some (.ref c), some (.int (nI s)), some (.int (nI (kd s))), some (.long (lN (pt s))), none, some (.long (lN (pt s))), none, some (.int (nI i)), some (.int (-1)), none] d_ver_reasonAgainst_53 (by decide) rfl ?_
        refine Z_iload d_ver_reasonAgainst_55 rfl ?_
        refine Zn_if_lt (tgt := 65) d_ver_reasonAgainst_57 (by decide) (by omega) ?_
        refine Z_iload d_ver_reasonAgainst_60 rfl ?_
        refine Z_if_ge (tgt := 67) d_ver_reasonAgainst_62 (by decide) (fun h62 => ?_) (fun h62 => ?_)
        · skip
          exact absurd h62 (by decide) -- end
        · skip
          refine Zn_iconst (nI 1) d_ver_reasonAgainst_65 (by decide) ?_
          refine Z_iret d_ver_reasonAgainst_66 rfl ?_
          first | exact ⟨rfl, by rw [rsn_n1 hr]⟩ | exact ⟨rfl, by rw [rsn_n2 hr2]⟩
      · skip
        have hi2 := (frst_some.mp hr2).1
        refine Zn_istore [some (.ref b), some (.ref c), some (.int (nI s)), some (.int (nI (kd s))), some (.long (lN (pt s))), none, some (.long (lN (pt s))), none, some (.int (nI i)), some (.int (nI i2)), none] d_ver_reasonAgainst_53 (by decide) rfl ?_
        refine Z_iload d_ver_reasonAgainst_55 rfl ?_
        refine Zn_if_lt (tgt := 65) d_ver_reasonAgainst_57 (by decide) (by omega) ?_
        refine Z_iload d_ver_reasonAgainst_60 rfl ?_
        refine Zn_if_ge (tgt := 67) d_ver_reasonAgainst_62 (by decide) (by omega) ?_
        refine Z_aload_n d_ver_reasonAgainst_67 rfl ?_
        refine Z_get d_ver_reasonAgainst_68 lf_ver_12 hV.1 rfl ?_
        refine Z_get d_ver_reasonAgainst_71 lf_ver_97 hV.2.1.1 rfl ?_
        refine Z_iload d_ver_reasonAgainst_74 rfl ?_
        refine Zn_zald d_ver_reasonAgainst_76 hV.2.1.2.2.2.1 (by omega) (by omega) ?_
        refine Z_if_ne (tgt := 93) d_ver_reasonAgainst_77 (by decide) (fun h77 => ?_) (fun h77 => ?_)
        · skip
          have h77 : er (e i) = true := by
            cases hh : er (e i) with
            | true => rfl
            | false => exact absurd (bI_0.mpr hh) h77
          have her : (er (e i) || er (e i2)) = true := by rw [h77]; rfl
          refine Zn_iconst (nI 2) d_ver_reasonAgainst_93 (by decide) ?_
          refine Z_iret d_ver_reasonAgainst_94 rfl ?_
          first | (exfalso; omega) | (refine ⟨rfl, ?_⟩; rw [rsn_eq hr hr2, her]; (repeat (first | rw [if_neg (by first | decide | omega)] | rw [if_pos (by first | rfl | omega)])); done)
        · skip
          have h77 := bI_0.mp h77
          refine Z_aload_n d_ver_reasonAgainst_80 rfl ?_
          refine Z_get d_ver_reasonAgainst_81 lf_ver_12 hV.1 rfl ?_
          refine Z_get d_ver_reasonAgainst_84 lf_ver_97 hV.2.1.1 rfl ?_
          refine Z_iload d_ver_reasonAgainst_87 rfl ?_
          refine Zn_zald d_ver_reasonAgainst_89 hV.2.1.2.2.2.1 (by omega) (by omega) ?_
          refine Z_if_eq (tgt := 95) d_ver_reasonAgainst_90 (by decide) (fun h90 => ?_) (fun h90 => ?_)
          · skip
            have h90 := bI_0.mp h90
            have her : (er (e i) || er (e i2)) = false := by rw [h77, h90]; rfl
            refine Z_lload d_ver_reasonAgainst_95 rfl ?_
            refine zTe (As := [.long (lN (pt s))]) (by omega) d_ver_reasonAgainst_97 lm_ver_101 rfl (Nat.le_of_ble_eq_true rfl) (pa_levelOf_ok (d + 0) hkp) ?_
            refine Zn_istore [some (.ref b), some (.ref c), some (.int (nI s)), some (.int (nI (kd s))), some (.long (lN (pt s))), none, some (.long (lN (pt s))), none, some (.int (nI i)), some (.int (nI i2)), some (.int (nI (lev (pt s))))] d_ver_reasonAgainst_100 (by decide) rfl ?_
            refine Z_iload_n d_ver_reasonAgainst_102 rfl ?_
            refine Zn_iconst (nI 1) d_ver_reasonAgainst_103 (by decide) ?_
            refine Zn_icmp_ne (tgt := 115) d_ver_reasonAgainst_104 (by decide) (by omega) (by omega) (fun h104 => ?_) (fun h104 => ?_)
            · skip
              refine Z_iload_n d_ver_reasonAgainst_115 rfl ?_
              refine Zn_iconst (nI 4) d_ver_reasonAgainst_116 (by decide) ?_
              refine Zn_icmp_ne (tgt := 140) d_ver_reasonAgainst_117 (by decide) (by omega) (by omega) (fun h117 => ?_) (fun h117 => ?_)
              · skip
                refine Z_iload_n d_ver_reasonAgainst_140 rfl ?_
                refine Zn_if_eq (tgt := 149) d_ver_reasonAgainst_141 (by decide) (by omega) (fun h141 => ?_) (fun h141 => ?_)
                · skip
                  refine Z_aload_n d_ver_reasonAgainst_149 rfl ?_
                  refine Z_get d_ver_reasonAgainst_150 lf_ver_12 hV.1 rfl ?_
                  refine Z_get d_ver_reasonAgainst_153 lf_ver_106 hV.2.1.1 rfl ?_
                  refine Zn_bipush (nI 60) d_ver_reasonAgainst_156 (by decide) ?_
                  refine Zn_icmp_lt (tgt := 163) d_ver_reasonAgainst_158 (by decide) (by omega) (by omega) (fun h158 => ?_) (fun h158 => ?_)
                  · skip
                    refine Zn_iconst (nI 0) d_ver_reasonAgainst_163 (by decide) ?_
                    refine Z_iret d_ver_reasonAgainst_164 rfl ?_
                    first | (exfalso; omega) | (refine ⟨rfl, ?_⟩; rw [rsn_eq hr hr2, her]; (repeat (first | rw [if_neg (by first | decide | omega)] | rw [if_pos (by first | rfl | omega)])); done)
                  · skip
                    refine Zn_iconst (nI 4) d_ver_reasonAgainst_161 (by decide) ?_
                    refine Z_iret d_ver_reasonAgainst_162 rfl ?_
                    first | (exfalso; omega) | (refine ⟨rfl, ?_⟩; rw [rsn_eq hr hr2, her]; (repeat (first | rw [if_neg (by first | decide | omega)] | rw [if_pos (by first | rfl | omega)])); done)
                · skip
                  refine Z_iload_n d_ver_reasonAgainst_144 rfl ?_
                  refine Zn_iconst (nI 1) d_ver_reasonAgainst_145 (by decide) ?_
                  refine Zn_icmp_ne (tgt := 163) d_ver_reasonAgainst_146 (by decide) (by omega) (by omega) (fun h146 => ?_) (fun h146 => ?_)
                  · skip
                    refine Zn_iconst (nI 0) d_ver_reasonAgainst_163 (by decide) ?_
                    refine Z_iret d_ver_reasonAgainst_164 rfl ?_
                    first | (exfalso; omega) | (refine ⟨rfl, ?_⟩; rw [rsn_eq hr hr2, her]; (repeat (first | rw [if_neg (by first | decide | omega)] | rw [if_pos (by first | rfl | omega)])); done)
                  · skip
                    refine Z_aload_n d_ver_reasonAgainst_149 rfl ?_
                    refine Z_get d_ver_reasonAgainst_150 lf_ver_12 hV.1 rfl ?_
                    refine Z_get d_ver_reasonAgainst_153 lf_ver_106 hV.2.1.1 rfl ?_
                    refine Zn_bipush (nI 60) d_ver_reasonAgainst_156 (by decide) ?_
                    refine Zn_icmp_lt (tgt := 163) d_ver_reasonAgainst_158 (by decide) (by omega) (by omega) (fun h158 => ?_) (fun h158 => ?_)
                    · skip
                      refine Zn_iconst (nI 0) d_ver_reasonAgainst_163 (by decide) ?_
                      refine Z_iret d_ver_reasonAgainst_164 rfl ?_
                      first | (exfalso; omega) | (refine ⟨rfl, ?_⟩; rw [rsn_eq hr hr2, her]; (repeat (first | rw [if_neg (by first | decide | omega)] | rw [if_pos (by first | rfl | omega)])); done)
                    · skip
                      refine Zn_iconst (nI 4) d_ver_reasonAgainst_161 (by decide) ?_
                      refine Z_iret d_ver_reasonAgainst_162 rfl ?_
                      first | (exfalso; omega) | (refine ⟨rfl, ?_⟩; rw [rsn_eq hr hr2, her]; (repeat (first | rw [if_neg (by first | decide | omega)] | rw [if_pos (by first | rfl | omega)])); done)
              · skip
                refine Z_iload d_ver_reasonAgainst_120 rfl ?_
                refine Z_lload d_ver_reasonAgainst_122 rfl ?_
                refine zTe (As := [.long (lN (pt s))]) (by omega) d_ver_reasonAgainst_124 lm_ver_101 rfl (Nat.le_of_ble_eq_true rfl) (pa_levelOf_ok (d + 0) hkp) ?_
                refine Zn_icmp_ne (tgt := 138) d_ver_reasonAgainst_127 (by decide) (by omega) (by omega) (fun h127 => ?_) (fun h127 => ?_)
                · skip
                  refine Zn_iconst (nI 3) d_ver_reasonAgainst_138 (by decide) ?_
                  refine Z_iret d_ver_reasonAgainst_139 rfl ?_
                  first | (exfalso; omega) | (refine ⟨rfl, ?_⟩; rw [rsn_eq hr hr2, her]; (repeat (first | rw [if_neg (by first | decide | omega)] | rw [if_pos (by first | rfl | omega)])); done)
                · skip
                  refine Z_lload d_ver_reasonAgainst_130 rfl ?_
                  refine Z_lload d_ver_reasonAgainst_132 rfl ?_
                  refine Z_lcmp d_ver_reasonAgainst_134 ?_
                  refine Z_if_ne (tgt := 140) d_ver_reasonAgainst_135 (by decide) (fun h135 => ?_) (fun h135 => ?_)
                  · skip
                    have h135 : ¬ pt s = pt s := fun z => h135 ((zlN hkp hkp).mpr z)
                    refine Z_iload_n d_ver_reasonAgainst_140 rfl ?_
                    refine Zn_if_eq (tgt := 149) d_ver_reasonAgainst_141 (by decide) (by omega) (fun h141 => ?_) (fun h141 => ?_)
                    · skip
                      refine Z_aload_n d_ver_reasonAgainst_149 rfl ?_
                      refine Z_get d_ver_reasonAgainst_150 lf_ver_12 hV.1 rfl ?_
                      refine Z_get d_ver_reasonAgainst_153 lf_ver_106 hV.2.1.1 rfl ?_
                      refine Zn_bipush (nI 60) d_ver_reasonAgainst_156 (by decide) ?_
                      refine Zn_icmp_lt (tgt := 163) d_ver_reasonAgainst_158 (by decide) (by omega) (by omega) (fun h158 => ?_) (fun h158 => ?_)
                      · skip
                        refine Zn_iconst (nI 0) d_ver_reasonAgainst_163 (by decide) ?_
                        refine Z_iret d_ver_reasonAgainst_164 rfl ?_
                        first | (exfalso; omega) | (refine ⟨rfl, ?_⟩; rw [rsn_eq hr hr2, her]; (repeat (first | rw [if_neg (by first | decide | omega)] | rw [if_pos (by first | rfl | omega)])); done)
                      · skip
                        refine Zn_iconst (nI 4) d_ver_reasonAgainst_161 (by decide) ?_
                        refine Z_iret d_ver_reasonAgainst_162 rfl ?_
                        first | (exfalso; omega) | (refine ⟨rfl, ?_⟩; rw [rsn_eq hr hr2, her]; (repeat (first | rw [if_neg (by first | decide | omega)] | rw [if_pos (by first | rfl | omega)])); done)
                    · skip
                      refine Z_iload_n d_ver_reasonAgainst_144 rfl ?_
                      refine Zn_iconst (nI 1) d_ver_reasonAgainst_145 (by decide) ?_
                      refine Zn_icmp_ne (tgt := 163) d_ver_reasonAgainst_146 (by decide) (by omega) (by omega) (fun h146 => ?_) (fun h146 => ?_)
                      · skip
                        refine Zn_iconst (nI 0) d_ver_reasonAgainst_163 (by decide) ?_
                        refine Z_iret d_ver_reasonAgainst_164 rfl ?_
                        first | (exfalso; omega) | (refine ⟨rfl, ?_⟩; rw [rsn_eq hr hr2, her]; (repeat (first | rw [if_neg (by first | decide | omega)] | rw [if_pos (by first | rfl | omega)])); done)
                      · skip
                        refine Z_aload_n d_ver_reasonAgainst_149 rfl ?_
                        refine Z_get d_ver_reasonAgainst_150 lf_ver_12 hV.1 rfl ?_
                        refine Z_get d_ver_reasonAgainst_153 lf_ver_106 hV.2.1.1 rfl ?_
                        refine Zn_bipush (nI 60) d_ver_reasonAgainst_156 (by decide) ?_
                        refine Zn_icmp_lt (tgt := 163) d_ver_reasonAgainst_158 (by decide) (by omega) (by omega) (fun h158 => ?_) (fun h158 => ?_)
                        · skip
                          refine Zn_iconst (nI 0) d_ver_reasonAgainst_163 (by decide) ?_
                          refine Z_iret d_ver_reasonAgainst_164 rfl ?_
                          first | (exfalso; omega) | (refine ⟨rfl, ?_⟩; rw [rsn_eq hr hr2, her]; (repeat (first | rw [if_neg (by first | decide | omega)] | rw [if_pos (by first | rfl | omega)])); done)
                        · skip
                          refine Zn_iconst (nI 4) d_ver_reasonAgainst_161 (by decide) ?_
                          refine Z_iret d_ver_reasonAgainst_162 rfl ?_
                          first | (exfalso; omega) | (refine ⟨rfl, ?_⟩; rw [rsn_eq hr hr2, her]; (repeat (first | rw [if_neg (by first | decide | omega)] | rw [if_pos (by first | rfl | omega)])); done)
                  · skip
                    have h135 : pt s = pt s := (zlN hkp hkp).mp h135
                    refine Zn_iconst (nI 3) d_ver_reasonAgainst_138 (by decide) ?_
                    refine Z_iret d_ver_reasonAgainst_139 rfl ?_
                    first | (exfalso; omega) | (refine ⟨rfl, ?_⟩; rw [rsn_eq hr hr2, her]; (repeat (first | rw [if_neg (by first | decide | omega)] | rw [if_pos (by first | rfl | omega)])); done)
            · skip
              refine Z_iload d_ver_reasonAgainst_107 rfl ?_
              refine Zn_iconst (nI 3) d_ver_reasonAgainst_109 (by decide) ?_
              refine Zn_icmp_ne (tgt := 115) d_ver_reasonAgainst_110 (by decide) (by omega) (by omega) (fun h110 => ?_) (fun h110 => ?_)
              · skip
                refine Z_iload_n d_ver_reasonAgainst_115 rfl ?_
                refine Zn_iconst (nI 4) d_ver_reasonAgainst_116 (by decide) ?_
                refine Zn_icmp_ne (tgt := 140) d_ver_reasonAgainst_117 (by decide) (by omega) (by omega) (fun h117 => ?_) (fun h117 => ?_)
                · skip
                  refine Z_iload_n d_ver_reasonAgainst_140 rfl ?_
                  refine Zn_if_eq (tgt := 149) d_ver_reasonAgainst_141 (by decide) (by omega) (fun h141 => ?_) (fun h141 => ?_)
                  · skip
                    refine Z_aload_n d_ver_reasonAgainst_149 rfl ?_
                    refine Z_get d_ver_reasonAgainst_150 lf_ver_12 hV.1 rfl ?_
                    refine Z_get d_ver_reasonAgainst_153 lf_ver_106 hV.2.1.1 rfl ?_
                    refine Zn_bipush (nI 60) d_ver_reasonAgainst_156 (by decide) ?_
                    refine Zn_icmp_lt (tgt := 163) d_ver_reasonAgainst_158 (by decide) (by omega) (by omega) (fun h158 => ?_) (fun h158 => ?_)
                    · skip
                      refine Zn_iconst (nI 0) d_ver_reasonAgainst_163 (by decide) ?_
                      refine Z_iret d_ver_reasonAgainst_164 rfl ?_
                      first | (exfalso; omega) | (refine ⟨rfl, ?_⟩; rw [rsn_eq hr hr2, her]; (repeat (first | rw [if_neg (by first | decide | omega)] | rw [if_pos (by first | rfl | omega)])); done)
                    · skip
                      refine Zn_iconst (nI 4) d_ver_reasonAgainst_161 (by decide) ?_
                      refine Z_iret d_ver_reasonAgainst_162 rfl ?_
                      first | (exfalso; omega) | (refine ⟨rfl, ?_⟩; rw [rsn_eq hr hr2, her]; (repeat (first | rw [if_neg (by first | decide | omega)] | rw [if_pos (by first | rfl | omega)])); done)
                  · skip
                    refine Z_iload_n d_ver_reasonAgainst_144 rfl ?_
                    refine Zn_iconst (nI 1) d_ver_reasonAgainst_145 (by decide) ?_
                    refine Zn_icmp_ne (tgt := 163) d_ver_reasonAgainst_146 (by decide) (by omega) (by omega) (fun h146 => ?_) (fun h146 => ?_)
                    · skip
                      refine Zn_iconst (nI 0) d_ver_reasonAgainst_163 (by decide) ?_
                      refine Z_iret d_ver_reasonAgainst_164 rfl ?_
                      first | (exfalso; omega) | (refine ⟨rfl, ?_⟩; rw [rsn_eq hr hr2, her]; (repeat (first | rw [if_neg (by first | decide | omega)] | rw [if_pos (by first | rfl | omega)])); done)
                    · skip
                      refine Z_aload_n d_ver_reasonAgainst_149 rfl ?_
                      refine Z_get d_ver_reasonAgainst_150 lf_ver_12 hV.1 rfl ?_
                      refine Z_get d_ver_reasonAgainst_153 lf_ver_106 hV.2.1.1 rfl ?_
                      refine Zn_bipush (nI 60) d_ver_reasonAgainst_156 (by decide) ?_
                      refine Zn_icmp_lt (tgt := 163) d_ver_reasonAgainst_158 (by decide) (by omega) (by omega) (fun h158 => ?_) (fun h158 => ?_)
                      · skip
                        refine Zn_iconst (nI 0) d_ver_reasonAgainst_163 (by decide) ?_
                        refine Z_iret d_ver_reasonAgainst_164 rfl ?_
                        first | (exfalso; omega) | (refine ⟨rfl, ?_⟩; rw [rsn_eq hr hr2, her]; (repeat (first | rw [if_neg (by first | decide | omega)] | rw [if_pos (by first | rfl | omega)])); done)
                      · skip
                        refine Zn_iconst (nI 4) d_ver_reasonAgainst_161 (by decide) ?_
                        refine Z_iret d_ver_reasonAgainst_162 rfl ?_
                        first | (exfalso; omega) | (refine ⟨rfl, ?_⟩; rw [rsn_eq hr hr2, her]; (repeat (first | rw [if_neg (by first | decide | omega)] | rw [if_pos (by first | rfl | omega)])); done)
                · skip
                  refine Z_iload d_ver_reasonAgainst_120 rfl ?_
                  refine Z_lload d_ver_reasonAgainst_122 rfl ?_
                  refine zTe (As := [.long (lN (pt s))]) (by omega) d_ver_reasonAgainst_124 lm_ver_101 rfl (Nat.le_of_ble_eq_true rfl) (pa_levelOf_ok (d + 0) hkp) ?_
                  refine Zn_icmp_ne (tgt := 138) d_ver_reasonAgainst_127 (by decide) (by omega) (by omega) (fun h127 => ?_) (fun h127 => ?_)
                  · skip
                    refine Zn_iconst (nI 3) d_ver_reasonAgainst_138 (by decide) ?_
                    refine Z_iret d_ver_reasonAgainst_139 rfl ?_
                    first | (exfalso; omega) | (refine ⟨rfl, ?_⟩; rw [rsn_eq hr hr2, her]; (repeat (first | rw [if_neg (by first | decide | omega)] | rw [if_pos (by first | rfl | omega)])); done)
                  · skip
                    refine Z_lload d_ver_reasonAgainst_130 rfl ?_
                    refine Z_lload d_ver_reasonAgainst_132 rfl ?_
                    refine Z_lcmp d_ver_reasonAgainst_134 ?_
                    refine Z_if_ne (tgt := 140) d_ver_reasonAgainst_135 (by decide) (fun h135 => ?_) (fun h135 => ?_)
                    · skip
                      have h135 : ¬ pt s = pt s := fun z => h135 ((zlN hkp hkp).mpr z)
                      refine Z_iload_n d_ver_reasonAgainst_140 rfl ?_
                      refine Zn_if_eq (tgt := 149) d_ver_reasonAgainst_141 (by decide) (by omega) (fun h141 => ?_) (fun h141 => ?_)
                      · skip
                        refine Z_aload_n d_ver_reasonAgainst_149 rfl ?_
                        refine Z_get d_ver_reasonAgainst_150 lf_ver_12 hV.1 rfl ?_
                        refine Z_get d_ver_reasonAgainst_153 lf_ver_106 hV.2.1.1 rfl ?_
                        refine Zn_bipush (nI 60) d_ver_reasonAgainst_156 (by decide) ?_
                        refine Zn_icmp_lt (tgt := 163) d_ver_reasonAgainst_158 (by decide) (by omega) (by omega) (fun h158 => ?_) (fun h158 => ?_)
                        · skip
                          refine Zn_iconst (nI 0) d_ver_reasonAgainst_163 (by decide) ?_
                          refine Z_iret d_ver_reasonAgainst_164 rfl ?_
                          first | (exfalso; omega) | (refine ⟨rfl, ?_⟩; rw [rsn_eq hr hr2, her]; (repeat (first | rw [if_neg (by first | decide | omega)] | rw [if_pos (by first | rfl | omega)])); done)
                        · skip
                          refine Zn_iconst (nI 4) d_ver_reasonAgainst_161 (by decide) ?_
                          refine Z_iret d_ver_reasonAgainst_162 rfl ?_
                          first | (exfalso; omega) | (refine ⟨rfl, ?_⟩; rw [rsn_eq hr hr2, her]; (repeat (first | rw [if_neg (by first | decide | omega)] | rw [if_pos (by first | rfl | omega)])); done)
                      · skip
                        refine Z_iload_n d_ver_reasonAgainst_144 rfl ?_
                        refine Zn_iconst (nI 1) d_ver_reasonAgainst_145 (by decide) ?_
                        refine Zn_icmp_ne (tgt := 163) d_ver_reasonAgainst_146 (by decide) (by omega) (by omega) (fun h146 => ?_) (fun h146 => ?_)
                        · skip
                          refine Zn_iconst (nI 0) d_ver_reasonAgainst_163 (by decide) ?_
                          refine Z_iret d_ver_reasonAgainst_164 rfl ?_
                          first | (exfalso; omega) | (refine ⟨rfl, ?_⟩; rw [rsn_eq hr hr2, her]; (repeat (first | rw [if_neg (by first | decide | omega)] | rw [if_pos (by first | rfl | omega)])); done)
                        · skip
                          refine Z_aload_n d_ver_reasonAgainst_149 rfl ?_
                          refine Z_get d_ver_reasonAgainst_150 lf_ver_12 hV.1 rfl ?_
                          refine Z_get d_ver_reasonAgainst_153 lf_ver_106 hV.2.1.1 rfl ?_
                          refine Zn_bipush (nI 60) d_ver_reasonAgainst_156 (by decide) ?_
                          refine Zn_icmp_lt (tgt := 163) d_ver_reasonAgainst_158 (by decide) (by omega) (by omega) (fun h158 => ?_) (fun h158 => ?_)
                          · skip
                            refine Zn_iconst (nI 0) d_ver_reasonAgainst_163 (by decide) ?_
                            refine Z_iret d_ver_reasonAgainst_164 rfl ?_
                            first | (exfalso; omega) | (refine ⟨rfl, ?_⟩; rw [rsn_eq hr hr2, her]; (repeat (first | rw [if_neg (by first | decide | omega)] | rw [if_pos (by first | rfl | omega)])); done)
                          · skip
                            refine Zn_iconst (nI 4) d_ver_reasonAgainst_161 (by decide) ?_
                            refine Z_iret d_ver_reasonAgainst_162 rfl ?_
                            first | (exfalso; omega) | (refine ⟨rfl, ?_⟩; rw [rsn_eq hr hr2, her]; (repeat (first | rw [if_neg (by first | decide | omega)] | rw [if_pos (by first | rfl | omega)])); done)
                    · skip
                      have h135 : pt s = pt s := (zlN hkp hkp).mp h135
                      refine Zn_iconst (nI 3) d_ver_reasonAgainst_138 (by decide) ?_
                      refine Z_iret d_ver_reasonAgainst_139 rfl ?_
                      first | (exfalso; omega) | (refine ⟨rfl, ?_⟩; rw [rsn_eq hr hr2, her]; (repeat (first | rw [if_neg (by first | decide | omega)] | rw [if_pos (by first | rfl | omega)])); done)
              · skip
                refine Zn_iconst (nI 3) d_ver_reasonAgainst_113 (by decide) ?_
                refine Z_iret d_ver_reasonAgainst_114 rfl ?_
                first | (exfalso; omega) | (refine ⟨rfl, ?_⟩; rw [rsn_eq hr hr2, her]; (repeat (first | rw [if_neg (by first | decide | omega)] | rw [if_pos (by first | rfl | omega)])); done)
          · skip
            have h90 : er (e i2) = true := by
              cases hh : er (e i2) with
              | true => rfl
              | false => exact absurd (bI_0.mpr hh) h90
            have her : (er (e i) || er (e i2)) = true := by rw [h90]; cases er (e i) <;> rfl
            refine Zn_iconst (nI 2) d_ver_reasonAgainst_93 (by decide) ?_
            refine Z_iret d_ver_reasonAgainst_94 rfl ?_
            first | (exfalso; omega) | (refine ⟨rfl, ?_⟩; rw [rsn_eq hr hr2, her]; (repeat (first | rw [if_neg (by first | decide | omega)] | rw [if_pos (by first | rfl | omega)])); done)
  · skip
    exact absurd h17 hmv -- end
