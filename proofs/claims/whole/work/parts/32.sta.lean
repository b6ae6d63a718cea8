/-! a statute in a block of 46 cells -/
def StAt (M : List zE) (b n : Nat) (e : Nat → zEnt) (rc : Nat → Nat) (tg : Nat → Nat → Nat) (m : Nat) (dy sz kd pt gl : Nat → Nat) (tx : Nat → Int32) : Prop :=
  M[b]? = some (.inr (4, [.ref (b + 1), .ref (b + 7), .ref (b + 8), .ref (b + 39)])) ∧ PvAt M (b + 1) n e ∧ M[b + 7]? = some (.inl (0, 30, .inl (fun i => nI (rc i)))) ∧ M[b + 8]? = some (.inl (3, 30, .inr (.inr (.inr (.inr (fun i => if i < 30 then some (b + 9 + i) else none)))))) ∧
  (∀ i, i < 30 → M[b + 9 + i]? = some (.inl (0, 4, .inl (fun j => nI (tg i j))))) ∧ AmAt M (b + 39) m dy sz kd pt gl tx
theorem StAt.fr {M M1 : List zE} {b n m lo w : Nat} {e : Nat → zEnt} {rc : Nat → Nat} {tg : Nat → Nat → Nat} {dy sz kd pt gl : Nat → Nat} {tx : Nat → Int32} (h : StAt M b n e rc tg m dy sz kd pt gl tx) (hf : zFr M M1 lo w) (hd : b + 46 ≤ lo ∨ lo + w ≤ b) : StAt M1 b n e rc tg m dy sz kd pt gl tx := by
  obtain ⟨h0, h1, h2, h3, h4, h5⟩ := h
  exact ⟨by rw [hf.2 _ (by omega)]; exact h0, h1.fr hf (by omega), by rw [hf.2 _ (by omega)]; exact h2, by rw [hf.2 _ (by omega)]; exact h3, fun i hi => by rw [hf.2 _ (by omega)]; exact h4 i hi, h5.fr hf (by omega)⟩
theorem StAt.pv {M M1 : List zE} {b n n' m : Nat} {e e' : Nat → zEnt} {rc : Nat → Nat} {tg : Nat → Nat → Nat} {dy sz kd pt gl : Nat → Nat} {tx : Nat → Int32} (h : StAt M b n e rc tg m dy sz kd pt gl tx) (hp : PvAt M1 (b + 1) n' e') (hf : zFr M M1 (b + 1) 6) : StAt M1 b n' e' rc tg m dy sz kd pt gl tx := by
  obtain ⟨h0, h1, h2, h3, h4, h5⟩ := h
  exact ⟨by rw [hf.2 _ (by omega)]; exact h0, hp, by rw [hf.2 _ (by omega)]; exact h2, by rw [hf.2 _ (by omega)]; exact h3, fun i hi => by rw [hf.2 _ (by omega)]; exact h4 i hi, h5.fr hf (by omega)⟩
theorem StAt.am {M M1 : List zE} {b n m m' : Nat} {e : Nat → zEnt} {rc : Nat → Nat} {tg : Nat → Nat → Nat} {dy sz kd pt gl dy' sz' kd' pt' gl' : Nat → Nat} {tx tx' : Nat → Int32} (h : StAt M b n e rc tg m dy sz kd pt gl tx) (hp : AmAt M1 (b + 39) m' dy' sz' kd' pt' gl' tx') (hf : zFr M M1 (b + 39) 7) : StAt M1 b n e rc tg m' dy' sz' kd' pt' gl' tx' := by
  obtain ⟨h0, h1, h2, h3, h4, h5⟩ := h
  exact ⟨by rw [hf.2 _ (by omega)]; exact h0, h1.fr hf (by omega), by rw [hf.2 _ (by omega)]; exact h2, by rw [hf.2 _ (by omega)]; exact h3, fun i hi => by rw [hf.2 _ (by omega)]; exact h4 i hi, hp⟩
theorem StAt.rc {M : List zE} {b n m : Nat} {e : Nat → zEnt} {rc rc' : Nat → Nat} {tg : Nat → Nat → Nat} {dy sz kd pt gl : Nat → Nat} {tx : Nat → Int32} {x : zE} (h : StAt M b n e rc tg m dy sz kd pt gl tx) (hx : x = .inl (0, 30, .inl (fun i => nI (rc' i)))) : StAt (M.set (b + 7) x) b n e rc' tg m dy sz kd pt gl tx := by
  obtain ⟨h0, h1, h2, h3, h4, h5⟩ := h
  have hf : zFr M (M.set (b + 7) x) (b + 7) 1 := zFr.rf.set (by omega) (by omega)
  subst hx
  exact ⟨by rw [hf.2 _ (by omega)]; exact h0, h1.fr hf (by omega), st_eq h2, by rw [hf.2 _ (by omega)]; exact h3, fun i hi => by rw [hf.2 _ (by omega)]; exact h4 i hi, h5.fr hf (by omega)⟩
def tup (f : Nat → Nat → Nat) (k : Nat) (v : Nat → Nat) : Nat → Nat → Nat := fun j => if j = k then v else f j
theorem StAt.tg {M : List zE} {b n m k : Nat} {e : Nat → zEnt} {rc : Nat → Nat} {tg : Nat → Nat → Nat} {g : Nat → Nat} {dy sz kd pt gl : Nat → Nat} {tx : Nat → Int32} {x : zE} (h : StAt M b n e rc tg m dy sz kd pt gl tx) (hk : k < 30) (hx : x = .inl (0, 4, .inl (fun j => nI (g j)))) : StAt (M.set (b + 9 + k) x) b n e rc (tup tg k g) m dy sz kd pt gl tx := by
  obtain ⟨h0, h1, h2, h3, h4, h5⟩ := h
  have hf : zFr M (M.set (b + 9 + k) x) (b + 9 + k) 1 := zFr.rf.set (by omega) (by omega)
  subst hx
  refine ⟨by rw [hf.2 _ (by omega)]; exact h0, h1.fr hf (by omega), by rw [hf.2 _ (by omega)]; exact h2, by rw [hf.2 _ (by omega)]; exact h3, fun i hi => ?_, h5.fr hf (by omega)⟩
  by_cases hik : i = k
  · subst hik
    rw [st_eq (h4 i hi)]
    simp [tup]
  · rw [hf.2 _ (by omega), h4 i hi]
    simp [tup, hik]
def amOut (dy sz kd pt gl : Nat → Nat) (tx : Nat → Int32) : Prop := (∀ i, 8 ≤ i → dy i = 0 ∧ sz i = 0) ∧ ∀ i, 120 ≤ i → kd i = 0 ∧ pt i = 0 ∧ gl i = 0 ∧ tx i = 0
def stOut (rc : Nat → Nat) (tg : Nat → Nat → Nat) : Prop := (∀ i, 30 ≤ i → rc i = 0) ∧ ∀ i j, 4 ≤ j → tg i j = 0
def keyOf (n : Nat) (e : Nat → zEnt) (x : Int32) : Nat := match frst (fun i => decide (eo (e i) = x)) n with
  | some i => ek (e i)
  | none => 0
set_option maxHeartbeats 4000000 in
theorem sta_hasProvision_ok {Γ : zCtx} {M : List zE} (d : Nat) {b n m : Nat} {e : Nat → zEnt} {rc : Nat → Nat} {tg : Nat → Nat → Nat} {dy sz kd pt gl : Nat → Nat} {tx : Nat → Int32} (hS : StAt M b n e rc tg m dy sz kd pt gl tx) (hb : b ≤ 1000) (hn : n ≤ 30) {j : Nat} (hj : j < 2147483648) : ZM Γ (d + 1) m_sta_hasProvision [.ref b, .int (nI j)] M (zEq M (some (.int (nI (if j < n then 1 else 0))))) := by
  refine ZM.of mk_sta_hasProvision (Nat.le_of_ble_eq_true rfl) ?_
  refine Z_iload_n d_sta_hasProvision_0 rfl ?_
  refine Zn_if_lt (tgt := 25) d_sta_hasProvision_1 (by decide) (by omega) ?_
  refine Z_iload_n d_sta_hasProvision_4 rfl ?_
  refine Z_aload_n d_sta_hasProvision_5 rfl ?_
  refine Z_get d_sta_hasProvision_6 lf_sta_12 hS.1 rfl ?_
  refine Z_get d_sta_hasProvision_9 lf_sta_47 hS.2.1.1 rfl ?_
  refine Zn_icmp_ge (tgt := 25) d_sta_hasProvision_12 (by decide) (by omega) (by omega) (fun h12 => ?_) (fun h12 => ?_)
  · skip
    refine Zn_iconst (nI 0) d_sta_hasProvision_25 (by decide) ?_
    refine Z_zret d_sta_hasProvision_26 rfl rfl ?_
    refine ⟨rfl, ?_⟩
    first | (exfalso; omega) | (rw [if_pos (by omega)]; done) | (rw [if_neg (by omega)]; done)
  · skip
    refine Z_iload_n d_sta_hasProvision_15 rfl ?_
    refine Zn_bipush (nI 30) d_sta_hasProvision_16 (by decide) ?_
    refine Zn_icmp_ge (tgt := 25) d_sta_hasProvision_18 (by decide) (by omega) (by omega) (fun h18 => ?_) (fun h18 => ?_)
    · skip
      refine Zn_iconst (nI 0) d_sta_hasProvision_25 (by decide) ?_
      refine Z_zret d_sta_hasProvision_26 rfl rfl ?_
      refine ⟨rfl, ?_⟩
      first | (exfalso; omega) | (rw [if_pos (by omega)]; done) | (rw [if_neg (by omega)]; done)
    · skip
      refine Zn_iconst (nI 1) d_sta_hasProvision_21 (by decide) ?_
      refine Z_goto (tgt := 26) d_sta_hasProvision_22 (by decide) ?_
      refine Z_zret d_sta_hasProvision_26 rfl rfl ?_
      refine ⟨rfl, ?_⟩
      first | (exfalso; omega) | (rw [if_pos (by omega)]; done) | (rw [if_neg (by omega)]; done)
theorem sta_hasProvision_neg {Γ : zCtx} {M : List zE} (d : Nat) {b : Nat} {x : Int32} (hx : x < 0) : ZM Γ (d + 1) m_sta_hasProvision [.ref b, .int x] M (zEq M (some (.int (nI 0)))) := by
  refine ZM.of mk_sta_hasProvision (Nat.le_of_ble_eq_true rfl) ?_
  refine Z_iload_n d_sta_hasProvision_0 rfl ?_
  refine Z_if_lt (tgt := 25) d_sta_hasProvision_1 (by decide) (fun _ => ?_) (fun h => absurd hx h)
  refine Zn_iconst (nI 0) d_sta_hasProvision_25 (by decide) ?_
  exact Z_zret d_sta_hasProvision_26 rfl rfl ⟨rfl, rfl⟩
set_option maxHeartbeats 4000000 in
theorem sta_pathOf_ok {Γ : zCtx} {M : List zE} (d : Nat) {b n m : Nat} {e : Nat → zEnt} {rc : Nat → Nat} {tg : Nat → Nat → Nat} {dy sz kd pt gl : Nat → Nat} {tx : Nat → Int32} (hS : StAt M b n e rc tg m dy sz kd pt gl tx) (hb : b ≤ 1000) (hn : n ≤ 30) {x : Int32} (hx : ¬ x < 0) : ZM Γ (d + 2) m_sta_pathOf [.ref b, .int x] M (zEq M (some (.long (lN (keyOf n e x))))) := by
  refine ZM.of mk_sta_pathOf (Nat.le_of_ble_eq_true rfl) ?_
  rw [show zEn [.ref b, .int x] = [some (.ref b), some (.int x)] from rfl]
  refine zPad 1 ?_
  show Z _ _ _ _ _ _ _ [some (.ref b), some (.int x), none] _ _
  refine Z_aload_n d_sta_pathOf_0 rfl ?_
  refine Z_get d_sta_pathOf_1 lf_sta_12 hS.1 rfl ?_
  refine Z_iload_n d_sta_pathOf_4 rfl ?_
  refine zVe (As := [.int x]) (by omega) d_sta_pathOf_5 lm_sta_51 hS.2.1.1 rfl rfl (Nat.le_of_ble_eq_true rfl) (pv_positionOfOrigin_ok d hS.2.1 (by omega) hx) ?_
  rcases hr : frst (fun i => decide (eo (e i) = x)) n with _ | i
  · skip
    refine Zn_istore_n [some (.ref b), some (.int x), some (.int (-1))] d_sta_pathOf_8 (by decide) rfl ?_
    refine Z_iload_n d_sta_pathOf_9 rfl ?_
    refine Z_if_ge (tgt := 17) d_sta_pathOf_10 (by decide) (fun h10 => ?_) (fun h10 => ?_)
    · skip
      exact absurd h10 (by decide) -- end
    · skip
      refine Zn_lconst (0) d_sta_pathOf_13 (by decide) ?_
      refine Z_goto (tgt := 26) d_sta_pathOf_14 (by decide) ?_
      refine Z_lret d_sta_pathOf_26 rfl ?_
      exact ⟨rfl, by unfold keyOf; first | (rw [hr]; done) | (rw [hr]; rfl)⟩
  · skip
    have hi := (frst_some.mp hr).1
    refine Zn_istore_n [some (.ref b), some (.int x), some (.int (nI i))] d_sta_pathOf_8 (by decide) rfl ?_
    refine Z_iload_n d_sta_pathOf_9 rfl ?_
    refine Zn_if_ge (tgt := 17) d_sta_pathOf_10 (by decide) (by omega) ?_
    refine Z_aload_n d_sta_pathOf_17 rfl ?_
    refine Z_get d_sta_pathOf_18 lf_sta_12 hS.1 rfl ?_
    refine Z_get d_sta_pathOf_21 lf_sta_57 hS.2.1.1 rfl ?_
    refine Z_iload_n d_sta_pathOf_24 rfl ?_
    refine Zn_lald d_sta_pathOf_25 hS.2.1.2.1 (by omega) (by omega) ?_
    refine Z_lret d_sta_pathOf_26 rfl ?_
    exact ⟨rfl, by unfold keyOf; first | (rw [hr]; done) | (rw [hr]; rfl)⟩
set_option maxHeartbeats 4000000 in
theorem sta_referenceCountOf_ok {Γ : zCtx} {M : List zE} (d : Nat) {b n m : Nat} {e : Nat → zEnt} {rc : Nat → Nat} {tg : Nat → Nat → Nat} {dy sz kd pt gl : Nat → Nat} {tx : Nat → Int32} (hS : StAt M b n e rc tg m dy sz kd pt gl tx) (hb : b ≤ 1000) (hn : n ≤ 30) {j : Nat} (hj : j < 2147483648) : ZM Γ (d + 2) m_sta_referenceCountOf [.ref b, .int (nI j)] M (zEq M (some (.int (nI (if j < n then rc j else 0))))) := by
  refine ZM.of mk_sta_referenceCountOf (Nat.le_of_ble_eq_true rfl) ?_
  refine Z_aload_n d_sta_referenceCountOf_0 rfl ?_
  refine Z_iload_n d_sta_referenceCountOf_1 rfl ?_
  refine zVe (As := [.int (nI j)]) (by omega) d_sta_referenceCountOf_2 lm_sta_61 hS.1 rfl rfl (Nat.le_of_ble_eq_true rfl) (sta_hasProvision_ok d hS hb hn hj) ?_
  have hle : (if j < n then 1 else 0) < 2147483648 := by split <;> decide
  refine Zn_if_eq (tgt := 17) d_sta_referenceCountOf_5 (by decide) (by omega) (fun h5 => ?_) (fun h5 => ?_)
  · skip
    have h5 : ¬ j < n := fun z => by rw [if_pos z] at h5; exact absurd h5 (by decide)
    refine Zn_iconst (nI 0) d_sta_referenceCountOf_17 (by decide) ?_
    refine Z_iret d_sta_referenceCountOf_18 rfl ?_
    refine ⟨rfl, ?_⟩
    first | rw [if_pos h5] | rw [if_neg h5]
  · skip
    have h5 : j < n := by
      by_cases z : j < n
      · exact z
      · rw [if_neg z] at h5; exact absurd rfl h5
    refine Z_aload_n d_sta_referenceCountOf_8 rfl ?_
    refine Z_get d_sta_referenceCountOf_9 lf_sta_18 hS.1 rfl ?_
    refine Z_iload_n d_sta_referenceCountOf_12 rfl ?_
    refine Zn_iald d_sta_referenceCountOf_13 hS.2.2.1 (by omega) (by omega) ?_
    refine Z_goto (tgt := 18) d_sta_referenceCountOf_14 (by decide) ?_
    refine Z_iret d_sta_referenceCountOf_18 rfl ?_
    refine ⟨rfl, ?_⟩
    first | rw [if_pos h5] | rw [if_neg h5]
set_option maxHeartbeats 4000000 in
theorem sta_referenceCountOf_neg {Γ : zCtx} {M : List zE} (d : Nat) {b n m : Nat} {e : Nat → zEnt} {rc : Nat → Nat} {tg : Nat → Nat → Nat} {dy sz kd pt gl : Nat → Nat} {tx : Nat → Int32} (hS : StAt M b n e rc tg m dy sz kd pt gl tx) (hb : b ≤ 1000) (hn : n ≤ 30) {x : Int32} (hx : x < 0) : ZM Γ (d + 2) m_sta_referenceCountOf [.ref b, .int x] M (zEq M (some (.int (nI 0)))) := by
  refine ZM.of mk_sta_referenceCountOf (Nat.le_of_ble_eq_true rfl) ?_
  refine Z_aload_n d_sta_referenceCountOf_0 rfl ?_
  refine Z_iload_n d_sta_referenceCountOf_1 rfl ?_
  refine zVe (As := [.int x]) (by omega) d_sta_referenceCountOf_2 lm_sta_61 hS.1 rfl rfl (Nat.le_of_ble_eq_true rfl) (sta_hasProvision_neg d hx) ?_
  refine Zn_if_eq (a := 0) (tgt := 17) d_sta_referenceCountOf_5 (by decide) (by decide) (fun _ => ?_) (fun h => absurd h (by decide))
  refine Zn_iconst (nI 0) d_sta_referenceCountOf_17 (by decide) ?_
  refine Z_iret d_sta_referenceCountOf_18 rfl ?_
  exact ⟨rfl, rfl⟩
set_option maxHeartbeats 4000000 in
theorem sta_createProvision_ok {Γ : zCtx} {M : List zE} (d : Nat) {b n m : Nat} {e : Nat → zEnt} {rc : Nat → Nat} {tg : Nat → Nat → Nat} {dy sz kd pt gl : Nat → Nat} {tx : Nat → Int32} (hS : StAt M b n e rc tg m dy sz kd pt gl tx) (hb : b ≤ 1000) (hn : n ≤ 30) (hn9 : n < 30) (hk : ∀ i, i < n → ek (e i) < 2 ^ 63) {k : Nat} (hk9 : k < 2 ^ 63) {t : Int32} : ZM Γ (d + 3) m_sta_createProvision [.ref b, .long (lN k), .int t] M (fun M1 v => v = some (.int (nI n)) ∧ ∃ e1, StAt M1 b (n + 1) e1 (nup rc n 0) tg m dy sz kd pt gl tx ∧ zFr M M1 b 46 ∧ (∀ i, i < n + 1 → ek (e1 i) < 2 ^ 63) ∧ zPerm (n + 1) (eup e n (k, t, false, nI n, -9)) e1 ∧ ∀ p q, p < q → q < n + 1 → ek (e1 p) ≤ ek (e1 q)) := by
  refine ZM.of mk_sta_createProvision (Nat.le_of_ble_eq_true rfl) ?_
  rw [show zEn [.ref b, .long (lN k), .int t] = [some (.ref b), some (.long (lN k)), none, some (.int t)] from rfl]
  refine zPad 1 ?_
  show Z _ _ _ _ _ _ _ [some (.ref b), some (.long (lN k)), none, some (.int t), none] _ _
  refine Z_aload_n d_sta_createProvision_0 rfl ?_
  refine Z_get d_sta_createProvision_1 lf_sta_12 hS.1 rfl ?_
  refine Z_get d_sta_createProvision_4 lf_sta_47 hS.2.1.1 rfl ?_
  refine Zn_istore [some (.ref b), some (.long (lN k)), none, some (.int t), some (.int (nI n))] d_sta_createProvision_7 (by decide) rfl ?_
  refine Z_iload d_sta_createProvision_9 rfl ?_
  refine Zn_bipush (nI 30) d_sta_createProvision_11 (by decide) ?_
  refine Zn_icmp_lt (tgt := 19) d_sta_createProvision_13 (by decide) (by omega) (by omega) (fun h13 => ?_) (fun h13 => ?_)
  · skip
    refine Z_aload_n d_sta_createProvision_19 rfl ?_
    refine Z_get d_sta_createProvision_20 lf_sta_18 hS.1 rfl ?_
    refine Z_iload d_sta_createProvision_23 rfl ?_
    refine Zn_iconst (nI 0) d_sta_createProvision_25 (by decide) ?_
    refine Zn_iast d_sta_createProvision_26 hS.2.2.1 (by omega) (by omega) ?_
    have hS := hS.rc (rc' := nup rc n 0) (x := .inl (0, 30, .inl (upd (fun i => nI (rc i)) n (nI 0)))) (by rw [upd_nI])
    refine Z_aload_n d_sta_createProvision_27 rfl ?_
    refine Z_get d_sta_createProvision_28 lf_sta_12 hS.1 rfl ?_
    refine Z_lload_n d_sta_createProvision_31 rfl ?_
    refine Z_iload_n d_sta_createProvision_32 rfl ?_
    refine Z_iload d_sta_createProvision_33 rfl ?_
    refine Zn_bipush (-9) d_sta_createProvision_35 (by decide) ?_
    refine zV (As := [.long (lN k), .int t, .int (nI n), .int (-9)]) (by omega) d_sta_createProvision_37 lm_sta_65 hS.2.1.1 rfl rfl (Nat.le_of_ble_eq_true rfl) (pv_append_ok (d + 1) hS.2.1 (by omega)) (fun M1 v hq hlen => ?_)
    obtain ⟨rfl, hP1, hF1⟩ := hq
    have hS := hS.pv hP1 hF1
    have hk1 : ∀ i, i < n + 1 → ek (eup e n (k, t, false, nI n, -9) i) < 2 ^ 63 := fun i hi => by
      by_cases z : i = n
      · subst z; rw [eup_s]; exact hk9
      · rw [eup_n z]; exact hk i (by omega)
    refine Z_aload_n d_sta_createProvision_40 rfl ?_
    refine Z_get d_sta_createProvision_41 lf_sta_12 hS.1 rfl ?_
    refine zV (As := []) (by omega) d_sta_createProvision_44 lm_sta_69 hS.2.1.1 rfl rfl (Nat.le_of_ble_eq_true rfl) (pv_restoreOrder_ok d hS.2.1 (by omega) hk1) (fun M2 v hq hlen => ?_)
    obtain ⟨rfl, e1, hP2, hF2, hk2, hpm, hsr⟩ := hq
    have hS := hS.pv hP2 hF2
    refine Z_iload d_sta_createProvision_47 rfl ?_
    refine Z_iret d_sta_createProvision_49 rfl ?_
    exact ⟨rfl, e1, hS, ⟨by rw [hF2.1, hF1.1, List.length_set], fun j hj => by rw [hF2.2 j (by omega), hF1.2 j (by omega), st_ne (by omega)]⟩, hk2, hpm, hsr⟩
  · skip
    exact absurd hn9 h13 -- end
def tgm (tg tg2 : Nat → Nat → Nat) (i0 : Nat) : Nat → Nat → Nat := fun i => if i < i0 then tg2 i else tg i
theorem tgm_step {tg tg2 : Nat → Nat → Nat} {i : Nat} : tgm tg tg2 (i + 1) = tup (tgm tg tg2 i) i (tg2 i) := by
  funext j
  unfold tgm tup
  by_cases h : j = i
  · subst h; simp
  · by_cases h2 : j < i
    · rw [if_pos (by omega), if_neg h]; exact (if_pos h2).symm
    · rw [if_neg (by omega), if_neg h]; exact (if_neg h2).symm
set_option maxHeartbeats 4000000 in
theorem sta_copy_loop {Γ : zCtx} {M0 : List zE} {Q : List zE → Option Value → Prop} (d : Nat) {b n m : Nat} {e : Nat → zEnt} {rc : Nat → Nat} {tg : Nat → Nat → Nat} {dy sz kd pt gl : Nat → Nat} {tx : Nat → Int32} {c n2 m2 : Nat} {e2 : Nat → zEnt} {rc2 : Nat → Nat} {tg2 : Nat → Nat → Nat} {dy2 sz2 kd2 pt2 gl2 : Nat → Nat} {tx2 : Nat → Int32} (hb : b ≤ 1000) (hO : ∀ M1, zFr M0 M1 b 46 → StAt M1 c n2 e2 rc2 tg2 m2 dy2 sz2 kd2 pt2 gl2 tx2) (hc9 : c ≤ 1000) (hst : stOut rc tg) (hst2 : stOut rc2 tg2) (hd : b + 46 ≤ c ∨ c + 46 ≤ b) : ∀ (f i : Nat) (M : List zE), i ≤ 30 → 30 < i + f → StAt M b n e rc2 (tgm tg tg2 i) m dy sz kd pt gl tx → zFr M0 M b 46 → (∀ M1, StAt M1 b n e rc2 (tgm tg tg2 30) m dy sz kd pt gl tx → zFr M0 M1 b 46 → Z Γ (zRm (d + 2) m_sta_copyFrom) m_sta_copyFrom (zPh Γ m_sta_copyFrom Q) 0 0 58 [some (.ref b), some (.ref c), some (.int (nI 30))] [] M1) → Z Γ (zRm (d + 2) m_sta_copyFrom) m_sta_copyFrom (zPh Γ m_sta_copyFrom Q) 0 0 28 [some (.ref b), some (.ref c), some (.int (nI i))] [] M := by
  intro f
  induction f with
  | zero => intro i M hi hf; exact absurd hf (by omega)
  | succ f ih =>
    intro i M hi hf hS hF hQ
    refine Z_iload_n d_sta_copyFrom_28 rfl ?_
    refine Zn_bipush (nI 30) d_sta_copyFrom_29 (by decide) ?_
    refine Zn_icmp_ge (tgt := 58) d_sta_copyFrom_31 (by decide) (by omega) (by omega) (fun h31 => ?_) (fun h31 => ?_)
    · skip
      have hi : i = 30 := by omega
      subst hi
      exact hQ M hS hF -- end
    · skip
      have hto : ∀ j, 4 ≤ j → nI (tgm tg tg2 i i j) = 0 := fun j hj => by unfold tgm; rw [if_neg (Nat.lt_irrefl i), hst.2 i j hj]; rfl
      have hto2 : ∀ i j, 4 ≤ j → nI (tg2 i j) = 0 := fun i j hj => by rw [hst2.2 i j hj]; rfl
      refine Z_aload_n d_sta_copyFrom_34 rfl ?_
      refine Z_get d_sta_copyFrom_35 lf_sta_24 (hO _ (by (repeat (first | exact hF | exact zFr.rf | refine zFr.set ?_ (by omega) (by omega))))).1 rfl ?_
      refine Z_iload_n d_sta_copyFrom_38 rfl ?_
      refine Zn_aald d_sta_copyFrom_39 (hO _ (by (repeat (first | exact hF | exact zFr.rf | refine zFr.set ?_ (by omega) (by omega))))).2.2.2.1 (by omega) (by omega) (if_pos (by omega)) (by omega) ?_
      refine Zn_iconst (nI 0) d_sta_copyFrom_40 (by decide) ?_
      refine Z_aload_n d_sta_copyFrom_41 rfl ?_
      refine Z_get d_sta_copyFrom_42 lf_sta_24 hS.1 rfl ?_
      refine Z_iload_n d_sta_copyFrom_45 rfl ?_
      refine Zn_aald d_sta_copyFrom_46 hS.2.2.2.1 (by omega) (by omega) (if_pos (by omega)) (by omega) ?_
      refine Zn_iconst (nI 0) d_sta_copyFrom_47 (by decide) ?_
      refine Zn_iconst (nI 4) d_sta_copyFrom_48 (by decide) ?_
      refine zCpi (by omega) d_sta_copyFrom_49 lc_sta_38 ((hO _ (by (repeat (first | exact hF | exact zFr.rf | refine zFr.set ?_ (by omega) (by omega))))).2.2.2.2.1 _ (by omega)) (hS.2.2.2.2.1 i (by omega)) (by omega) (by omega) (by omega) (by omega) (Nat.le_of_ble_eq_true rfl) ?_
      rw [cpy_all (fun j hj => by rw [hto j hj, hto2 i j hj])]
      have hS := hS.tg (k := i) (g := tg2 i) (by omega) rfl
      refine Zn_iinc [some (.ref b), some (.ref c), some (.int (nI (i + 1)))] (nI (i + 1)) d_sta_copyFrom_52 rfl (by decide) (nI_add i 1) rfl ?_
      refine Z_goto (tgt := 28) d_sta_copyFrom_55 (by decide) ?_
      exact ih (i + 1) _ (by omega) (by omega) (by rw [tgm_step]; exact hS) (by (repeat (first | exact hF | exact zFr.rf | refine zFr.set ?_ (by omega) (by omega)))) hQ
theorem tgm_all {rc rc2 : Nat → Nat} {tg tg2 : Nat → Nat → Nat} (h : stOut rc tg) (h2 : stOut rc2 tg2) : tgm tg tg2 30 = fun i => if i < 30 then tg2 i else tg i := rfl
set_option maxHeartbeats 4000000 in
theorem sta_copyFrom_ok {Γ : zCtx} {M : List zE} (d : Nat) {b n m : Nat} {e : Nat → zEnt} {rc : Nat → Nat} {tg : Nat → Nat → Nat} {dy sz kd pt gl : Nat → Nat} {tx : Nat → Int32} (hS : StAt M b n e rc tg m dy sz kd pt gl tx) (hb : b ≤ 1000) (hn : n ≤ 30) {c n2 m2 : Nat} {e2 : Nat → zEnt} {rc2 : Nat → Nat} {tg2 : Nat → Nat → Nat} {dy2 sz2 kd2 pt2 gl2 : Nat → Nat} {tx2 : Nat → Int32} (hO0 : StAt M c n2 e2 rc2 tg2 m2 dy2 sz2 kd2 pt2 gl2 tx2) (hc9 : c ≤ 1000) (hn2 : n2 ≤ 30) (hm : m ≤ 8) (hst : stOut rc tg) (hst2 : stOut rc2 tg2) (ha : amOut dy sz kd pt gl tx) (ha2 : amOut dy2 sz2 kd2 pt2 gl2 tx2) (hd : b + 46 ≤ c ∨ c + 46 ≤ b) : ZM Γ (d + 2) m_sta_copyFrom [.ref b, .ref c] M (fun M1 v => v = none ∧ StAt M1 b n2 (mixE e e2 n2) rc2 (fun i => if i < 30 then tg2 i else tg i) m2 dy2 sz2 kd2 pt2 gl2 tx2 ∧ zFr M M1 b 46) := by
  refine ZM.of mk_sta_copyFrom (Nat.le_of_ble_eq_true rfl) ?_
  have hO : ∀ M1, zFr M M1 b 46 → StAt M1 c n2 e2 rc2 tg2 m2 dy2 sz2 kd2 pt2 gl2 tx2 := fun M1 hf => hO0.fr hf (by omega)
  rw [show zEn [.ref b, .ref c] = [some (.ref b), some (.ref c)] from rfl]
  refine zPad 1 ?_
  show Z _ _ _ _ _ _ _ [some (.ref b), some (.ref c), none] _ _
  refine Z_aload_n d_sta_copyFrom_0 rfl ?_
  refine Z_get d_sta_copyFrom_1 lf_sta_12 hS.1 rfl ?_
  refine Z_aload_n d_sta_copyFrom_4 rfl ?_
  refine Z_get d_sta_copyFrom_5 lf_sta_12 (hO _ (by (repeat (first | exact hF | exact zFr.rf | refine zFr.set ?_ (by omega) (by omega))))).1 rfl ?_
  refine zV (As := [.ref (c + 1)]) (by omega) d_sta_copyFrom_8 lm_sta_34 hS.2.1.1 rfl rfl (Nat.le_of_ble_eq_true rfl) (pv_copyFrom_ok d hS.2.1 hO0.2.1 (by omega) (by omega)) (fun M1 v hq hlen => ?_)
  obtain ⟨rfl, hP1, hF1⟩ := hq
  have hS := hS.pv hP1 hF1
  have hF : zFr M M1 b 46 := hF1.wide (by omega) (by omega)
  refine Z_aload_n d_sta_copyFrom_11 rfl ?_
  refine Z_get d_sta_copyFrom_12 lf_sta_18 (hO _ (by (repeat (first | exact hF | exact zFr.rf | refine zFr.set ?_ (by omega) (by omega))))).1 rfl ?_
  refine Zn_iconst (nI 0) d_sta_copyFrom_15 (by decide) ?_
  refine Z_aload_n d_sta_copyFrom_16 rfl ?_
  refine Z_get d_sta_copyFrom_17 lf_sta_18 hS.1 rfl ?_
  refine Zn_iconst (nI 0) d_sta_copyFrom_20 (by decide) ?_
  refine Zn_bipush (nI 30) d_sta_copyFrom_21 (by decide) ?_
  refine zCpi (by omega) d_sta_copyFrom_23 lc_sta_38 (hO _ (by (repeat (first | exact hF | exact zFr.rf | refine zFr.set ?_ (by omega) (by omega))))).2.2.1 hS.2.2.1 (by omega) (by omega) (by omega) (by omega) (Nat.le_of_ble_eq_true rfl) ?_
  rw [cpy_all (fun j hj => by rw [hst.1 j hj, hst2.1 j hj])]
  have hS := hS.rc (rc' := rc2) rfl
  refine Zn_iconst (nI 0) d_sta_copyFrom_26 (by decide) ?_
  refine Zn_istore_n [some (.ref b), some (.ref c), some (.int (nI 0))] d_sta_copyFrom_27 (by decide) rfl ?_
  refine sta_copy_loop (tg := tg) d hb hO hc9 hst hst2 hd 31 0 _ (by omega) (by omega) hS (by (repeat (first | exact hF | exact zFr.rf | refine zFr.set ?_ (by omega) (by omega)))) (fun M2 hS hF => ?_)
  refine Z_aload_n d_sta_copyFrom_58 rfl ?_
  refine Z_get d_sta_copyFrom_59 lf_sta_30 hS.1 rfl ?_
  refine Z_aload_n d_sta_copyFrom_62 rfl ?_
  refine Z_get d_sta_copyFrom_63 lf_sta_30 (hO _ (by (repeat (first | exact hF | exact zFr.rf | refine zFr.set ?_ (by omega) (by omega))))).1 rfl ?_
  refine zV (As := [.ref (c + 39)]) (by omega) d_sta_copyFrom_66 lm_sta_44 hS.2.2.2.2.2.1 rfl rfl (Nat.le_of_ble_eq_true rfl) (am_copyFrom_ok d hS.2.2.2.2.2 hm (hO _ hF).2.2.2.2.2 (by omega) (fun i hi => ⟨by rw [(ha.1 i hi).1, (ha2.1 i hi).1], by rw [(ha.1 i hi).2, (ha2.1 i hi).2]⟩) (fun i hi => ⟨by rw [(ha.2 i hi).1, (ha2.2 i hi).1], by rw [(ha.2 i hi).2.1, (ha2.2 i hi).2.1], by rw [(ha.2 i hi).2.2.1, (ha2.2 i hi).2.2.1], by rw [(ha.2 i hi).2.2.2, (ha2.2 i hi).2.2.2]⟩)) (fun M3 v hq hlen => ?_)
  obtain ⟨rfl, hP3, hF3⟩ := hq
  have hS := hS.am hP3 hF3
  refine Z_vret d_sta_copyFrom_69 rfl ?_
  refine ⟨rfl, by rw [tgm_all hst hst2] at hS; exact hS, hF.trans (hF3.wide (by omega) (by omega))⟩
