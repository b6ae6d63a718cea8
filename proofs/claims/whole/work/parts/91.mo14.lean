/-! dangling references -/
def rdR (G : Nat → Nat → Nat) (tg : Nat → Nat → Nat) (v : Nat) : Nat → Nat
  | 0 => 0
  | r + 1 => rdR G tg v r + (if G 17 v ≠ 0 ∧ G 16 v = 0 then dgl G (tg v r) else 0)
def rdO (G : Nat → Nat → Nat) (rc : Nat → Nat) (tg : Nat → Nat → Nat) : Nat → Nat
  | 0 => 0
  | v + 1 => rdO G rc tg v + rdR G tg v (rc v)
theorem RO.dg1 {S : vSt} {n : Nat} {s : Nat → Nat} {G : Nat → Nat → Nat} (h : RO S n s G) (hn : n ≤ 30) {t : Nat} (ht : t < n) : (if (inF S.1 S.2.1 (nI t)).isNone = true then 1 else 0) = dgl G t := by
  unfold dgl
  rcases h.inf ht hn with ⟨h1, h2⟩ | ⟨i, h1, h2, h3, _⟩
  · rw [h1, if_pos h2]; rfl
  · rw [h1, if_neg (show ¬ (G 17 t = 0 ∨ G 16 t ≠ 0) from fun z => z.elim h2 (fun y => y h3))]; rfl
theorem RO.dgR {S : vSt} {n : Nat} {s : Nat → Nat} {G : Nat → Nat → Nat} {rc : Nat → Nat} {tg : Nat → Nat → Nat} (h : RO S n s G) (hr : rfR n rc tg G) (hn : n ≤ 30) {v : Nat} (hv : v < n) : ∀ r, r ≤ rc v → rdR G tg v r = if G 17 v ≠ 0 ∧ G 16 v = 0 then dgN tg S v r else 0
  | 0, _ => by split <;> rfl
  | r + 1, hrr => by
    have ih := h.dgR hr hn hv r (by omega)
    have ht := ((hr v hv).2.2 r (by omega)).2
    unfold rdR dgN
    rw [ih, h.dg1 hn ht]
    split <;> rfl
theorem sm_ext {p h : Nat → Nat} {n : Nat} : ∀ d, (∀ v, n ≤ v → v < n + d → p v ≠ 0 → h v = 0) → sm p h (n + d) = sm p h n
  | 0, _ => rfl
  | d + 1, hh => by
    show sm p h (n + d) + (if p (n + d) ≠ 0 then h (n + d) else 0) = _
    rw [sm_ext d (fun v h1 h2 => hh v h1 (by omega))]
    by_cases c : p (n + d) ≠ 0
    · rw [if_pos c, hh _ (by omega) (by omega) c]; omega
    · rw [if_neg c]; omega
def hwt (G : Nat → Nat → Nat) (n : Nat) (rc : Nat → Nat) (tg : Nat → Nat → Nat) (S : vSt) (v : Nat) : Nat := if G 16 v ≠ 0 then 0 else dgO n rc tg S (kI (G 14 v))
theorem hwt_p {G : Nat → Nat → Nat} {n : Nat} {rc : Nat → Nat} {tg : Nat → Nat → Nat} {S : vSt} {v : Nat} (h : G 16 v ≠ 0) : hwt G n rc tg S v = 0 := if_pos h
theorem hwt_n {G : Nat → Nat → Nat} {n : Nat} {rc : Nat → Nat} {tg : Nat → Nat → Nat} {S : vSt} {v : Nat} (h : ¬ G 16 v ≠ 0) : hwt G n rc tg S v = dgO n rc tg S (kI (G 14 v)) := if_neg h
theorem RO.dgs {S : vSt} {n : Nat} {s : Nat → Nat} {G : Nat → Nat → Nat} {rc : Nat → Nat} {tg : Nat → Nat → Nat} (h : RO S n s G) (hr : rfR n rc tg G) (hn : n ≤ 30) : dgS n rc tg S S.1 = rdO G rc tg n := by
  have hh := h
  obtain ⟨K, h1, h2, h3, h4, h5⟩ := hh
  obtain ⟨⟨v1, v2, v3, v4, v5, v6, v7, v8⟩, v9⟩ := h1
  have b := sm_bij (N := s 2) (h := hwt G n rc tg S) S.1 (G 17) (G 18) (fun i hi => ⟨(h5 i hi).1, (h5 i hi).2.1⟩) (fun i j hi hj he => v4 i j hi hj (by rw [← (h5 i hi).2.2, ← (h5 j hj).2.2, he])) (fun v hv hp => by
    obtain ⟨i, i1, i2⟩ := v3 v hv hp
    exact ⟨i, i1, v5.2 _ _ (h5 i i1).1 hv (h5 i i1).2.1 hp (by rw [(h5 i i1).2.2, i2.1])⟩)
  have e1 : ∀ i, i ≤ S.1 → (1 : Nat) = 1 ∧ dgS n rc tg S i = sm (fun _ => 1) (fun i => hwt G n rc tg S (G 18 i)) i := by
    intro i
    induction i with
    | zero => intro _; exact ⟨rfl, rfl⟩
    | succ i ih =>
      intro hi
      refine ⟨rfl, ?_⟩
      have a := h.at (show i < S.1 by omega)
      show (if er (S.2.1 i) = true then dgS n rc tg S i else dgS n rc tg S i + dgO n rc tg S (eo (S.2.1 i))) = sm _ _ i + (if (1 : Nat) ≠ 0 then hwt G n rc tg S (G 18 i) else 0)
      rw [if_pos (show (1 : Nat) ≠ 0 by decide), (ih (by omega)).2, a.2.2.2.2.1, a.2.2.2.2.2.1]
      by_cases c : G 16 (G 18 i) ≠ 0
      · rw [if_pos (decide_eq_true c), hwt_p c]; rfl
      · rw [if_neg (by rw [decide_eq_false c]; decide), hwt_n c]
  rw [(e1 S.1 (Nat.le_refl _)).2, ← b]
  have e2 := sm_ext (p := G 17) (h := hwt G n rc tg S) (n := n) (s 2 - n) (fun v q1 q2 _ => by
    unfold hwt
    rw [v8 v (by omega), if_neg (show ¬ v < n by omega), kI_0]
    have : dgO n rc tg S (-9) = 0 := by
      unfold dgO rcO
      rw [hasP_neg (by decide)]
      rfl
    rw [this]
    split <;> rfl)
  rw [show n + (s 2 - n) = s 2 by omega] at e2
  rw [e2]
  have e3 : ∀ v, v ≤ n → sm (G 17) (hwt G n rc tg S) v = rdO G rc tg v := by
    intro v
    induction v with
    | zero => intro _; rfl
    | succ v ih =>
      intro hv
      show sm _ _ v + (if G 17 v ≠ 0 then hwt G n rc tg S v else 0) = rdO G rc tg v + rdR G tg v (rc v)
      rw [ih (by omega), h.dgR hr hn (by omega) (rc v) (Nat.le_refl _)]
      have e14 : dgO n rc tg S (kI (G 14 v)) = dgN tg S v (rc v) := by
        rw [v8 v (by omega), if_pos (by omega), kI_s]
        unfold dgO rcO
        rw [hasP_nI (by omega), decide_eq_true (by omega), if_pos rfl, zn_cl (by omega)]
      by_cases c : G 17 v ≠ 0
      · rw [if_pos c]
        by_cases c2 : G 16 v ≠ 0
        · rw [hwt_p c2, if_neg (fun z => c2 z.2)]
        · rw [hwt_n c2, if_pos ⟨c, by omega⟩, e14]
      · rw [if_neg c, if_neg (fun z => c z.1)]
  exact e3 n (Nat.le_refl _)
set_option maxHeartbeats 4000000 in
theorem mo_dg_in {Γ : zCtx} (d : Nat) {M : List zE} {M0 : List zE} {s : Nat → Nat} {G : Nat → Nat → Nat} (hF : FW M0 M s G) {n : Nat} {S1 : vSt} (hRO : RO S1 n s G) (hn : n ≤ 30) (hs0 : s 0 = n) {rc : Nat → Nat} {tg : Nat → Nat → Nat} (hrf : rfR n rc tg G) {y : Nat} {v : Nat} (hv : v < n) (hrv : G 3 v = rc v ∧ rc v ≤ 4 ∧ ∀ j, j < rc v → G 4 (4 * v + j) = tg v j ∧ tg v j < n)  : ∀ (f : Nat) (r : Nat), r ≤ rc v → rc v < r + f → ∀ Q : List zE → Option Value → Prop, (Z Γ (zRm (d + 8) m_mo_danglingCount) m_mo_danglingCount (zPh Γ m_mo_danglingCount Q) 0 0 87 [some (.ref 123), some (.int (mI y)), some (.int (nI (rdO G rc tg v + rdR G tg v (rc v)))), some (.int (nI v)), some (.int (nI (rc v)))] [] M) → Z Γ (zRm (d + 8) m_mo_danglingCount) m_mo_danglingCount (zPh Γ m_mo_danglingCount Q) 0 0 26 [some (.ref 123), some (.int (mI y)), some (.int (nI (rdO G rc tg v + rdR G tg v r))), some (.int (nI v)), some (.int (nI r))] [] M := by
  intro f
  induction f with
  | zero => intro r hr hf; exact absurd hf (by omega)
  | succ f ih =>
    intro r hr hf Q hQ
    have hb1 := hRO.b1 (t := v) (by have := hRO.nn; omega)
    refine Z_iload d_mo_danglingCount_26 rfl ?_
    refine Z_aload_n d_mo_danglingCount_28 rfl ?_
    refine Z_get (v := .ref 127) d_mo_danglingCount_29 lf_mo_19 hF.1 rfl ?_
    refine Z_iload_n d_mo_danglingCount_32 rfl ?_
    refine Zn_iald d_mo_danglingCount_33 hF.a3 (by omega) (by omega) ?_
    rw [hrv.1]
    refine Zn_icmp_ge (tgt := 87) d_mo_danglingCount_34 (by decide) (by omega) (by omega) (fun h34 => ?_) (fun h34 => ?_)
    · skip
      obtain rfl : r = rc v := by omega
      exact hQ
    · skip
      have htr := hrv.2.2 r (by omega)
      have hr4 := hrv.2.1
      refine Z_iload_n d_mo_danglingCount_37 rfl ?_
      refine Z_aload_n d_mo_danglingCount_38 rfl ?_
      refine Z_get (v := .ref 141) d_mo_danglingCount_39 lf_mo_62 hF.1 rfl ?_
      refine Z_iload_n d_mo_danglingCount_42 rfl ?_
      refine Zn_zald d_mo_danglingCount_43 hF.a17 (by omega) (by omega) ?_
      refine Zn_if_eq (tgt := 78) d_mo_danglingCount_44 (by decide) (by omega) (fun h44 => ?_) (fun h44 => ?_)
      · skip
        skip
        refine Zn_iconst (nI 0) d_mo_danglingCount_78 (by decide) ?_
        refine Zn_iadd d_mo_danglingCount_79 ?_
        refine Zn_istore_n [some (.ref 123), some (.int (mI y)), some (.int (nI ((rdO G rc tg v + rdR G tg v r) + 0))), some (.int (nI v)), some (.int (nI r))] d_mo_danglingCount_80 (by decide) rfl ?_
        refine Zn_iinc [some (.ref 123), some (.int (mI y)), some (.int (nI ((rdO G rc tg v + rdR G tg v r) + 0))), some (.int (nI v)), some (.int (nI (r + 1)))] (nI (r + 1)) d_mo_danglingCount_81 rfl (by decide) (nI_add r 1) rfl ?_
        refine Z_goto (tgt := 26) d_mo_danglingCount_84 (by decide) ?_
        have e1 : rdR G tg v (r + 1) = rdR G tg v r + 0 := by
          show _ + (if G 17 v ≠ 0 ∧ G 16 v = 0 then dgl G (tg v r) else 0) = _
          rw [if_neg (fun z => z.1 h44)]
        have hih := ih (r + 1) (by omega) (by omega) Q hQ
        rw [e1, ← Nat.add_assoc] at hih
        exact hih
      · skip
        refine Z_aload_n d_mo_danglingCount_47 rfl ?_
        refine Z_get (v := .ref 140) d_mo_danglingCount_48 lf_mo_58 hF.1 rfl ?_
        refine Z_iload_n d_mo_danglingCount_51 rfl ?_
        refine Zn_zald d_mo_danglingCount_52 hF.a16 (by omega) (by omega) ?_
        refine Zn_if_ne (tgt := 78) d_mo_danglingCount_53 (by decide) (by omega) (fun h53 => ?_) (fun h53 => ?_)
        · skip
          skip
          refine Zn_iconst (nI 0) d_mo_danglingCount_78 (by decide) ?_
          refine Zn_iadd d_mo_danglingCount_79 ?_
          refine Zn_istore_n [some (.ref 123), some (.int (mI y)), some (.int (nI ((rdO G rc tg v + rdR G tg v r) + 0))), some (.int (nI v)), some (.int (nI r))] d_mo_danglingCount_80 (by decide) rfl ?_
          refine Zn_iinc [some (.ref 123), some (.int (mI y)), some (.int (nI ((rdO G rc tg v + rdR G tg v r) + 0))), some (.int (nI v)), some (.int (nI (r + 1)))] (nI (r + 1)) d_mo_danglingCount_81 rfl (by decide) (nI_add r 1) rfl ?_
          refine Z_goto (tgt := 26) d_mo_danglingCount_84 (by decide) ?_
          have e1 : rdR G tg v (r + 1) = rdR G tg v r + 0 := by
            show _ + (if G 17 v ≠ 0 ∧ G 16 v = 0 then dgl G (tg v r) else 0) = _
            rw [if_neg (fun z => h53 z.2)]
          have hih := ih (r + 1) (by omega) (by omega) Q hQ
          rw [e1, ← Nat.add_assoc] at hih
          exact hih
        · skip
          skip
          refine Z_aload_n d_mo_danglingCount_56 rfl ?_
          refine Z_aload_n d_mo_danglingCount_57 rfl ?_
          refine Z_get (v := .ref 128) d_mo_danglingCount_58 lf_mo_22 hF.1 rfl ?_
          refine Zn_iconst (nI 4) d_mo_danglingCount_61 (by decide) ?_
          refine Z_iload_n d_mo_danglingCount_62 rfl ?_
          refine Zn_imul d_mo_danglingCount_63 ?_
          refine Z_iload d_mo_danglingCount_64 rfl ?_
          refine Zn_iadd d_mo_danglingCount_66 ?_
          refine Zn_iald d_mo_danglingCount_67 hF.a4 (by omega) (by omega) ?_
          rw [htr.1]
          have hnn := hRO.nn
          refine zVe (As := [.int (nI (tg v r))]) (by omega) d_mo_danglingCount_68 lm_mo_354 hF.1 rfl rfl (Nat.le_of_ble_eq_true rfl) (mo_isDangling_ok d hF (by omega) (hRO.b1 (by omega)).1 (hRO.b1 (by omega)).2.1) ?_
          have hdg : dgl G (tg v r) ≤ 1 := by unfold dgl; split <;> omega
          refine Zn_if_eq (tgt := 78) d_mo_danglingCount_71 (by decide) (by omega) (fun h71 => ?_) (fun h71 => ?_)
          · skip
            refine Zn_iconst (nI 0) d_mo_danglingCount_78 (by decide) ?_
            refine Zn_iadd d_mo_danglingCount_79 ?_
            refine Zn_istore_n [some (.ref 123), some (.int (mI y)), some (.int (nI ((rdO G rc tg v + rdR G tg v r) + 0))), some (.int (nI v)), some (.int (nI r))] d_mo_danglingCount_80 (by decide) rfl ?_
            refine Zn_iinc [some (.ref 123), some (.int (mI y)), some (.int (nI ((rdO G rc tg v + rdR G tg v r) + 0))), some (.int (nI v)), some (.int (nI (r + 1)))] (nI (r + 1)) d_mo_danglingCount_81 rfl (by decide) (nI_add r 1) rfl ?_
            refine Z_goto (tgt := 26) d_mo_danglingCount_84 (by decide) ?_
            have e1 : rdR G tg v (r + 1) = rdR G tg v r + 0 := by
              show _ + (if G 17 v ≠ 0 ∧ G 16 v = 0 then dgl G (tg v r) else 0) = _
              rw [if_pos ⟨h44, h53⟩]; omega
            have hih := ih (r + 1) (by omega) (by omega) Q hQ
            rw [e1, ← Nat.add_assoc] at hih
            exact hih
          · skip
            refine Zn_iconst (nI 1) d_mo_danglingCount_74 (by decide) ?_
            refine Z_goto (tgt := 79) d_mo_danglingCount_75 (by decide) ?_
            refine Zn_iadd d_mo_danglingCount_79 ?_
            refine Zn_istore_n [some (.ref 123), some (.int (mI y)), some (.int (nI ((rdO G rc tg v + rdR G tg v r) + 1))), some (.int (nI v)), some (.int (nI r))] d_mo_danglingCount_80 (by decide) rfl ?_
            refine Zn_iinc [some (.ref 123), some (.int (mI y)), some (.int (nI ((rdO G rc tg v + rdR G tg v r) + 1))), some (.int (nI v)), some (.int (nI (r + 1)))] (nI (r + 1)) d_mo_danglingCount_81 rfl (by decide) (nI_add r 1) rfl ?_
            refine Z_goto (tgt := 26) d_mo_danglingCount_84 (by decide) ?_
            have e1 : rdR G tg v (r + 1) = rdR G tg v r + 1 := by
              show _ + (if G 17 v ≠ 0 ∧ G 16 v = 0 then dgl G (tg v r) else 0) = _
              rw [if_pos ⟨h44, h53⟩]; omega
            have hih := ih (r + 1) (by omega) (by omega) Q hQ
            rw [e1, ← Nat.add_assoc] at hih
            exact hih
set_option maxHeartbeats 4000000 in
theorem mo_dg_out {Γ : zCtx} (d : Nat) {M : List zE} {M0 : List zE} {s : Nat → Nat} {G : Nat → Nat → Nat} (hF : FW M0 M s G) {n : Nat} {S1 : vSt} (hRO : RO S1 n s G) (hn : n ≤ 30) (hs0 : s 0 = n) {rc : Nat → Nat} {tg : Nat → Nat → Nat} (hrf : rfR n rc tg G) {y : Nat}  : ∀ (f : Nat) (v : Nat) (y4 : Option Value), v ≤ n → n < v + f → ∀ Q : List zE → Option Value → Prop, Q M (some (.int (nI (rdO G rc tg n)))) → Z Γ (zRm (d + 8) m_mo_danglingCount) m_mo_danglingCount (zPh Γ m_mo_danglingCount Q) 0 0 15 [some (.ref 123), some (.int (mI y)), some (.int (nI (rdO G rc tg v))), some (.int (nI v)), y4] [] M := by
  intro f
  induction f with
  | zero => intro v y4 hv hf; exact absurd hf (by omega)
  | succ f ih =>
    intro v y4 hv hf Q hQ
    refine Z_iload_n d_mo_danglingCount_15 rfl ?_
    refine Z_aload_n d_mo_danglingCount_16 rfl ?_
    refine Z_get (v := .int (nI (s 0))) d_mo_danglingCount_17 lf_mo_154 hF.1 rfl ?_
    refine Zn_icmp_ge (tgt := 93) d_mo_danglingCount_20 (by decide) (by omega) (by omega) (fun h20 => ?_) (fun h20 => ?_)
    · skip
      obtain rfl : v = n := by omega
      refine Z_iload_n d_mo_danglingCount_93 rfl ?_
      refine Z_iret d_mo_danglingCount_94 rfl ?_
      exact hQ
    · skip
      refine Zn_iconst (nI 0) d_mo_danglingCount_23 (by decide) ?_
      refine Zn_istore [some (.ref 123), some (.int (mI y)), some (.int (nI (rdO G rc tg v))), some (.int (nI v)), some (.int (nI 0))] d_mo_danglingCount_24 (by decide) rfl ?_
      refine mo_dg_in d hF hRO hn hs0 hrf (v := v) (by omega) (hrf v (by omega)) (rc v + 1) 0 (by omega) (by omega) Q ?_
      refine Zn_iinc [some (.ref 123), some (.int (mI y)), some (.int (nI (rdO G rc tg v + rdR G tg v (rc v)))), some (.int (nI (v + 1))), some (.int (nI (rc v)))] (nI (v + 1)) d_mo_danglingCount_87 rfl (by decide) (nI_add v 1) rfl ?_
      refine Z_goto (tgt := 15) d_mo_danglingCount_90 (by decide) ?_
      exact ih (v + 1) _ (by omega) (by omega) Q hQ
set_option maxHeartbeats 4000000 in
theorem mo_danglingCount_ok {Γ : zCtx} {M : List zE} (d : Nat) {M0 : List zE} {s : Nat → Nat} {G : Nat → Nat → Nat} (hF : FW M0 M s G) {m : Nat} {dy sz kd pt gl : Nat → Nat} {tx : Nat → Int32} {n : Nat} {e : Nat → zEnt} {K : Nat → Nat} {y : Nat} {S1 : vSt} (hV : vHy m dy sz kd pt gl tx s G n e K y S1) {rc : Nat → Nat} {tg : Nat → Nat → Nat} (hrf : rfR n rc tg G)  : ZM Γ (d + 8) m_mo_danglingCount [.ref 123, .int (mI y)] M (fun M1 v => v = some (.int (nI (dgS n rc tg S1 S1.1))) ∧ ∃ s' G', FW M0 M1 s' G' ∧ pF s s' G G') := by
  refine ZM.of mk_mo_danglingCount (Nat.le_of_ble_eq_true rfl) ?_
  rw [show zEn [.ref 123, .int (mI y)] = [some (.ref 123), some (.int (mI y))] from rfl]
  refine zPad 3 ?_
  show Z _ _ _ _ _ _ _ [some (.ref 123), some (.int (mI y)), none, none, none] _ _
  refine Z_aload_n d_mo_danglingCount_0 rfl ?_
  refine Z_iload_n d_mo_danglingCount_1 rfl ?_
  refine zV (As := [.int (mI y)]) (by omega) d_mo_danglingCount_2 lm_mo_313 hF.1 rfl rfl (Nat.le_of_ble_eq_true rfl) (mo_compute_v d hF hV) (fun M1 v hq hlen => ?_)
  obtain ⟨rfl, s1, G1, hF, hRO, hc⟩ := hq
  have hnn := hRO.nn
  have h120 := hV.2.2.2.2.2.1
  refine Zn_if_ne (a := 1) (tgt := 11) d_mo_danglingCount_5 (by decide) (by decide) (fun _ => ?_) (fun h => absurd h (by decide))
  refine Zn_iconst (nI 0) d_mo_danglingCount_11 (by decide) ?_
  refine Zn_istore_n [some (.ref 123), some (.int (mI y)), some (.int (nI 0)), none, none] d_mo_danglingCount_12 (by decide) rfl ?_
  refine Zn_iconst (nI 0) d_mo_danglingCount_13 (by decide) ?_
  refine Zn_istore_n [some (.ref 123), some (.int (mI y)), some (.int (nI 0)), some (.int (nI 0)), none] d_mo_danglingCount_14 (by decide) rfl ?_
  have hn30 := hV.2.2.2.1
  have hrf1 := hrf.p hc.p
  refine mo_dg_out d hF hRO hn30 ((hc.1 0 (by decide) (by decide) (by decide) (by decide)).trans hV.2.2.1) hrf1 (n + 1) 0 _ (by omega) (by omega) _ ⟨?_, s1, G1, hF, hc.p⟩
  rw [hRO.dgs hrf1 hn30]
set_option maxHeartbeats 4000000 in
theorem mo_danglingCount_no {Γ : zCtx} {M : List zE} (d : Nat) {M0 : List zE} {s : Nat → Nat} {G : Nat → Nat → Nat} (hF : FW M0 M s G) {x : Int32} (hno : dOk x = false)  : ZM Γ (d + 8) m_mo_danglingCount [.ref 123, .int x] M (zEq M (some (.int (-4)))) := by
  refine ZM.of mk_mo_danglingCount (Nat.le_of_ble_eq_true rfl) ?_
  rw [show zEn [.ref 123, .int x] = [some (.ref 123), some (.int x)] from rfl]
  refine zPad 3 ?_
  show Z _ _ _ _ _ _ _ [some (.ref 123), some (.int x), none, none, none] _ _
  refine Z_aload_n d_mo_danglingCount_0 rfl ?_
  refine Z_iload_n d_mo_danglingCount_1 rfl ?_
  refine zVe (As := [.int x]) (by omega) d_mo_danglingCount_2 lm_mo_313 hF.1 rfl rfl (Nat.le_of_ble_eq_true rfl) (mo_compute_no d hF hno) ?_
  refine Zn_if_ne (a := 0) (tgt := 11) d_mo_danglingCount_5 (by decide) (by decide) (fun h => absurd h (by decide)) (fun _ => ?_)
  refine Zn_bipush (-4) d_mo_danglingCount_8 (by decide) ?_
  refine Z_iret d_mo_danglingCount_10 rfl ?_
  exact ⟨rfl, rfl⟩
