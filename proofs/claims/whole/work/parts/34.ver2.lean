/-! what an instruction does to a version -/
theorem cpE_k {n : Nat} {e : Nat → zEnt} {k q : Nat} (h1 : 1 ≤ lev k) (hq : q < 2 ^ 63) (hq0 : q % un (lev k) = 0) (hk : ∀ i, i < n → ek (e i) < 2 ^ 63) : ∀ i, i < n → ek (cpE e k q n i) < 2 ^ 63 := by
  intro i hi
  unfold cpE
  have h3 := lev_le k
  split
  · show q + ek (e i) % un (lev k) < 2 ^ 63
    rcases (show lev k = 1 ∨ lev k = 2 ∨ lev k = 3 by omega) with z | z | z
    · rw [z, un_1] at hq0 ⊢; omega
    · rw [z, un_2] at hq0 ⊢; omega
    · rw [z, un_3] at hq0 ⊢; omega
  · exact hk i hi
theorem eapp_k {n : Nat} {e : Nat → zEnt} {k : Nat} {t o c : Int32} (hk : ∀ i, i < n → ek (e i) < 2 ^ 63) (h9 : k < 2 ^ 63) : ∀ i, i < n + 1 → ek (eup e n (k, t, false, o, c) i) < 2 ^ 63 := by
  intro i hi
  by_cases z : i = n
  · subst z; rw [eup_s]; exact h9
  · rw [eup_n z]; exact hk i (by omega)
set_option maxHeartbeats 4000000 in
theorem ver_insertAfter_ok {Γ : zCtx} {M : List zE} (d : Nat) {b n q : Nat} {e : Nat → zEnt} {ca ci cr : Nat → Nat} (hV : VeAt M b n e q ca ci cr) (hb : b ≤ 1000) (hI : vInv n e) (hn9 : n < 60) {k g a : Nat} {t : Int32} (hkv : vkey k) : ZM Γ (d + 3) m_ver_insertAfter [.ref b, .long (lN k), .int t, .int (nI a)] M (fun M1 v => ∃ n1 e1 r, v = some (.int (nI r)) ∧ VeAt M1 b n1 e1 q ca ci cr ∧ zFr M M1 b 10 ∧ r ≤ 5 ∧ vC 0 k g t a n e n1 e1 r) := by
  refine ZM.of mk_ver_insertAfter (Nat.le_of_ble_eq_true rfl) ?_
  rw [show zEn [.ref b, .long (lN k), .int t, .int (nI a)] = [some (.ref b), some (.long (lN k)), none, some (.int t), some (.int (nI a))] from rfl]
  refine zPad 1 ?_
  show Z _ _ _ _ _ _ _ [some (.ref b), some (.long (lN k)), none, some (.int t), some (.int (nI a)), none] _ _
  refine Z_aload_n d_ver_insertAfter_0 rfl ?_
  refine Z_get d_ver_insertAfter_1 lf_ver_12 hV.1 rfl ?_
  refine Z_lload_n d_ver_insertAfter_4 rfl ?_
  refine Zn_lconst (0) d_ver_insertAfter_5 (by decide) ?_
  refine zVe (As := [.long (lN k), .long 0]) (by omega) d_ver_insertAfter_6 lm_ver_134 hV.2.1.1 rfl rfl (Nat.le_of_ble_eq_true rfl) (pv_aftl_ok (q := 0) d hV.2.1 hI.1 hI.k hkv.1 (by decide) hkv.2.1) ?_
  rcases hr : aftl n e k 0 with _ | lb
  · skip
    refine Zn_istore [some (.ref b), some (.long (lN k)), none, some (.int t), some (.int (nI a)), some (.int (-7))] d_ver_insertAfter_9 (by decide) rfl ?_
    refine Z_iload d_ver_insertAfter_11 rfl ?_
    refine Z_if_ge (tgt := 18) d_ver_insertAfter_13 (by decide) (fun h13 => ?_) (fun h13 => ?_)
    · skip
      exact absurd h13 (by decide) -- end
    · skip
      refine Zn_iconst (nI 5) d_ver_insertAfter_16 (by decide) ?_
      refine Z_iret d_ver_insertAfter_17 rfl ?_
      exact ⟨n, e, 5, rfl, hV, zFr.rf, by omega, Or.inl ⟨hr, rfl, rfl, rfl⟩⟩
  · skip
    have hlb := aftl_lt hr (hkv.2.2 _ hkv.2.1 (lev_le k))
    refine Zn_istore [some (.ref b), some (.long (lN k)), none, some (.int t), some (.int (nI a)), some (.int (nI lb))] d_ver_insertAfter_9 (by decide) rfl ?_
    refine Z_iload d_ver_insertAfter_11 rfl ?_
    refine Zn_if_ge (tgt := 18) d_ver_insertAfter_13 (by decide) (by omega) ?_
    refine Z_aload_n d_ver_insertAfter_18 rfl ?_
    refine Z_get d_ver_insertAfter_19 lf_ver_12 hV.1 rfl ?_
    refine Z_lload_n d_ver_insertAfter_22 rfl ?_
    refine Z_iload d_ver_insertAfter_23 rfl ?_
    refine zTe (As := [.long (lN k), .int (nI lb)]) (by omega) d_ver_insertAfter_25 lm_ver_137 rfl (Nat.le_of_ble_eq_true rfl) (pa_siblingOf_ok (b := lb) d hkv.1 hkv.2.1 (by omega)) ?_
    refine Z_iload_n d_ver_insertAfter_28 rfl ?_
    refine Zn_bipush (-9) d_ver_insertAfter_29 (by decide) ?_
    refine Z_iload d_ver_insertAfter_31 rfl ?_
    refine zV (As := [.long (lN (putl k (lev k) lb)), .int t, .int (-9), .int (nI a)]) (by omega) d_ver_insertAfter_33 lm_ver_141 hV.2.1.1 rfl rfl (Nat.le_of_ble_eq_true rfl) (pv_append_ok (d + 1) hV.2.1 (by omega)) (fun M1 v hq hlen => ?_)
    obtain ⟨rfl, hP1, hF1⟩ := hq
    have hV := hV.pv hP1 hF1
    have hF : zFr M M1 b 10 := hF1.wide (by omega) (by omega)
    have hk1 := eapp_k (n := n) hI.k (putl_lt hkv.1 hkv.2.1 (lev_le k) (show lb < 2097152 by omega)) (t := t) (o := -9) (c := nI a)
    refine Z_aload_n d_ver_insertAfter_36 rfl ?_
    refine Z_get d_ver_insertAfter_37 lf_ver_12 hV.1 rfl ?_
    refine zV (As := []) (by omega) d_ver_insertAfter_40 lm_ver_145 hV.2.1.1 rfl rfl (Nat.le_of_ble_eq_true rfl) (pv_restoreOrder_ok d hV.2.1 (by omega) hk1) (fun M2 v hq hlen => ?_)
    obtain ⟨rfl, e1, hP2, hF2, hk2, hpm, hsr⟩ := hq
    have hV := hV.pv hP2 hF2
    have hF := hF.trans (hF2.wide (lo' := b) (n' := 10) (by omega) (by omega))
    refine Zn_iconst (nI 0) d_ver_insertAfter_43 (by decide) ?_
    refine Z_iret d_ver_insertAfter_44 rfl ?_
    exact ⟨n + 1, e1, 0, rfl, hV, hF, by omega, Or.inr ⟨lb, hr, rfl, rfl, hpm, hsr⟩⟩
set_option maxHeartbeats 4000000 in
theorem ver_addChild_ok {Γ : zCtx} {M : List zE} (d : Nat) {b n q : Nat} {e : Nat → zEnt} {ca ci cr : Nat → Nat} (hV : VeAt M b n e q ca ci cr) (hb : b ≤ 1000) (hI : vInv n e) (hn9 : n < 60) {k g a : Nat} {t : Int32} (hkv : vkey k) (hl2 : lev k ≤ 2) : ZM Γ (d + 3) m_ver_addChild [.ref b, .long (lN k), .int t, .int (nI a)] M (fun M1 v => ∃ n1 e1 r, v = some (.int (nI r)) ∧ VeAt M1 b n1 e1 q ca ci cr ∧ zFr M M1 b 10 ∧ r ≤ 5 ∧ vC 1 k g t a n e n1 e1 r) := by
  refine ZM.of mk_ver_addChild (Nat.le_of_ble_eq_true rfl) ?_
  rw [show zEn [.ref b, .long (lN k), .int t, .int (nI a)] = [some (.ref b), some (.long (lN k)), none, some (.int t), some (.int (nI a))] from rfl]
  refine zPad 1 ?_
  show Z _ _ _ _ _ _ _ [some (.ref b), some (.long (lN k)), none, some (.int t), some (.int (nI a)), none] _ _
  refine Z_aload_n d_ver_addChild_0 rfl ?_
  refine Z_get d_ver_addChild_1 lf_ver_12 hV.1 rfl ?_
  refine Z_lload_n d_ver_addChild_4 rfl ?_
  refine zVe (As := [.long (lN k)]) (by omega) d_ver_addChild_5 lm_ver_148 hV.2.1.1 rfl rfl (Nat.le_of_ble_eq_true rfl) (pv_newl_ok d hV.2.1 hI.1 hI.k hkv.1 hl2) ?_
  rcases hr : newl n e k with _ | lb
  · skip
    refine Zn_istore [some (.ref b), some (.long (lN k)), none, some (.int t), some (.int (nI a)), some (.int (-7))] d_ver_addChild_8 (by decide) rfl ?_
    refine Z_iload d_ver_addChild_10 rfl ?_
    refine Z_if_ge (tgt := 17) d_ver_addChild_12 (by decide) (fun h12 => ?_) (fun h12 => ?_)
    · skip
      exact absurd h12 (by decide) -- end
    · skip
      refine Zn_iconst (nI 5) d_ver_addChild_15 (by decide) ?_
      refine Z_iret d_ver_addChild_16 rfl ?_
      exact ⟨n, e, 5, rfl, hV, zFr.rf, by omega, Or.inl ⟨hr, rfl, rfl, rfl⟩⟩
  · skip
    have hlb := newl_lt hr
    refine Zn_istore [some (.ref b), some (.long (lN k)), none, some (.int t), some (.int (nI a)), some (.int (nI lb))] d_ver_addChild_8 (by decide) rfl ?_
    refine Z_iload d_ver_addChild_10 rfl ?_
    refine Zn_if_ge (tgt := 17) d_ver_addChild_12 (by decide) (by omega) ?_
    refine Z_aload_n d_ver_addChild_17 rfl ?_
    refine Z_get d_ver_addChild_18 lf_ver_12 hV.1 rfl ?_
    refine Z_lload_n d_ver_addChild_21 rfl ?_
    refine Z_iload d_ver_addChild_22 rfl ?_
    refine zTe (As := [.long (lN k), .int (nI lb)]) (by omega) d_ver_addChild_24 lm_ver_151 rfl (Nat.le_of_ble_eq_true rfl) (pa_childOf_ok (b := lb) d hkv.1 hl2 (by omega)) ?_
    refine Z_iload_n d_ver_addChild_27 rfl ?_
    refine Zn_bipush (-9) d_ver_addChild_28 (by decide) ?_
    refine Z_iload d_ver_addChild_30 rfl ?_
    refine zV (As := [.long (lN (putl k (lev k + 1) lb)), .int t, .int (-9), .int (nI a)]) (by omega) d_ver_addChild_32 lm_ver_141 hV.2.1.1 rfl rfl (Nat.le_of_ble_eq_true rfl) (pv_append_ok (d + 1) hV.2.1 (by omega)) (fun M1 v hq hlen => ?_)
    obtain ⟨rfl, hP1, hF1⟩ := hq
    have hV := hV.pv hP1 hF1
    have hF : zFr M M1 b 10 := hF1.wide (by omega) (by omega)
    have hk1 := eapp_k (n := n) hI.k (putl_lt hkv.1 (show 1 ≤ lev k + 1 by omega) (by omega) (show lb < 2097152 by omega)) (t := t) (o := -9) (c := nI a)
    refine Z_aload_n d_ver_addChild_35 rfl ?_
    refine Z_get d_ver_addChild_36 lf_ver_12 hV.1 rfl ?_
    refine zV (As := []) (by omega) d_ver_addChild_39 lm_ver_145 hV.2.1.1 rfl rfl (Nat.le_of_ble_eq_true rfl) (pv_restoreOrder_ok d hV.2.1 (by omega) hk1) (fun M2 v hq hlen => ?_)
    obtain ⟨rfl, e1, hP2, hF2, hk2, hpm, hsr⟩ := hq
    have hV := hV.pv hP2 hF2
    have hF := hF.trans (hF2.wide (lo' := b) (n' := 10) (by omega) (by omega))
    refine Zn_iconst (nI 0) d_ver_addChild_42 (by decide) ?_
    refine Z_iret d_ver_addChild_43 rfl ?_
    exact ⟨n + 1, e1, 0, rfl, hV, hF, by omega, Or.inr ⟨lb, hr, rfl, rfl, hpm, hsr⟩⟩
set_option maxHeartbeats 4000000 in
theorem ver_replaceText_ok {Γ : zCtx} {M : List zE} (d : Nat) {b n q : Nat} {e : Nat → zEnt} {ca ci cr : Nat → Nat} (hV : VeAt M b n e q ca ci cr) (hb : b ≤ 1000) (hI : vInv n e) {k g a : Nat} {t : Int32} (hkv : vkey k) (hps : posK n e k ≠ none) : ZM Γ (d + 3) m_ver_replaceText [.ref b, .long (lN k), .int t] M (fun M1 v => ∃ n1 e1 r, v = some (.int (nI r)) ∧ VeAt M1 b n1 e1 q ca ci cr ∧ zFr M M1 b 10 ∧ r ≤ 5 ∧ vC 2 k g t a n e n1 e1 r) := by
  refine ZM.of mk_ver_replaceText (Nat.le_of_ble_eq_true rfl) ?_
  rw [show zEn [.ref b, .long (lN k), .int t] = [some (.ref b), some (.long (lN k)), none, some (.int t)] from rfl]
  refine zPad 1 ?_
  show Z _ _ _ _ _ _ _ [some (.ref b), some (.long (lN k)), none, some (.int t), none] _ _
  refine Z_aload_n d_ver_replaceText_0 rfl ?_
  refine Z_get d_ver_replaceText_1 lf_ver_12 hV.1 rfl ?_
  refine Z_lload_n d_ver_replaceText_4 rfl ?_
  refine zVe (As := [.long (lN k)]) (by omega) d_ver_replaceText_5 lm_ver_93 hV.2.1.1 rfl rfl (Nat.le_of_ble_eq_true rfl) (pv_posK_ok d hV.2.1 hI.1 hI.k hkv.1) ?_
  have hn := hI.1
  rcases hr : posK n e k with _ | i
  · skip
    exact absurd hr hps -- end
  · skip
    have hi := (frst_some.mp hr).1
    refine Zn_istore [some (.ref b), some (.long (lN k)), none, some (.int t), some (.int (nI i))] d_ver_replaceText_8 (by decide) rfl ?_
    refine Z_iload d_ver_replaceText_10 rfl ?_
    refine Zn_if_ge (tgt := 17) d_ver_replaceText_12 (by decide) (by omega) ?_
    refine Z_aload_n d_ver_replaceText_17 rfl ?_
    refine Z_get d_ver_replaceText_18 lf_ver_12 hV.1 rfl ?_
    refine Z_get d_ver_replaceText_21 lf_ver_154 hV.2.1.1 rfl ?_
    refine Z_iload d_ver_replaceText_24 rfl ?_
    refine Z_iload_n d_ver_replaceText_26 rfl ?_
    refine Zn_iast d_ver_replaceText_27 hV.2.1.2.2.1 (by omega) (by omega) ?_
    have hV1 := hV.pv (hV.2.1.putT (j := i) (x := t)) (zFr.rf.set (by omega) (by omega))
    refine Zn_iconst (nI 0) d_ver_replaceText_28 (by decide) ?_
    refine Z_iret d_ver_replaceText_29 rfl ?_
    exact ⟨n, _, 0, rfl, hV1, zFr.rf.set (by omega) (by omega), by omega, i, hr, rfl, rfl, rfl⟩
set_option maxHeartbeats 4000000 in
theorem ver_moveAfter_ok {Γ : zCtx} {M : List zE} (d : Nat) {b n q : Nat} {e : Nat → zEnt} {ca ci cr : Nat → Nat} (hV : VeAt M b n e q ca ci cr) (hb : b ≤ 1000) (hI : vInv n e) {k g a : Nat} {t : Int32} (hkv : vkey k) (hgv : vkey g) (hlg : lev g = lev k) : ZM Γ (d + 3) m_ver_moveAfter [.ref b, .long (lN k), .long (lN g)] M (fun M1 v => ∃ n1 e1 r, v = some (.int (nI r)) ∧ VeAt M1 b n1 e1 q ca ci cr ∧ zFr M M1 b 10 ∧ r ≤ 5 ∧ vC 4 k g t a n e n1 e1 r) := by
  refine ZM.of mk_ver_moveAfter (Nat.le_of_ble_eq_true rfl) ?_
  rw [show zEn [.ref b, .long (lN k), .long (lN g)] = [some (.ref b), some (.long (lN k)), none, some (.long (lN g)), none] from rfl]
  refine zPad 1 ?_
  show Z _ _ _ _ _ _ _ [some (.ref b), some (.long (lN k)), none, some (.long (lN g)), none, none] _ _
  refine Z_aload_n d_ver_moveAfter_0 rfl ?_
  refine Z_get d_ver_moveAfter_1 lf_ver_12 hV.1 rfl ?_
  refine Z_lload_n d_ver_moveAfter_4 rfl ?_
  refine Z_lload_n d_ver_moveAfter_5 rfl ?_
  refine zVe (As := [.long (lN g), .long (lN k)]) (by omega) d_ver_moveAfter_6 lm_ver_134 hV.2.1.1 rfl rfl (Nat.le_of_ble_eq_true rfl) (pv_aftl_ok (k := g) (q := k) d hV.2.1 hI.1 hI.k hgv.1 hkv.1 hgv.2.1) ?_
  rcases hr : aftl n e g k with _ | lb
  · skip
    refine Zn_istore [some (.ref b), some (.long (lN k)), none, some (.long (lN g)), none, some (.int (-7))] d_ver_moveAfter_9 (by decide) rfl ?_
    refine Z_iload d_ver_moveAfter_11 rfl ?_
    refine Z_if_ge (tgt := 18) d_ver_moveAfter_13 (by decide) (fun h13 => ?_) (fun h13 => ?_)
    · skip
      exact absurd h13 (by decide) -- end
    · skip
      refine Zn_iconst (nI 5) d_ver_moveAfter_16 (by decide) ?_
      refine Z_iret d_ver_moveAfter_17 rfl ?_
      exact ⟨n, e, 5, rfl, hV, zFr.rf, by omega, Or.inl ⟨hr, rfl, rfl, rfl⟩⟩
  · skip
    have hlb := aftl_lt hr (hgv.2.2 _ hgv.2.1 (lev_le g))
    refine Zn_istore [some (.ref b), some (.long (lN k)), none, some (.long (lN g)), none, some (.int (nI lb))] d_ver_moveAfter_9 (by decide) rfl ?_
    refine Z_iload d_ver_moveAfter_11 rfl ?_
    refine Zn_if_ge (tgt := 18) d_ver_moveAfter_13 (by decide) (by omega) ?_
    refine Z_aload_n d_ver_moveAfter_18 rfl ?_
    refine Z_get d_ver_moveAfter_19 lf_ver_12 hV.1 rfl ?_
    refine Z_lload_n d_ver_moveAfter_22 rfl ?_
    refine Z_lload_n d_ver_moveAfter_23 rfl ?_
    refine Z_iload d_ver_moveAfter_24 rfl ?_
    refine zTe (As := [.long (lN g), .int (nI lb)]) (by omega) d_ver_moveAfter_26 lm_ver_137 rfl (Nat.le_of_ble_eq_true rfl) (pa_siblingOf_ok (k := g) (b := lb) d hgv.1 hgv.2.1 (by omega)) ?_
    have hto : putl g (lev g) lb < 2 ^ 63 := putl_lt hgv.1 hgv.2.1 (lev_le g) (by omega)
    have hto0 : putl g (lev g) lb % un (lev k) = 0 := by rw [← hlg]; exact putl_un
    refine zV (As := [.long (lN k), .long (lN (putl g (lev g) lb))]) (by omega) d_ver_moveAfter_29 lm_ver_155 hV.2.1.1 rfl rfl (Nat.le_of_ble_eq_true rfl) (pv_changePath_ok (k := k) (q := putl g (lev g) lb) d hV.2.1 hI.1 hI.k hkv.1 hkv.2.1 hto hto0) (fun M1 v hq hlen => ?_)
    obtain ⟨rfl, hP1, hF1⟩ := hq
    have hV := hV.pv hP1 hF1
    have hF : zFr M M1 b 10 := hF1.wide (by omega) (by omega)
    have hk1 := cpE_k hkv.2.1 hto hto0 hI.k
    have hn := hI.1
    refine Z_aload_n d_ver_moveAfter_32 rfl ?_
    refine Z_get d_ver_moveAfter_33 lf_ver_12 hV.1 rfl ?_
    refine zV (As := []) (by omega) d_ver_moveAfter_36 lm_ver_145 hV.2.1.1 rfl rfl (Nat.le_of_ble_eq_true rfl) (pv_restoreOrder_ok d hV.2.1 (by omega) hk1) (fun M2 v hq hlen => ?_)
    obtain ⟨rfl, e1, hP2, hF2, hk2, hpm, hsr⟩ := hq
    have hV := hV.pv hP2 hF2
    have hF := hF.trans (hF2.wide (lo' := b) (n' := 10) (by omega) (by omega))
    refine Zn_iconst (nI 0) d_ver_moveAfter_39 (by decide) ?_
    refine Z_iret d_ver_moveAfter_40 rfl ?_
    exact ⟨n, e1, 0, rfl, hV, hF, by omega, Or.inr ⟨lb, hr, rfl, rfl, hpm, hsr⟩⟩
set_option maxHeartbeats 4000000 in
theorem ver_carryOut_ok {Γ : zCtx} {M : List zE} (d : Nat) {b n q : Nat} {e : Nat → zEnt} {ca ci cr : Nat → Nat} (hV : VeAt M b n e q ca ci cr) (hb : b ≤ 1000) {c m : Nat} {dy sz kd pt gl : Nat → Nat} {tx : Nat → Int32} (hA : AmAt M c m dy sz kd pt gl tx) (hI : vInv n e) {s a : Nat} (hs : s < 120) (hks : kd s ≤ 5) (hkv : vkey (pt s)) (hgv : kd s = 4 → vkey (gl s) ∧ lev (gl s) = lev (pt s)) (hn9 : kd s ≤ 1 → n < 60) (hl2 : kd s = 1 → lev (pt s) ≤ 2) (hps : kd s = 2 → posK n e (pt s) ≠ none) : ZM Γ (d + 4) m_ver_carryOut [.ref b, .ref c, .int (nI s), .int (nI a)] M (fun M1 v => ∃ n1 e1 r, v = some (.int (nI r)) ∧ VeAt M1 b n1 e1 q ca ci cr ∧ zFr M M1 b 10 ∧ r ≤ 5 ∧ vC (kd s) (pt s) (gl s) (tx s) a n e n1 e1 r) := by
  refine ZM.of mk_ver_carryOut (Nat.le_of_ble_eq_true rfl) ?_
  rw [show zEn [.ref b, .ref c, .int (nI s), .int (nI a)] = [some (.ref b), some (.ref c), some (.int (nI s)), some (.int (nI a))] from rfl]
  refine zPad 3 ?_
  show Z _ _ _ _ _ _ _ [some (.ref b), some (.ref c), some (.int (nI s)), some (.int (nI a)), none, none, none] _ _
  refine Z_aload_n d_ver_carryOut_0 rfl ?_
  refine Z_get d_ver_carryOut_1 lf_ver_86 hA.1 rfl ?_
  refine Z_iload_n d_ver_carryOut_4 rfl ?_
  refine Zn_lald d_ver_carryOut_5 hA.2.2.2.2.1 (by omega) (by omega) ?_
  refine Zn_lstore [some (.ref b), some (.ref c), some (.int (nI s)), some (.int (nI a)), some (.long (lN (pt s))), none, none] d_ver_carryOut_6 (by decide) rfl ?_
  refine Z_aload_n d_ver_carryOut_8 rfl ?_
  refine Z_get d_ver_carryOut_9 lf_ver_109 hA.1 rfl ?_
  refine Z_iload_n d_ver_carryOut_12 rfl ?_
  refine Zn_iald d_ver_carryOut_13 hA.2.2.2.2.2.2 (by omega) (by omega) ?_
  refine Zn_istore [some (.ref b), some (.ref c), some (.int (nI s)), some (.int (nI a)), some (.long (lN (pt s))), none, some (.int (tx s))] d_ver_carryOut_14 (by decide) rfl ?_
  refine Z_aload_n d_ver_carryOut_16 rfl ?_
  refine Z_get d_ver_carryOut_17 lf_ver_83 hA.1 rfl ?_
  refine Z_iload_n d_ver_carryOut_20 rfl ?_
  refine Zn_iald d_ver_carryOut_21 hA.2.2.2.1 (by omega) (by omega) ?_
  rcases (show kd s = 0 ∨ kd s = 1 ∨ kd s = 2 ∨ kd s = 3 ∨ kd s = 4 ∨ kd s = 5 by omega) with hz | hz | hz | hz | hz | hz
  · rw [hz]
    refine Z_tableIn (tgt := 56) (off := 34) d_ver_carryOut_22 (by decide) (by decide) (by decide) (by decide) ?_
    refine Z_aload_n d_ver_carryOut_56 rfl ?_
    refine Z_lload d_ver_carryOut_57 rfl ?_
    refine Z_iload d_ver_carryOut_59 rfl ?_
    refine Z_iload_n d_ver_carryOut_61 rfl ?_
    refine zV (As := [.long (lN (pt s)), .int (tx s), .int (nI a)]) (by omega) d_ver_carryOut_62 lm_ver_112 hV.1 rfl rfl (Nat.le_of_ble_eq_true rfl) (ver_insertAfter_ok (g := gl s) d hV hb hI (hn9 (by omega)) hkv) (fun M1 v hq hlen => ?_)
    obtain ⟨n1, e1, r, rfl, hV1, hF1, hr5, hC⟩ := hq
    refine Z_iret d_ver_carryOut_65 rfl ?_
    exact ⟨n1, e1, r, rfl, hV1, hF1, hr5, hC⟩
  · rw [hz]
    refine Z_tableIn (tgt := 66) (off := 44) d_ver_carryOut_22 (by decide) (by decide) (by decide) (by decide) ?_
    refine Z_aload_n d_ver_carryOut_66 rfl ?_
    refine Z_lload d_ver_carryOut_67 rfl ?_
    refine Z_iload d_ver_carryOut_69 rfl ?_
    refine Z_iload_n d_ver_carryOut_71 rfl ?_
    refine zV (As := [.long (lN (pt s)), .int (tx s), .int (nI a)]) (by omega) d_ver_carryOut_72 lm_ver_116 hV.1 rfl rfl (Nat.le_of_ble_eq_true rfl) (ver_addChild_ok (g := gl s) d hV hb hI (hn9 (by omega)) hkv (hl2 hz)) (fun M1 v hq hlen => ?_)
    obtain ⟨n1, e1, r, rfl, hV1, hF1, hr5, hC⟩ := hq
    refine Z_iret d_ver_carryOut_75 rfl ?_
    exact ⟨n1, e1, r, rfl, hV1, hF1, hr5, hC⟩
  · rw [hz]
    refine Z_tableIn (tgt := 76) (off := 54) d_ver_carryOut_22 (by decide) (by decide) (by decide) (by decide) ?_
    refine Z_aload_n d_ver_carryOut_76 rfl ?_
    refine Z_lload d_ver_carryOut_77 rfl ?_
    refine Z_iload d_ver_carryOut_79 rfl ?_
    refine zV (As := [.long (lN (pt s)), .int (tx s)]) (by omega) d_ver_carryOut_81 lm_ver_119 hV.1 rfl rfl (Nat.le_of_ble_eq_true rfl) (ver_replaceText_ok (g := gl s) (a := a) d hV hb hI hkv (hps hz)) (fun M1 v hq hlen => ?_)
    obtain ⟨n1, e1, r, rfl, hV1, hF1, hr5, hC⟩ := hq
    refine Z_iret d_ver_carryOut_84 rfl ?_
    exact ⟨n1, e1, r, rfl, hV1, hF1, hr5, hC⟩
  · rw [hz]
    refine Z_tableIn (tgt := 85) (off := 63) d_ver_carryOut_22 (by decide) (by decide) (by decide) (by decide) ?_
    refine Z_aload_n d_ver_carryOut_85 rfl ?_
    refine Z_get d_ver_carryOut_86 lf_ver_12 hV.1 rfl ?_
    refine Z_lload d_ver_carryOut_89 rfl ?_
    refine zV (As := [.long (lN (pt s))]) (by omega) d_ver_carryOut_91 lm_ver_123 hV.2.1.1 rfl rfl (Nat.le_of_ble_eq_true rfl) (pv_repeal_ok (d + 1) hV.2.1 hI.1 hI.k hkv.1 hkv.2.1) (fun M1 v hq hlen => ?_)
    obtain ⟨rfl, hP1, hF1⟩ := hq
    have hV1 := hV.pv hP1 hF1
    have hF1 : zFr M M1 b 10 := hF1.wide (by omega) (by omega)
    refine Zn_iconst (nI 0) d_ver_carryOut_94 (by decide) ?_
    refine Z_iret d_ver_carryOut_95 rfl ?_
    exact ⟨n, _, 0, rfl, hV1, hF1, by omega, rfl, rfl, rfl⟩
  · rw [hz]
    refine Z_tableIn (tgt := 96) (off := 74) d_ver_carryOut_22 (by decide) (by decide) (by decide) (by decide) ?_
    refine Z_aload_n d_ver_carryOut_96 rfl ?_
    refine Z_lload d_ver_carryOut_97 rfl ?_
    refine Z_aload_n d_ver_carryOut_99 rfl ?_
    refine Z_get d_ver_carryOut_100 lf_ver_90 hA.1 rfl ?_
    refine Z_iload_n d_ver_carryOut_103 rfl ?_
    refine Zn_lald d_ver_carryOut_104 hA.2.2.2.2.2.1 (by omega) (by omega) ?_
    refine zV (As := [.long (lN (pt s)), .long (lN (gl s))]) (by omega) d_ver_carryOut_105 lm_ver_127 hV.1 rfl rfl (Nat.le_of_ble_eq_true rfl) (ver_moveAfter_ok (a := a) (t := tx s) d hV hb hI hkv (hgv hz).1 (hgv hz).2) (fun M1 v hq hlen => ?_)
    obtain ⟨n1, e1, r, rfl, hV1, hF1, hr5, hC⟩ := hq
    refine Z_iret d_ver_carryOut_108 rfl ?_
    exact ⟨n1, e1, r, rfl, hV1, hF1, hr5, hC⟩
  · rw [hz]
    refine Z_tableOut (tgt := 109) d_ver_carryOut_22 (by decide) (by decide) ?_
    refine Z_aload_n d_ver_carryOut_109 rfl ?_
    refine Z_get d_ver_carryOut_110 lf_ver_12 hV.1 rfl ?_
    refine Z_lload d_ver_carryOut_113 rfl ?_
    refine zV (As := [.long (lN (pt s))]) (by omega) d_ver_carryOut_115 lm_ver_131 hV.2.1.1 rfl rfl (Nat.le_of_ble_eq_true rfl) (pv_renumber_ok (d + 1) hV.2.1 hI.1 hI.k hkv.1 hkv.2.1) (fun M1 v hq hlen => ?_)
    obtain ⟨rfl, e2, hP1, hF1, hC⟩ := hq
    have hV1 := hV.pv hP1 hF1
    have hF1 : zFr M M1 b 10 := hF1.wide (by omega) (by omega)
    refine Zn_iconst (nI 0) d_ver_carryOut_118 (by decide) ?_
    refine Z_iret d_ver_carryOut_119 rfl ?_
    exact ⟨_, e2, 0, rfl, hV1, hF1, by omega, rfl, rfl, hC⟩
/-- the state of a version: its provisions, its conflicts -/
abbrev vSt : Type := Nat × (Nat → zEnt) × Nat × (Nat → Nat) × (Nat → Nat) × (Nat → Nat)
def VeS (M : List zE) (b : Nat) (S : vSt) : Prop := VeAt M b S.1 S.2.1 S.2.2.1 S.2.2.2.1 S.2.2.2.2.1 S.2.2.2.2.2
/-- an instruction, with its conflict if there is one -/
def vIn (kd pt gl : Nat → Nat) (tx : Nat → Int32) (a i s : Nat) (S S' : vSt) : Prop := ∃ r, r ≤ 5 ∧
  ((rsn S.1 S.2.1 (kd s) (pt s) (if kd s = 4 then gl s else pt s) ≠ 0 ∧ r = rsn S.1 S.2.1 (kd s) (pt s) (if kd s = 4 then gl s else pt s) ∧ S'.1 = S.1 ∧ S'.2.1 = S.2.1) ∨ (rsn S.1 S.2.1 (kd s) (pt s) (if kd s = 4 then gl s else pt s) = 0 ∧ vC (kd s) (pt s) (gl s) (tx s) a S.1 S.2.1 S'.1 S'.2.1 r)) ∧
  S'.2.2 = if r = 0 then S.2.2 else (S.2.2.1 + 1, nup S.2.2.2.1 S.2.2.1 a, nup S.2.2.2.2.1 S.2.2.1 i, nup S.2.2.2.2.2 S.2.2.1 r)
/-- the first i instructions of amendment a -/
def vAp (kd pt gl : Nat → Nat) (tx : Nat → Int32) (a : Nat) (S : vSt) : Nat → vSt → Prop
  | 0, S' => S' = S
  | i + 1, S' => ∃ S1, vAp kd pt gl tx a S i S1 ∧ vIn kd pt gl tx a i (a * 15 + i) S1 S'
theorem rsn_le {n : Nat} {e : Nat → zEnt} {kd k g : Nat} : rsn n e kd k g ≤ 4 := by
  unfold rsn
  split
  · split
    · omega
    · split
      · omega
      · split
        · omega
        · split <;> omega
  · omega
theorem posK_key {n : Nat} {e : Nat → zEnt} {k i : Nat} (h : posK n e k = some i) : i < n ∧ ek (e i) = k := ⟨(frst_some.mp h).1, of_decide_eq_true (frst_some.mp h).2.1⟩
/-- where no reason stands against it -/
theorem rsn_0 {n : Nat} {e : Nat → zEnt} {kd k g : Nat} (hI : vInv n e) (h : rsn n e kd k g = 0) : vkey k ∧ vkey g ∧ (kd = 4 → lev g = lev k ∧ k ≠ g) ∧ (kd ≤ 1 → n < 60) ∧ (kd = 1 → lev k ≤ 2) ∧ posK n e k ≠ none := by
  cases h1 : posK n e k with
  | none => rw [rsn_n1 h1] at h; cases h
  | some i =>
    cases h2 : posK n e g with
    | none => rw [rsn_n2 h2] at h; cases h
    | some j =>
      have k1 := posK_key h1
      have k2 := posK_key h2
      have v1 := hI.2 i k1.1
      have v2 := hI.2 j k2.1
      rw [k1.2] at v1
      rw [k2.2] at v2
      rw [rsn_eq h1 h2] at h
      have hl := lev_le k
      by_cases c1 : (er (e i) || er (e j)) = true
      · rw [if_pos c1] at h; cases h
      · rw [if_neg c1] at h
        by_cases c2 : kd = 1 ∧ lev k = 3
        · rw [if_pos c2] at h; cases h
        · rw [if_neg c2] at h
          by_cases c3 : kd = 4 ∧ (lev k ≠ lev g ∨ k = g)
          · rw [if_pos c3] at h; cases h
          · rw [if_neg c3] at h
            by_cases c4 : kd ≤ 1 ∧ 60 ≤ n
            · rw [if_pos c4] at h; cases h
            · exact ⟨v1, v2, fun z => ⟨by omega, fun y => c3 ⟨z, Or.inr y⟩⟩, fun z => by omega, fun z => by omega, fun z => by cases z⟩
/-- what instructions must be like -/
def insOk (kd pt gl : Nat → Nat) (s : Nat) : Prop := kd s ≤ 5 ∧ pt s < 2 ^ 63 ∧ gl s < 2 ^ 63
def vPres (kd pt gl : Nat → Nat) (tx : Nat → Int32) : Prop := ∀ (a i s : Nat) (S S' : vSt), insOk kd pt gl s → vInv S.1 S.2.1 → vIn kd pt gl tx a i s S S' → vInv S'.1 S'.2.1
theorem ver_reason_ok {Γ : zCtx} {M : List zE} (d : Nat) {b n q : Nat} {e : Nat → zEnt} {ca ci cr : Nat → Nat} (hV : VeAt M b n e q ca ci cr) (hb : b ≤ 1000) {c m : Nat} {dy sz kd pt gl : Nat → Nat} {tx : Nat → Int32} (hA : AmAt M c m dy sz kd pt gl tx) (hI : vInv n e) {s : Nat} (hs : s < 120) (hok : insOk kd pt gl s) : ZM Γ (d + 2) m_ver_reasonAgainst [.ref b, .ref c, .int (nI s)] M (zEq M (some (.int (nI (rsn n e (kd s) (pt s) (if kd s = 4 then gl s else pt s)))))) := by
  by_cases h : kd s = 4
  · rw [if_pos h]; exact ver_reason_mv d hV hb hA hI hs hok.1 hok.2.1 hok.2.2 h
  · rw [if_neg h]; exact ver_reason_no d hV hb hA hI hs hok.1 hok.2.1 hok.2.2 h
set_option maxHeartbeats 4000000 in
theorem ver_apply_loop {Γ : zCtx} {M0 : List zE} (d : Nat) {b c m a q0 : Nat} {dy sz kd pt gl : Nat → Nat} {tx : Nat → Int32} {S0 : vSt} (hb : b ≤ 1000) (hA : ∀ M1, zFr M0 M1 b 10 → AmAt M1 c m dy sz kd pt gl tx) (ha : a < 8) (hsz : sz a ≤ 15) (hq0 : q0 + sz a ≤ 120) (hok : ∀ i, i < sz a → insOk kd pt gl (a * 15 + i)) (hpr : vPres kd pt gl tx) : ∀ (f i : Nat) (M : List zE) (S : vSt) (y1 y2 : Option Value), i ≤ sz a → sz a < i + f → VeS M b S → zFr M0 M b 10 → vInv S.1 S.2.1 → S.2.2.1 ≤ q0 + i → vAp kd pt gl tx a S0 i S → ∀ Q : List zE → Option Value → Prop, (∀ M1 S1, VeS M1 b S1 → zFr M0 M1 b 10 → vInv S1.1 S1.2.1 → S1.2.2.1 ≤ q0 + sz a → vAp kd pt gl tx a S0 (sz a) S1 → Q M1 none) → Z Γ (zRm (d + 5) m_ver_apply) m_ver_apply (zPh Γ m_ver_apply Q) 0 0 15 [some (.ref b), some (.ref c), some (.int (nI a)), some (.int (nI (sz a))), some (.int (nI i)), y1, y2] [] M := by
  intro f
  induction f with
  | zero => intro i M S y1 y2 hi hf; exact absurd hf (by omega)
  | succ f ih =>
    intro i M S y1 y2 hi hf hV hF hI hqq hap Q hQ
    refine Z_iload d_ver_apply_15 rfl ?_
    refine Z_iload_n d_ver_apply_17 rfl ?_
    refine Zn_icmp_ge (tgt := 74) d_ver_apply_18 (by decide) (by omega) (by omega) (fun h18 => ?_) (fun h18 => ?_)
    · skip
      have hi : i = sz a := by omega
      subst hi
      refine Z_vret d_ver_apply_74 rfl ?_
      exact hQ M S hV hF hI hqq hap
    · skip
      refine Z_iload_n d_ver_apply_21 rfl ?_
      refine Zn_bipush (nI 15) d_ver_apply_22 (by decide) ?_
      refine Zn_imul d_ver_apply_24 ?_
      refine Z_iload d_ver_apply_25 rfl ?_
      refine Zn_iadd d_ver_apply_27 ?_
      refine Zn_istore [some (.ref b), some (.ref c), some (.int (nI a)), some (.int (nI (sz a))), some (.int (nI i)), some (.int (nI ((a * 15) + i))), y2] d_ver_apply_28 (by decide) rfl ?_
      refine Z_aload_n d_ver_apply_30 rfl ?_
      refine Z_aload_n d_ver_apply_31 rfl ?_
      refine Z_iload d_ver_apply_32 rfl ?_
      refine zVe (As := [.ref c, .int (nI ((a * 15) + i))]) (by omega) d_ver_apply_34 lm_ver_71 hV.1 rfl rfl (Nat.le_of_ble_eq_true rfl) (ver_reason_ok (s := a * 15 + i) (d + 2) hV hb (hA _ hF) hI (by omega) (hok _ (by omega))) ?_
      have hrl : rsn S.1 S.2.1 (kd (a * 15 + i)) (pt (a * 15 + i)) (if kd (a * 15 + i) = 4 then gl (a * 15 + i) else pt (a * 15 + i)) ≤ 4 := rsn_le
      refine Zn_istore [some (.ref b), some (.ref c), some (.int (nI a)), some (.int (nI (sz a))), some (.int (nI i)), some (.int (nI ((a * 15) + i))), some (.int (nI (rsn S.1 S.2.1 (kd (a * 15 + i)) (pt (a * 15 + i)) (if kd (a * 15 + i) = 4 then gl (a * 15 + i) else pt (a * 15 + i)))))] d_ver_apply_37 (by decide) rfl ?_
      refine Z_iload d_ver_apply_39 rfl ?_
      refine Zn_if_ne (tgt := 54) d_ver_apply_41 (by decide) (by omega) (fun h41 => ?_) (fun h41 => ?_)
      · skip
        skip
        refine Z_iload d_ver_apply_54 rfl ?_
        refine Zn_if_eq (tgt := 68) d_ver_apply_56 (by decide) (by omega) (fun h56 => ?_) (fun h56 => ?_)
        · skip
          exact absurd h56 h41 -- end
        · skip
          refine Z_aload_n d_ver_apply_59 rfl ?_
          refine Z_iload_n d_ver_apply_60 rfl ?_
          refine Z_iload d_ver_apply_61 rfl ?_
          refine Z_iload d_ver_apply_63 rfl ?_
          refine zV (As := [.int (nI a), .int (nI i), .int (nI (rsn S.1 S.2.1 (kd (a * 15 + i)) (pt (a * 15 + i)) (if kd (a * 15 + i) = 4 then gl (a * 15 + i) else pt (a * 15 + i))))]) (by omega) d_ver_apply_65 lm_ver_79 hV.1 rfl rfl (Nat.le_of_ble_eq_true rfl) (ver_keepConflict_ok (d + 3) hV hb (a := a) (i := i) (r := rsn S.1 S.2.1 (kd (a * 15 + i)) (pt (a * 15 + i)) (if kd (a * 15 + i) = 4 then gl (a * 15 + i) else pt (a * 15 + i))) (by show S.2.2.1 < 120; omega)) (fun M2 v hq hlen => ?_)
          obtain ⟨rfl, hV2, hF2⟩ := hq
          refine Zn_iinc [some (.ref b), some (.ref c), some (.int (nI a)), some (.int (nI (sz a))), some (.int (nI (i + 1))), some (.int (nI ((a * 15) + i))), some (.int (nI (rsn S.1 S.2.1 (kd (a * 15 + i)) (pt (a * 15 + i)) (if kd (a * 15 + i) = 4 then gl (a * 15 + i) else pt (a * 15 + i)))))] (nI (i + 1)) d_ver_apply_68 rfl (by decide) (nI_add i 1) rfl ?_
          refine Z_goto (tgt := 15) d_ver_apply_71 (by decide) ?_
          have hin : vIn kd pt gl tx a i (a * 15 + i) S (S.1, S.2.1, S.2.2.1 + 1, nup S.2.2.2.1 S.2.2.1 a, nup S.2.2.2.2.1 S.2.2.1 i, nup S.2.2.2.2.2 S.2.2.1 (rsn S.1 S.2.1 (kd (a * 15 + i)) (pt (a * 15 + i)) (if kd (a * 15 + i) = 4 then gl (a * 15 + i) else pt (a * 15 + i)))) := ⟨_, by omega, Or.inl ⟨h41, rfl, rfl, rfl⟩, by rw [if_neg h41]⟩
          exact ih (i + 1) M2 (S.1, S.2.1, S.2.2.1 + 1, nup S.2.2.2.1 S.2.2.1 a, nup S.2.2.2.2.1 S.2.2.1 i, nup S.2.2.2.2.2 S.2.2.1 (rsn S.1 S.2.1 (kd (a * 15 + i)) (pt (a * 15 + i)) (if kd (a * 15 + i) = 4 then gl (a * 15 + i) else pt (a * 15 + i)))) _ _ (by omega) (by omega) hV2 (hF.trans hF2) hI (by show S.2.2.1 + 1 ≤ q0 + (i + 1); omega) ⟨S, hap, hin⟩ Q hQ
      · skip
        have h9 := rsn_0 hI h41
        refine Z_aload_n d_ver_apply_44 rfl ?_
        refine Z_aload_n d_ver_apply_45 rfl ?_
        refine Z_iload d_ver_apply_46 rfl ?_
        refine Z_iload_n d_ver_apply_48 rfl ?_
        refine zV (As := [.ref c, .int (nI ((a * 15) + i)), .int (nI a)]) (by omega) d_ver_apply_49 lm_ver_75 hV.1 rfl rfl (Nat.le_of_ble_eq_true rfl) (ver_carryOut_ok (s := a * 15 + i) (a := a) d hV hb (hA _ hF) hI (by omega) (hok _ (by omega)).1 h9.1 (fun z => ⟨by have y := h9.2.1; rw [if_pos z] at y; exact y, by have y := (h9.2.2.1 z).1; rw [if_pos z] at y; exact y⟩) h9.2.2.2.1 h9.2.2.2.2.1 (fun _ => h9.2.2.2.2.2)) (fun M1 v hq hlen => ?_)
        obtain ⟨n1, e1, r, rfl, hV1, hF1, hr5, hC⟩ := hq
        have hF1 := hF.trans hF1
        refine Zn_istore [some (.ref b), some (.ref c), some (.int (nI a)), some (.int (nI (sz a))), some (.int (nI i)), some (.int (nI ((a * 15) + i))), some (.int (nI r))] d_ver_apply_52 (by decide) rfl ?_
        refine Z_iload d_ver_apply_54 rfl ?_
        refine Zn_if_eq (tgt := 68) d_ver_apply_56 (by decide) (by omega) (fun h56 => ?_) (fun h56 => ?_)
        · skip
          skip
          refine Zn_iinc [some (.ref b), some (.ref c), some (.int (nI a)), some (.int (nI (sz a))), some (.int (nI (i + 1))), some (.int (nI ((a * 15) + i))), some (.int (nI r))] (nI (i + 1)) d_ver_apply_68 rfl (by decide) (nI_add i 1) rfl ?_
          refine Z_goto (tgt := 15) d_ver_apply_71 (by decide) ?_
          have hin : vIn kd pt gl tx a i (a * 15 + i) S (n1, e1, S.2.2) := ⟨r, hr5, Or.inr ⟨h41, hC⟩, by rw [if_pos h56]⟩
          have hI2 : vInv n1 e1 := hpr _ _ _ _ _ (hok _ (by omega)) hI hin
          exact ih (i + 1) M1 (n1, e1, S.2.2) _ _ (by omega) (by omega) hV1 hF1 hI2 (by show S.2.2.1 ≤ q0 + (i + 1); omega) ⟨S, hap, hin⟩ Q hQ
        · skip
          refine Z_aload_n d_ver_apply_59 rfl ?_
          refine Z_iload_n d_ver_apply_60 rfl ?_
          refine Z_iload d_ver_apply_61 rfl ?_
          refine Z_iload d_ver_apply_63 rfl ?_
          refine zV (As := [.int (nI a), .int (nI i), .int (nI r)]) (by omega) d_ver_apply_65 lm_ver_79 hV1.1 rfl rfl (Nat.le_of_ble_eq_true rfl) (ver_keepConflict_ok (d + 3) hV1 hb (a := a) (i := i) (r := r) (by show S.2.2.1 < 120; omega)) (fun M2 v hq hlen => ?_)
          obtain ⟨rfl, hV2, hF2⟩ := hq
          refine Zn_iinc [some (.ref b), some (.ref c), some (.int (nI a)), some (.int (nI (sz a))), some (.int (nI (i + 1))), some (.int (nI ((a * 15) + i))), some (.int (nI r))] (nI (i + 1)) d_ver_apply_68 rfl (by decide) (nI_add i 1) rfl ?_
          refine Z_goto (tgt := 15) d_ver_apply_71 (by decide) ?_
          have hin : vIn kd pt gl tx a i (a * 15 + i) S (n1, e1, S.2.2.1 + 1, nup S.2.2.2.1 S.2.2.1 a, nup S.2.2.2.2.1 S.2.2.1 i, nup S.2.2.2.2.2 S.2.2.1 r) := ⟨r, hr5, Or.inr ⟨h41, hC⟩, by rw [if_neg h56]⟩
          have hI2 : vInv n1 e1 := hpr _ _ _ _ _ (hok _ (by omega)) hI hin
          exact ih (i + 1) M2 (n1, e1, S.2.2.1 + 1, nup S.2.2.2.1 S.2.2.1 a, nup S.2.2.2.2.1 S.2.2.1 i, nup S.2.2.2.2.2 S.2.2.1 r) _ _ (by omega) (by omega) hV2 (hF1.trans hF2) hI2 (by show S.2.2.1 + 1 ≤ q0 + (i + 1); omega) ⟨S, hap, hin⟩ Q hQ
set_option maxHeartbeats 4000000 in
theorem ver_apply_ok {Γ : zCtx} {M : List zE} (d : Nat) {b c m a q0 : Nat} {dy sz kd pt gl : Nat → Nat} {tx : Nat → Int32} {S : vSt} (hV : VeS M b S) (hb : b ≤ 1000) (hA : AmAt M c m dy sz kd pt gl tx) (hd : c + 7 ≤ b ∨ b + 10 ≤ c) (ha : a < 8) (hsz : sz a ≤ 15) (hq : S.2.2.1 ≤ q0) (hq0 : q0 + sz a ≤ 120) (hok : ∀ i, i < sz a → insOk kd pt gl (a * 15 + i)) (hpr : vPres kd pt gl tx) (hI : vInv S.1 S.2.1) : ZM Γ (d + 5) m_ver_apply [.ref b, .ref c, .int (nI a)] M (fun M1 v => v = none ∧ ∃ S1, VeS M1 b S1 ∧ zFr M M1 b 10 ∧ vInv S1.1 S1.2.1 ∧ S1.2.2.1 ≤ q0 + sz a ∧ vAp kd pt gl tx a S (sz a) S1) := by
  refine ZM.of mk_ver_apply (Nat.le_of_ble_eq_true rfl) ?_
  rw [show zEn [.ref b, .ref c, .int (nI a)] = [some (.ref b), some (.ref c), some (.int (nI a))] from rfl]
  refine zPad 4 ?_
  show Z _ _ _ _ _ _ _ [some (.ref b), some (.ref c), some (.int (nI a)), none, none, none, none] _ _
  refine Z_aload_n d_ver_apply_0 rfl ?_
  refine Z_get d_ver_apply_1 lf_ver_62 hA.1 rfl ?_
  refine Z_iload_n d_ver_apply_4 rfl ?_
  refine Zn_iald d_ver_apply_5 hA.2.2.1 (by omega) (by omega) ?_
  refine Zn_bipush (nI 15) d_ver_apply_6 (by decide) ?_
  refine zMin (by omega) d_ver_apply_8 lmm_ver_65 (Nat.le_of_ble_eq_true rfl) ?_
  rw [zn_min (by omega) (by omega), Nat.min_eq_left hsz]
  refine Zn_istore_n [some (.ref b), some (.ref c), some (.int (nI a)), some (.int (nI (sz a))), none, none, none] d_ver_apply_11 (by decide) rfl ?_
  refine Zn_iconst (nI 0) d_ver_apply_12 (by decide) ?_
  refine Zn_istore [some (.ref b), some (.ref c), some (.int (nI a)), some (.int (nI (sz a))), some (.int (nI 0)), none, none] d_ver_apply_13 (by decide) rfl ?_
  exact ver_apply_loop d hb (fun M1 hf => hA.fr hf hd) ha hsz hq0 hok hpr (sz a + 1) 0 M S _ _ (by omega) (by omega) hV zFr.rf hI (by omega) rfl _ (fun M1 S1 a1 a2 a3 a4 a5 => ⟨rfl, S1, a1, a2, a3, a4, a5⟩)
