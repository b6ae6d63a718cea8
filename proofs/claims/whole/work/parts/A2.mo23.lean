/-! reading amendments in the reference -/
def raF (m c : Nat) (G G' : Nat → Nat → Nat) : Prop := (∀ b, b ≠ 7 → b ≠ 8 → b ≠ 9 → G' b = G b) ∧ (∀ j, j < 16 * m + c → G' 7 j = G 7 j ∧ G' 8 j = G 8 j) ∧ (∀ j, j < 6 * (16 * m + c) → G' 9 j = G 9 j) ∧ ((∀ j, G 9 j < 2097152) → ∀ j, G' 9 j < 2097152)
theorem raF.rf {m c : Nat} {G : Nat → Nat → Nat} : raF m c G G := ⟨fun _ _ _ _ => rfl, fun _ _ => ⟨rfl, rfl⟩, fun _ _ => rfl, fun h => h⟩
theorem piF.ra {m c : Nat} {G G' : Nat → Nat → Nat} (h : piF (16 * m + c) G G') : raF m c G G' := ⟨h.1, fun j hj => h.2.1 j (by omega), fun j hj => h.2.2.1 j (by omega), h.2.2.2⟩
def raS (m c : Nat) (G G' : Nat → Nat → Nat) (l : List zIns) (dd : Nat) : Prop := (∀ b, (b < 5 ∨ 9 < b) → G' b = G b) ∧ G' 5 = nup (G 5) m dd ∧ G' 6 = nup (G 6) m (c + l.length) ∧ (∀ j, j < 16 * m + c → G' 7 j = G 7 j ∧ G' 8 j = G 8 j) ∧ (∀ j, j < 6 * (16 * m + c) → G' 9 j = G 9 j) ∧ ((∀ j, G 9 j < 2097152) → ∀ j, G' 9 j < 2097152) ∧ ∀ (i : Nat) (hi : i < l.length), slI G' (16 * m + c + i) l[i]
def raQ (M0 : List zE) (s : Nat → Nat) (G : Nat → Nat → Nat) (c f p dd : Nat) (M1 : List zE) (v : Option Value) : Prop := match pAll (s 5) (G 22) f p with
  | (none, q) => v = some (.int (-1000 - nI q)) ∧ ∃ G' w, FW M0 M1 (pst s q w) G' ∧ raF (s 1) c G G'
  | (some l, q) => v = some (.int (nI (s 1))) ∧ ∃ G', FW M0 M1 (nup (pst s q 0) 1 (s 1 + 1)) G' ∧ raS (s 1) c G G' l dd
theorem raQ.none {M0 : List zE} {s : Nat → Nat} {G : Nat → Nat → Nat} {c f p dd q : Nat} {M1 : List zE} {v : Option Value} (e : pAll (s 5) (G 22) f p = (none, q)) (h : v = some (.int (-1000 - nI q)) ∧ ∃ G' w, FW M0 M1 (pst s q w) G' ∧ raF (s 1) c G G') : raQ M0 s G c f p dd M1 v := by
  unfold raQ
  rw [e]
  exact h
theorem raQ.some {M0 : List zE} {s : Nat → Nat} {G : Nat → Nat → Nat} {c f p dd q : Nat} {l : List zIns} {M1 : List zE} {v : Option Value} (e : pAll (s 5) (G 22) f p = (some l, q)) (h : v = .some (.int (nI (s 1))) ∧ ∃ G', FW M0 M1 (nup (pst s q 0) 1 (s 1 + 1)) G' ∧ raS (s 1) c G G' l dd) : raQ M0 s G c f p dd M1 v := by
  unfold raQ
  rw [e]
  exact h
theorem pAll_s {len : Nat} {ch : Nat → Nat} {f p q : Nat} {x : zIns} (h : pIns len ch p = (some x, q)) : pAll len ch (f + 1) p = if len ≤ q then (some [x], q) else if tk len ch q 59 = true then (match pAll len ch f (q + 1) with
    | (none, r) => (none, r)
    | (some l, r) => (some (x :: l), r)) else (none, q) := by
  show (match pIns len ch p with
    | (none, q) => (none, q)
    | (some i, q) => if len ≤ q then (some [i], q) else if tk len ch q 59 = true then (match pAll len ch f (q + 1) with
        | (none, r) => (none, r)
        | (some l, r) => (some (i :: l), r)) else (none, q)) = _
  rw [h]
theorem pAll_n {len : Nat} {ch : Nat → Nat} {f p q : Nat} (h : pIns len ch p = (none, q)) : pAll len ch (f + 1) p = (none, q) := by
  show (match pIns len ch p with
    | (none, q) => (none, q)
    | (some i, q) => if len ≤ q then (some [i], q) else if tk len ch q 59 = true then (match pAll len ch f (q + 1) with
        | (none, r) => (none, r)
        | (some l, r) => (some (i :: l), r)) else (none, q)) = _
  rw [h]
theorem raQ.step {M0 : List zE} {s : Nat → Nat} {G G1 : Nat → Nat → Nat} {c g p q dd : Nat} {x : zIns} {M1 : List zE} {v : Option Value} (hI : pIns (s 5) (G 22) p = (.some x, q)) (hl : ¬ s 5 ≤ q) (ht : tk (s 5) (G 22) q 59 = true) (hpf : piF (16 * s 1 + c) G G1) (hsl : slI G1 (16 * s 1 + c) x) (h : raQ M0 s G1 (c + 1) g (q + 1) dd M1 v) : raQ M0 s G c (g + 1) p dd M1 v := by
  have e22 : G1 22 = G 22 := hpf.1 22 (by decide) (by decide) (by decide)
  have e := pAll_s (f := g) hI
  rw [if_neg hl, if_pos ht] at e
  unfold raQ at h
  rw [e22] at h
  cases ho : pAll (s 5) (G 22) g (q + 1) with
  | mk o r =>
    rw [ho] at h e
    cases o with
    | none =>
      obtain ⟨h1, G', w, h2, h3⟩ := h
      refine raQ.none e ⟨h1, G', w, h2, ?_⟩
      exact ⟨fun b b7 b8 b9 => (h3.1 b b7 b8 b9).trans (hpf.1 b b7 b8 b9), fun j hj => by
        have a := h3.2.1 j (by omega)
        have b := hpf.2.1 j (by omega)
        exact ⟨a.1.trans b.1, a.2.trans b.2⟩, fun j hj => (h3.2.2.1 j (by omega)).trans (hpf.2.2.1 j (by omega)), fun hb => h3.2.2.2 (hpf.2.2.2 hb)⟩
    | some l =>
      obtain ⟨h1, G', h2, h3⟩ := h
      refine raQ.some e ⟨h1, G', h2, ?_⟩
      obtain ⟨a0, a1, a2, a3, a4, a5, a6⟩ := h3
      refine ⟨fun b hb => (a0 b hb).trans (hpf.1 b (by omega) (by omega) (by omega)), by rw [a1, hpf.1 5 (by decide) (by decide) (by decide)], by rw [a2, hpf.1 6 (by decide) (by decide) (by decide), List.length_cons, show c + 1 + l.length = c + (l.length + 1) by omega], fun j hj => ?_, fun j hj => (a4 j (by omega)).trans (hpf.2.2.1 j (by omega)), fun hb => a5 (hpf.2.2.2 hb), fun i hi => ?_⟩
      · have a := a3 j (by omega)
        have b := hpf.2.1 j (by omega)
        exact ⟨a.1.trans b.1, a.2.trans b.2⟩
      · rcases i with _ | i
        · have b := a3 (16 * s 1 + c) (by omega)
          show slI G' (16 * s 1 + c) x
          unfold slI at hsl ⊢
          rw [b.1, b.2, a4 _ (by omega), a4 _ (by omega), a4 _ (by omega), a4 _ (by omega), a4 _ (by omega), a4 _ (by omega)]
          exact hsl
        · have := a6 i (by simpa using hi)
          rw [show 16 * s 1 + c + (i + 1) = 16 * s 1 + (c + 1) + i by omega]
          exact this
set_option maxHeartbeats 4000000 in
theorem mo_ra_loop {Γ : zCtx} (d : Nat) {M0 : List zE} {s : Nat → Nat} (h120 : s 5 ≤ 120) (hm : s 1 < 8) {dd : Nat}  : ∀ (f : Nat) (c p : Nat) (M : List zE) (G : Nat → Nat → Nat), c + f = 16 → 8 * c ≤ p → p ≤ s 5 → FW M0 M (pst s p 0) G → (∀ i, G 22 i ≤ 126) → ∀ Q : List zE → Option Value → Prop, (∀ M1 v, raQ M0 s G c (f - 1) p dd M1 v → Q M1 v) → Z Γ (zRm (d + 7) m_mo_readAmendment) m_mo_readAmendment (zPh Γ m_mo_readAmendment Q) 0 0 40 [some (.ref 123), some (.int (nI dd)), some (.int (nI c)), some (.int (nI 1))] [] M := by
  intro f
  induction f with
  | zero => intro c p M G hcf hcp hp; exact absurd hcf (by omega)
  | succ f ih =>
    intro c p M G hcf hcp hp hF hch Q hQ
    replace hQ : ∀ M1 v, raQ M0 s G c f p dd M1 v → Q M1 v := hQ
    refine Z_iload_n d_mo_readAmendment_40 rfl ?_
    refine Zn_if_eq (a := 1) (tgt := 70) d_mo_readAmendment_41 (by decide) (by decide) (fun h => absurd h (by decide)) (fun _ => ?_)
    refine Z_aload_n d_mo_readAmendment_44 rfl ?_
    refine Zn_bipush (nI 16) d_mo_readAmendment_45 (by decide) ?_
    refine Z_aload_n d_mo_readAmendment_47 rfl ?_
    refine Z_get (v := .int (nI (s 1))) d_mo_readAmendment_48 lf_mo_209 hF.1 rfl ?_
    refine Zn_imul d_mo_readAmendment_51 ?_
    refine Z_iload_n d_mo_readAmendment_52 rfl ?_
    refine Zn_iadd d_mo_readAmendment_53 ?_
    refine zV (As := [.int (nI (16 * s 1 + c))]) (by omega) d_mo_readAmendment_54 lm_mo_276 hF.1 rfl rfl (Nat.le_of_ble_eq_true rfl) (mo_parseInstruction_ok (p := p) d hF h120 hp hch (by omega)) (fun M1 v hq hlen => ?_)
    obtain ⟨rfl, G1, hF, hpf, hsl⟩ := hq
    have hio := pIns_ok (len := s 5) (ch := G 22) (p := p) hp
    obtain ⟨xo, q, hI⟩ : ∃ xo q, pIns (s 5) (G 22) p = (xo, q) := ⟨_, _, rfl⟩
    rw [hI] at hF hsl hio
    have hq1 : p ≤ q ∧ q ≤ s 5 := ⟨hio.1, hio.2.1⟩
    replace hF : FW M0 M1 (pst s q (if xo.isSome = true then 0 else 1)) G1 := hF
    have e22 : G1 22 = G 22 := hpf.1 22 (by decide) (by decide) (by decide)
    rcases xo with _ | x
    · skip
      replace hF : FW M0 M1 (pst s q 1) G1 := hF
      refine Zn_iinc [some (.ref 123), some (.int (nI dd)), some (.int (nI (c + 1))), some (.int (nI 1))] (nI (c + 1)) d_mo_readAmendment_57 rfl (by decide) (nI_add c 1) rfl ?_
      refine Z_aload_n d_mo_readAmendment_60 rfl ?_
      refine Zn_bipush (nI 59) d_mo_readAmendment_61 (by decide) ?_
      refine zVe (As := [.int (nI 59)]) (by omega) d_mo_readAmendment_63 lm_mo_229 hF.1 rfl rfl (Nat.le_of_ble_eq_true rfl) (mo_accept_no d hF) ?_
      refine Zn_istore_n [some (.ref 123), some (.int (nI dd)), some (.int (nI (c + 1))), some (.int (nI 0))] d_mo_readAmendment_66 (by decide) rfl ?_
      refine Z_goto (tgt := 40) d_mo_readAmendment_67 (by decide) ?_
      refine Z_iload_n d_mo_readAmendment_40 rfl ?_
      refine Zn_if_eq (a := 0) (tgt := 70) d_mo_readAmendment_41 (by decide) (by decide) (fun _ => ?_) (fun h => absurd h (by decide))
      refine Z_aload_n d_mo_readAmendment_70 rfl ?_
      refine Z_get (v := .int (nI 1)) d_mo_readAmendment_71 lf_mo_221 hF.1 rfl ?_
      refine Zn_if_ne (a := 1) (tgt := 88) d_mo_readAmendment_74 (by decide) (by decide) (fun _ => ?_) (fun h => absurd h (by decide))
      refine Zn_sipush (-1000) d_mo_readAmendment_88 (by decide) ?_
      refine Z_aload_n d_mo_readAmendment_91 rfl ?_
      refine Z_get (v := .int (nI q)) d_mo_readAmendment_92 lf_mo_218 hF.1 rfl ?_
      refine Z_isub d_mo_readAmendment_95 ?_
      refine Z_iret d_mo_readAmendment_96 rfl ?_
      have eA : pAll (s 5) (G 22) f p = (none, q) := by
        rcases f with _ | g
        · rw [show q = p by omega]; rfl
        · exact pAll_n hI
      exact hQ _ _ (raQ.none eA ⟨rfl, G1, 1, hF, hpf.ra⟩)
    · skip
      replace hF : FW M0 M1 (pst s q 0) G1 := hF
      have hx7 : p + 7 ≤ q := (hio.2.2 x rfl).1
      have hslx : slI G1 (16 * s 1 + c) x := hsl x rfl
      refine Zn_iinc [some (.ref 123), some (.int (nI dd)), some (.int (nI (c + 1))), some (.int (nI 1))] (nI (c + 1)) d_mo_readAmendment_57 rfl (by decide) (nI_add c 1) rfl ?_
      refine Z_aload_n d_mo_readAmendment_60 rfl ?_
      refine Zn_bipush (nI 59) d_mo_readAmendment_61 (by decide) ?_
      refine zV (As := [.int (nI 59)]) (by omega) d_mo_readAmendment_63 lm_mo_229 hF.1 rfl rfl (Nat.le_of_ble_eq_true rfl) (mo_accept_ok (p := q) d hF h120 (by omega) (by rw [e22]; exact hch) (by omega)) (fun M1 v hq hlen => ?_)
      rw [e22] at hq
      obtain ⟨rfl, hF⟩ := hq
      rcases ht : tk (s 5) (G 22) q 59 with _ | _
      · skip
        rw [ht, if_neg (by decide)] at hF
        refine Zn_istore_n [some (.ref 123), some (.int (nI dd)), some (.int (nI (c + 1))), some (.int (nI 0))] d_mo_readAmendment_66 (by decide) rfl ?_
        refine Z_goto (tgt := 40) d_mo_readAmendment_67 (by decide) ?_
        refine Z_iload_n d_mo_readAmendment_40 rfl ?_
        refine Zn_if_eq (a := 0) (tgt := 70) d_mo_readAmendment_41 (by decide) (by decide) (fun _ => ?_) (fun h => absurd h (by decide))
        refine Z_aload_n d_mo_readAmendment_70 rfl ?_
        refine Z_get (v := .int (nI 0)) d_mo_readAmendment_71 lf_mo_221 hF.1 rfl ?_
        refine Zn_if_ne (a := 0) (tgt := 88) d_mo_readAmendment_74 (by decide) (by decide) (fun h => absurd h (by decide)) (fun _ => ?_)
        refine Z_aload_n d_mo_readAmendment_77 rfl ?_
        refine Z_get (v := .int (nI q)) d_mo_readAmendment_78 lf_mo_218 hF.1 rfl ?_
        refine Z_aload_n d_mo_readAmendment_81 rfl ?_
        refine Z_get (v := .int (nI (s 5))) d_mo_readAmendment_82 lf_mo_215 hF.1 rfl ?_
        refine Zn_icmp_ge (tgt := 97) d_mo_readAmendment_85 (by decide) (by omega) (by omega) (fun h85 => ?_) (fun h85 => ?_)
        · skip
          refine Z_aload_n d_mo_readAmendment_97 rfl ?_
          refine Z_get (v := .ref 129) d_mo_readAmendment_98 lf_mo_25 hF.1 rfl ?_
          refine Z_aload_n d_mo_readAmendment_101 rfl ?_
          refine Z_get (v := .int (nI (s 1))) d_mo_readAmendment_102 lf_mo_209 hF.1 rfl ?_
          refine Z_iload_n d_mo_readAmendment_105 rfl ?_
          refine Zn_iast d_mo_readAmendment_106 hF.a5 (by omega) (by omega) ?_
          replace hF := hF.p5 (s 1) dd
          refine Z_aload_n d_mo_readAmendment_107 rfl ?_
          refine Z_get (v := .ref 130) d_mo_readAmendment_108 lf_mo_28 hF.1 rfl ?_
          refine Z_aload_n d_mo_readAmendment_111 rfl ?_
          refine Z_get (v := .int (nI (s 1))) d_mo_readAmendment_112 lf_mo_209 hF.1 rfl ?_
          refine Z_iload_n d_mo_readAmendment_115 rfl ?_
          refine Zn_iast d_mo_readAmendment_116 hF.a6 (by omega) (by omega) ?_
          replace hF := hF.p6 (s 1) (c + 1)
          refine Z_aload_n d_mo_readAmendment_117 rfl ?_
          refine Z_dup d_mo_readAmendment_118 rfl ?_
          refine Z_get (v := .int (nI (s 1))) d_mo_readAmendment_119 lf_mo_209 hF.1 rfl ?_
          refine Zn_iconst (nI 1) d_mo_readAmendment_122 (by decide) ?_
          refine Zn_iadd d_mo_readAmendment_123 ?_
          refine Z_puti d_mo_readAmendment_124 lf_mo_209 hF.1 rfl rfl (Nat.le_of_ble_eq_true rfl) ?_
          replace hF := hF.u1 ((s 1) + 1)
          refine Z_aload_n d_mo_readAmendment_127 rfl ?_
          refine Z_get (v := .int (nI ((s 1) + 1))) d_mo_readAmendment_128 lf_mo_209 hF.1 rfl ?_
          refine Zn_iconst (nI 1) d_mo_readAmendment_131 (by decide) ?_
          refine Zn_isub d_mo_readAmendment_132 (by omega) ?_
          refine Z_iret d_mo_readAmendment_133 rfl ?_
          have eA : pAll (s 5) (G 22) f p = (some [x], q) := by
            obtain ⟨g, rfl⟩ : ∃ g, f = g + 1 := ⟨f - 1, by omega⟩
            rw [pAll_s hI, if_pos h85]
          refine hQ _ _ (raQ.some eA ⟨by rw [show s 1 + 1 - 1 = s 1 by omega], _, hF, ?_⟩)
          have hr := hpf.ra
          refine ⟨fun b hb => ?_, ?_, ?_, ?_, ?_, ?_, fun i hi => ?_⟩
          · rw [gup_n (by omega), gup_n (by omega)]; exact hr.1 b (by omega) (by omega) (by omega)
          · rw [gup_n (by decide), gup_s, hr.1 5 (by decide) (by decide) (by decide)]
          · rw [gup_s, gup_n (by decide), hr.1 6 (by decide) (by decide) (by decide)]; rfl
          · rw [gup_n (by decide), gup_n (by decide), gup_n (by decide), gup_n (by decide)]; exact hr.2.1
          · rw [gup_n (by decide), gup_n (by decide)]; exact hr.2.2.1
          · rw [gup_n (by decide), gup_n (by decide)]; exact hr.2.2.2
          · obtain rfl : i = 0 := by simp at hi; omega
            show slI _ (16 * s 1 + c) x
            unfold slI at hslx ⊢
            rw [gup_n (b := 7) (by decide), gup_n (b := 7) (by decide), gup_n (b := 8) (by decide), gup_n (b := 8) (by decide), gup_n (b := 9) (by decide), gup_n (b := 9) (by decide)]
            exact hslx
        · skip
          refine Zn_sipush (-1000) d_mo_readAmendment_88 (by decide) ?_
          refine Z_aload_n d_mo_readAmendment_91 rfl ?_
          refine Z_get (v := .int (nI q)) d_mo_readAmendment_92 lf_mo_218 hF.1 rfl ?_
          refine Z_isub d_mo_readAmendment_95 ?_
          refine Z_iret d_mo_readAmendment_96 rfl ?_
          have eA : pAll (s 5) (G 22) f p = (none, q) := by
            obtain ⟨g, rfl⟩ : ∃ g, f = g + 1 := ⟨f - 1, by omega⟩
            rw [pAll_s hI, if_neg h85, if_neg (by rw [ht]; decide)]
          exact hQ _ _ (raQ.none eA ⟨rfl, G1, 0, hF, hpf.ra⟩)
      · skip
        rw [ht, if_pos rfl] at hF
        have htg := tk_iff.mp ht
        obtain ⟨g, rfl⟩ : ∃ g, f = g + 1 := ⟨f - 1, by omega⟩
        refine Zn_istore_n [some (.ref 123), some (.int (nI dd)), some (.int (nI (c + 1))), some (.int (nI 1))] d_mo_readAmendment_66 (by decide) rfl ?_
        refine Z_goto (tgt := 40) d_mo_readAmendment_67 (by decide) ?_
        exact ih (c + 1) (q + 1) _ G1 (by omega) (by omega) (by omega) hF (by rw [e22]; exact hch) Q (fun M1 v h => hQ M1 v (raQ.step hI (by omega) ht hpf hslx h))
set_option maxHeartbeats 4000000 in
theorem mo_readAmendment_ok {Γ : zCtx} {M : List zE} (d : Nat) {M0 : List zE} {s : Nat → Nat} {G : Nat → Nat → Nat} (hF : FW M0 M s G) (h120 : s 5 ≤ 120) (hch : ∀ i, G 22 i ≤ 126) (hm : s 1 < 8) {dd : Nat} (hx : tOk (nI dd) = true)  : ZM Γ (d + 7) m_mo_readAmendment [.ref 123, .int (nI dd)] M (raQ M0 s G 0 15 0 dd) := by
  refine ZM.of mk_mo_readAmendment (Nat.le_of_ble_eq_true rfl) ?_
  rw [show zEn [.ref 123, .int (nI dd)] = [some (.ref 123), some (.int (nI dd))] from rfl]
  refine zPad 2 ?_
  show Z _ _ _ _ _ _ _ [some (.ref 123), some (.int (nI dd)), none, none] _ _
  refine Z_iload_n d_mo_readAmendment_0 rfl ?_
  refine Zn_iconst (nI 0) d_mo_readAmendment_1 (by decide) ?_
  refine Zn_sipush (nI 9999) d_mo_readAmendment_2 (by decide) ?_
  refine zTe (As := [.int (nI dd), .int (nI 0), .int (nI 9999)]) (by omega) d_mo_readAmendment_5 lm_mo_189 rfl (Nat.le_of_ble_eq_true rfl) (mo_in_ok d _ _ _) ?_
  rw [inI_t, hx, if_pos rfl]
  refine Zn_if_ne (a := 1) (tgt := 14) d_mo_readAmendment_8 (by decide) (by decide) (fun _ => ?_) (fun h => absurd h (by decide))
  refine Z_aload_n d_mo_readAmendment_14 rfl ?_
  refine Z_get (v := .int (nI (s 1))) d_mo_readAmendment_15 lf_mo_209 hF.1 rfl ?_
  refine Zn_bipush (nI 8) d_mo_readAmendment_18 (by decide) ?_
  refine Zn_icmp_ne (tgt := 26) d_mo_readAmendment_20 (by decide) (by omega) (by omega) (fun h20 => ?_) (fun h20 => ?_)
  · skip
    refine Z_aload_n d_mo_readAmendment_26 rfl ?_
    refine Zn_iconst (nI 0) d_mo_readAmendment_27 (by decide) ?_
    refine Z_puti d_mo_readAmendment_28 lf_mo_218 hF.1 rfl rfl (Nat.le_of_ble_eq_true rfl) ?_
    replace hF := hF.u7 0
    refine Z_aload_n d_mo_readAmendment_31 rfl ?_
    refine Zn_iconst (nI 0) d_mo_readAmendment_32 (by decide) ?_
    refine Z_putz d_mo_readAmendment_33 lf_mo_221 hF.1 rfl rfl (by first | exact Or.inl rfl | exact Or.inr rfl) (Nat.le_of_ble_eq_true rfl) ?_
    replace hF := hF.u8 0
    refine Zn_iconst (nI 0) d_mo_readAmendment_36 (by decide) ?_
    refine Zn_istore_n [some (.ref 123), some (.int (nI dd)), some (.int (nI 0)), none] d_mo_readAmendment_37 (by decide) rfl ?_
    refine Zn_iconst (nI 1) d_mo_readAmendment_38 (by decide) ?_
    refine Zn_istore_n [some (.ref 123), some (.int (nI dd)), some (.int (nI 0)), some (.int (nI 1))] d_mo_readAmendment_39 (by decide) rfl ?_
    exact mo_ra_loop d h120 hm 16 0 0 _ G (by omega) (by omega) (by omega) hF hch _ (fun M1 v h => h)
  · skip
    exact absurd h20 (by omega) -- end
set_option maxHeartbeats 4000000 in
theorem mo_readAmendment_day {Γ : zCtx} {M : List zE} (d : Nat) {M0 : List zE} {s : Nat → Nat} {G : Nat → Nat → Nat} (hF : FW M0 M s G) {x : Int32} (hx : tOk x = false)  : ZM Γ (d + 7) m_mo_readAmendment [.ref 123, .int x] M (zEq M (some (.int (-4)))) := by
  refine ZM.of mk_mo_readAmendment (Nat.le_of_ble_eq_true rfl) ?_
  rw [show zEn [.ref 123, .int x] = [some (.ref 123), some (.int x)] from rfl]
  refine zPad 2 ?_
  show Z _ _ _ _ _ _ _ [some (.ref 123), some (.int x), none, none] _ _
  refine Z_iload_n d_mo_readAmendment_0 rfl ?_
  refine Zn_iconst (nI 0) d_mo_readAmendment_1 (by decide) ?_
  refine Zn_sipush (nI 9999) d_mo_readAmendment_2 (by decide) ?_
  refine zTe (As := [.int x, .int (nI 0), .int (nI 9999)]) (by omega) d_mo_readAmendment_5 lm_mo_189 rfl (Nat.le_of_ble_eq_true rfl) (mo_in_ok d _ _ _) ?_
  rw [inI_t, hx, if_neg (by decide)]
  refine Zn_if_ne (a := 0) (tgt := 14) d_mo_readAmendment_8 (by decide) (by decide) (fun h => absurd h (by decide)) (fun _ => ?_)
  refine Zn_bipush (-4) d_mo_readAmendment_11 (by decide) ?_
  refine Z_iret d_mo_readAmendment_13 rfl ?_
  exact ⟨rfl, rfl⟩
set_option maxHeartbeats 4000000 in
theorem mo_readAmendment_full {Γ : zCtx} {M : List zE} (d : Nat) {M0 : List zE} {s : Nat → Nat} {G : Nat → Nat → Nat} (hF : FW M0 M s G) {x : Int32} (hx : tOk x = true) (hm : s 1 = 8)  : ZM Γ (d + 7) m_mo_readAmendment [.ref 123, .int x] M (zEq M (some (.int (-6)))) := by
  refine ZM.of mk_mo_readAmendment (Nat.le_of_ble_eq_true rfl) ?_
  rw [show zEn [.ref 123, .int x] = [some (.ref 123), some (.int x)] from rfl]
  refine zPad 2 ?_
  show Z _ _ _ _ _ _ _ [some (.ref 123), some (.int x), none, none] _ _
  refine Z_iload_n d_mo_readAmendment_0 rfl ?_
  refine Zn_iconst (nI 0) d_mo_readAmendment_1 (by decide) ?_
  refine Zn_sipush (nI 9999) d_mo_readAmendment_2 (by decide) ?_
  refine zTe (As := [.int x, .int (nI 0), .int (nI 9999)]) (by omega) d_mo_readAmendment_5 lm_mo_189 rfl (Nat.le_of_ble_eq_true rfl) (mo_in_ok d _ _ _) ?_
  rw [inI_t, hx, if_pos rfl]
  refine Zn_if_ne (a := 1) (tgt := 14) d_mo_readAmendment_8 (by decide) (by decide) (fun _ => ?_) (fun h => absurd h (by decide))
  refine Z_aload_n d_mo_readAmendment_14 rfl ?_
  refine Z_get (v := .int (nI (s 1))) d_mo_readAmendment_15 lf_mo_209 hF.1 rfl ?_
  refine Zn_bipush (nI 8) d_mo_readAmendment_18 (by decide) ?_
  refine Zn_icmp_ne (tgt := 26) d_mo_readAmendment_20 (by decide) (by omega) (by omega) (fun h20 => ?_) (fun h20 => ?_)
  · skip
    exact absurd hm h20 -- end
  · skip
    refine Zn_bipush (-6) d_mo_readAmendment_23 (by decide) ?_
    refine Z_iret d_mo_readAmendment_25 rfl ?_
    exact ⟨rfl, rfl⟩
def aaR (m : Nat) (s' : Nat → Nat) (G G' : Nat → Nat → Nat) (o : Option (Nat × List zIns)) : Prop := match o with
  | none => s' 1 = m ∧ raF m 0 G G'
  | some q => s' 1 = m + 1 ∧ raS m 0 G G' q.2 q.1
set_option maxHeartbeats 4000000 in
theorem mo_addAmendment_1 {Γ : zCtx} {M : List zE} (d : Nat) {M0 : List zE} {s : Nat → Nat} {G : Nat → Nat → Nat} (hF : FW M0 M s G) (h120 : s 5 ≤ 120) (hch : ∀ i, G 22 i ≤ 126) (hm : s 1 < 8) {dd : Nat} (hd9 : dd ≤ 9999) (hx : tOk (nI dd) = true)  : ZM Γ (d + 8) m_mo_addAmendment [.ref 123, .int (nI dd)] M (fun M1 v => v = some (.int (stA (s 1) (s 5) (G 22) (nI dd)).1) ∧ ∃ s' G', FW M0 M1 s' G' ∧ s' 5 = 0 ∧ (∀ j, (j = 0 ∨ 11 ≤ j) → s' j = s j) ∧ aaR (s 1) s' G G' (stA (s 1) (s 5) (G 22) (nI dd)).2) := by
  refine ZM.of mk_mo_addAmendment (Nat.le_of_ble_eq_true rfl) ?_
  rw [show zEn [.ref 123, .int (nI dd)] = [some (.ref 123), some (.int (nI dd))] from rfl]
  refine zPad 1 ?_
  show Z _ _ _ _ _ _ _ [some (.ref 123), some (.int (nI dd)), none] _ _
  refine Z_aload_n d_mo_addAmendment_0 rfl ?_
  refine Z_iload_n d_mo_addAmendment_1 rfl ?_
  refine zV (As := [.int (nI dd)]) (by omega) d_mo_addAmendment_2 lm_mo_273 hF.1 rfl rfl (Nat.le_of_ble_eq_true rfl) (mo_readAmendment_ok d hF h120 hch hm hx) (fun M1 v hq hlen => ?_)
  unfold raQ at hq
  obtain ⟨o, q, hA⟩ : ∃ o q, pAll (s 5) (G 22) 15 0 = (o, q) := ⟨_, _, rfl⟩
  rw [hA] at hq
  rcases o with _ | l
  · skip
    obtain ⟨rfl, G1, w1, hF, hr⟩ := hq
    refine Zn_istore_n [some (.ref 123), some (.int (nI dd)), some (.int (-1000 - nI q))] d_mo_addAmendment_5 (by decide) rfl ?_
    refine Z_aload_n d_mo_addAmendment_6 rfl ?_
    refine Zn_iconst (nI 0) d_mo_addAmendment_7 (by decide) ?_
    refine Z_puti d_mo_addAmendment_8 lf_mo_215 hF.1 rfl rfl (Nat.le_of_ble_eq_true rfl) ?_
    replace hF := hF.u5 0
    refine Z_iload_n d_mo_addAmendment_11 rfl ?_
    refine Z_iret d_mo_addAmendment_12 rfl ?_
    have eS : stA (s 1) (s 5) (G 22) (nI dd) = (-1000 - nI q, none) := by
      unfold stA
      rw [if_pos hx, if_pos hm, hA]
    rw [eS]
    refine ⟨rfl, _, G1, hF, nup_s, fun j hj => ?_, ?_, hr⟩
    · rw [nup_n (by omega)]; unfold pst; rw [nup_n (by omega), nup_n (by omega)]
    · rw [nup_n (by decide)]; rfl
  · skip
    obtain ⟨rfl, G1, hF, hr⟩ := hq
    refine Zn_istore_n [some (.ref 123), some (.int (nI dd)), some (.int (nI (s 1)))] d_mo_addAmendment_5 (by decide) rfl ?_
    refine Z_aload_n d_mo_addAmendment_6 rfl ?_
    refine Zn_iconst (nI 0) d_mo_addAmendment_7 (by decide) ?_
    refine Z_puti d_mo_addAmendment_8 lf_mo_215 hF.1 rfl rfl (Nat.le_of_ble_eq_true rfl) ?_
    replace hF := hF.u5 0
    refine Z_iload_n d_mo_addAmendment_11 rfl ?_
    refine Z_iret d_mo_addAmendment_12 rfl ?_
    have eS : stA (s 1) (s 5) (G 22) (nI dd) = (nI (s 1), some (dd, l)) := by
      unfold stA
      rw [if_pos hx, if_pos hm, hA]
      dsimp only
      rw [zn_cl (by omega)]
    rw [eS]
    refine ⟨rfl, _, G1, hF, nup_s, fun j hj => ?_, ?_, hr⟩
    · rw [nup_n (by omega), nup_n (by omega)]; unfold pst; rw [nup_n (by omega), nup_n (by omega)]
    · rw [nup_n (by decide), nup_s]
set_option maxHeartbeats 4000000 in
theorem mo_addAmendment_2 {Γ : zCtx} {M : List zE} (d : Nat) {M0 : List zE} {s : Nat → Nat} {G : Nat → Nat → Nat} (hF : FW M0 M s G) {x : Int32} (hx : tOk x = false)  : ZM Γ (d + 8) m_mo_addAmendment [.ref 123, .int x] M (fun M1 v => v = some (.int (stA (s 1) (s 5) (G 22) x).1) ∧ ∃ s' G', FW M0 M1 s' G' ∧ s' 5 = 0 ∧ (∀ j, (j = 0 ∨ 11 ≤ j) → s' j = s j) ∧ aaR (s 1) s' G G' (stA (s 1) (s 5) (G 22) x).2) := by
  refine ZM.of mk_mo_addAmendment (Nat.le_of_ble_eq_true rfl) ?_
  rw [show zEn [.ref 123, .int x] = [some (.ref 123), some (.int x)] from rfl]
  refine zPad 1 ?_
  show Z _ _ _ _ _ _ _ [some (.ref 123), some (.int x), none] _ _
  refine Z_aload_n d_mo_addAmendment_0 rfl ?_
  refine Z_iload_n d_mo_addAmendment_1 rfl ?_
  refine zVe (As := [.int x]) (by omega) d_mo_addAmendment_2 lm_mo_273 hF.1 rfl rfl (Nat.le_of_ble_eq_true rfl) (mo_readAmendment_day d hF hx) ?_
  refine Zn_istore_n [some (.ref 123), some (.int x), some (.int (-4))] d_mo_addAmendment_5 (by decide) rfl ?_
  refine Z_aload_n d_mo_addAmendment_6 rfl ?_
  refine Zn_iconst (nI 0) d_mo_addAmendment_7 (by decide) ?_
  refine Z_puti d_mo_addAmendment_8 lf_mo_215 hF.1 rfl rfl (Nat.le_of_ble_eq_true rfl) ?_
  replace hF := hF.u5 0
  refine Z_iload_n d_mo_addAmendment_11 rfl ?_
  refine Z_iret d_mo_addAmendment_12 rfl ?_
  have eS : stA (s 1) (s 5) (G 22) x = ((-4), none) := by
    unfold stA
    rw [if_neg (by rw [hx]; decide)]
  rw [eS]
  exact ⟨rfl, _, G, hF, nup_s, fun j hj => nup_n (by omega), nup_n (by decide), raF.rf⟩
set_option maxHeartbeats 4000000 in
theorem mo_addAmendment_3 {Γ : zCtx} {M : List zE} (d : Nat) {M0 : List zE} {s : Nat → Nat} {G : Nat → Nat → Nat} (hF : FW M0 M s G) {x : Int32} (hx : tOk x = true) (hm : s 1 = 8)  : ZM Γ (d + 8) m_mo_addAmendment [.ref 123, .int x] M (fun M1 v => v = some (.int (stA (s 1) (s 5) (G 22) x).1) ∧ ∃ s' G', FW M0 M1 s' G' ∧ s' 5 = 0 ∧ (∀ j, (j = 0 ∨ 11 ≤ j) → s' j = s j) ∧ aaR (s 1) s' G G' (stA (s 1) (s 5) (G 22) x).2) := by
  refine ZM.of mk_mo_addAmendment (Nat.le_of_ble_eq_true rfl) ?_
  rw [show zEn [.ref 123, .int x] = [some (.ref 123), some (.int x)] from rfl]
  refine zPad 1 ?_
  show Z _ _ _ _ _ _ _ [some (.ref 123), some (.int x), none] _ _
  refine Z_aload_n d_mo_addAmendment_0 rfl ?_
  refine Z_iload_n d_mo_addAmendment_1 rfl ?_
  refine zVe (As := [.int x]) (by omega) d_mo_addAmendment_2 lm_mo_273 hF.1 rfl rfl (Nat.le_of_ble_eq_true rfl) (mo_readAmendment_full d hF hx hm) ?_
  refine Zn_istore_n [some (.ref 123), some (.int x), some (.int (-6))] d_mo_addAmendment_5 (by decide) rfl ?_
  refine Z_aload_n d_mo_addAmendment_6 rfl ?_
  refine Zn_iconst (nI 0) d_mo_addAmendment_7 (by decide) ?_
  refine Z_puti d_mo_addAmendment_8 lf_mo_215 hF.1 rfl rfl (Nat.le_of_ble_eq_true rfl) ?_
  replace hF := hF.u5 0
  refine Z_iload_n d_mo_addAmendment_11 rfl ?_
  refine Z_iret d_mo_addAmendment_12 rfl ?_
  have eS : stA (s 1) (s 5) (G 22) x = ((-6), none) := by
    unfold stA
    rw [if_pos hx, if_neg (by omega)]
  rw [eS]
  exact ⟨rfl, _, G, hF, nup_s, fun j hj => nup_n (by omega), nup_n (by decide), raF.rf⟩
theorem mo_addAmendment_ok {Γ : zCtx} {M : List zE} (d : Nat) {M0 : List zE} {s : Nat → Nat} {G : Nat → Nat → Nat} (hF : FW M0 M s G) (h120 : s 5 ≤ 120) (hch : ∀ i, G 22 i ≤ 126) (hm8 : s 1 ≤ 8) (x : Int32) : ZM Γ (d + 8) m_mo_addAmendment [.ref 123, .int x] M (fun M1 v => v = some (.int (stA (s 1) (s 5) (G 22) x).1) ∧ ∃ s' G', FW M0 M1 s' G' ∧ s' 5 = 0 ∧ (∀ j, (j = 0 ∨ 11 ≤ j) → s' j = s j) ∧ aaR (s 1) s' G G' (stA (s 1) (s 5) (G 22) x).2) := by
  cases hx : tOk x with
  | false => exact mo_addAmendment_2 d hF hx
  | true =>
    by_cases hm : s 1 = 8
    · exact mo_addAmendment_3 d hF hx hm
    · obtain ⟨dd, h9, rfl⟩ := tOk_t hx
      exact mo_addAmendment_1 d hF h120 hch (by omega) h9 hx
