/-! amendments, shelves, snapshots -/
theorem StAt.ami {M M1 : List zE} {n m m' : Nat} {e : Nat → zEnt} {rc : Nat → Nat} {tg : Nat → Nat → Nat} {dy sz kd pt gl dy' sz' kd' pt' gl' : Nat → Nat} {tx tx' : Nat → Int32} (h : StAt M 1 n e rc tg m dy sz kd pt gl tx) (hp : AmAt M1 40 m' dy' sz' kd' pt' gl' tx') (hf : zFi M M1) : StAt M1 1 n e rc tg m' dy' sz' kd' pt' gl' tx' := by
  obtain ⟨g0, g1, g2, g3, g4, g5⟩ := h
  obtain ⟨p0, p1, p2, p3, p4, p5⟩ := g1
  exact ⟨by rw [hf.2 _ (by omega) (by omega)]; exact g0, ⟨by rw [hf.2 _ (by omega) (by omega)]; exact p0, by rw [hf.2 _ (by omega) (by omega)]; exact p1, by rw [hf.2 _ (by omega) (by omega)]; exact p2, by rw [hf.2 _ (by omega) (by omega)]; exact p3, by rw [hf.2 _ (by omega) (by omega)]; exact p4, by rw [hf.2 _ (by omega) (by omega)]; exact p5⟩, by rw [hf.2 _ (by omega) (by omega)]; exact g2, by rw [hf.2 _ (by omega) (by omega)]; exact g3, fun i hi => by rw [hf.2 _ (by omega) (by omega)]; exact g4 i hi, hp⟩
theorem ScO.fi {M M1 : List zE} {sv : Bool} (h : ScO M sv) (hf : zFi M M1) : ScO M1 sv := by unfold ScO; rw [hf.2 _ (by omega) (by omega)]; exact h
theorem zFi.st {M M1 : List zE} (h : zFi M M1) {c : Nat} {x : zE} (hc : 40 ≤ c) (hc2 : c < 47) : zFi M (M1.set c x) := h.trans (zFr.fa (zFr.rf.set hc (by omega)))
def stA (m len : Nat) (ch : Nat → Nat) (x : Int32) : Int32 × Option (Nat × List zIns) := if tOk x = true then (if m < 8 then (match pAll len ch 15 0 with
  | (none, q) => (-1000 - nI q, none)
  | (some l, _) => (nI m, some (x.toNatClampNeg, l))) else (-6, none)) else (-4, none)
/-- what storing an amendment leaves -/
def stQ (M M1 : List zE) (len n m : Nat) (e : Nat → zEnt) (rc : Nat → Nat) (tg : Nat → Nat → Nat) (dy sz kd pt gl : Nat → Nat) (tx : Nat → Int32) (ch : Nat → Nat) (o : Option (Nat × List zIns)) : Prop := ∃ p1 kd1 pt1 gl1 tx1, InAt M1 len p1 ch ∧ (∀ j, (j < m * 15 ∨ m * 15 + 15 ≤ j) → slS kd pt gl tx kd1 pt1 gl1 tx1 j) ∧ zFi M M1 ∧ match o with
  | none => StAt M1 1 n e rc tg m dy sz kd1 pt1 gl1 tx1
  | some q => StAt M1 1 n e rc tg (m + 1) (nup dy m q.1) (nup sz m q.2.length) kd1 pt1 gl1 tx1 ∧ m < 8 ∧ q.2.length ≤ 15 ∧ q.1 ≤ 9999 ∧ ∀ (i : Nat) (hi : i < q.2.length), slA kd1 pt1 gl1 tx1 (m * 15 + i) q.2[i]
set_option maxHeartbeats 4000000 in
theorem sc_storeAmendment_ok {Γ : zCtx} {M : List zE} (d : Nat) {sv : Bool} (h0 : ScO M sv) {n m : Nat} {e : Nat → zEnt} {rc : Nat → Nat} {tg : Nat → Nat → Nat} {dy sz kd pt gl : Nat → Nat} {tx : Nat → Int32} (hS : StAt M 1 n e rc tg m dy sz kd pt gl tx) (hn : n ≤ 30) (hm : m ≤ 8) {len p : Nat} {ch : Nat → Nat} (hI : InAt M len p ch) (hl : len ≤ 120) (hch : ∀ i, ch i ≤ 126) (x : Int32) : ZM Γ (d + 9) m_sc_storeAmendment [.ref 0, .int x] M (fun M1 v => v = some (.int (stA m len ch x).1) ∧ stQ M M1 len n m e rc tg dy sz kd pt gl tx ch (stA m len ch x).2) := by
  refine ZM.of mk_sc_storeAmendment (Nat.le_of_ble_eq_true rfl) ?_
  rw [show zEn [.ref 0, .int x] = [some (.ref 0), some (.int x)] from rfl]
  refine zPad 3 ?_
  show Z _ _ _ _ _ _ _ [some (.ref 0), some (.int x), none, none, none] _ _
  refine Z_iload_n d_sc_storeAmendment_0 rfl ?_
  refine zTe (As := [.int x]) (by omega) d_sc_storeAmendment_1 lm_sc_132 rfl (Nat.le_of_ble_eq_true rfl) (sc_isCommencementDay_ok (d + 7) x) ?_
  have hle1 := b10_lt (x := tOk x)
  refine Zn_if_ne (tgt := 10) d_sc_storeAmendment_4 (by decide) (by omega) (fun h4 => ?_) (fun h4 => ?_)
  · skip
    have t4 : tOk x = true := b10_t h4
    obtain ⟨v1, hv1, rfl⟩ := tOk_t t4
    refine Z_aload_n d_sc_storeAmendment_10 rfl ?_
    refine Z_get d_sc_storeAmendment_11 lf_sc_12 h0 rfl ?_
    refine Z_get d_sc_storeAmendment_14 lf_sc_107 hS.1 rfl ?_
    refine Zn_astore_n [some (.ref 0), some (.int (nI v1)), some (.ref (1 + 39)), none, none] d_sc_storeAmendment_17 (by decide) rfl ?_
    refine Z_aload_n d_sc_storeAmendment_18 rfl ?_
    refine Z_get d_sc_storeAmendment_19 lf_sc_111 hS.2.2.2.2.2.1 rfl ?_
    refine Zn_istore_n [some (.ref 0), some (.int (nI v1)), some (.ref (1 + 39)), some (.int (nI m)), none] d_sc_storeAmendment_22 (by decide) rfl ?_
    refine Z_iload_n d_sc_storeAmendment_23 rfl ?_
    refine Zn_bipush (nI 8) d_sc_storeAmendment_24 (by decide) ?_
    refine Zn_icmp_lt (tgt := 32) d_sc_storeAmendment_26 (by decide) (by omega) (by omega) (fun h26 => ?_) (fun h26 => ?_)
    · skip
      skip
      refine Z_aload_n d_sc_storeAmendment_32 rfl ?_
      refine Z_get d_sc_storeAmendment_33 lf_sc_26 h0 rfl ?_
      refine Z_aload_n d_sc_storeAmendment_36 rfl ?_
      refine Z_iload_n d_sc_storeAmendment_37 rfl ?_
      refine Zn_bipush (nI 15) d_sc_storeAmendment_38 (by decide) ?_
      refine Zn_imul d_sc_storeAmendment_40 ?_
      refine zV (As := [.ref (1 + 39), .int (nI (m * 15))]) (by omega) d_sc_storeAmendment_41 lm_sc_254 hI.1 rfl rfl (Nat.le_of_ble_eq_true rfl) (in_readInstructions_ok d hI hl hch hS.2.2.2.2.2 (by omega)) (fun M1 v hq hlen => ?_)
      rcases ep : pAll len ch 15 0 with ⟨o, q⟩
      rw [ep] at hq
      dsimp only at hq
      obtain ⟨rfl, hI, kd1, pt1, gl1, tx1, hA1, hs1, hs2, hF⟩ := hq
      replace hS := hS.ami hA1 hF
      replace h0 := h0.fi hF
      rcases o with _ | l
      · skip
        refine Zn_istore [some (.ref 0), some (.int (nI v1)), some (.ref (1 + 39)), some (.int (nI m)), some (.int (-1))] d_sc_storeAmendment_44 (by decide) rfl ?_
        refine Z_iload d_sc_storeAmendment_46 rfl ?_
        refine Z_if_ge (tgt := 63) d_sc_storeAmendment_48 (by decide) (fun h48 => ?_) (fun h48 => ?_)
        · skip
          exact absurd h48 (by decide) -- end
        · skip
          skip
          refine Zn_sipush (-1000) d_sc_storeAmendment_51 (by decide) ?_
          refine Z_aload_n d_sc_storeAmendment_54 rfl ?_
          refine Z_get d_sc_storeAmendment_55 lf_sc_26 h0 rfl ?_
          refine Z_get d_sc_storeAmendment_58 lf_sc_173 hI.1 rfl ?_
          refine Z_isub d_sc_storeAmendment_61 ?_
          refine Z_iret d_sc_storeAmendment_62 rfl ?_
          have hz : stA m len ch (nI v1) = (-1000 - nI q, none) := by
            unfold stA
            rw [if_pos t4, if_pos h26, ep]
          rw [hz]
          exact ⟨rfl, q, kd1, pt1, gl1, tx1, hI, fun j hj => hs1 j (by omega), hF, hS⟩
      · skip
        have hll := pAll_len 15 0 l q ep
        rw [show aI 0 (some l) = nI l.length from by show nI (0 + l.length) = _; rw [Nat.zero_add]]
        refine Zn_istore [some (.ref 0), some (.int (nI v1)), some (.ref (1 + 39)), some (.int (nI m)), some (.int (nI l.length))] d_sc_storeAmendment_44 (by decide) rfl ?_
        refine Z_iload d_sc_storeAmendment_46 rfl ?_
        refine Z_if_ge (tgt := 63) d_sc_storeAmendment_48 (by decide) (fun h48 => ?_) (fun h48 => ?_)
        · skip
          skip
          refine Z_aload_n d_sc_storeAmendment_63 rfl ?_
          refine Z_get d_sc_storeAmendment_64 lf_sc_135 hS.2.2.2.2.2.1 rfl ?_
          refine Z_iload_n d_sc_storeAmendment_67 rfl ?_
          refine Z_iload_n d_sc_storeAmendment_68 rfl ?_
          refine Zn_iast d_sc_storeAmendment_69 hS.2.2.2.2.2.2.1 (by omega) (by omega) ?_
          replace hS := hS.am (hS.2.2.2.2.2.putD m v1) (zFr.rf.set (by omega) (by omega))
          replace h0 := ScO.st (c := 1 + 39 + 1) (x := .inl (0, 8, .inl (upd (fun i => nI (dy i)) m (nI v1)))) h0 (by omega)
          replace hI := InAt.st (c := 1 + 39 + 1) (x := .inl (0, 8, .inl (upd (fun i => nI (dy i)) m (nI v1)))) hI (by omega)
          replace hF := zFi.st (c := 1 + 39 + 1) (x := .inl (0, 8, .inl (upd (fun i => nI (dy i)) m (nI v1)))) hF (by omega) (by omega)
          refine Z_aload_n d_sc_storeAmendment_70 rfl ?_
          refine Z_get d_sc_storeAmendment_71 lf_sc_129 hS.2.2.2.2.2.1 rfl ?_
          refine Z_iload_n d_sc_storeAmendment_74 rfl ?_
          refine Z_iload d_sc_storeAmendment_75 rfl ?_
          refine Zn_iast d_sc_storeAmendment_77 hS.2.2.2.2.2.2.2.1 (by omega) (by omega) ?_
          replace hS := hS.am (hS.2.2.2.2.2.putS m l.length) (zFr.rf.set (by omega) (by omega))
          replace h0 := ScO.st (c := 1 + 39 + 2) (x := .inl (0, 8, .inl (upd (fun i => nI (sz i)) m (nI l.length)))) h0 (by omega)
          replace hI := InAt.st (c := 1 + 39 + 2) (x := .inl (0, 8, .inl (upd (fun i => nI (sz i)) m (nI l.length)))) hI (by omega)
          replace hF := zFi.st (c := 1 + 39 + 2) (x := .inl (0, 8, .inl (upd (fun i => nI (sz i)) m (nI l.length)))) hF (by omega) (by omega)
          refine Z_aload_n d_sc_storeAmendment_78 rfl ?_
          refine Z_dup d_sc_storeAmendment_79 rfl ?_
          refine Z_get d_sc_storeAmendment_80 lf_sc_111 hS.2.2.2.2.2.1 rfl ?_
          refine Zn_iconst (nI 1) d_sc_storeAmendment_83 (by decide) ?_
          refine Zn_iadd d_sc_storeAmendment_84 ?_
          refine Z_puti d_sc_storeAmendment_85 lf_sc_111 hS.2.2.2.2.2.1 rfl rfl (Nat.le_of_ble_eq_true rfl) ?_
          replace hS := hS.am (AmAt.putM (m' := m + 1) hS.2.2.2.2.2) (zFr.rf.set (by omega) (by omega))
          replace h0 := ScO.st (c := 1 + 39) (x := .inr (0, [.int (nI (m + 1)), .ref (1 + 39 + 1), .ref (1 + 39 + 2), .ref (1 + 39 + 3), .ref (1 + 39 + 4), .ref (1 + 39 + 5), .ref (1 + 39 + 6)])) h0 (by omega)
          replace hI := InAt.st (c := 1 + 39) (x := .inr (0, [.int (nI (m + 1)), .ref (1 + 39 + 1), .ref (1 + 39 + 2), .ref (1 + 39 + 3), .ref (1 + 39 + 4), .ref (1 + 39 + 5), .ref (1 + 39 + 6)])) hI (by omega)
          replace hF := zFi.st (c := 1 + 39) (x := .inr (0, [.int (nI (m + 1)), .ref (1 + 39 + 1), .ref (1 + 39 + 2), .ref (1 + 39 + 3), .ref (1 + 39 + 4), .ref (1 + 39 + 5), .ref (1 + 39 + 6)])) hF (by omega) (by omega)
          refine Z_iload_n d_sc_storeAmendment_88 rfl ?_
          refine Z_iret d_sc_storeAmendment_89 rfl ?_
          have hz : stA m len ch (nI v1) = (nI m, some (v1, l)) := by
            unfold stA
            rw [if_pos t4, if_pos h26, ep, zn_cl (by omega)]
          rw [hz]
          exact ⟨rfl, q, kd1, pt1, gl1, tx1, hI, fun j hj => hs1 j (by omega), hF, hS, h26, hll.1, hv1, fun i hi => hs2 l rfl i hi⟩
        · skip
          exact absurd (Int32.not_lt.mp (nI_pos (by omega))) h48 -- end
    · skip
      skip
      refine Zn_bipush (-6) d_sc_storeAmendment_29 (by decide) ?_
      refine Z_iret d_sc_storeAmendment_31 rfl ?_
      have hz : stA m len ch (nI v1) = (-6, none) := by
        unfold stA
        rw [if_pos t4, if_neg h26]
      rw [hz]
      exact ⟨rfl, p, kd, pt, gl, tx, hI, fun _ _ => ⟨rfl, rfl, rfl, rfl⟩, zFi.rf, hS⟩
  · skip
    have t4 : tOk x = false := b10_f h4
    refine Zn_bipush (-4) d_sc_storeAmendment_7 (by decide) ?_
    refine Z_iret d_sc_storeAmendment_9 rfl ?_
    have hz : stA m len ch x = (-4, none) := by
      unfold stA
      rw [if_neg (fun z => absurd (t4.symm.trans z) (by decide))]
    rw [hz]
    exact ⟨rfl, p, kd, pt, gl, tx, hI, fun _ _ => ⟨rfl, rfl, rfl, rfl⟩, zFi.rf, hS⟩
theorem stQ.clr {M M1 : List zE} {len n m p1 : Nat} {e : Nat → zEnt} {rc : Nat → Nat} {tg : Nat → Nat → Nat} {dy sz kd pt gl : Nat → Nat} {tx : Nat → Int32} {ch : Nat → Nat} {o : Option (Nat × List zIns)} {kd1 pt1 gl1 : Nat → Nat} {tx1 : Nat → Int32} (hI : InAt M1 len p1 ch) (hs : ∀ j, (j < m * 15 ∨ m * 15 + 15 ≤ j) → slS kd pt gl tx kd1 pt1 gl1 tx1 j) (hF : zFi M M1) (ho : match o with
  | none => StAt M1 1 n e rc tg m dy sz kd1 pt1 gl1 tx1
  | some q => StAt M1 1 n e rc tg (m + 1) (nup dy m q.1) (nup sz m q.2.length) kd1 pt1 gl1 tx1 ∧ m < 8 ∧ q.2.length ≤ 15 ∧ q.1 ≤ 9999 ∧ ∀ (i : Nat) (hi : i < q.2.length), slA kd1 pt1 gl1 tx1 (m * 15 + i) q.2[i]) : stQ M (M1.set 93 (.inr (1, [.ref 94, .int (nI 0), .int (nI p1)]))) 0 n m e rc tg dy sz kd pt gl tx ch o := by
  have hf : zFr M1 (M1.set 93 (.inr (1, [.ref 94, .int (nI 0), .int (nI p1)]))) 93 2 := zFr.rf.set (by omega) (by omega)
  refine ⟨p1, kd1, pt1, gl1, tx1, hI.len, hs, hF.trans hf.fi, ?_⟩
  rcases o with _ | q
  · exact StAt.fr ho hf (by omega)
  · exact ⟨StAt.fr ho.1 hf (by omega), ho.2⟩
set_option maxHeartbeats 4000000 in
theorem sc_addAmendment_ok {Γ : zCtx} {M : List zE} (d : Nat) {sv : Bool} (h0 : ScO M sv) {n m : Nat} {e : Nat → zEnt} {rc : Nat → Nat} {tg : Nat → Nat → Nat} {dy sz kd pt gl : Nat → Nat} {tx : Nat → Int32} (hS : StAt M 1 n e rc tg m dy sz kd pt gl tx) (hn : n ≤ 30) (hm : m ≤ 8) {len p : Nat} {ch : Nat → Nat} (hI : InAt M len p ch) (hl : len ≤ 120) (hch : ∀ i, ch i ≤ 126) (x : Int32) : ZM Γ (d + 10) m_sc_addAmendment [.ref 0, .int x] M (fun M1 v => v = some (.int (stA m len ch x).1) ∧ stQ M M1 0 n m e rc tg dy sz kd pt gl tx ch (stA m len ch x).2) := by
  refine ZM.of mk_sc_addAmendment (Nat.le_of_ble_eq_true rfl) ?_
  rw [show zEn [.ref 0, .int x] = [some (.ref 0), some (.int x)] from rfl]
  refine zPad 1 ?_
  show Z _ _ _ _ _ _ _ [some (.ref 0), some (.int x), none] _ _
  refine Z_aload_n d_sc_addAmendment_0 rfl ?_
  refine Z_iload_n d_sc_addAmendment_1 rfl ?_
  refine zV (As := [.int x]) (by omega) d_sc_addAmendment_2 lm_sc_123 h0 rfl rfl (Nat.le_of_ble_eq_true rfl) (sc_storeAmendment_ok d h0 hS hn hm hI hl hch x) (fun M1 v hq hlen => ?_)
  obtain ⟨rfl, p1, kd1, pt1, gl1, tx1, hI1, hs1, hF1, ho⟩ := hq
  replace h0 := h0.fi hF1
  replace hI := hI1
  refine Zn_istore_n [some (.ref 0), some (.int x), some (.int ((stA m len ch x).1))] d_sc_addAmendment_5 (by decide) rfl ?_
  skip
  refine Z_aload_n d_sc_addAmendment_6 rfl ?_
  refine Z_get d_sc_addAmendment_7 lf_sc_26 h0 rfl ?_
  refine Zn_iconst (nI 0) d_sc_addAmendment_10 (by decide) ?_
  refine Z_puti d_sc_addAmendment_11 lf_sc_117 hI.1 rfl rfl (Nat.le_of_ble_eq_true rfl) ?_
  refine Z_iload_n d_sc_addAmendment_14 rfl ?_
  refine Z_iret d_sc_addAmendment_15 rfl ?_
  exact ⟨rfl, stQ.clr hI hs1 hF1 ho⟩
def nwS (s t l : Int32) : Int32 × Option (Nat × Nat × Nat) := if hasP 3 s = true then (if t < 0 then (-5, none) else if nI 3 < t then (-5, none) else if nI 10 < l then (-5, none) else if l < 0 then (-14, none) else (1, some (s.toNatClampNeg, t.toNatClampNeg, l.toNatClampNeg))) else (-5, none)
set_option maxHeartbeats 4000000 in
theorem sc_newShelf_ok {Γ : zCtx} {M : List zE} (d : Nat) {sv : Bool} (h0 : ScO M sv) {fl : Nat → Bool} {ty ln : Nat → Nat} {el : Nat → Nat → Int32} (hH : ShAt M fl ty ln el) (s t l : Int32) : ZM Γ (d + 2) m_sc_newShelf [.ref 0, .int s, .int t, .int l] M (fun M1 v => v = some (.int (nwS s t l).1) ∧ match (nwS s t l).2 with | none => M1 = M | some q => ∃ el2, ShAt M1 (bup fl q.1 true) (nup ty q.1 q.2.1) (nup ln q.1 q.2.2) el2 ∧ zFr M M1 95 8 ∧ (∀ j, el2 q.1 j = if j < 10 then -11 else el q.1 j) ∧ (∀ a, a ≠ q.1 → el2 a = el a)) := by
  refine ZM.of mk_sc_newShelf (Nat.le_of_ble_eq_true rfl) ?_
  refine Z_iload_n d_sc_newShelf_0 rfl ?_
  refine zTe (As := [.int s]) (by omega) d_sc_newShelf_1 lm_sc_224 rfl (Nat.le_of_ble_eq_true rfl) (sc_isShelf_ok (d + 0) s) ?_
  have hle1 := b10_lt (x := hasP 3 s)
  refine Zn_if_eq (tgt := 22) d_sc_newShelf_4 (by decide) (by omega) (fun h4 => ?_) (fun h4 => ?_)
  · skip
    have t4 : hasP 3 s = false := b10_f h4
    refine Zn_bipush (-5) d_sc_newShelf_22 (by decide) ?_
    refine Z_iret d_sc_newShelf_24 rfl ?_
    have hz : nwS s t l = (-5, none) := by
      unfold nwS
      rw [if_neg (fun z => absurd (t4.symm.trans z) (by decide))]
    rw [hz]
    exact ⟨rfl, rfl⟩
  · skip
    have t4 : hasP 3 s = true := b10_t h4
    obtain ⟨j, hj, hj9, rfl⟩ := hasP_t t4
    refine Z_iload_n d_sc_newShelf_7 rfl ?_
    refine Z_if_lt (tgt := 22) d_sc_newShelf_8 (by decide) (fun h8 => ?_) (fun h8 => ?_)
    · skip
      skip
      refine Zn_bipush (-5) d_sc_newShelf_22 (by decide) ?_
      refine Z_iret d_sc_newShelf_24 rfl ?_
      have hz : nwS (nI j) t l = (-5, none) := by
        unfold nwS
        rw [if_pos t4, if_pos h8]
      rw [hz]
      exact ⟨rfl, rfl⟩
    · skip
      skip
      refine Z_iload_n d_sc_newShelf_11 rfl ?_
      refine Zn_iconst (nI 3) d_sc_newShelf_12 (by decide) ?_
      refine Z_icmp_gt (tgt := 22) d_sc_newShelf_13 (by decide) (fun h13 => ?_) (fun h13 => ?_)
      · skip
        skip
        refine Zn_bipush (-5) d_sc_newShelf_22 (by decide) ?_
        refine Z_iret d_sc_newShelf_24 rfl ?_
        have hz : nwS (nI j) t l = (-5, none) := by
          unfold nwS
          rw [if_pos t4, if_neg h8, if_pos h13]
        rw [hz]
        exact ⟨rfl, rfl⟩
      · skip
        skip
        refine Z_iload_n d_sc_newShelf_16 rfl ?_
        refine Zn_bipush (nI 10) d_sc_newShelf_17 (by decide) ?_
        refine Z_icmp_le (tgt := 25) d_sc_newShelf_19 (by decide) (fun h19 => ?_) (fun h19 => ?_)
        · skip
          skip
          refine Z_iload_n d_sc_newShelf_25 rfl ?_
          refine Z_if_ge (tgt := 32) d_sc_newShelf_26 (by decide) (fun h26 => ?_) (fun h26 => ?_)
          · skip
            have eqt := (i32_nn h8).1
            have eql := (i32_nn (Int32.not_lt.mpr h26)).1
            refine Z_aload_n d_sc_newShelf_32 rfl ?_
            refine Z_get d_sc_newShelf_33 lf_sc_33 h0 rfl ?_
            refine Z_iload_n d_sc_newShelf_36 rfl ?_
            refine Z_iload_n d_sc_newShelf_37 rfl ?_
            refine Z_iload_n d_sc_newShelf_38 rfl ?_
            refine zV (d := d + 1) (As := [.int (nI j), .int t, .int l]) (by omega) d_sc_newShelf_39 lm_sc_227 hH.1 rfl rfl (Nat.le_of_ble_eq_true rfl) (by rw [eqt, eql]; exact sh_fillWithMissing_ok (s := j) (t := t.toNatClampNeg) (l := l.toNatClampNeg) (d + 0) hH (by omega)) (fun M1 v hq hlen => ?_)
            obtain ⟨rfl, el2, hH1, hF1, he1, he2⟩ := hq
            refine Zn_iconst (nI 1) d_sc_newShelf_42 (by decide) ?_
            refine Z_iret d_sc_newShelf_43 rfl ?_
            have hz : nwS (nI j) t l = (1, some (j, t.toNatClampNeg, l.toNatClampNeg)) := by
              unfold nwS
              rw [zn_cl hj9]
              rw [if_pos t4, if_neg h8, if_neg h13, if_neg (Int32.not_lt.mpr h19), if_neg (Int32.not_lt.mpr h26)]
            rw [hz]
            exact ⟨rfl, el2, hH1, hF1, he1, he2⟩
          · skip
            skip
            refine Zn_bipush (-14) d_sc_newShelf_29 (by decide) ?_
            refine Z_iret d_sc_newShelf_31 rfl ?_
            have hz : nwS (nI j) t l = (-14, none) := by
              unfold nwS
              rw [if_pos t4, if_neg h8, if_neg h13, if_neg (Int32.not_lt.mpr h19), if_pos (Int32.not_le.mp h26)]
            rw [hz]
            exact ⟨rfl, rfl⟩
        · skip
          skip
          refine Zn_bipush (-5) d_sc_newShelf_22 (by decide) ?_
          refine Z_iret d_sc_newShelf_24 rfl ?_
          have hz : nwS (nI j) t l = (-5, none) := by
            unfold nwS
            rw [if_pos t4, if_neg h8, if_neg h13, if_pos (Int32.not_le.mp h19)]
          rw [hz]
          exact ⟨rfl, rfl⟩
def shD (fl : Nat → Bool) (ln : Nat → Nat) (el : Nat → Nat → Int32) (s i : Int32) : Int32 := if hasP 3 s = true then (if fl s.toNatClampNeg = true then (if hasP (ln s.toNatClampNeg) i = true then el s.toNatClampNeg i.toNatClampNeg else -12) else -11) else -5
theorem refX_t {l : Nat} {x : Int32} (h : hasP l x = true) : refX true l x = nI 0 := by unfold refX; rw [if_pos rfl, if_pos h]
theorem refX_f {l : Nat} {x : Int32} (h : hasP l x = false) : refX true l x = -12 := by unfold refX; rw [if_pos rfl, if_neg (by rw [h]; decide)]
theorem refX_n {l : Nat} {x : Int32} : refX false l x = -11 := rfl
set_option maxHeartbeats 4000000 in
theorem sc_shelved_ok {Γ : zCtx} {M : List zE} (d : Nat) {sv : Bool} (h0 : ScO M sv) {fl : Nat → Bool} {ty ln : Nat → Nat} {el : Nat → Nat → Int32} (hH : ShAt M fl ty ln el) (hln : ∀ j, j < 3 → ln j ≤ 10) (s i : Int32) : ZM Γ (d + 2) m_sc_shelved [.ref 0, .int s, .int i] M (zEq M (some (.int (shD fl ln el s i)))) := by
  refine ZM.of mk_sc_shelved (Nat.le_of_ble_eq_true rfl) ?_
  rw [show zEn [.ref 0, .int s, .int i] = [some (.ref 0), some (.int s), some (.int i)] from rfl]
  refine zPad 1 ?_
  show Z _ _ _ _ _ _ _ [some (.ref 0), some (.int s), some (.int i), none] _ _
  refine Z_iload_n d_sc_shelved_0 rfl ?_
  refine zTe (As := [.int s]) (by omega) d_sc_shelved_1 lm_sc_224 rfl (Nat.le_of_ble_eq_true rfl) (sc_isShelf_ok (d + 0) s) ?_
  have hle1 := b10_lt (x := hasP 3 s)
  refine Zn_if_ne (tgt := 10) d_sc_shelved_4 (by decide) (by omega) (fun h4 => ?_) (fun h4 => ?_)
  · skip
    have t4 : hasP 3 s = true := b10_t h4
    obtain ⟨j, hj, hj9, rfl⟩ := hasP_t t4
    refine Z_aload_n d_sc_shelved_10 rfl ?_
    refine Z_get d_sc_shelved_11 lf_sc_33 h0 rfl ?_
    refine Z_iload_n d_sc_shelved_14 rfl ?_
    refine Z_iload_n d_sc_shelved_15 rfl ?_
    refine zVe (As := [.int (nI j), .int i]) (by omega) d_sc_shelved_16 lm_sc_231 hH.1 rfl rfl (Nat.le_of_ble_eq_true rfl) (sh_refX (d + 0) hH (by omega) (hln j (by omega)) i) ?_
    have hlnj := hln j (by omega)
    rcases hf : fl j with _ | _
    · skip
      rw [refX_n]
      refine Zn_istore_n [some (.ref 0), some (.int (nI j)), some (.int i), some (.int (-11))] d_sc_shelved_19 (by decide) rfl ?_
      refine Z_iload_n d_sc_shelved_20 rfl ?_
      refine Z_if_eq (tgt := 28) d_sc_shelved_21 (by decide) (fun h21 => ?_) (fun h21 => ?_)
      · skip
        exact absurd h21 (by decide) -- end
      · skip
        skip
        refine Z_iload_n d_sc_shelved_24 rfl ?_
        refine Z_goto (tgt := 39) d_sc_shelved_25 (by decide) ?_
        refine Z_iret d_sc_shelved_39 rfl ?_
        refine ⟨rfl, ?_⟩
        unfold shD
        rw [zn_cl hj9, if_pos t4, if_neg (by rw [hf]; decide)]
    · skip
      rcases hp : hasP (ln j) i with _ | _
      · skip
        rw [refX_f hp]
        refine Zn_istore_n [some (.ref 0), some (.int (nI j)), some (.int i), some (.int (-12))] d_sc_shelved_19 (by decide) rfl ?_
        refine Z_iload_n d_sc_shelved_20 rfl ?_
        refine Z_if_eq (tgt := 28) d_sc_shelved_21 (by decide) (fun h21 => ?_) (fun h21 => ?_)
        · skip
          exact absurd h21 (by decide) -- end
        · skip
          skip
          refine Z_iload_n d_sc_shelved_24 rfl ?_
          refine Z_goto (tgt := 39) d_sc_shelved_25 (by decide) ?_
          refine Z_iret d_sc_shelved_39 rfl ?_
          refine ⟨rfl, ?_⟩
          unfold shD
          rw [zn_cl hj9, if_pos t4, if_pos hf, if_neg (by rw [hp]; decide)]
      · skip
        rw [refX_t hp]
        obtain ⟨k, hk, hk9, rfl⟩ := hasP_t hp
        refine Zn_istore_n [some (.ref 0), some (.int (nI j)), some (.int (nI k)), some (.int (nI 0))] d_sc_shelved_19 (by decide) rfl ?_
        refine Z_iload_n d_sc_shelved_20 rfl ?_
        refine Zn_if_eq (a := 0) (tgt := 28) d_sc_shelved_21 (by decide) (by decide) (fun _ => ?_) (fun h => absurd h (by decide))
        refine Z_aload_n d_sc_shelved_28 rfl ?_
        refine Z_get d_sc_shelved_29 lf_sc_33 h0 rfl ?_
        refine Z_get d_sc_shelved_32 lf_sc_237 hH.1 rfl ?_
        refine Z_iload_n d_sc_shelved_35 rfl ?_
        refine Zn_aald d_sc_shelved_36 hH.2.2.2.2.1 (by omega) (by omega) (if_pos (by omega)) (by omega) ?_
        refine Z_iload_n d_sc_shelved_37 rfl ?_
        refine Zn_iald d_sc_shelved_38 (hH.2.2.2.2.2 j (by omega)) (by omega) (by omega) ?_
        refine Z_iret d_sc_shelved_39 rfl ?_
        refine ⟨rfl, ?_⟩
        unfold shD
        rw [zn_cl hj9, if_pos t4, if_pos hf, if_pos hp, zn_cl hk9]
  · skip
    have t4 : hasP 3 s = false := b10_f h4
    refine Zn_bipush (-5) d_sc_shelved_7 (by decide) ?_
    refine Z_iret d_sc_shelved_9 rfl ?_
    refine ⟨rfl, ?_⟩
    unfold shD
    rw [if_neg (fun z => absurd (t4.symm.trans z) (by decide))]
def plC (n : Nat) (e : Nat → zEnt) (fl : Nat → Bool) (ty ln : Nat → Nat) (s i x : Int32) : Int32 × Option (Nat × Nat) := if hasP 3 s = true then (if hasP n x = true then (if fl s.toNatClampNeg = true then (if hasP (ln s.toNatClampNeg) i = true then (if ty s.toNatClampNeg = 0 then (1, some (s.toNatClampNeg, i.toNatClampNeg)) else if ty s.toNatClampNeg = lev (keyOf n e x) then (1, some (s.toNatClampNeg, i.toNatClampNeg)) else (-13, none)) else (-12, none)) else (-11, none)) else (-1, none)) else (-5, none)
set_option maxHeartbeats 4000000 in
theorem sc_place_ok {Γ : zCtx} {M : List zE} (d : Nat) {sv : Bool} (h0 : ScO M sv) {n m : Nat} {e : Nat → zEnt} {rc : Nat → Nat} {tg : Nat → Nat → Nat} {dy sz kd pt gl : Nat → Nat} {tx : Nat → Int32} (hS : StAt M 1 n e rc tg m dy sz kd pt gl tx) (hn : n ≤ 30) (hI : vInv n e) {fl : Nat → Bool} {ty ln : Nat → Nat} {el : Nat → Nat → Int32} (hH : ShAt M fl ty ln el) (hln : ∀ j, j < 3 → ln j ≤ 10) (hty : ∀ j, j < 3 → ty j ≤ 3) (s i x : Int32) : ZM Γ (d + 4) m_sc_place [.ref 0, .int s, .int i, .int x] M (fun M1 v => v = some (.int (plC n e fl ty ln s i x).1) ∧ match (plC n e fl ty ln s i x).2 with | none => M1 = M | some q => ShAt M1 fl ty ln (rup el q.1 (upd (el q.1) q.2 x)) ∧ zFr M M1 95 8) := by
  refine ZM.of mk_sc_place (Nat.le_of_ble_eq_true rfl) ?_
  rw [show zEn [.ref 0, .int s, .int i, .int x] = [some (.ref 0), some (.int s), some (.int i), some (.int x)] from rfl]
  refine zPad 2 ?_
  show Z _ _ _ _ _ _ _ [some (.ref 0), some (.int s), some (.int i), some (.int x), none, none] _ _
  refine Z_iload_n d_sc_place_0 rfl ?_
  refine zTe (As := [.int s]) (by omega) d_sc_place_1 lm_sc_224 rfl (Nat.le_of_ble_eq_true rfl) (sc_isShelf_ok (d + 2) s) ?_
  have hle1 := b10_lt (x := hasP 3 s)
  refine Zn_if_ne (tgt := 10) d_sc_place_4 (by decide) (by omega) (fun h4 => ?_) (fun h4 => ?_)
  · skip
    have t4 : hasP 3 s = true := b10_t h4
    obtain ⟨j, hj, hj9, rfl⟩ := hasP_t t4
    refine Z_aload_n d_sc_place_10 rfl ?_
    refine Z_get d_sc_place_11 lf_sc_12 h0 rfl ?_
    refine Z_iload_n d_sc_place_14 rfl ?_
    refine zVe (As := [.int x]) (by omega) d_sc_place_15 lm_sc_47 hS.1 rfl rfl (Nat.le_of_ble_eq_true rfl) (sta_has (d + 2) hS (by omega) hn x) ?_
    have hle15 := b10_lt (x := hasP n x)
    refine Zn_if_ne (tgt := 23) d_sc_place_18 (by decide) (by omega) (fun h18 => ?_) (fun h18 => ?_)
    · skip
      have t18 : hasP n x = true := b10_t h18
      obtain ⟨v, hv, hv9, rfl⟩ := hasP_t t18
      refine Z_aload_n d_sc_place_23 rfl ?_
      refine Z_get d_sc_place_24 lf_sc_33 h0 rfl ?_
      refine Z_iload_n d_sc_place_27 rfl ?_
      refine Z_iload_n d_sc_place_28 rfl ?_
      refine zVe (As := [.int (nI j), .int i]) (by omega) d_sc_place_29 lm_sc_231 hH.1 rfl rfl (Nat.le_of_ble_eq_true rfl) (sh_refX (d + 2) hH (by omega) (hln j (by omega)) i) ?_
      have hlnj := hln j (by omega)
      rcases hf : fl j with _ | _
      · skip
        rw [refX_n]
        refine Zn_istore [some (.ref 0), some (.int (nI j)), some (.int i), some (.int (nI v)), some (.int (-11)), none] d_sc_place_32 (by decide) rfl ?_
        refine Z_iload d_sc_place_34 rfl ?_
        refine Z_if_eq (tgt := 42) d_sc_place_36 (by decide) (fun h36 => ?_) (fun h36 => ?_)
        · skip
          exact absurd h36 (by decide) -- end
        · skip
          skip
          refine Z_iload d_sc_place_39 rfl ?_
          refine Z_iret d_sc_place_41 rfl ?_
          have hz : plC n e fl ty ln (nI j) i (nI v) = (-11, none) := by
            unfold plC
            rw [zn_cl hj9, if_pos t4, if_pos t18, if_neg (by rw [hf]; decide)]
          rw [hz]
          exact ⟨rfl, rfl⟩
      · skip
        rcases hp : hasP (ln j) i with _ | _
        · skip
          rw [refX_f hp]
          refine Zn_istore [some (.ref 0), some (.int (nI j)), some (.int i), some (.int (nI v)), some (.int (-12)), none] d_sc_place_32 (by decide) rfl ?_
          refine Z_iload d_sc_place_34 rfl ?_
          refine Z_if_eq (tgt := 42) d_sc_place_36 (by decide) (fun h36 => ?_) (fun h36 => ?_)
          · skip
            exact absurd h36 (by decide) -- end
          · skip
            skip
            refine Z_iload d_sc_place_39 rfl ?_
            refine Z_iret d_sc_place_41 rfl ?_
            have hz : plC n e fl ty ln (nI j) i (nI v) = (-12, none) := by
              unfold plC
              rw [zn_cl hj9, if_pos t4, if_pos t18, if_pos hf, if_neg (by rw [hp]; decide)]
            rw [hz]
            exact ⟨rfl, rfl⟩
        · skip
          rw [refX_t hp]
          obtain ⟨k, hk, hk9, rfl⟩ := hasP_t hp
          refine Zn_istore [some (.ref 0), some (.int (nI j)), some (.int (nI k)), some (.int (nI v)), some (.int (nI 0)), none] d_sc_place_32 (by decide) rfl ?_
          refine Z_iload d_sc_place_34 rfl ?_
          refine Zn_if_eq (a := 0) (tgt := 42) d_sc_place_36 (by decide) (by decide) (fun _ => ?_) (fun h => absurd h (by decide))
          refine Z_aload_n d_sc_place_42 rfl ?_
          refine Z_get d_sc_place_43 lf_sc_33 h0 rfl ?_
          refine Z_get d_sc_place_46 lf_sc_234 hH.1 rfl ?_
          refine Z_iload_n d_sc_place_49 rfl ?_
          refine Zn_iald d_sc_place_50 hH.2.2.1 (by omega) (by omega) ?_
          have htyj := hty j (by omega)
          refine Zn_istore [some (.ref 0), some (.int (nI j)), some (.int (nI k)), some (.int (nI v)), some (.int (nI 0)), some (.int (nI (ty j)))] d_sc_place_51 (by decide) rfl ?_
          refine Z_iload d_sc_place_53 rfl ?_
          refine Zn_if_eq (tgt := 77) d_sc_place_55 (by decide) (by omega) (fun h55 => ?_) (fun h55 => ?_)
          · skip
            skip
            refine Z_aload_n d_sc_place_77 rfl ?_
            refine Z_get d_sc_place_78 lf_sc_33 h0 rfl ?_
            refine Z_get d_sc_place_81 lf_sc_237 hH.1 rfl ?_
            refine Z_iload_n d_sc_place_84 rfl ?_
            refine Zn_aald d_sc_place_85 hH.2.2.2.2.1 (by omega) (by omega) (if_pos (by omega)) (by omega) ?_
            refine Z_iload_n d_sc_place_86 rfl ?_
            refine Z_iload_n d_sc_place_87 rfl ?_
            refine Zn_iast d_sc_place_88 (hH.2.2.2.2.2 j (by omega)) (by omega) (by omega) ?_
            refine Zn_iconst (nI 1) d_sc_place_89 (by decide) ?_
            refine Z_iret d_sc_place_90 rfl ?_
            have hz : plC n e fl ty ln (nI j) (nI k) (nI v) = (1, some (j, k)) := by
              unfold plC
              rw [zn_cl hj9, if_pos t4, if_pos t18, if_pos hf, if_pos hp, if_pos h55, zn_cl hk9]
            rw [hz]
            exact ⟨rfl, hH.putE j (by omega) _, zFr.rf.set (by omega) (by omega)⟩
          · skip
            skip
            refine Z_iload d_sc_place_58 rfl ?_
            refine Z_aload_n d_sc_place_60 rfl ?_
            refine Z_get d_sc_place_61 lf_sc_12 h0 rfl ?_
            refine Z_iload_n d_sc_place_64 rfl ?_
            refine zVe (As := [.int (nI v)]) (by omega) d_sc_place_65 lm_sc_56 hS.1 rfl rfl (Nat.le_of_ble_eq_true rfl) (sta_pathOf_ok (d + 1) hS (by omega) hn (nI_pos (by omega))) ?_
            have hkk : keyOf n e (nI v) < 2 ^ 63 := keyOf_63 hI
            have hl3 := lev_le (keyOf n e (nI v))
            refine zTe (As := [.long (lN (keyOf n e (nI v)))]) (by omega) d_sc_place_68 lm_sc_60 rfl (Nat.le_of_ble_eq_true rfl) (pa_levelOf_ok (d + 2) hkk) ?_
            refine Zn_icmp_eq (tgt := 77) d_sc_place_71 (by decide) (by omega) (by omega) (fun h71 => ?_) (fun h71 => ?_)
            · skip
              skip
              refine Z_aload_n d_sc_place_77 rfl ?_
              refine Z_get d_sc_place_78 lf_sc_33 h0 rfl ?_
              refine Z_get d_sc_place_81 lf_sc_237 hH.1 rfl ?_
              refine Z_iload_n d_sc_place_84 rfl ?_
              refine Zn_aald d_sc_place_85 hH.2.2.2.2.1 (by omega) (by omega) (if_pos (by omega)) (by omega) ?_
              refine Z_iload_n d_sc_place_86 rfl ?_
              refine Z_iload_n d_sc_place_87 rfl ?_
              refine Zn_iast d_sc_place_88 (hH.2.2.2.2.2 j (by omega)) (by omega) (by omega) ?_
              refine Zn_iconst (nI 1) d_sc_place_89 (by decide) ?_
              refine Z_iret d_sc_place_90 rfl ?_
              have hz : plC n e fl ty ln (nI j) (nI k) (nI v) = (1, some (j, k)) := by
                unfold plC
                rw [zn_cl hj9, if_pos t4, if_pos t18, if_pos hf, if_pos hp, if_neg h55, if_pos h71, zn_cl hk9]
              rw [hz]
              exact ⟨rfl, hH.putE j (by omega) _, zFr.rf.set (by omega) (by omega)⟩
            · skip
              skip
              refine Zn_bipush (-13) d_sc_place_74 (by decide) ?_
              refine Z_iret d_sc_place_76 rfl ?_
              have hz : plC n e fl ty ln (nI j) (nI k) (nI v) = (-13, none) := by
                unfold plC
                rw [zn_cl hj9, if_pos t4, if_pos t18, if_pos hf, if_pos hp, if_neg h55, if_neg h71]
              rw [hz]
              exact ⟨rfl, rfl⟩
    · skip
      have t18 : hasP n x = false := b10_f h18
      refine Zn_iconst (-1) d_sc_place_21 (by decide) ?_
      refine Z_iret d_sc_place_22 rfl ?_
      have hz : plC n e fl ty ln (nI j) i x = ((-1), none) := by
        unfold plC
        rw [if_pos t4, if_neg (fun z => absurd (t18.symm.trans z) (by decide))]
      rw [hz]
      exact ⟨rfl, rfl⟩
  · skip
    have t4 : hasP 3 s = false := b10_f h4
    refine Zn_bipush (-5) d_sc_place_7 (by decide) ?_
    refine Z_iret d_sc_place_9 rfl ?_
    have hz : plC n e fl ty ln s i x = ((-5), none) := by
      unfold plC
      rw [if_neg (fun z => absurd (t4.symm.trans z) (by decide))]
    rw [hz]
    exact ⟨rfl, rfl⟩
def cpS (fl : Nat → Bool) (ln : Nat → Nat) (s t : Int32) : Int32 × Option (Nat × Nat) := if hasP 3 s = true then (if hasP 3 t = true then (if fl s.toNatClampNeg = true then (nI (ln s.toNatClampNeg), some (s.toNatClampNeg, t.toNatClampNeg)) else (-11, none)) else (-5, none)) else (-5, none)
set_option maxHeartbeats 4000000 in
theorem sc_copyShelf_ok {Γ : zCtx} {M : List zE} (d : Nat) {sv : Bool} (h0 : ScO M sv) {fl : Nat → Bool} {ty ln : Nat → Nat} {el : Nat → Nat → Int32} (hH : ShAt M fl ty ln el) (s t : Int32) : ZM Γ (d + 2) m_sc_copyShelf [.ref 0, .int s, .int t] M (fun M1 v => v = some (.int (cpS fl ln s t).1) ∧ match (cpS fl ln s t).2 with | none => M1 = M | some q => ShAt M1 (bup fl q.2 (fl q.1)) (nup ty q.2 (ty q.1)) (nup ln q.2 (ln q.1)) (rup el q.2 (va_cpy (el q.1) (el q.2) 0 0 10)) ∧ zFr M M1 95 8) := by
  refine ZM.of mk_sc_copyShelf (Nat.le_of_ble_eq_true rfl) ?_
  refine Z_iload_n d_sc_copyShelf_0 rfl ?_
  refine zTe (As := [.int s]) (by omega) d_sc_copyShelf_1 lm_sc_224 rfl (Nat.le_of_ble_eq_true rfl) (sc_isShelf_ok (d + 0) s) ?_
  have hle1 := b10_lt (x := hasP 3 s)
  refine Zn_if_eq (tgt := 14) d_sc_copyShelf_4 (by decide) (by omega) (fun h4 => ?_) (fun h4 => ?_)
  · skip
    have t4 : hasP 3 s = false := b10_f h4
    refine Zn_bipush (-5) d_sc_copyShelf_14 (by decide) ?_
    refine Z_iret d_sc_copyShelf_16 rfl ?_
    have hz : cpS fl ln s t = (-5, none) := by
      unfold cpS
      rw [if_neg (fun z => absurd (t4.symm.trans z) (by decide))]
    rw [hz]
    exact ⟨rfl, rfl⟩
  · skip
    have t4 : hasP 3 s = true := b10_t h4
    obtain ⟨j, hj, hj9, rfl⟩ := hasP_t t4
    refine Z_iload_n d_sc_copyShelf_7 rfl ?_
    refine zTe (As := [.int t]) (by omega) d_sc_copyShelf_8 lm_sc_224 rfl (Nat.le_of_ble_eq_true rfl) (sc_isShelf_ok (d + 0) t) ?_
    have hle8 := b10_lt (x := hasP 3 t)
    refine Zn_if_ne (tgt := 17) d_sc_copyShelf_11 (by decide) (by omega) (fun h11 => ?_) (fun h11 => ?_)
    · skip
      have t11 : hasP 3 t = true := b10_t h11
      obtain ⟨k, hk, hk9, rfl⟩ := hasP_t t11
      refine Z_aload_n d_sc_copyShelf_17 rfl ?_
      refine Z_get d_sc_copyShelf_18 lf_sc_33 h0 rfl ?_
      refine Z_get d_sc_copyShelf_21 lf_sc_240 hH.1 rfl ?_
      refine Z_iload_n d_sc_copyShelf_24 rfl ?_
      refine Zn_zald d_sc_copyShelf_25 hH.2.1 (by omega) (by omega) ?_
      refine Z_if_ne (tgt := 32) d_sc_copyShelf_26 (by decide) (fun h26 => ?_) (fun h26 => ?_)
      · skip
        have t26 : fl j = true := by
          cases hh : fl j with
          | true => rfl
          | false => exact absurd (bI_0.mpr hh) h26
        refine Z_aload_n d_sc_copyShelf_32 rfl ?_
        refine Z_get d_sc_copyShelf_33 lf_sc_33 h0 rfl ?_
        refine Z_iload_n d_sc_copyShelf_36 rfl ?_
        refine Z_iload_n d_sc_copyShelf_37 rfl ?_
        refine zV (As := [.int (nI j), .int (nI k)]) (by omega) d_sc_copyShelf_38 lm_sc_243 hH.1 rfl rfl (Nat.le_of_ble_eq_true rfl) (sh_copyArray_ok (d + 0) hH (by omega) (by omega)) (fun M1 v hq hlen => ?_)
        obtain ⟨rfl, hH, hF1⟩ := hq
        replace h0 := h0.fr hF1 (by omega)
        refine Z_aload_n d_sc_copyShelf_41 rfl ?_
        refine Z_get d_sc_copyShelf_42 lf_sc_33 h0 rfl ?_
        refine Z_get d_sc_copyShelf_45 lf_sc_247 hH.1 rfl ?_
        refine Z_iload_n d_sc_copyShelf_48 rfl ?_
        refine Zn_iald d_sc_copyShelf_49 hH.2.2.2.1 (by omega) (by omega) ?_
        rw [nup_s]
        refine Z_iret d_sc_copyShelf_50 rfl ?_
        have hz : cpS fl ln (nI j) (nI k) = (nI (ln j), some (j, k)) := by
          unfold cpS
          rw [zn_cl hj9, zn_cl hk9]
          rw [if_pos t4, if_pos t11, if_pos t26]
        rw [hz]
        exact ⟨rfl, hH, hF1⟩
      · skip
        have t26 : fl j = false := bI_0.mp h26
        refine Zn_bipush (-11) d_sc_copyShelf_29 (by decide) ?_
        refine Z_iret d_sc_copyShelf_31 rfl ?_
        have hz : cpS fl ln (nI j) (nI k) = (-11, none) := by
          unfold cpS
          rw [zn_cl hj9]
          rw [if_pos t4, if_pos t11, if_neg (by rw [t26]; decide)]
        rw [hz]
        exact ⟨rfl, rfl⟩
    · skip
      have t11 : hasP 3 t = false := b10_f h11
      refine Zn_bipush (-5) d_sc_copyShelf_14 (by decide) ?_
      refine Z_iret d_sc_copyShelf_16 rfl ?_
      have hz : cpS fl ln (nI j) t = (-5, none) := by
        unfold cpS
        rw [if_pos t4, if_neg (fun z => absurd (t11.symm.trans z) (by decide))]
      rw [hz]
      exact ⟨rfl, rfl⟩
