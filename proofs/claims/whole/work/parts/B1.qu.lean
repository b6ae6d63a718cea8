/-! the questions: the same answer on both sides -/
/-- both objects stand -/
def INVr (M : List zE) : Prop := ∃ s, M[123]? = some (.inr (7, moF s))
theorem FW.rr {M0 M : List zE} {s : Nat → Nat} {G : Nat → Nat → Nat} (h : FW M0 M s G) : INVr M := ⟨s, h.1⟩
theorem k_provisionCount {Γ : zCtx} {M : List zE} (d : Nat) (h : INV M) (x : Int32) : ZM Γ (d + 10) m_sc_provisionCount [.ref 0, .int x] M (fun M1 v => ∃ a, v = some (.int a) ∧ INVr M1 ∧ ZM Γ (d + 10) m_mo_provisionCount [.ref 123, .int x] M1 (fun M2 v2 => v2 = some (.int a) ∧ INV M2)) := by
  obtain ⟨sv, s, G, hF, hC⟩ := h
  obtain ⟨h0, ⟨n, m, e, rc, tg, dy, sz, kd, pt, gl, tx, hS, hR⟩, hN, hP, hH, ⟨S0, hV⟩, U0, hW⟩ := id hC
  refine ZM.weaken (sc_provisionCount_ok (d + 3) h0 hS hR.2.1 hR.c hV  x) (fun M1 v hq => ?_)
  rcases hq with ⟨q1, rfl, rfl⟩ | ⟨q1, S1, q2, q3, q4, rfl⟩
  · exact ⟨_, rfl, hF.rr, ZM.weaken (mo_provisionCount_no (d + 2) hF q1 ) (fun M2 v2 hz => by
      obtain ⟨rfl, rfl⟩ := hz
      exact ⟨rfl, sv, s, G, hF, hC⟩)⟩
  · obtain ⟨y0, hy0, rfl⟩ := dOk_t q1
    obtain ⟨K, hY⟩ := vOf.hy hR hy0 q4
    have hF1 := hF.fr q3 (by omega)
    refine ⟨_, rfl, hF1.rr, ZM.weaken (mo_provisionCount_ok (d + 2) hF1 hY  ) (fun M2 v2 hz => ?_)⟩
    obtain ⟨rfl, s', G', hF2, hp⟩ := hz
    exact ⟨rfl, hC.qu q3 q2 hp hF2⟩
theorem k_levelAt {Γ : zCtx} {M : List zE} (d : Nat) (h : INV M) (x y : Int32) : ZM Γ (d + 10) m_sc_levelAt [.ref 0, .int x, .int y] M (fun M1 v => ∃ a, v = some (.int a) ∧ INVr M1 ∧ ZM Γ (d + 10) m_mo_levelAt [.ref 123, .int x, .int y] M1 (fun M2 v2 => v2 = some (.int a) ∧ INV M2)) := by
  obtain ⟨sv, s, G, hF, hC⟩ := h
  obtain ⟨h0, ⟨n, m, e, rc, tg, dy, sz, kd, pt, gl, tx, hS, hR⟩, hN, hP, hH, ⟨S0, hV⟩, U0, hW⟩ := id hC
  refine ZM.weaken (sc_levelAt_ok (d + 2) h0 hS hR.2.1 hR.c hV  x y) (fun M1 v hq => ?_)
  rcases hq with ⟨q1, rfl, rfl⟩ | ⟨q1, S1, q2, q3, q4, rfl⟩
  · exact ⟨_, rfl, hF.rr, ZM.weaken (mo_levelAt_no (d + 1) hF q1 y) (fun M2 v2 hz => by
      obtain ⟨rfl, rfl⟩ := hz
      exact ⟨rfl, sv, s, G, hF, hC⟩)⟩
  · obtain ⟨y0, hy0, rfl⟩ := dOk_t q1
    obtain ⟨K, hY⟩ := vOf.hy hR hy0 q4
    have hF1 := hF.fr q3 (by omega)
    refine ⟨_, rfl, hF1.rr, ZM.weaken (mo_levelAt_ok (d + 1) hF1 hY  y) (fun M2 v2 hz => ?_)⟩
    obtain ⟨rfl, s', G', hF2, hp⟩ := hz
    exact ⟨rfl, hC.qu q3 q2 hp hF2⟩
theorem k_textAt {Γ : zCtx} {M : List zE} (d : Nat) (h : INV M) (x y : Int32) : ZM Γ (d + 10) m_sc_textAt [.ref 0, .int x, .int y] M (fun M1 v => ∃ a, v = some (.int a) ∧ INVr M1 ∧ ZM Γ (d + 10) m_mo_textAt [.ref 123, .int x, .int y] M1 (fun M2 v2 => v2 = some (.int a) ∧ INV M2)) := by
  obtain ⟨sv, s, G, hF, hC⟩ := h
  obtain ⟨h0, ⟨n, m, e, rc, tg, dy, sz, kd, pt, gl, tx, hS, hR⟩, hN, hP, hH, ⟨S0, hV⟩, U0, hW⟩ := id hC
  refine ZM.weaken (sc_textAt_ok (d + 2) h0 hS hR.2.1 hR.c hV  x y) (fun M1 v hq => ?_)
  rcases hq with ⟨q1, rfl, rfl⟩ | ⟨q1, S1, q2, q3, q4, rfl⟩
  · exact ⟨_, rfl, hF.rr, ZM.weaken (mo_textAt_no (d + 1) hF q1 y) (fun M2 v2 hz => by
      obtain ⟨rfl, rfl⟩ := hz
      exact ⟨rfl, sv, s, G, hF, hC⟩)⟩
  · obtain ⟨y0, hy0, rfl⟩ := dOk_t q1
    obtain ⟨K, hY⟩ := vOf.hy hR hy0 q4
    have hF1 := hF.fr q3 (by omega)
    refine ⟨_, rfl, hF1.rr, ZM.weaken (mo_textAt_ok (d + 1) hF1 hY  y) (fun M2 v2 hz => ?_)⟩
    obtain ⟨rfl, s', G', hF2, hp⟩ := hz
    exact ⟨rfl, hC.qu q3 q2 hp hF2⟩
theorem k_isRepealedAt {Γ : zCtx} {M : List zE} (d : Nat) (h : INV M) (x y : Int32) : ZM Γ (d + 10) m_sc_isRepealedAt [.ref 0, .int x, .int y] M (fun M1 v => ∃ a, v = some (.int a) ∧ INVr M1 ∧ ZM Γ (d + 10) m_mo_isRepealedAt [.ref 123, .int x, .int y] M1 (fun M2 v2 => v2 = some (.int a) ∧ INV M2)) := by
  obtain ⟨sv, s, G, hF, hC⟩ := h
  obtain ⟨h0, ⟨n, m, e, rc, tg, dy, sz, kd, pt, gl, tx, hS, hR⟩, hN, hP, hH, ⟨S0, hV⟩, U0, hW⟩ := id hC
  refine ZM.weaken (sc_isRepealedAt_ok (d + 2) h0 hS hR.2.1 hR.c hV  x y) (fun M1 v hq => ?_)
  rcases hq with ⟨q1, rfl, rfl⟩ | ⟨q1, S1, q2, q3, q4, rfl⟩
  · exact ⟨_, rfl, hF.rr, ZM.weaken (mo_isRepealedAt_no (d + 1) hF q1 y) (fun M2 v2 hz => by
      obtain ⟨rfl, rfl⟩ := hz
      exact ⟨rfl, sv, s, G, hF, hC⟩)⟩
  · obtain ⟨y0, hy0, rfl⟩ := dOk_t q1
    obtain ⟨K, hY⟩ := vOf.hy hR hy0 q4
    have hF1 := hF.fr q3 (by omega)
    refine ⟨_, rfl, hF1.rr, ZM.weaken (mo_isRepealedAt_ok (d + 1) hF1 hY  y) (fun M2 v2 hz => ?_)⟩
    obtain ⟨rfl, s', G', hF2, hp⟩ := hz
    exact ⟨rfl, hC.qu q3 q2 hp hF2⟩
theorem k_pathLengthAt {Γ : zCtx} {M : List zE} (d : Nat) (h : INV M) (x y : Int32) : ZM Γ (d + 10) m_sc_pathLengthAt [.ref 0, .int x, .int y] M (fun M1 v => ∃ a, v = some (.int a) ∧ INVr M1 ∧ ZM Γ (d + 10) m_mo_pathLengthAt [.ref 123, .int x, .int y] M1 (fun M2 v2 => v2 = some (.int a) ∧ INV M2)) := by
  obtain ⟨sv, s, G, hF, hC⟩ := h
  obtain ⟨h0, ⟨n, m, e, rc, tg, dy, sz, kd, pt, gl, tx, hS, hR⟩, hN, hP, hH, ⟨S0, hV⟩, U0, hW⟩ := id hC
  refine ZM.weaken (sc_pathLengthAt_ok (d + 2) h0 hS hR.2.1 hR.c hV  x y) (fun M1 v hq => ?_)
  rcases hq with ⟨q1, rfl, rfl⟩ | ⟨q1, S1, q2, q3, q4, rfl⟩
  · exact ⟨_, rfl, hF.rr, ZM.weaken (mo_pathLengthAt_no (d + 1) hF q1 y) (fun M2 v2 hz => by
      obtain ⟨rfl, rfl⟩ := hz
      exact ⟨rfl, sv, s, G, hF, hC⟩)⟩
  · obtain ⟨y0, hy0, rfl⟩ := dOk_t q1
    obtain ⟨K, hY⟩ := vOf.hy hR hy0 q4
    have hF1 := hF.fr q3 (by omega)
    refine ⟨_, rfl, hF1.rr, ZM.weaken (mo_pathLengthAt_ok (d + 1) hF1 hY  y) (fun M2 v2 hz => ?_)⟩
    obtain ⟨rfl, s', G', hF2, hp⟩ := hz
    exact ⟨rfl, hC.qu q3 q2 hp hF2⟩
theorem k_pathCharacterAt {Γ : zCtx} {M : List zE} (d : Nat) (h : INV M) (x y z : Int32) : ZM Γ (d + 10) m_sc_pathCharacterAt [.ref 0, .int x, .int y, .int z] M (fun M1 v => ∃ a, v = some (.int a) ∧ INVr M1 ∧ ZM Γ (d + 10) m_mo_pathCharacterAt [.ref 123, .int x, .int y, .int z] M1 (fun M2 v2 => v2 = some (.int a) ∧ INV M2)) := by
  obtain ⟨sv, s, G, hF, hC⟩ := h
  obtain ⟨h0, ⟨n, m, e, rc, tg, dy, sz, kd, pt, gl, tx, hS, hR⟩, hN, hP, hH, ⟨S0, hV⟩, U0, hW⟩ := id hC
  refine ZM.weaken (sc_pathCharacterAt_ok (d + 2) h0 hS hR.2.1 hR.c hV  x y z) (fun M1 v hq => ?_)
  rcases hq with ⟨q1, rfl, rfl⟩ | ⟨q1, S1, q2, q3, q4, rfl⟩
  · exact ⟨_, rfl, hF.rr, ZM.weaken (mo_pathCharacterAt_no (d + 1) hF q1 y z) (fun M2 v2 hz => by
      obtain ⟨rfl, rfl⟩ := hz
      exact ⟨rfl, sv, s, G, hF, hC⟩)⟩
  · obtain ⟨y0, hy0, rfl⟩ := dOk_t q1
    obtain ⟨K, hY⟩ := vOf.hy hR hy0 q4
    have hF1 := hF.fr q3 (by omega)
    refine ⟨_, rfl, hF1.rr, ZM.weaken (mo_pathCharacterAt_ok (d + 1) hF1 hY  y z) (fun M2 v2 hz => ?_)⟩
    obtain ⟨rfl, s', G', hF2, hp⟩ := hz
    exact ⟨rfl, hC.qu q3 q2 hp hF2⟩
theorem k_originAt {Γ : zCtx} {M : List zE} (d : Nat) (h : INV M) (x y : Int32) : ZM Γ (d + 10) m_sc_originAt [.ref 0, .int x, .int y] M (fun M1 v => ∃ a, v = some (.int a) ∧ INVr M1 ∧ ZM Γ (d + 10) m_mo_originAt [.ref 123, .int x, .int y] M1 (fun M2 v2 => v2 = some (.int a) ∧ INV M2)) := by
  obtain ⟨sv, s, G, hF, hC⟩ := h
  obtain ⟨h0, ⟨n, m, e, rc, tg, dy, sz, kd, pt, gl, tx, hS, hR⟩, hN, hP, hH, ⟨S0, hV⟩, U0, hW⟩ := id hC
  refine ZM.weaken (sc_originAt_ok (d + 2) h0 hS hR.2.1 hR.c hV  x y) (fun M1 v hq => ?_)
  rcases hq with ⟨q1, rfl, rfl⟩ | ⟨q1, S1, q2, q3, q4, rfl⟩
  · exact ⟨_, rfl, hF.rr, ZM.weaken (mo_originAt_no (d + 1) hF q1 y) (fun M2 v2 hz => by
      obtain ⟨rfl, rfl⟩ := hz
      exact ⟨rfl, sv, s, G, hF, hC⟩)⟩
  · obtain ⟨y0, hy0, rfl⟩ := dOk_t q1
    obtain ⟨K, hY⟩ := vOf.hy hR hy0 q4
    have hF1 := hF.fr q3 (by omega)
    refine ⟨_, rfl, hF1.rr, ZM.weaken (mo_originAt_ok (d + 1) hF1 hY  y) (fun M2 v2 hz => ?_)⟩
    obtain ⟨rfl, s', G', hF2, hp⟩ := hz
    exact ⟨rfl, hC.qu q3 q2 hp hF2⟩
theorem k_creatorAt {Γ : zCtx} {M : List zE} (d : Nat) (h : INV M) (x y : Int32) : ZM Γ (d + 10) m_sc_creatorAt [.ref 0, .int x, .int y] M (fun M1 v => ∃ a, v = some (.int a) ∧ INVr M1 ∧ ZM Γ (d + 10) m_mo_creatorAt [.ref 123, .int x, .int y] M1 (fun M2 v2 => v2 = some (.int a) ∧ INV M2)) := by
  obtain ⟨sv, s, G, hF, hC⟩ := h
  obtain ⟨h0, ⟨n, m, e, rc, tg, dy, sz, kd, pt, gl, tx, hS, hR⟩, hN, hP, hH, ⟨S0, hV⟩, U0, hW⟩ := id hC
  refine ZM.weaken (sc_creatorAt_ok (d + 2) h0 hS hR.2.1 hR.c hV  x y) (fun M1 v hq => ?_)
  rcases hq with ⟨q1, rfl, rfl⟩ | ⟨q1, S1, q2, q3, q4, rfl⟩
  · exact ⟨_, rfl, hF.rr, ZM.weaken (mo_creatorAt_no (d + 1) hF q1 y) (fun M2 v2 hz => by
      obtain ⟨rfl, rfl⟩ := hz
      exact ⟨rfl, sv, s, G, hF, hC⟩)⟩
  · obtain ⟨y0, hy0, rfl⟩ := dOk_t q1
    obtain ⟨K, hY⟩ := vOf.hy hR hy0 q4
    have hF1 := hF.fr q3 (by omega)
    refine ⟨_, rfl, hF1.rr, ZM.weaken (mo_creatorAt_ok (d + 1) hF1 hY  y) (fun M2 v2 hz => ?_)⟩
    obtain ⟨rfl, s', G', hF2, hp⟩ := hz
    exact ⟨rfl, hC.qu q3 q2 hp hF2⟩
theorem k_referenceCountAt {Γ : zCtx} {M : List zE} (d : Nat) (h : INV M) (x y : Int32) : ZM Γ (d + 10) m_sc_referenceCountAt [.ref 0, .int x, .int y] M (fun M1 v => ∃ a, v = some (.int a) ∧ INVr M1 ∧ ZM Γ (d + 10) m_mo_referenceCountAt [.ref 123, .int x, .int y] M1 (fun M2 v2 => v2 = some (.int a) ∧ INV M2)) := by
  obtain ⟨sv, s, G, hF, hC⟩ := h
  obtain ⟨h0, ⟨n, m, e, rc, tg, dy, sz, kd, pt, gl, tx, hS, hR⟩, hN, hP, hH, ⟨S0, hV⟩, U0, hW⟩ := id hC
  refine ZM.weaken (sc_referenceCountAt_ok (d + 2) h0 hS hR.2.1 hR.c hV  x y) (fun M1 v hq => ?_)
  rcases hq with ⟨q1, rfl, rfl⟩ | ⟨q1, S1, q2, q3, q4, rfl⟩
  · exact ⟨_, rfl, hF.rr, ZM.weaken (mo_referenceCountAt_no (d + 1) hF q1 y) (fun M2 v2 hz => by
      obtain ⟨rfl, rfl⟩ := hz
      exact ⟨rfl, sv, s, G, hF, hC⟩)⟩
  · obtain ⟨y0, hy0, rfl⟩ := dOk_t q1
    obtain ⟨K, hY⟩ := vOf.hy hR hy0 q4
    have hF1 := hF.fr q3 (by omega)
    refine ⟨_, rfl, hF1.rr, ZM.weaken (mo_referenceCountAt_ok (d + 1) hF1 hY hR.2.2.2.1 y) (fun M2 v2 hz => ?_)⟩
    obtain ⟨rfl, s', G', hF2, hp⟩ := hz
    exact ⟨rfl, hC.qu q3 q2 hp hF2⟩
theorem k_referenceAt {Γ : zCtx} {M : List zE} (d : Nat) (h : INV M) (x y z : Int32) : ZM Γ (d + 10) m_sc_referenceAt [.ref 0, .int x, .int y, .int z] M (fun M1 v => ∃ a, v = some (.int a) ∧ INVr M1 ∧ ZM Γ (d + 10) m_mo_referenceAt [.ref 123, .int x, .int y, .int z] M1 (fun M2 v2 => v2 = some (.int a) ∧ INV M2)) := by
  obtain ⟨sv, s, G, hF, hC⟩ := h
  obtain ⟨h0, ⟨n, m, e, rc, tg, dy, sz, kd, pt, gl, tx, hS, hR⟩, hN, hP, hH, ⟨S0, hV⟩, U0, hW⟩ := id hC
  refine ZM.weaken (sc_referenceAt_ok (d + 2) h0 hS hR.2.1 hR.c hV hR.g x y z) (fun M1 v hq => ?_)
  rcases hq with ⟨q1, rfl, rfl⟩ | ⟨q1, S1, q2, q3, q4, rfl⟩
  · exact ⟨_, rfl, hF.rr, ZM.weaken (mo_referenceAt_no (d + 1) hF q1 y z) (fun M2 v2 hz => by
      obtain ⟨rfl, rfl⟩ := hz
      exact ⟨rfl, sv, s, G, hF, hC⟩)⟩
  · obtain ⟨y0, hy0, rfl⟩ := dOk_t q1
    obtain ⟨K, hY⟩ := vOf.hy hR hy0 q4
    have hF1 := hF.fr q3 (by omega)
    refine ⟨_, rfl, hF1.rr, ZM.weaken (mo_referenceAt_ok (d + 1) hF1 hY hR.2.2.2.1 y z) (fun M2 v2 hz => ?_)⟩
    obtain ⟨rfl, s', G', hF2, hp⟩ := hz
    exact ⟨rfl, hC.qu q3 q2 hp hF2⟩
theorem k_danglingCount {Γ : zCtx} {M : List zE} (d : Nat) (h : INV M) (x : Int32) : ZM Γ (d + 10) m_sc_danglingCount [.ref 0, .int x] M (fun M1 v => ∃ a, v = some (.int a) ∧ INVr M1 ∧ ZM Γ (d + 10) m_mo_danglingCount [.ref 123, .int x] M1 (fun M2 v2 => v2 = some (.int a) ∧ INV M2)) := by
  obtain ⟨sv, s, G, hF, hC⟩ := h
  obtain ⟨h0, ⟨n, m, e, rc, tg, dy, sz, kd, pt, gl, tx, hS, hR⟩, hN, hP, hH, ⟨S0, hV⟩, U0, hW⟩ := id hC
  refine ZM.weaken (sc_danglingCount_ok (d + 3) h0 hS hR.2.1 hR.c hV hR.g x) (fun M1 v hq => ?_)
  rcases hq with ⟨q1, rfl, rfl⟩ | ⟨q1, S1, q2, q3, q4, rfl⟩
  · exact ⟨_, rfl, hF.rr, ZM.weaken (mo_danglingCount_no (d + 2) hF q1 ) (fun M2 v2 hz => by
      obtain ⟨rfl, rfl⟩ := hz
      exact ⟨rfl, sv, s, G, hF, hC⟩)⟩
  · obtain ⟨y0, hy0, rfl⟩ := dOk_t q1
    obtain ⟨K, hY⟩ := vOf.hy hR hy0 q4
    have hF1 := hF.fr q3 (by omega)
    refine ⟨_, rfl, hF1.rr, ZM.weaken (mo_danglingCount_ok (d + 2) hF1 hY hR.2.2.2.1 ) (fun M2 v2 hz => ?_)⟩
    obtain ⟨rfl, s', G', hF2, hp⟩ := hz
    exact ⟨rfl, hC.qu q3 q2 hp hF2⟩
theorem k_conflictCount {Γ : zCtx} {M : List zE} (d : Nat) (h : INV M) (x : Int32) : ZM Γ (d + 10) m_sc_conflictCount [.ref 0, .int x] M (fun M1 v => ∃ a, v = some (.int a) ∧ INVr M1 ∧ ZM Γ (d + 10) m_mo_conflictCount [.ref 123, .int x] M1 (fun M2 v2 => v2 = some (.int a) ∧ INV M2)) := by
  obtain ⟨sv, s, G, hF, hC⟩ := h
  obtain ⟨h0, ⟨n, m, e, rc, tg, dy, sz, kd, pt, gl, tx, hS, hR⟩, hN, hP, hH, ⟨S0, hV⟩, U0, hW⟩ := id hC
  refine ZM.weaken (sc_conflictCount_ok (d + 3) h0 hS hR.2.1 hR.c hV  x) (fun M1 v hq => ?_)
  rcases hq with ⟨q1, rfl, rfl⟩ | ⟨q1, S1, q2, q3, q4, rfl⟩
  · exact ⟨_, rfl, hF.rr, ZM.weaken (mo_conflictCount_no (d + 2) hF q1 ) (fun M2 v2 hz => by
      obtain ⟨rfl, rfl⟩ := hz
      exact ⟨rfl, sv, s, G, hF, hC⟩)⟩
  · obtain ⟨y0, hy0, rfl⟩ := dOk_t q1
    obtain ⟨K, hY⟩ := vOf.hy hR hy0 q4
    have hF1 := hF.fr q3 (by omega)
    refine ⟨_, rfl, hF1.rr, ZM.weaken (mo_conflictCount_ok (d + 2) hF1 hY  ) (fun M2 v2 hz => ?_)⟩
    obtain ⟨rfl, s', G', hF2, hp⟩ := hz
    exact ⟨rfl, hC.qu q3 q2 hp hF2⟩
theorem k_conflictAmendment {Γ : zCtx} {M : List zE} (d : Nat) (h : INV M) (x y : Int32) : ZM Γ (d + 10) m_sc_conflictAmendment [.ref 0, .int x, .int y] M (fun M1 v => ∃ a, v = some (.int a) ∧ INVr M1 ∧ ZM Γ (d + 10) m_mo_conflictAmendment [.ref 123, .int x, .int y] M1 (fun M2 v2 => v2 = some (.int a) ∧ INV M2)) := by
  obtain ⟨sv, s, G, hF, hC⟩ := h
  obtain ⟨h0, ⟨n, m, e, rc, tg, dy, sz, kd, pt, gl, tx, hS, hR⟩, hN, hP, hH, ⟨S0, hV⟩, U0, hW⟩ := id hC
  refine ZM.weaken (sc_conflictAmendment_ok (d + 3) h0 hS hR.2.1 hR.c hV  x y) (fun M1 v hq => ?_)
  rcases hq with ⟨q1, rfl, rfl⟩ | ⟨q1, S1, q2, q3, q4, rfl⟩
  · exact ⟨_, rfl, hF.rr, ZM.weaken (mo_conflictAmendment_no (d + 1) hF q1 y) (fun M2 v2 hz => by
      obtain ⟨rfl, rfl⟩ := hz
      exact ⟨rfl, sv, s, G, hF, hC⟩)⟩
  · obtain ⟨y0, hy0, rfl⟩ := dOk_t q1
    obtain ⟨K, hY⟩ := vOf.hy hR hy0 q4
    have hF1 := hF.fr q3 (by omega)
    refine ⟨_, rfl, hF1.rr, ZM.weaken (mo_conflictAmendment_ok (d + 1) hF1 hY  y) (fun M2 v2 hz => ?_)⟩
    obtain ⟨rfl, s', G', hF2, hp⟩ := hz
    exact ⟨rfl, hC.qu q3 q2 hp hF2⟩
theorem k_conflictInstruction {Γ : zCtx} {M : List zE} (d : Nat) (h : INV M) (x y : Int32) : ZM Γ (d + 10) m_sc_conflictInstruction [.ref 0, .int x, .int y] M (fun M1 v => ∃ a, v = some (.int a) ∧ INVr M1 ∧ ZM Γ (d + 10) m_mo_conflictInstruction [.ref 123, .int x, .int y] M1 (fun M2 v2 => v2 = some (.int a) ∧ INV M2)) := by
  obtain ⟨sv, s, G, hF, hC⟩ := h
  obtain ⟨h0, ⟨n, m, e, rc, tg, dy, sz, kd, pt, gl, tx, hS, hR⟩, hN, hP, hH, ⟨S0, hV⟩, U0, hW⟩ := id hC
  refine ZM.weaken (sc_conflictInstruction_ok (d + 3) h0 hS hR.2.1 hR.c hV  x y) (fun M1 v hq => ?_)
  rcases hq with ⟨q1, rfl, rfl⟩ | ⟨q1, S1, q2, q3, q4, rfl⟩
  · exact ⟨_, rfl, hF.rr, ZM.weaken (mo_conflictInstruction_no (d + 1) hF q1 y) (fun M2 v2 hz => by
      obtain ⟨rfl, rfl⟩ := hz
      exact ⟨rfl, sv, s, G, hF, hC⟩)⟩
  · obtain ⟨y0, hy0, rfl⟩ := dOk_t q1
    obtain ⟨K, hY⟩ := vOf.hy hR hy0 q4
    have hF1 := hF.fr q3 (by omega)
    refine ⟨_, rfl, hF1.rr, ZM.weaken (mo_conflictInstruction_ok (d + 1) hF1 hY  y) (fun M2 v2 hz => ?_)⟩
    obtain ⟨rfl, s', G', hF2, hp⟩ := hz
    exact ⟨rfl, hC.qu q3 q2 hp hF2⟩
theorem k_conflictReason {Γ : zCtx} {M : List zE} (d : Nat) (h : INV M) (x y : Int32) : ZM Γ (d + 10) m_sc_conflictReason [.ref 0, .int x, .int y] M (fun M1 v => ∃ a, v = some (.int a) ∧ INVr M1 ∧ ZM Γ (d + 10) m_mo_conflictReason [.ref 123, .int x, .int y] M1 (fun M2 v2 => v2 = some (.int a) ∧ INV M2)) := by
  obtain ⟨sv, s, G, hF, hC⟩ := h
  obtain ⟨h0, ⟨n, m, e, rc, tg, dy, sz, kd, pt, gl, tx, hS, hR⟩, hN, hP, hH, ⟨S0, hV⟩, U0, hW⟩ := id hC
  refine ZM.weaken (sc_conflictReason_ok (d + 3) h0 hS hR.2.1 hR.c hV  x y) (fun M1 v hq => ?_)
  rcases hq with ⟨q1, rfl, rfl⟩ | ⟨q1, S1, q2, q3, q4, rfl⟩
  · exact ⟨_, rfl, hF.rr, ZM.weaken (mo_conflictReason_no (d + 1) hF q1 y) (fun M2 v2 hz => by
      obtain ⟨rfl, rfl⟩ := hz
      exact ⟨rfl, sv, s, G, hF, hC⟩)⟩
  · obtain ⟨y0, hy0, rfl⟩ := dOk_t q1
    obtain ⟨K, hY⟩ := vOf.hy hR hy0 q4
    have hF1 := hF.fr q3 (by omega)
    refine ⟨_, rfl, hF1.rr, ZM.weaken (mo_conflictReason_ok (d + 1) hF1 hY  y) (fun M2 v2 hz => ?_)⟩
    obtain ⟨rfl, s', G', hF2, hp⟩ := hz
    exact ⟨rfl, hC.qu q3 q2 hp hF2⟩
theorem k_averageLevel {Γ : zCtx} {M : List zE} (d : Nat) (h : INV M) (x : Int32) : ZM Γ (d + 10) m_sc_averageLevel [.ref 0, .int x] M (fun M1 v => ∃ a, v = some (.int a) ∧ INVr M1 ∧ ZM Γ (d + 10) m_mo_averageLevel [.ref 123, .int x] M1 (fun M2 v2 => v2 = some (.int a) ∧ INV M2)) := by
  obtain ⟨sv, s, G, hF, hC⟩ := h
  obtain ⟨h0, ⟨n, m, e, rc, tg, dy, sz, kd, pt, gl, tx, hS, hR⟩, hN, hP, hH, ⟨S0, hV⟩, U0, hW⟩ := id hC
  refine ZM.weaken (sc_averageLevel_ok (d + 3) h0 hS hR.2.1 hR.c hV  x) (fun M1 v hq => ?_)
  rcases hq with ⟨q1, rfl, rfl⟩ | ⟨q1, S1, q2, q3, q4, rfl⟩
  · exact ⟨_, rfl, hF.rr, ZM.weaken (mo_averageLevel_no (d + 2) hF q1 ) (fun M2 v2 hz => by
      obtain ⟨rfl, rfl⟩ := hz
      exact ⟨rfl, sv, s, G, hF, hC⟩)⟩
  · obtain ⟨y0, hy0, rfl⟩ := dOk_t q1
    obtain ⟨K, hY⟩ := vOf.hy hR hy0 q4
    have hF1 := hF.fr q3 (by omega)
    refine ⟨_, rfl, hF1.rr, ZM.weaken (mo_averageLevel_ok (d + 2) hF1 hY  ) (fun M2 v2 hz => ?_)⟩
    obtain ⟨rfl, s', G', hF2, hp⟩ := hz
    exact ⟨rfl, hC.qu q3 q2 hp hF2⟩
theorem k_repealedShare {Γ : zCtx} {M : List zE} (d : Nat) (h : INV M) (x : Int32) : ZM Γ (d + 10) m_sc_repealedShare [.ref 0, .int x] M (fun M1 v => ∃ a, v = some (.long a) ∧ INVr M1 ∧ ZM Γ (d + 10) m_mo_repealedShare [.ref 123, .int x] M1 (fun M2 v2 => v2 = some (.long a) ∧ INV M2)) := by
  obtain ⟨sv, s, G, hF, hC⟩ := h
  obtain ⟨h0, ⟨n, m, e, rc, tg, dy, sz, kd, pt, gl, tx, hS, hR⟩, hN, hP, hH, ⟨S0, hV⟩, U0, hW⟩ := id hC
  refine ZM.weaken (sc_repealedShare_ok (d + 3) h0 hS hR.2.1 hR.c hV  x) (fun M1 v hq => ?_)
  rcases hq with ⟨q1, rfl, rfl⟩ | ⟨q1, S1, q2, q3, q4, rfl⟩
  · exact ⟨_, rfl, hF.rr, ZM.weaken (mo_repealedShare_no (d + 2) hF q1 ) (fun M2 v2 hz => by
      obtain ⟨rfl, rfl⟩ := hz
      exact ⟨rfl, sv, s, G, hF, hC⟩)⟩
  · obtain ⟨y0, hy0, rfl⟩ := dOk_t q1
    obtain ⟨K, hY⟩ := vOf.hy hR hy0 q4
    have hF1 := hF.fr q3 (by omega)
    refine ⟨_, rfl, hF1.rr, ZM.weaken (mo_repealedShare_ok (d + 2) hF1 hY  ) (fun M2 v2 hz => ?_)⟩
    obtain ⟨rfl, s', G', hF2, hp⟩ := hz
    exact ⟨rfl, hC.qu q3 q2 hp hF2⟩
