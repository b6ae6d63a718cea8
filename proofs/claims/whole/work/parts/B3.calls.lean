/-! calls that answer the same, the rest -/
theorem k_firstDifference {Γ : zCtx} {M : List zE} (d : Nat) (h : INV M) (x y : Int32) : ZM Γ (d + 10) m_sc_firstDifference [.ref 0, .int x, .int y] M (fun M1 v => ∃ a, v = some (.int a) ∧ INVr M1 ∧ ZM Γ (d + 10) m_mo_firstDifference [.ref 123, .int x, .int y] M1 (fun M2 v2 => v2 = some (.int a) ∧ INV M2)) := by
  obtain ⟨sv, s, G, hF, hC⟩ := h
  obtain ⟨h0, ⟨n, m, e, rc, tg, dy, sz, kd, pt, gl, tx, hS, hR⟩, hN, hP, hH, ⟨S0, hV⟩, U0, hW⟩ := id hC
  refine ZM.weaken (sc_firstDifference_2 (d + 3) h0 hS hR.2.1 hR.c hV hW x y) (fun M1 v hq => ?_)
  obtain ⟨S, U, q1, q2, q3, q4⟩ := hq
  have hF1 := hF.fr q3 (by omega)
  have hC1 := hC.ver q3 ⟨⟨S, q1⟩, U, q2⟩
  rcases q4 with ⟨r1, rfl, r2⟩ | ⟨r1, r2, r3, r4, rfl⟩
  · refine ⟨_, rfl, hF1.rr, ?_⟩
    by_cases hx : dOk x = true
    · obtain ⟨y0, hy0, rfl⟩ := dOk_t hx
      obtain ⟨K, hY⟩ := vOf.hy hR hy0 (r2 hx)
      have hy : dOk y = false := by
        cases hh : dOk y with
        | false => rfl
        | true => exact absurd ⟨hx, hh⟩ r1
      refine ZM.weaken (mo_firstDifference_no2 (d + 2) hF1 hY hy) (fun M2 v2 hz => ?_)
      obtain ⟨rfl, s', G', hF2, hp⟩ := hz
      exact ⟨rfl, (hC1.p hp).fin hF2⟩
    · refine ZM.weaken (mo_firstDifference_no (d + 2) hF1 (by simpa using hx) y) (fun M2 v2 hz => ?_)
      obtain ⟨rfl, rfl⟩ := hz
      exact ⟨rfl, hC1.fin hF1⟩
  · obtain ⟨y0, hy0, rfl⟩ := dOk_t r1
    obtain ⟨y1, hy1, rfl⟩ := dOk_t r2
    obtain ⟨K, hO⟩ := hR.2.2.1
    refine ⟨_, rfl, hF1.rr, ZM.weaken (mo_firstDifference_ok (K := K) (d + 2) hF1 ⟨hR.2.2.2.2.1, hO, hR.1, hR.2.1, hy0, r3.2.1, r3.2.2⟩ ⟨hR.2.2.2.2.1, hO, hR.1, hR.2.1, hy1, r4.2.1, r4.2.2⟩) (fun M2 v2 hz => ?_)⟩
    obtain ⟨rfl, s', G', hF2, hp⟩ := hz
    exact ⟨rfl, (hC1.p hp).fin hF2⟩
theorem k_doCommute {Γ : zCtx} {M : List zE} (d : Nat) (h : INV M) (x y : Int32) : ZM Γ (d + 10) m_sc_doCommute [.ref 0, .int x, .int y] M (fun M1 v => ∃ a, v = some (.int a) ∧ INVr M1 ∧ ZM Γ (d + 10) m_mo_doCommute [.ref 123, .int x, .int y] M1 (fun M2 v2 => v2 = some (.int a) ∧ INV M2)) := by
  obtain ⟨sv, s, G, hF, hC⟩ := h
  obtain ⟨h0, ⟨n, m, e, rc, tg, dy, sz, kd, pt, gl, tx, hS, hR⟩, hN, hP, hH, ⟨S0, hV⟩, U0, hW⟩ := id hC
  refine ZM.weaken (sc_doCommute_ok (d + 3) h0 hS hR.2.1 hR.c hV hW x y) (fun M1 v hq => ?_)
  obtain ⟨S, U, q1, q2, q3, q4⟩ := hq
  have hF1 := hF.fr q3 (by omega)
  have hC1 := hC.ver q3 ⟨⟨S, q1⟩, U, q2⟩
  rcases q4 with ⟨r1, rfl⟩ | ⟨j, k, hj, hk, rfl, rfl, ⟨r1, r2, T0, S1, r3, S2, r4, r5⟩, ⟨t1, t2, T1, U1, t3, U2, t4, t5⟩, rfl⟩
  · refine ⟨_, rfl, hF1.rr, ZM.weaken (mo_doCommute_no (d + 3) hF1 hR.m.1 hR.m.2 r1) (fun M2 v2 hz => ?_)⟩
    obtain ⟨rfl, rfl⟩ := hz
    exact ⟨rfl, hC1.fin hF1⟩
  · obtain ⟨K, hO⟩ := hR.2.2.1
    have r5' : S = S2 := r5
    have t5' : U = U2 := t5
    subst r5' t5'
    refine ⟨_, rfl, hF1.rr, ZM.weaken (mo_doCommute_ok (d + 3) hF1 hR.2.2.2.2.1 hO hR.1 hR.2.1 hj hk r3 r4 t3 t4) (fun M2 v2 hz => ?_)⟩
    obtain ⟨rfl, s', G', hF2, hp⟩ := hz
    exact ⟨rfl, (hC1.p hp).fin hF2⟩
theorem INVc.inp {M M1 : List zE} {sv : Bool} {s s' : Nat → Nat} {G G' : Nat → Nat → Nat} (h : INVc M sv s G) (hf : zF2 M M1 93 95 103 113) {p : Nat} {ch : Nat → Nat} (hI : InAt M1 (s' 5) p ch) (h5 : s' 5 ≤ 120) (h22 : ch = G' 22) (hch : ∀ i, ch i ≤ 126) (hV : ∃ S, VeS M1 103 S) (hs : ∀ j, (j ≤ 1 ∨ 11 ≤ j) → s' j = s j) (hg : ∀ b, (b < 10 ∨ 30 ≤ b) → G' b = G b) : INVc M1 sv s' G' := by
  subst h22
  obtain ⟨a, b, c, d, e, f⟩ := h
  obtain ⟨U, hU⟩ := f.2
  obtain ⟨M2, f1, f2⟩ := (zAg.f2 (a := 113) (c := 123) hf (by omega) (by omega)).two (by omega)
  exact ⟨a.ag (zAg.f2 hf (by omega) (by omega)), (b.ag (zAg.f2 hf (by omega) (by omega))).p (hs 0 (by omega)) (hs 1 (by omega)) (fun b hb => hg b (by omega)), (c.ag (zAg.f2 hf (by omega) (by omega))).to (fun j hj => hs j (by omega)) (fun b hb => hg b (by omega)), ⟨⟨p, hI⟩, h5, hch⟩, (e.ag (zAg.f2 hf (by omega) (by omega))).to (hg 30 (by omega)) (hg 31 (by omega)) (hg 32 (by omega)), hV, U, (hU.fr f1 (by omega)).fr f2 (by omega)⟩
theorem zFr.f93 {M M1 : List zE} (h : zFr M M1 93 2) : zF2 M M1 93 95 103 113 := ⟨h.1, fun j a _ => h.2 j (by omega)⟩
theorem k_find {Γ : zCtx} {M : List zE} (d : Nat) (h : INV M) (x : Int32) : ZM Γ (d + 10) m_sc_find [.ref 0, .int x] M (fun M1 v => ∃ a, v = some (.int a) ∧ INVr M1 ∧ ZM Γ (d + 10) m_mo_find [.ref 123, .int x] M1 (fun M2 v2 => v2 = some (.int a) ∧ INV M2)) := by
  obtain ⟨sv, s, G, hF, hC⟩ := h
  obtain ⟨h0, ⟨n, m, e, rc, tg, dy, sz, kd, pt, gl, tx, hS, hR⟩, hN, hP, hH, ⟨S0, hV⟩, U0, hW⟩ := id hC
  obtain ⟨⟨p, hI⟩, h120, hch⟩ := hP
  refine ZM.weaken (sc_find_ok (d + 3) h0 hS hR.2.1 hR.c hV hI h120 hch x) (fun M1 v hq => ?_)
  obtain ⟨hI1, ⟨q1, rfl, q2⟩ | ⟨q1, S, q2, q3, q4, rfl⟩⟩ := hq
  · have hF1 := hF.fr q2 (by omega)
    refine ⟨_, rfl, hF1.rr, ZM.weaken (mo_find_no (d + 2) hF1 q1 h120 hch) (fun M2 v2 hz => ?_)⟩
    obtain ⟨rfl, s', G', hF2, z5, zs, zg⟩ := hz
    exact ⟨rfl, (hC.inp q2.f93 (p := (pPth (s 5) (G 22) 0).2.2) (ch := G 22) (by rw [z5]; exact hI1) (by omega) (zg 22 (by omega)).symm hch ⟨S0, hV.fr q2 (by omega)⟩ zs (fun b hb => zg b (by omega))).fin hF2⟩
  · obtain ⟨y0, hy0, rfl⟩ := dOk_t q1
    obtain ⟨K, hY⟩ := vOf.hy hR hy0 q4
    have hF1 : FW M1 M1 s G := hF.ag (zAg.f2 q3 (by omega) (by omega))
    refine ⟨_, rfl, hF1.rr, ZM.weaken (mo_find_ok (d + 2) hF1 hY h120 hch) (fun M2 v2 hz => ?_)⟩
    obtain ⟨rfl, s', G', hF2, z5, zs, zg⟩ := hz
    exact ⟨rfl, (hC.inp q3 (p := (pPth (s 5) (G 22) 0).2.2) (ch := G 22) (by rw [z5]; exact hI1) (by omega) (zg 22 (by omega)).symm hch ⟨S, q2⟩ zs (fun b hb => zg b (by omega))).fin hF2⟩
theorem k_originalCount {Γ : zCtx} {M : List zE} (d : Nat) (h : INV M) : ZM Γ (d + 10) m_sc_originalCount [.ref 0] M (fun M1 v => ∃ a, v = some (.int a) ∧ INVr M1 ∧ ZM Γ (d + 10) m_mo_originalCount [.ref 123] M1 (fun M2 v2 => v2 = some (.int a) ∧ INV M2)) := by
  obtain ⟨sv, s, G, hF, hC⟩ := h
  obtain ⟨h0, ⟨n, m, e, rc, tg, dy, sz, kd, pt, gl, tx, hS, hR⟩, hN, hP, hH, ⟨S0, hV⟩, U0, hW⟩ := id hC
  refine ZM.weaken (sc_originalCount_ok (d + 9) h0 hS hR.2.1) (fun M1 v hq => ?_)
  obtain ⟨rfl, rfl⟩ := hq
  refine ⟨_, rfl, hF.rr, ZM.weaken (mo_originalCount_ok (d + 9) hF) (fun M2 v2 hz => ?_)⟩
  obtain ⟨rfl, rfl⟩ := hz
  exact ⟨by rw [hR.1], sv, s, G, hF, hC⟩
theorem k_amendmentCount {Γ : zCtx} {M : List zE} (d : Nat) (h : INV M) : ZM Γ (d + 10) m_sc_amendmentCount [.ref 0] M (fun M1 v => ∃ a, v = some (.int a) ∧ INVr M1 ∧ ZM Γ (d + 10) m_mo_amendmentCount [.ref 123] M1 (fun M2 v2 => v2 = some (.int a) ∧ INV M2)) := by
  obtain ⟨sv, s, G, hF, hC⟩ := h
  obtain ⟨h0, ⟨n, m, e, rc, tg, dy, sz, kd, pt, gl, tx, hS, hR⟩, hN, hP, hH, ⟨S0, hV⟩, U0, hW⟩ := id hC
  refine ZM.weaken (sc_amendmentCount_ok (d + 9) h0 hS hR.2.1) (fun M1 v hq => ?_)
  obtain ⟨rfl, rfl⟩ := hq
  refine ⟨_, rfl, hF.rr, ZM.weaken (mo_amendmentCount_ok (d + 9) hF) (fun M2 v2 hz => ?_)⟩
  obtain ⟨rfl, rfl⟩ := hz
  exact ⟨by rw [hR.m.1], sv, s, G, hF, hC⟩
theorem k_instructionCount {Γ : zCtx} {M : List zE} (d : Nat) (h : INV M) (x : Int32) : ZM Γ (d + 10) m_sc_instructionCount [.ref 0, .int x] M (fun M1 v => ∃ a, v = some (.int a) ∧ INVr M1 ∧ ZM Γ (d + 10) m_mo_instructionCount [.ref 123, .int x] M1 (fun M2 v2 => v2 = some (.int a) ∧ INV M2)) := by
  obtain ⟨sv, s, G, hF, hC⟩ := h
  obtain ⟨h0, ⟨n, m, e, rc, tg, dy, sz, kd, pt, gl, tx, hS, hR⟩, hN, hP, hH, ⟨S0, hV⟩, U0, hW⟩ := id hC
  refine ZM.weaken (sc_instructionCount_ok (d + 8) h0 hS hR.2.1 hR.m.2 x) (fun M1 v hq => ?_)
  obtain ⟨rfl, rfl⟩ := hq
  have e1 := hR.m.1
  have e2 := hR.m.2
  refine ⟨_, rfl, hF.rr, ZM.weaken (mo_instructionCount_ok (d + 7) hF (by omega) x) (fun M2 v2 hz => ?_)⟩
  obtain ⟨rfl, rfl⟩ := hz
  refine ⟨?_, sv, s, G, hF, hC⟩
  rw [e1]
  cases hh : hasP m x with
  | false => rfl
  | true =>
    obtain ⟨j, hj, hj2, rfl⟩ := hasP_t hh
    rw [zn_cl hj2, (hR.2.2.2.2.1.2.2 j hj).2.2.1]
theorem k_appendCharacter {Γ : zCtx} {M : List zE} (d : Nat) (h : INV M) (x : Int32) : ZM Γ (d + 10) m_sc_appendCharacter [.ref 0, .int x] M (fun M1 v => ∃ a, v = some (.int a) ∧ INVr M1 ∧ ZM Γ (d + 10) m_mo_appendCharacter [.ref 123, .int x] M1 (fun M2 v2 => v2 = some (.int a) ∧ INV M2)) := by
  obtain ⟨sv, s, G, hF, hC⟩ := h
  obtain ⟨h0, ⟨n, m, e, rc, tg, dy, sz, kd, pt, gl, tx, hS, hR⟩, hN, hP, hH, ⟨S0, hV⟩, U0, hW⟩ := id hC
  obtain ⟨⟨p, hI⟩, h120, hch⟩ := hP
  refine ZM.weaken (sc_appendCharacter_ok (d + 9) h0 hI h120 x) (fun M1 v hq => ?_)
  obtain ⟨rfl, hq⟩ := hq
  have hap : ∀ c, (apC (s 5) x).2 = some c → s 5 < 120 ∧ c ≤ 126 := by
    intro c
    unfold apC
    by_cases hx : chO x = true
    · rw [if_pos hx]
      by_cases h2 : s 5 < 120
      · rw [if_pos h2]
        intro z
        obtain ⟨c', c1, c2, rfl⟩ := chO_t hx
        have z' : (nI c').toNatClampNeg = c := Option.some.inj z
        rw [zn_cl (by omega)] at z'
        exact ⟨h2, by omega⟩
      · rw [if_neg h2]; intro z; cases z
    · rw [if_neg hx]; intro z; cases z
  rcases hr : (apC (s 5) x).2 with _ | c
  · rw [hr] at hq
    have hq' : M1 = M := hq
    subst hq'
    refine ⟨_, rfl, hF.rr, ZM.weaken (mo_appendCharacter_ok (d + 8) hF h120 x) (fun M2 v2 hz => ?_)⟩
    obtain ⟨rfl, hz⟩ := hz
    rw [hr] at hz
    have hz' : M2 = M1 := hz
    subst hz'
    exact ⟨rfl, sv, s, G, hF, hC⟩
  · obtain ⟨k1, k2⟩ := hap c hr
    rw [hr] at hq
    obtain ⟨q1, q2⟩ := hq
    have hF1 := hF.fr q2 (by omega)
    refine ⟨_, rfl, hF1.rr, ZM.weaken (mo_appendCharacter_ok (d + 8) hF1 h120 x) (fun M2 v2 hz => ?_)⟩
    obtain ⟨rfl, hz⟩ := hz
    rw [hr] at hz
    refine ⟨rfl, (hC.inp q2.f93 (s' := nup s 5 (s 5 + 1)) (G' := gup G 22 (s 5) c) (p := p) (ch := nup (G 22) (s 5) c) (by rw [nup_s]; exact q1) (by rw [nup_s]; omega) gup_s.symm (fun i => ?_) ⟨S0, hV.fr q2 (by omega)⟩ (fun j hj => nup_n (by omega)) (fun b hb => gup_n (by omega))).fin hz⟩
    unfold nup
    split
    · exact k2
    · exact hch i
theorem k_clearInput {Γ : zCtx} {M : List zE} (d : Nat) (h : INV M) : ZM Γ (d + 10) m_sc_clearInput [.ref 0] M (fun M1 v => ∃ a, v = some (.int a) ∧ INVr M1 ∧ ZM Γ (d + 10) m_mo_clearInput [.ref 123] M1 (fun M2 v2 => v2 = some (.int a) ∧ INV M2)) := by
  obtain ⟨sv, s, G, hF, hC⟩ := h
  obtain ⟨h0, ⟨n, m, e, rc, tg, dy, sz, kd, pt, gl, tx, hS, hR⟩, hN, hP, hH, ⟨S0, hV⟩, U0, hW⟩ := id hC
  obtain ⟨⟨p, hI⟩, h120, hch⟩ := hP
  refine ZM.weaken (sc_clearInput_ok (d + 9) h0 hI h120) (fun M1 v hq => ?_)
  obtain ⟨rfl, q1, q2⟩ := hq
  have hF1 := hF.fr q2 (by omega)
  refine ⟨_, rfl, hF1.rr, ZM.weaken (mo_clearInput_ok (d + 9) hF1) (fun M2 v2 hz => ?_)⟩
  obtain ⟨rfl, hz⟩ := hz
  exact ⟨rfl, (hC.inp q2.f93 (s' := nup s 5 0) (G' := G) (p := p) (ch := G 22) (by rw [nup_s]; exact q1) (by rw [nup_s]; omega) rfl hch ⟨S0, hV.fr q2 (by omega)⟩ (fun j hj => nup_n (by omega)) (fun b hb => rfl)).fin hz⟩
