/-! one relation of the whole memory -/
def sS (s : Nat → Nat) : Nat → Nat := fun j => if j = 0 then s 11 else s 12
def gS (G : Nat → Nat → Nat) : Nat → Nat → Nat := fun b => G (33 + b)
/-- a statute on both sides -/
def SR (n m : Nat) (e : Nat → zEnt) (rc : Nat → Nat) (tg : Nat → Nat → Nat) (dy sz kd pt gl : Nat → Nat) (tx : Nat → Int32) (s : Nat → Nat) (G : Nat → Nat → Nat) : Prop :=
  s 0 = n ∧ n ≤ 30 ∧ (∃ K, OR n e G K) ∧ rfR n rc tg G ∧ amR m dy sz kd pt gl tx s G ∧ (∀ j, G 9 j < 2097152) ∧ stOut rc tg ∧ amOut dy sz kd pt gl tx ∧ ∀ a, a < m → ∀ i, i < sz a → insOk kd pt gl (a * 15 + i)
theorem SR.v {n m : Nat} {e : Nat → zEnt} {rc : Nat → Nat} {tg : Nat → Nat → Nat} {dy sz kd pt gl : Nat → Nat} {tx : Nat → Int32} {s : Nat → Nat} {G : Nat → Nat → Nat} (h : SR n m e rc tg dy sz kd pt gl tx s G) : vInv n e := by
  obtain ⟨K, hO⟩ := h.2.2.1
  exact hO.1.vi
theorem SR.o {n m : Nat} {e : Nat → zEnt} {rc : Nat → Nat} {tg : Nat → Nat → Nat} {dy sz kd pt gl : Nat → Nat} {tx : Nat → Int32} {s : Nat → Nat} {G : Nat → Nat → Nat} (h : SR n m e rc tg dy sz kd pt gl tx s G) : oInv n e := by
  obtain ⟨K, hO⟩ := h.2.2.1
  intro j hj
  obtain ⟨i, hi, hm⟩ := hO.1.2.2.1 j hj (by show (1 : Nat) ≠ 0; decide)
  exact ⟨i, hi, hm.2.2.2.1⟩
theorem SR.c {n m : Nat} {e : Nat → zEnt} {rc : Nat → Nat} {tg : Nat → Nat → Nat} {dy sz kd pt gl : Nat → Nat} {tx : Nat → Int32} {s : Nat → Nat} {G : Nat → Nat → Nat} (h : SR n m e rc tg dy sz kd pt gl tx s G) : cOk n e m dy sz kd pt gl :=
  ⟨h.2.2.2.2.1.2.1, fun i hi => (h.2.2.2.2.1.2.2 i hi).2.1, fun i hi => (h.2.2.2.2.1.2.2 i hi).2.2.2.1, h.2.2.2.2.2.2.2.2, h.v⟩
theorem SR.g {n m : Nat} {e : Nat → zEnt} {rc : Nat → Nat} {tg : Nat → Nat → Nat} {dy sz kd pt gl : Nat → Nat} {tx : Nat → Int32} {s : Nat → Nat} {G : Nat → Nat → Nat} (h : SR n m e rc tg dy sz kd pt gl tx s G) : tgO n rc tg := fun i hi => by
  obtain ⟨a, b, c⟩ := h.2.2.2.1 i hi
  have := h.2.1
  exact ⟨b, fun j hj => by have := (c j hj).2; omega⟩
theorem SR.m {n m : Nat} {e : Nat → zEnt} {rc : Nat → Nat} {tg : Nat → Nat → Nat} {dy sz kd pt gl : Nat → Nat} {tx : Nat → Int32} {s : Nat → Nat} {G : Nat → Nat → Nat} (h : SR n m e rc tg dy sz kd pt gl tx s G) : s 1 = m ∧ m ≤ 8 := ⟨h.2.2.2.2.1.1, h.2.2.2.2.1.2.1⟩
theorem slB.at {kd pt gl : Nat → Nat} {tx : Nat → Int32} {G G' : Nat → Nat → Nat} {d r : Nat} (h : slB kd pt gl tx G d r) (h7 : G' 7 r = G 7 r) (h8 : G' 8 r = G 8 r) (h9 : ∀ i, i < 6 → G' 9 (6 * r + i) = G 9 (6 * r + i)) : slB kd pt gl tx G' d r := by
  unfold slB slR at h ⊢
  have e : ∀ i, i < 3 → G' 9 (6 * r + 3 + i) = G 9 (6 * r + 3 + i) := fun i hi => by
    rw [show 6 * r + 3 + i = 6 * r + (3 + i) by omega]; exact h9 (3 + i) (by omega)
  rw [h7, h8, h9 0 (by omega), h9 1 (by omega), h9 2 (by omega), e 0 (by omega), e 1 (by omega), e 2 (by omega)]
  exact h
theorem OR.to {n : Nat} {e e' : Nat → zEnt} {G G' : Nat → Nat → Nat} {K : Nat → Nat} (h : OR n e G K) (he : ∀ i, i < n → e' i = e i) (hg : ∀ b, b < 3 → ∀ j, j < n → G' b j = G b j) : OR n e' G' K := by
  refine VR.same h (fun b hb1 hb2 v hv => ?_) he
  unfold orgG
  rw [hg 0 (by omega) v hv, hg 1 (by omega) v hv, hg 2 (by omega) v hv]
theorem SR.to {n m : Nat} {e e' : Nat → zEnt} {rc : Nat → Nat} {tg tg' : Nat → Nat → Nat} {dy sz kd pt gl : Nat → Nat} {tx : Nat → Int32} {s s' : Nat → Nat} {G G' : Nat → Nat → Nat} (h : SR n m e rc tg dy sz kd pt gl tx s G) (he : ∀ i, i < n → e' i = e i) (ht : ∀ i, i < 30 → tg' i = tg i) (hst : stOut rc tg') (h0 : s' 0 = s 0) (h1 : s' 1 = s 1) (hg : ∀ b, b < 10 → ∀ j, j < moN b → G' b j = G b j) (h9 : ∀ j, G' 9 j < 2097152) : SR n m e' rc tg' dy sz kd pt gl tx s' G' := by
  obtain ⟨a0, a1, ⟨K, a2⟩, a3, a4, a5, a6, a7, a8⟩ := h
  refine ⟨h0.trans a0, a1, ⟨K, a2.to he (fun b hb j hj => hg b (by omega) j ?_)⟩, fun i hi => ?_, ⟨h1.trans a4.1, a4.2.1, fun a ha => ?_⟩, h9, hst, a7, a8⟩
  · rcases (show b = 0 ∨ b = 1 ∨ b = 2 by omega) with rfl | rfl | rfl <;> (show j < 30; omega)
  · obtain ⟨b1, b2, b3⟩ := a3 i hi
    refine ⟨(hg 3 (by omega) i (by show i < 30; omega)).trans b1, b2, fun j hj => ?_⟩
    rw [ht i (by omega), hg 4 (by omega) (4 * i + j) (by show 4 * i + j < 120; omega)]
    exact b3 j hj
  · obtain ⟨b1, b2, b3, b4, b5⟩ := a4.2.2 a ha
    have m8 := a4.2.1
    refine ⟨(hg 5 (by omega) a (by show a < 8; omega)).trans b1, b2, (hg 6 (by omega) a (by show a < 8; omega)).trans b3, b4, fun i hi => (b5 i hi).at (hg 7 (by omega) _ (by show 16 * a + i < 128; omega)) (hg 8 (by omega) _ (by show 16 * a + i < 128; omega)) (fun q hq => hg 9 (by omega) _ (by show 6 * (16 * a + i) + q < 768; omega))⟩
theorem SR.p {n m : Nat} {e : Nat → zEnt} {rc : Nat → Nat} {tg : Nat → Nat → Nat} {dy sz kd pt gl : Nat → Nat} {tx : Nat → Int32} {s s' : Nat → Nat} {G G' : Nat → Nat → Nat} (h : SR n m e rc tg dy sz kd pt gl tx s G) (h0 : s' 0 = s 0) (h1 : s' 1 = s 1) (hg : ∀ b, b < 10 → G' b = G b) : SR n m e rc tg dy sz kd pt gl tx s' G' :=
  h.to (fun _ _ => rfl) (fun _ _ => rfl) h.2.2.2.2.2.2.1 h0 h1 (fun b hb j _ => by rw [hg b hb]) (fun j => by rw [hg 9 (by omega)]; exact h.2.2.2.2.2.1 j)
def STS (M : List zE) (b : Nat) (s : Nat → Nat) (G : Nat → Nat → Nat) : Prop := ∃ n m e rc tg dy sz kd pt gl tx, StAt M b n e rc tg m dy sz kd pt gl tx ∧ SR n m e rc tg dy sz kd pt gl tx s G
def STW (M : List zE) (b : Nat) : Prop := ∃ n m e rc tg dy sz kd pt gl tx, StAt M b n e rc tg m dy sz kd pt gl tx ∧ n ≤ 30 ∧ m ≤ 8 ∧ stOut rc tg ∧ amOut dy sz kd pt gl tx
def SNP (M : List zE) (sv : Bool) (s : Nat → Nat) (G : Nat → Nat → Nat) : Prop := STW M 47 ∧ (sv = true → STS M 47 (sS s) (gS G)) ∧ s 13 = (if sv = true then 1 else 0) ∧ ∀ j, G 42 j < 2097152
def INP (M : List zE) (s : Nat → Nat) (G : Nat → Nat → Nat) : Prop := (∃ p, InAt M (s 5) p (G 22)) ∧ s 5 ≤ 120 ∧ ∀ i, G 22 i ≤ 126
def shR (fl : Nat → Bool) (ty ln : Nat → Nat) (el : Nat → Nat → Int32) (G : Nat → Nat → Nat) : Prop := (∀ j, j < 3 → fl j = decide (G 30 j ≠ 0) ∧ (G 30 j ≠ 0 → G 30 j = ty j + 1 ∧ G 31 j = ln j ∧ ∀ i, i < 10 → el j i = eI (G 32 (10 * j + i))) ∧ ty j ≤ 3 ∧ ln j ≤ 10 ∧ G 30 j ≤ 4 ∧ G 31 j ≤ 10) ∧ ∀ i, G 32 i ≤ 100
def SHV (M : List zE) (G : Nat → Nat → Nat) : Prop := ∃ fl ty ln el, ShAt M fl ty ln el ∧ shR fl ty ln el G
def VE2 (M : List zE) : Prop := (∃ S, VeS M 103 S) ∧ ∃ S, VeS M 113 S
def INVc (M : List zE) (sv : Bool) (s : Nat → Nat) (G : Nat → Nat → Nat) : Prop := ScO M sv ∧ STS M 1 s G ∧ SNP M sv s G ∧ INP M s G ∧ SHV M G ∧ VE2 M
def INV (M : List zE) : Prop := ∃ sv s G, FW M M s G ∧ INVc M sv s G
/-- two memories that agree on a stretch -/
def zAg (M M1 : List zE) (a c : Nat) : Prop := M1.length = M.length ∧ ∀ j, a ≤ j → j < c → M1[j]? = M[j]?
theorem zAg.two {M M1 : List zE} {a c : Nat} (h : zAg M M1 a c) (hac : a ≤ c) : ∃ M2, zFr M M2 c M.length ∧ zFr M2 M1 0 a := by
  have l2 : (M.take a ++ M1.drop a).length = M.length := by
    rw [List.length_append, List.length_take, List.length_drop, h.1]; omega
  have g1 : ∀ j, j < a → (M.take a ++ M1.drop a)[j]? = M[j]? := by
    intro j hj
    by_cases hl : j < M.length
    · rw [List.getElem?_append_left (by rw [List.length_take]; omega), List.getElem?_take_of_lt hj]
    · rw [List.getElem?_eq_none (by omega), List.getElem?_eq_none (by omega)]
  have g2 : ∀ j, a ≤ j → (M.take a ++ M1.drop a)[j]? = M1[j]? := by
    intro j hj
    by_cases hl : j < M.length
    · rw [List.getElem?_append_right (by rw [List.length_take]; omega), List.length_take, List.getElem?_drop, show a + (j - min a M.length) = j by omega]
    · rw [List.getElem?_eq_none (by omega), List.getElem?_eq_none (by rw [h.1]; omega)]
  refine ⟨M.take a ++ M1.drop a, ⟨l2, fun j hj => ?_⟩, ⟨by rw [l2]; exact h.1, fun j hj => (g2 j (by omega)).symm⟩⟩
  by_cases hj2 : j < a
  · exact g1 j hj2
  · rcases hj with hj | hj
    · rw [g2 j (by omega)]; exact h.2 j (by omega) hj
    · rw [List.getElem?_eq_none (by omega), List.getElem?_eq_none (by omega)]
theorem zAg.fr {M M1 : List zE} {a c lo w : Nat} (h : zFr M M1 lo w) (hd : c ≤ lo ∨ lo + w ≤ a) : zAg M M1 a c := ⟨h.1, fun j h1 h2 => h.2 j (by omega)⟩
theorem zAg.f2 {M M1 : List zE} {a c x y z w : Nat} (h : zF2 M M1 x y z w) (hd : c ≤ x ∨ y ≤ a) (hd2 : c ≤ z ∨ w ≤ a) : zAg M M1 a c := ⟨h.1, fun j h1 h2 => h.2 j (by omega) (by omega)⟩
theorem zAg.fi {M M1 : List zE} {a c : Nat} (h : zFi M M1) (hd : c ≤ 40 ∨ 47 ≤ a) (hd2 : c ≤ 93 ∨ 95 ≤ a) : zAg M M1 a c := ⟨h.1, fun j h1 h2 => h.2 j (by omega) (by omega)⟩
theorem STS.ag {M M1 : List zE} {b : Nat} {s : Nat → Nat} {G : Nat → Nat → Nat} (h : STS M b s G) (hf : zAg M M1 b (b + 46)) : STS M1 b s G := by
  obtain ⟨n, m, e, rc, tg, dy, sz, kd, pt, gl, tx, hS, hR⟩ := h
  obtain ⟨M2, f1, f2⟩ := hf.two (by omega)
  exact ⟨n, m, e, rc, tg, dy, sz, kd, pt, gl, tx, (hS.fr f1 (by omega)).fr f2 (by omega), hR⟩
theorem STW.ag {M M1 : List zE} {b : Nat} (h : STW M b) (hf : zAg M M1 b (b + 46)) : STW M1 b := by
  obtain ⟨n, m, e, rc, tg, dy, sz, kd, pt, gl, tx, hS, hR⟩ := h
  obtain ⟨M2, f1, f2⟩ := hf.two (by omega)
  exact ⟨n, m, e, rc, tg, dy, sz, kd, pt, gl, tx, (hS.fr f1 (by omega)).fr f2 (by omega), hR⟩
theorem SNP.ag {M M1 : List zE} {sv : Bool} {s : Nat → Nat} {G : Nat → Nat → Nat} (h : SNP M sv s G) (hf : zAg M M1 47 93) : SNP M1 sv s G := ⟨h.1.ag hf, fun z => (h.2.1 z).ag hf, h.2.2⟩
theorem INP.ag {M M1 : List zE} {s : Nat → Nat} {G : Nat → Nat → Nat} (h : INP M s G) (hf : zAg M M1 93 95) : INP M1 s G := by
  obtain ⟨⟨p, hp⟩, h2⟩ := h
  exact ⟨⟨p, by rw [hf.2 93 (by omega) (by omega)]; exact hp.1, by rw [hf.2 94 (by omega) (by omega)]; exact hp.2⟩, h2⟩
theorem SHV.ag {M M1 : List zE} {G : Nat → Nat → Nat} (h : SHV M G) (hf : zAg M M1 95 103) : SHV M1 G := by
  obtain ⟨fl, ty, ln, el, h1, h2⟩ := h
  obtain ⟨M2, f1, f2⟩ := hf.two (by omega)
  exact ⟨fl, ty, ln, el, (h1.fr f1 (by omega)).fr f2 (by omega), h2⟩
theorem VE2.ag {M M1 : List zE} (h : VE2 M) (hf : zAg M M1 103 123) : VE2 M1 := by
  obtain ⟨⟨S, hS⟩, U, hU⟩ := h
  obtain ⟨M2, f1, f2⟩ := hf.two (by omega)
  exact ⟨⟨S, (hS.fr f1 (by omega)).fr f2 (by omega)⟩, U, (hU.fr f1 (by omega)).fr f2 (by omega)⟩
theorem ScO.ag {M M1 : List zE} {sv : Bool} (h : ScO M sv) (hf : zAg M M1 0 1) : ScO M1 sv := by unfold ScO; rw [hf.2 0 (by omega) (by omega)]; exact h
theorem FW.ag {M0 M M1 : List zE} {s : Nat → Nat} {G : Nat → Nat → Nat} (h : FW M0 M s G) (hf : zAg M M1 123 167) : FW M1 M1 s G := ⟨by rw [hf.2 123 (by omega) (by omega)]; exact h.1, fun k hk => by rw [hf.2 (124 + k) (by omega) (by omega)]; exact h.2.1 k hk, zFr.rf⟩
theorem INVc.fin {M M1 : List zE} {sv : Bool} {s : Nat → Nat} {G : Nat → Nat → Nat} (h : INVc M sv s G) (hF : FW M M1 s G) : INV M1 := by
  obtain ⟨a, b, c, d, e, f⟩ := h
  have hf := hF.2.2
  exact ⟨sv, s, G, hF.new, a.ag (zAg.fr hf (by omega)), b.ag (zAg.fr hf (by omega)), c.ag (zAg.fr hf (by omega)), d.ag (zAg.fr hf (by omega)), e.ag (zAg.fr hf (by omega)), f.ag (zAg.fr hf (by omega))⟩
theorem SNP.to {M : List zE} {sv : Bool} {s s' : Nat → Nat} {G G' : Nat → Nat → Nat} (h : SNP M sv s G) (hs : ∀ j, 11 ≤ j → s' j = s j) (hg : ∀ b, 33 ≤ b → G' b = G b) : SNP M sv s' G' := by
  refine ⟨h.1, fun z => ?_, (hs 13 (by omega)).trans h.2.2.1, fun j => by rw [hg 42 (by omega)]; exact h.2.2.2 j⟩
  obtain ⟨n, m, e, rc, tg, dy, sz, kd, pt, gl, tx, hS, hR⟩ := h.2.1 z
  exact ⟨n, m, e, rc, tg, dy, sz, kd, pt, gl, tx, hS, hR.p (by show s' 11 = s 11; exact hs 11 (by omega)) (by show s' 12 = s 12; exact hs 12 (by omega)) (fun b _ => hg (33 + b) (by omega))⟩
theorem STS.p {M : List zE} {b : Nat} {s s' : Nat → Nat} {G G' : Nat → Nat → Nat} (h : STS M b s G) (h0 : s' 0 = s 0) (h1 : s' 1 = s 1) (hg : ∀ b, b < 10 → G' b = G b) : STS M b s' G' := by
  obtain ⟨n, m, e, rc, tg, dy, sz, kd, pt, gl, tx, hS, hR⟩ := h
  exact ⟨n, m, e, rc, tg, dy, sz, kd, pt, gl, tx, hS, hR.p h0 h1 hg⟩
theorem INP.to {M : List zE} {s s' : Nat → Nat} {G G' : Nat → Nat → Nat} (h : INP M s G) (h5 : s' 5 = s 5) (h22 : G' 22 = G 22) : INP M s' G' := by
  unfold INP at h ⊢
  rw [h5, h22]; exact h
theorem SHV.to {M : List zE} {G G' : Nat → Nat → Nat} (h : SHV M G) (h30 : G' 30 = G 30) (h31 : G' 31 = G 31) (h32 : G' 32 = G 32) : SHV M G' := by
  unfold SHV shR at h ⊢
  rw [h30, h31, h32]; exact h
theorem INVc.p {M : List zE} {sv : Bool} {s s' : Nat → Nat} {G G' : Nat → Nat → Nat} (h : INVc M sv s G) (hp : pF s s' G G') : INVc M sv s' G' := by
  obtain ⟨a, b, c, d, e, f⟩ := h
  exact ⟨a, b.p (hp.1 0 (by decide)) (hp.1 1 (by decide)) (fun b hb => hp.2 b (by omega)), c.to (fun j hj => hp.1 j (by omega)) (fun b hb => hp.2 b (by omega)), d.to (hp.1 5 (by decide)) (hp.2 22 (by decide)), e.to (hp.2 30 (by decide)) (hp.2 31 (by decide)) (hp.2 32 (by decide)), f⟩
theorem INVc.ver {M M1 : List zE} {sv : Bool} {s : Nat → Nat} {G : Nat → Nat → Nat} (h : INVc M sv s G) (hf : zFr M M1 103 20) (hv : VE2 M1) : INVc M1 sv s G := by
  obtain ⟨a, b, c, d, e, f⟩ := h
  exact ⟨a.ag (zAg.fr hf (by omega)), b.ag (zAg.fr hf (by omega)), c.ag (zAg.fr hf (by omega)), d.ag (zAg.fr hf (by omega)), e.ag (zAg.fr hf (by omega)), hv⟩
theorem INVc.qu {M M1 M2 : List zE} {sv : Bool} {s s' : Nat → Nat} {G G' : Nat → Nat → Nat} {S : vSt} (h : INVc M sv s G) (hf : zFr M M1 103 10) (hv : VeS M1 103 S) (hp : pF s s' G G') (hF : FW M1 M2 s' G') : INV M2 := by
  obtain ⟨U, hU⟩ := h.2.2.2.2.2.2
  exact ((h.ver ⟨hf.1, fun j hj => hf.2 j (by omega)⟩ ⟨⟨S, hv⟩, U, hU.fr hf (by omega)⟩).p hp).fin hF
theorem vOf.hy {n m : Nat} {e : Nat → zEnt} {rc : Nat → Nat} {tg : Nat → Nat → Nat} {dy sz kd pt gl : Nat → Nat} {tx : Nat → Int32} {s : Nat → Nat} {G : Nat → Nat → Nat} {y : Nat} {S : vSt} (h : SR n m e rc tg dy sz kd pt gl tx s G) (hy : y ≤ 10000) (hv : vOf n e m dy sz kd pt gl tx (mI y) S) : ∃ K, vHy m dy sz kd pt gl tx s G n e K y S := by
  obtain ⟨K, hO⟩ := h.2.2.1
  exact ⟨K, h.2.2.2.2.1, hO, h.1, h.2.1, hy, hv.2.1, hv.2.2⟩
