/-- what the reference's renumbering has made, in words of keys -/
def rnW (N : Nat) (G G' : Nat → Nat → Nat) (K : Nat → Nat) (p : Nat) (l : List Nat) : Prop :=
  (∀ v, v < N → (G' 17 v ≠ 0 ↔ G 17 v ≠ 0 ∧ ∀ c, c < N → G 17 c ≠ 0 → G 10 c = p + 1 → G 16 c ≠ 0 → ¬ wi (K v) (K c))) ∧
  (∀ v, v ∈ l ↔ v < N ∧ G' 17 v ≠ 0 ∧ G 10 v = p + 1) ∧ l.Pairwise (fun v w => G 12 v < G 12 w) ∧ G' 12 = rlL (G 12) l 0 ∧ ∀ b, b ≠ 12 → b ≠ 17 → b ≠ 23 → G' b = G b
theorem rnR.w {N n0 n : Nat} {e : Nat → zEnt} {s s' : Nat → Nat} {G G' : Nat → Nat → Nat} {K : Nat → Nat} (h : VS n e N G K n0) (hN : s 2 = N) {p : Nat} (hp : p < N) (hpp : G 17 p ≠ 0) (hr : rnR s s' G G' p) : ∃ l, rnW N G G' K p l := by
  obtain ⟨l, ⟨l1, l2, l3⟩, r1, r2, r3, r4, r5⟩ := hr
  rw [hN] at l1 l2 r4
  have hd := h.2.2.2.2.1
  have hm : ∀ v, v < N → (G' 17 v ≠ 0 ↔ G 17 v ≠ 0 ∧ ∀ c, c < N → G 17 c ≠ 0 → G 10 c = p + 1 → G 16 c ≠ 0 → ¬ wi (K v) (K c)) := fun v hv => by rw [r4]; exact rmP_iff hd hp hpp N v (Nat.le_refl _) hv
  have e17 : (gset G 17 (rmP G N p N)) 17 = G' 17 := by rw [gset_s, r4]
  have e10 : (gset G 17 (rmP G N p N)) 10 = G 10 := gset_n (by decide)
  have e12 : (gset G 17 (rmP G N p N)) 12 = G 12 := gset_n (by decide)
  have c := chT_mem (N := N) (G := gset G 17 (rmP G N p N)) (a := p + 1) (fun v w hv hw h1 h2 h3 h4 h5 => by
    rw [e17] at h1 h2
    rw [e10] at h3 h4
    rw [e12] at h5
    exact hd.sib hv ((hm v hv).mp h1).1 hw ((hm w hw).mp h2).1 (by rw [h3, h4]) h5) l 0 l1 l2
  rw [e17, e10, e12] at c
  refine ⟨l, hm, fun v => ?_, c.2, r3, r5⟩
  rw [c.1]
  refine ⟨fun z => ⟨z.1, z.2.1, z.2.2.1⟩, fun z => ⟨z.1, z.2.1, z.2.2, ?_⟩⟩
  have g := hd.1 v z.1 ((hm v z.1).mp z.2.1).1
  rw [g.2.2.1]
  exact (gk_lab g.1).r.1
theorem rnW.map {N n0 n : Nat} {e : Nat → zEnt} {G G' : Nat → Nat → Nat} {K : Nat → Nat} (h : VR n e N G K n0) {p : Nat} (hp : p < N) (hpp : G 17 p ≠ 0) {l : List Nat} (hw : rnW N G G' K p l) : l.map K = dlK e (K p) n := by
  obtain ⟨w1, w2, w3, w4, w5⟩ := hw
  obtain ⟨⟨h1, h2, h3, h4, h5, h6, h7, h8⟩, hs⟩ := h
  have pk : ∀ v, v ∈ l → v < N ∧ G 17 v ≠ 0 ∧ par (K v) = K p := by
    intro v hv
    obtain ⟨a, b, c⟩ := (w2 v).mp hv
    have b' := ((w1 v a).mp b).1
    exact ⟨a, b', by rw [h5.pa a b', c, KA_s]⟩
  refine srt_uni ?_ (dlK_srt hs n (Nat.le_refl _)) (fun x => ?_)
  · rw [List.pairwise_map]
    refine List.Pairwise.imp_of_mem (fun {v w} hv hw' hlt => ?_) w3
    have a := pk v hv
    have b := pk w hw'
    have ga := h5.1 v a.1 a.2.1
    have gb := h5.1 w b.1 b.2.1
    refine (gk_lt ga.1 gb.1 (by rw [a.2.2, b.2.2])).mpr ?_
    rw [← ga.2.2.1, ← gb.2.2.1]
    exact hlt
  · rw [dlK_mem, List.mem_map]
    constructor
    · rintro ⟨v, hv, rfl⟩
      have a := pk v hv
      obtain ⟨b1, b2, b3⟩ := (w2 v).mp hv
      obtain ⟨j, j1, j2⟩ := h3 v a.1 a.2.1
      refine ⟨j, j1, by rw [j2.1]; exact a.2.2, ?_, j2.1.symm⟩
      rw [j2.2.2.1]
      refine decide_eq_false (fun z => ?_)
      exact ((w1 v a.1).mp b2).2 v a.1 a.2.1 b3 z wi_rf
    · rintro ⟨j, j1, j2, j3, j4⟩
      obtain ⟨v, v1, v2, v3⟩ := h2 j j1
      rw [v3.1] at j2 j4
      have e10 : G 10 v = p + 1 := (h5.ch (a := p + 1) v1 v2 (Or.inr ⟨hp, hpp⟩)).mpr (by rw [KA_s]; exact j2)
      refine ⟨v, (w2 v).mpr ⟨v1, (w1 v v1).mpr ⟨v2, fun c c1 c2 c3 c4 c5 => ?_⟩, e10⟩, j4.symm⟩
      have gv := (h5.1 v v1 v2).1
      have gc := (h5.1 c c1 c2).1
      have pc : par (K c) = K p := by rw [h5.pa c1 c2, c3, KA_s]
      have := h5.2 v c v1 c1 v2 c2 (wi_same gv gc c5 (gk_plev gv gc (by rw [j2, pc])))
      subst this
      rw [v3.2.2.1] at j3
      exact absurd (decide_eq_false_iff_not.mp j3) (fun z => z c4)
theorem rnW.nd {N : Nat} {G G' : Nat → Nat → Nat} {K : Nat → Nat} {p : Nat} {l : List Nat} (hw : rnW N G G' K p l) : l.Pairwise (· ≠ ·) := List.Pairwise.imp (fun h e => by rw [e] at h; exact absurd h (Nat.lt_irrefl _)) hw.2.2.1
/-- the new label of a child -/
theorem rnW.lb {N n0 n : Nat} {e : Nat → zEnt} {G G' : Nat → Nat → Nat} {K : Nat → Nat} (h : VR n e N G K n0) {p : Nat} (hp : p < N) (hpp : G 17 p ≠ 0) {l : List Nat} (hw : rnW N G G' K p l) {v j : Nat} (hv : v ∈ l) (hj : j < n) (hm : mt G K (e j) v) : G' 12 v = ((dlK e (K p) j).length + 1) * 19683 := by
  have hmap := hw.map h hp hpp
  have hnd := hw.nd
  obtain ⟨w1, w2, w3, w4, w5⟩ := hw
  obtain ⟨a, b, c⟩ := (w2 v).mp hv
  have b' := (w1 v a).mp b
  have h5 := h.1.2.2.2.2.1
  have pv : par (ek (e j)) = K p := by rw [hm.1, h5.pa a b'.1, c, KA_s]
  have er0 : er (e j) = false := by
    rw [hm.2.2.1]
    exact decide_eq_false (fun z => b'.2 v a b'.1 c z wi_rf)
  have at1 := (dlK_at (n := n) hj pv er0).1
  rw [← hmap, List.getElem?_map] at at1
  obtain ⟨u, u1, u2⟩ := Option.map_eq_some_iff.mp at1
  obtain ⟨u3, u4⟩ := List.getElem?_eq_some_iff.mp u1
  have um : u ∈ l := by rw [← u4]; exact List.getElem_mem _
  obtain ⟨a2, b2, c2⟩ := (w2 u).mp um
  have := h5.2 u v a2 a ((w1 u a2).mp b2).1 b'.1 (by rw [u2, hm.1])
  subst this
  rw [w4]
  have hr := rlL_in l 0 (dlK e (K p) j).length (G 12) u3 hnd
  rw [u4] at hr
  rw [hr]
  congr 1
  omega
theorem rnW.idx {N : Nat} {G G' : Nat → Nat → Nat} {K : Nat → Nat} {p : Nat} {l : List Nat} (hw : rnW N G G' K p l) {v w : Nat} (hv : v ∈ l) (hw' : w ∈ l) (hlt : G 12 v < G 12 w) : G' 12 v < G' 12 w := by
  have hnd := hw.nd
  obtain ⟨w1, w2, w3, w4, w5⟩ := hw
  obtain ⟨i, hi, e1⟩ := List.getElem_of_mem hv
  obtain ⟨j, hj, e2⟩ := List.getElem_of_mem hw'
  have a := rlL_in l 0 i (G 12) hi hnd
  have b := rlL_in l 0 j (G 12) hj hnd
  rw [e1] at a
  rw [e2] at b
  rw [w4, a, b]
  rcases Nat.lt_trichotomy i j with z | z | z
  · omega
  · subst z; rw [e1] at e2; rw [e2] at hlt; exact absurd hlt (Nat.lt_irrefl _)
  · have := (List.pairwise_iff_getElem.mp w3) j i hj hi z
    rw [e1, e2] at this
    omega
/-- a child's new label is good -/
theorem rnW.ok {N n0 n : Nat} {e : Nat → zEnt} {G G' : Nat → Nat → Nat} {K : Nat → Nat} (h : VR n e N G K n0) {p : Nat} (hp : p < N) (hpp : G 17 p ≠ 0) {l : List Nat} (hw : rnW N G G' K p l) {v : Nat} (hv : v ∈ l) : okL (G' 12 v) := by
  have hv0 := (hw.2.1 v).mp hv
  obtain ⟨j, j1, j2⟩ := h.1.2.2.1 v hv0.1 ((hw.1 v hv0.1).mp hv0.2.1).1
  rw [hw.lb h hp hpp hv j1 j2]
  have h1 := dlK_len (e := e) (k := K p) j
  have h2 := h.1.1
  refine ⟨by omega, by omega, ?_⟩
  rw [show ((dlK e (K p) j).length + 1) * 19683 % 19683 = 0 by omega]
  exact ⟨by decide, Or.inl rfl⟩
