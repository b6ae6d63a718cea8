/-- the child that a node lies below -/
theorem rnW.anc {N n0 n : Nat} {e : Nat → zEnt} {G G' : Nat → Nat → Nat} {K : Nat → Nat} (h : VR n e N G K n0) {p : Nat} (hp : p < N) (hpp : G 17 p ≠ 0) {l : List Nat} (hw : rnW N G G' K p l) {w : Nat} (w1 : w < N) (w2 : G' 17 w ≠ 0) (w3 : K w ≠ K p) (w4 : wi (K w) (K p)) : ∃ c, c = (if lev (K w) = lev (K p) + 1 then w else G 10 w - 1) ∧ c ∈ l ∧ par (K c) = K p ∧ wi (K w) (K c) ∧ lab (K w) (lev (K p) + 1) = lab (K c) (lev (K p) + 1) ∧ lev (K c) = lev (K p) + 1 := by
  have h5 := h.1.2.2.2.2.1
  have m := (hw.1 w w1).mp w2
  have gw := h5.1 w w1 m.1
  have gp := (h5.1 p hp hpp).1
  rcases VR.of_sw gw.1 gp w3 w4 with ⟨a, b⟩ | ⟨a, b, c, d, f, g⟩
  · refine ⟨w, by rw [if_pos a], (hw.2.1 w).mpr ⟨w1, w2, (h5.ch (a := p + 1) w1 m.1 (Or.inr ⟨hp, hpp⟩)).mpr (by rw [KA_s]; exact b)⟩, b, wi_rf, rfl, a⟩
  · rcases gw.2.2.2 with ⟨q1, q2⟩ | ⟨u, q1, q2, q3, q4, q5⟩
    · omega
    · have eu : u = if lev (K w) = lev (K p) + 1 then w else G 10 w - 1 := by rw [if_neg (by omega), q1]; omega
      have gu := (h5.1 u q2 q3).1
      have wu : wi (K w) (K u) := (wi_iff gw.1 gu).mpr (Or.inr ⟨q5, by rw [q4]⟩)
      refine ⟨u, eu, (hw.2.1 u).mpr ⟨q2, (hw.1 u q2).mpr ⟨q3, fun x x1 x2 x3 x4 x5 => ?_⟩, (h5.ch (a := p + 1) q2 q3 (Or.inr ⟨hp, hpp⟩)).mpr (by rw [KA_s, q4]; exact f)⟩, by rw [q4]; exact f, wu, ?_, by rw [q4]; exact g⟩
      · refine m.2 x x1 x2 x3 x4 ?_
        have gx := (h5.1 x x1 x2).1
        have px : par (K x) = K p := by rw [h5.pa x1 x2, x3, KA_s]
        have := wi_same gu gx x5 (gk_plev gu gx (by rw [q4, f, px]))
        rw [← this]; exact wu
      · rw [q4]
        obtain ⟨a1, b1, c1, h1, h2, h3, h4, hk, ha, hh⟩ := gk_ex gw.1
        rcases hh with ⟨rfl, rfl, c3, c4, c5⟩ | ⟨z1, rfl, hb, c3, c4, c5⟩ | ⟨z1, z2, hb, hc, c3, c4, c5⟩
        · omega
        · omega
        · rw [c4, b, hk]
          show lab _ 2 = lab _ 2
          rw [lab_kk2 h1 h2 h3, lab_kk2 h1 h2 (by decide)]
theorem rnW.mono {N n0 n : Nat} {e : Nat → zEnt} {G G' : Nat → Nat → Nat} {K : Nat → Nat} (h : VR n e N G K n0) {p : Nat} (hp : p < N) (hpp : G 17 p ≠ 0) {l : List Nat} (hw : rnW N G G' K p l) {v w : Nat} (v1 : v < N) (v2 : G' 17 v ≠ 0) (w1 : w < N) (w2 : G' 17 w ≠ 0) (hlt : K v < K w) : rnK K (G 10) (G' 12) (K p) v < rnK K (G 10) (G' 12) (K p) w := by
  have h5 := h.1.2.2.2.2.1
  have gv := (h5.1 v v1 ((hw.1 v v1).mp v2).1).1
  have gw := (h5.1 w w1 ((hw.1 w w1).mp w2).1).1
  have gp := (h5.1 p hp hpp).1
  unfold rnK
  by_cases c1 : K v ≠ K p ∧ wi (K v) (K p)
  · obtain ⟨cv, x1, x2, x3, x4, x5, x6⟩ := hw.anc h hp hpp v1 v2 c1.1 c1.2
    have okv := (hw.ok h hp hpp x2).r
    rw [if_pos c1, ← x1]
    by_cases c2 : K w ≠ K p ∧ wi (K w) (K p)
    · obtain ⟨cw, y1, y2, y3, y4, y5, y6⟩ := hw.anc h hp hpp w1 w2 c2.1 c2.2
      rw [if_pos c2, ← y1]
      have sl := sw_le gv gw gp c1.1 c1.2 c2.1 c2.2 hlt
      have a0 := (hw.2.1 cv).mp x2
      have b0 := (hw.2.1 cw).mp y2
      have a1 := ((hw.1 cv a0.1).mp a0.2.1).1
      have b1 := ((hw.1 cw b0.1).mp b0.2.1).1
      have da := h5.1 cv a0.1 a1
      have db := h5.1 cw b0.1 b1
      rw [x5, y5] at sl
      by_cases c3 : lab (K cv) (lev (K p) + 1) = lab (K cw) (lev (K p) + 1)
      · have := h5.sib a0.1 a1 b0.1 b1 (by rw [a0.2.2, b0.2.2]) (by rw [da.2.2.1, db.2.2.1, x6, y6, c3])
        subst this
        exact sl.2 c3 _
      · refine sw_lt gv gw gp c1.1 c1.2 c2.1 c2.2 (hw.idx x2 y2 ?_)
        rw [da.2.2.1, db.2.2.1, x6, y6]
        omega
    · rw [if_neg c2]
      have i1 := (wi_int gp).mp (sw_in gv gp c1.1 c1.2 okv).2
      have i2 := (wi_int gp).mp c1.2
      rcases Nat.lt_or_ge (K w) (K p + un (lev (K p))) with z | z
      · exact absurd ⟨by omega, (wi_int gp).mpr ⟨by omega, z⟩⟩ c2
      · omega
  · rw [if_neg c1]
    by_cases c2 : K w ≠ K p ∧ wi (K w) (K p)
    · obtain ⟨cw, y1, y2, y3, y4, y5, y6⟩ := hw.anc h hp hpp w1 w2 c2.1 c2.2
      have okw := (hw.ok h hp hpp y2).r
      rw [if_pos c2, ← y1]
      have i1 := sw_in gw gp c2.1 c2.2 okw
      have i2 := (wi_int gp).mp c2.2
      rcases Nat.lt_or_ge (K p) (K v) with z | z
      · exact absurd ⟨by omega, (wi_int gp).mpr ⟨by omega, by omega⟩⟩ c1
      · omega
    · rw [if_neg c2]; exact hlt
/-- one step of the class's loop -/
theorem rnW.step {N n0 n : Nat} {e : Nat → zEnt} {G G' : Nat → Nat → Nat} {K : Nat → Nat} (h : VR n e N G K n0) {p : Nat} (hp : p < N) (hpp : G 17 p ≠ 0) {l : List Nat} (hw : rnW N G G' K p l) {i w : Nat} (hi : i < n) (w1 : w < N) (w2 : G 17 w ≠ 0) (hm : mt G K (e i) w) : (rnS e (K p) (i + 1)).2.2 = if G' 17 w ≠ 0 then (rnS e (K p) i).2.2 ++ [sK (e i) (rnK K (G 10) (G' 12) (K p) w)] else (rnS e (K p) i).2.2 := by
  have h5 := h.1.2.2.2.2.1
  have hs := h.2
  have gw := h5.1 w w1 w2
  have gp := (h5.1 p hp hpp).1
  have hg : ∀ i, i < n → gk (ek (e i)) := fun i hi => h.1.gd hi
  have hm1 := hm.1
  show (rnStep (K p) (rnS e (K p) i) (e i)).2.2 = _
  unfold rnStep rnK
  rw [hm1]
  by_cases c0 : K w ≠ K p ∧ K w / un (lev (K p)) = K p / un (lev (K p))
  · rw [if_pos c0, if_pos c0]
    have num := rnS_num hg gp i (by omega)
    rcases VR.of_sw gw.1 gp c0.1 c0.2 with ⟨a, b⟩ | ⟨a, b, c, d, f, g⟩
    · rw [if_pos a, if_pos a]
      have e10 : G 10 w = p + 1 := (h5.ch (a := p + 1) w1 w2 (Or.inr ⟨hp, hpp⟩)).mpr (by rw [KA_s]; exact b)
      cases hr : er (e i) with
      | true =>
        have g16 : G 16 w ≠ 0 := by rw [hm.2.2.1] at hr; exact of_decide_eq_true hr
        rw [if_pos rfl, if_neg (fun z => ((hw.1 w w1).mp z).2 w w1 w2 e10 g16 wi_rf)]
      | false =>
        have g16 : ¬ G 16 w ≠ 0 := by rw [hm.2.2.1] at hr; exact of_decide_eq_false hr
        have pres : G' 17 w ≠ 0 := (hw.1 w w1).mpr ⟨w2, fun x x1 x2 x3 x4 x5 => by
          have gx := (h5.1 x x1 x2).1
          have px : par (K x) = K p := by rw [h5.pa x1 x2, x3, KA_s]
          have := h5.2 w x w1 x1 w2 x2 (wi_same gw.1 gx x5 (gk_plev gw.1 gx (by rw [b, px])))
          subst this
          exact g16 x4⟩
        rw [if_neg (by decide), if_pos pres, hw.lb h hp hpp ((hw.2.1 w).mpr ⟨w1, pres, e10⟩) hi hm, num]
    · have a' : ¬ lev (K w) = lev (K p) + 1 := by omega
      rw [if_neg a', if_neg a']
      rcases gw.2.2.2 with ⟨q1, q2⟩ | ⟨u, q1, q2, q3, q4, q5⟩
      · omega
      have gu := (h5.1 u q2 q3).1
      have pu : par (K u) = K p := by rw [q4]; exact f
      have e10 : G 10 u = p + 1 := (h5.ch (a := p + 1) q2 q3 (Or.inr ⟨hp, hpp⟩)).mpr (by rw [KA_s]; exact pu)
      have wu : wi (K w) (K u) := (wi_iff gw.1 gu).mpr (Or.inr ⟨q5, by rw [q4]⟩)
      have ltu : K u < K w := by
        have := ((wi_int gu).mp wu).1
        rcases Nat.lt_or_ge (K u) (K w) with z | z
        · exact z
        · have : K u = K w := by omega
          rw [this] at q4
          have := gk_par gw.1
          rw [← q4] at this
          omega
      obtain ⟨j, j1, j2⟩ := h.1.2.2.1 u q2 q3
      have ji : j < i := by
        rcases Nat.lt_trichotomy j i with z | z | z
        · exact z
        · rw [z] at j2; have := j2.1; rw [hm1] at this; omega
        · have := hs i j z j1; rw [hm1, j2.1] at this; omega
      have last : ∀ j', j < j' → j' < i → par (ek (e j')) ≠ K p := by
        intro j' y1 y2 y3
        have l1 := hs j j' y1 (by omega)
        have l2 := hs j' i y2 hi
        rw [j2.1] at l1
        rw [hm1] at l2
        have gy := hg j' (by omega)
        -- a child of the same parent between a child and what lies below it
        have wy : wi (ek (e j')) (K u) := (wi_int gu).mpr ⟨by omega, by have := ((wi_int gu).mp wu).2; omega⟩
        have := wi_same gy gu wy (gk_plev gy gu (by rw [y3, pu]))
        omega
      have flag := rnS_flag hg gp i (by omega) j ji (by rw [j2.1]; exact pu) last
      have eu : G 10 w - 1 = u := by omega
      rw [flag]
      cases hr : er (e j) with
      | true =>
        have g16 : G 16 u ≠ 0 := by rw [j2.2.2.1] at hr; exact of_decide_eq_true hr
        rw [if_pos rfl, if_neg (fun z => ((hw.1 w w1).mp z).2 u q2 q3 e10 g16 wu)]
      | false =>
        have g16 : ¬ G 16 u ≠ 0 := by rw [j2.2.2.1] at hr; exact of_decide_eq_false hr
        have one : ∀ x, x < N → G 17 x ≠ 0 → G 10 x = p + 1 → wi (K w) (K x) → x = u := by
          intro x x1 x2 x3 x5
          have gx := (h5.1 x x1 x2).1
          have px : par (K x) = K p := by rw [h5.pa x1 x2, x3, KA_s]
          have lx := (par_wi gx gp px).2.2
          rcases (wi_iff gw.1 gx).mp x5 with z | z
          · rw [z] at a'; exact absurd lx a'
          · have := wi_same (by rw [← q4]; exact gu) gx z.2 (by omega)
            exact h5.2 x u x1 q2 x2 q3 (by rw [q4, this])
        have pres : G' 17 w ≠ 0 := (hw.1 w w1).mpr ⟨w2, fun x x1 x2 x3 x4 x5 => by
          have := one x x1 x2 x3 x5
          subst this
          exact g16 x4⟩
        have presu : G' 17 u ≠ 0 := (hw.1 u q2).mpr ⟨q3, fun x x1 x2 x3 x4 x5 => by
          have gx := (h5.1 x x1 x2).1
          have px : par (K x) = K p := by rw [h5.pa x1 x2, x3, KA_s]
          have := h5.2 u x q2 x1 q3 x2 (wi_same gu gx x5 (gk_plev gu gx (by rw [pu, px])))
          subst this
          exact g16 x4⟩
        have at1 := (dlK_at (e := e) (n := n) (j := j) (k := K p) j1 (by rw [j2.1]; exact pu) hr).2
        have skip := dlK_skip (e := e) (k := K p) (i - (j + 1)) (j + 1) (fun j' y1 y2 => last j' (by omega) (by omega))
        rw [show j + 1 + (i - (j + 1)) = i by omega] at skip
        rw [if_neg (by decide), if_pos pres, eu, hw.lb h hp hpp ((hw.2.1 u).mpr ⟨q2, presu, e10⟩) j1 j2, num, skip, at1]
  · have pres : G' 17 w ≠ 0 := (hw.1 w w1).mpr ⟨w2, fun x x1 x2 x3 x4 x5 => by
      have gx := (h5.1 x x1 x2).1
      have px : par (K x) = K p := by rw [h5.pa x1 x2, x3, KA_s]
      have := wi_tr gw.1 gx px x5 gp
      exact c0 ⟨this.2, this.1⟩⟩
    rw [if_neg c0, if_pos pres, if_neg c0, ← hm1]
    rfl
theorem rnW.out {N n0 n : Nat} {e : Nat → zEnt} {G G' : Nat → Nat → Nat} {K : Nat → Nat} (h : VR n e N G K n0) {p : Nat} (hp : p < N) (hpp : G 17 p ≠ 0) {l : List Nat} (hw : rnW N G G' K p l) : ∀ i, i ≤ n → (∀ x, x ∈ (rnS e (K p) i).2.2 → ∃ j w, j < i ∧ w < N ∧ G' 17 w ≠ 0 ∧ mt G K (e j) w ∧ x = sK (e j) (rnK K (G 10) (G' 12) (K p) w)) ∧ (∀ j w, j < i → w < N → G' 17 w ≠ 0 → mt G K (e j) w → sK (e j) (rnK K (G 10) (G' 12) (K p) w) ∈ (rnS e (K p) i).2.2) ∧ (rnS e (K p) i).2.2.Pairwise (fun x y => ek x < ek y)
  | 0, _ => ⟨fun x hx => by simp [rnS] at hx, fun j w hj => by omega, List.Pairwise.nil⟩
  | i + 1, hi => by
    obtain ⟨o1, o2, o3⟩ := hw.out h hp hpp i (by omega)
    obtain ⟨w, w1, w2, w3⟩ := h.1.2.1 i (by omega)
    have h5 := h.1.2.2.2.2.1
    have uni : ∀ u, u < N → G' 17 u ≠ 0 → mt G K (e i) u → u = w := fun u u1 u2 u3 => h5.2 u w u1 w1 ((hw.1 u u1).mp u2).1 w2 (by rw [← u3.1, ← w3.1])
    rw [hw.step h hp hpp (by omega) w1 w2 w3]
    by_cases c : G' 17 w ≠ 0
    · rw [if_pos c]
      refine ⟨fun x hx => ?_, fun j u j1 u1 u2 u3 => ?_, List.pairwise_append.mpr ⟨o3, List.pairwise_singleton _ _, fun x hx y hy => ?_⟩⟩
      · rcases List.mem_append.mp hx with z | z
        · obtain ⟨j, u, a⟩ := o1 x z
          exact ⟨j, u, by omega, a.2⟩
        · exact ⟨i, w, by omega, w1, c, w3, List.mem_singleton.mp z⟩
      · by_cases ji : j = i
        · subst ji
          rw [uni u u1 u2 u3]
          exact List.mem_append_right _ (List.mem_singleton.mpr rfl)
        · exact List.mem_append_left _ (o2 j u (by omega) u1 u2 u3)
      · obtain ⟨j, u, a1, a2, a3, a4, a5⟩ := o1 x hx
        rw [List.mem_singleton.mp hy, a5]
        refine hw.mono h hp hpp a2 a3 w1 c ?_
        rw [← a4.1, ← w3.1]
        exact h.2 j i a1 (by omega)
    · rw [if_neg c]
      refine ⟨fun x hx => ?_, fun j u j1 u1 u2 u3 => ?_, o3⟩
      · obtain ⟨j, u, a⟩ := o1 x hx
        exact ⟨j, u, by omega, a.2⟩
      · by_cases ji : j = i
        · subst ji
          rw [uni u u1 u2 u3] at u2
          exact absurd u2 c
        · exact o2 j u (by omega) u1 u2 u3
theorem VR.rnm {N n0 n : Nat} {e e' : Nat → zEnt} {s s' : Nat → Nat} {G G' : Nat → Nat → Nat} {K : Nat → Nat} (h : VR n e N G K n0) (hN : s 2 = N) {p : Nat} (hp : p < N) (hpp : G 17 p ≠ 0) (hr : rnR s s' G G' p) (he : ∀ j x, (rnS e (K p) n).2.2[j]? = some x → e' j = x) : VR (rnS e (K p) n).2.2.length e' N G' (rnK K (G 10) (G' 12) (K p)) n0 := by
  obtain ⟨l, hw⟩ := rnR.w h.1 hN hp hpp hr
  obtain ⟨o1, o2, o3⟩ := hw.out h hp hpp n (Nat.le_refl _)
  have hle := (rnS_le e (K p) n).2
  have h5 := h.1.2.2.2.2.1
  have gp := (h5.1 p hp hpp).1
  have go := hw.2.2.2.2
  have pg : ∀ v, v < N → G' 17 v ≠ 0 → G 17 v ≠ 0 := fun v hv hz => ((hw.1 v hv).mp hz).1
  have ee : ∀ i, (hi : i < (rnS e (K p) n).2.2.length) → e' i = (rnS e (K p) n).2.2[i] := fun i hi => he i _ (List.getElem?_eq_getElem hi)
  have mt' : ∀ j w, mt G K (e j) w → mt G' (rnK K (G 10) (G' 12) (K p)) (sK (e j) (rnK K (G 10) (G' 12) (K p) w)) w := by
    intro j w hm
    unfold mt
    rw [go 13 (by decide) (by decide) (by decide), go 14 (by decide) (by decide) (by decide), go 15 (by decide) (by decide) (by decide), go 16 (by decide) (by decide) (by decide)]
    exact ⟨rfl, hm.2⟩
  have inj : ∀ v w, v < N → w < N → G' 17 v ≠ 0 → G' 17 w ≠ 0 → rnK K (G 10) (G' 12) (K p) v = rnK K (G 10) (G' 12) (K p) w → v = w := by
    intro v w v1 w1 v2 w2 hk
    rcases Nat.lt_trichotomy (K v) (K w) with z | z | z
    · have := hw.mono h hp hpp v1 v2 w1 w2 z; omega
    · exact h5.2 v w v1 w1 (pg v v1 v2) (pg w w1 w2) z
    · have := hw.mono h hp hpp w1 w2 v1 v2 z; omega
  refine ⟨⟨by have := h.1.1; omega, fun i hi => ?_, fun v hv hpv => ?_, fun i j hi hj hk => ?_, ⟨fun w w1 w2 => ?_, inj⟩, ⟨h.1.2.2.2.2.2.1.1, fun w w1 => ?_⟩, h.1.2.2.2.2.2.2.1, fun v hv => ?_⟩, fun a b hab hb => ?_⟩
  · rw [ee i hi]
    obtain ⟨j, w, a1, a2, a3, a4, a5⟩ := o1 _ (List.getElem_mem hi)
    exact ⟨w, a2, a3, by rw [a5]; exact mt' j w a4⟩
  · obtain ⟨j, j1, j2⟩ := h.1.2.2.1 v hv (pg v hv hpv)
    obtain ⟨i, hi, hx⟩ := List.getElem_of_mem (o2 j v j1 hv hpv j2)
    exact ⟨i, hi, by rw [ee i hi, hx]; exact mt' j v j2⟩
  · rw [ee i hi, ee j hj] at hk
    rcases Nat.lt_trichotomy i j with z | z | z
    · have := (List.pairwise_iff_getElem.mp o3) i j hi hj z; omega
    · exact z
    · have := (List.pairwise_iff_getElem.mp o3) j i hj hi z; omega
  · have gw := h5.1 w w1 (pg w w1 w2)
    unfold nd
    rw [go 10 (by decide) (by decide) (by decide), go 11 (by decide) (by decide) (by decide)]
    have kp : rnK K (G 10) (G' 12) (K p) p = K p := by unfold rnK; exact if_neg (fun z => z.1 rfl)
    have presp : G' 17 p ≠ 0 := (hw.1 p hp).mpr ⟨hpp, fun x x1 x2 x3 x4 x5 => by
      have gx := (h5.1 x x1 x2).1
      have px : par (K x) = K p := by rw [h5.pa x1 x2, x3, KA_s]
      exact (wi_tr gp gx px x5 gp).2 rfl⟩
    have presu : ∀ u, u < N → G 17 u ≠ 0 → K u = par (K w) → 2 ≤ lev (K w) → G' 17 u ≠ 0 := by
      intro u u1 u2 u3 u4
      refine (hw.1 u u1).mpr ⟨u2, fun x x1 x2 x3 x4 x5 => ((hw.1 w w1).mp w2).2 x x1 x2 x3 x4 ?_⟩
      exact (wi_iff gw.1 (h5.1 x x1 x2).1).mpr (Or.inr ⟨u4, by rw [← u3]; exact x5⟩)
    by_cases c0 : K w ≠ K p ∧ wi (K w) (K p)
    · obtain ⟨c, x1, x2, x3, x4, x5, x6⟩ := hw.anc h hp hpp w1 w2 c0.1 c0.2
      have ok := hw.ok h hp hpp x2
      have ew : rnK K (G 10) (G' 12) (K p) w = putl (K w) (lev (K p) + 1) (G' 12 c) := by unfold rnK; rw [if_pos c0, ← x1]
      rcases VR.of_sw gw.1 gp c0.1 c0.2 with ⟨a, b⟩ | ⟨a, b, d1, d2, d3, d4⟩
      · rw [if_pos a] at x1
        subst x1
        have r := rn_ch gw.1 gp b ok
        rw [ew]
        refine ⟨r.1, by rw [gw.2.1, r.2.2.1, a], by rw [r.2.2.1, r.2.2.2], ?_⟩
        have e10 := ((hw.2.1 c).mp x2).2.2
        exact Or.inr ⟨p, e10, hp, presp, by rw [kp, r.2.1], by rw [r.2.2.1]; have := gk_lev gp; omega⟩
      · have a' : ¬ lev (K w) = lev (K p) + 1 := by omega
        rw [if_neg a'] at x1
        have r := rn_gc gw.1 gp a ok b
        have nl : w ∉ l := fun z => by
          have := ((hw.2.1 w).mp z).2.2
          have : par (K w) = K p := by rw [h5.pa w1 (pg w w1 w2), this, KA_s]
          exact d1 this
        have e12 : G' 12 w = G 12 w := by rw [hw.2.2.2.1]; exact rlL_out (f := G 12) l 0 w nl _
        rw [ew]
        refine ⟨r.1, by rw [gw.2.1, r.2.1], by rw [e12, gw.2.2.1, r.2.1, r.2.2.2], ?_⟩
        rcases gw.2.2.2 with ⟨q1, q2⟩ | ⟨u, q1, q2, q3, q4, q5⟩
        · omega
        · have ecu : c = u := by rw [x1, q1]; omega
          subst ecu
          refine Or.inr ⟨c, q1, q2, presu c q2 q3 q4 q5, ?_, by rw [r.2.1]; omega⟩
          have ec : rnK K (G 10) (G' 12) (K p) c = putl (K c) (lev (K p) + 1) (G' 12 c) := by
            unfold rnK
            rw [if_pos ⟨(par_wi (h5.1 c q2 q3).1 gp x3).1, (par_wi (h5.1 c q2 q3).1 gp x3).2.1⟩, if_pos x6]
          rw [ec, r.2.2.1, q4]
    · have ew : rnK K (G 10) (G' 12) (K p) w = K w := by unfold rnK; exact if_neg c0
      have nl : w ∉ l := fun z => by
        have := ((hw.2.1 w).mp z).2.2
        have : par (K w) = K p := by rw [h5.pa w1 (pg w w1 w2), this, KA_s]
        exact c0 ⟨(par_wi gw.1 gp this).1, (par_wi gw.1 gp this).2.1⟩
      rw [ew]
      refine ⟨gw.1, gw.2.1, by rw [hw.2.2.2.1, rlL_out (f := G 12) l 0 w nl, gw.2.2.1], ?_⟩
      rcases gw.2.2.2 with z | ⟨u, q1, q2, q3, q4, q5⟩
      · exact Or.inl z
      · refine Or.inr ⟨u, q1, q2, presu u q2 q3 q4 q5, ?_, q5⟩
        unfold rnK
        rw [if_neg (fun z => ?_), q4]
        have gu := (h5.1 u q2 q3).1
        have wi' : wi (K w) (K p) := (wi_iff gw.1 gp).mpr (Or.inr ⟨q5, by rw [← q4]; exact z.2⟩)
        refine c0 ⟨fun y => ?_, wi'⟩
        have := wi_lev2 gu gp z.2
        rcases gk_par gw.1 with t | t
        · omega
        · rw [← q4, y] at t; omega
  · obtain ⟨a, b, c, d, f⟩ := h.1.2.2.2.2.2.1.2 w w1
    rw [go 10 (by decide) (by decide) (by decide), go 11 (by decide) (by decide) (by decide), go 16 (by decide) (by decide) (by decide)]
    refine ⟨?_, b, c, d, ?_⟩
    · by_cases z : w ∈ l
      · exact (hw.ok h hp hpp z).r.2
      · rw [hw.2.2.2.1, rlL_out (f := G 12) l 0 w z]; exact a
    · obtain ⟨_, _, r1, r2, r3, r4, r5⟩ := hr
      rw [r4]
      rcases rmP_or (G := G) (N := s 2) (a := p) (s 2) w with y | y
      · rw [y]; omega
      · rw [y]; exact f
  · rw [go 14 (by decide) (by decide) (by decide)]; exact h.1.2.2.2.2.2.2.2 v hv
  · rw [ee a (by omega), ee b hb]
    exact (List.pairwise_iff_getElem.mp o3) a b (by omega) hb hab
