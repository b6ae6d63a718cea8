/-! renumbering, looking up, moving -/
def gset (G : Nat → Nat → Nat) (a : Nat) (f : Nat → Nat) : Nat → Nat → Nat := fun b => if b = a then f else G b
theorem gset_s {G : Nat → Nat → Nat} {a : Nat} {f : Nat → Nat} : gset G a f a = f := if_pos rfl
theorem gset_n {G : Nat → Nat → Nat} {a b : Nat} {f : Nat → Nat} (h : b ≠ a) : gset G a f b = G b := if_neg h
def rmP (G : Nat → Nat → Nat) (N a : Nat) : Nat → Nat → Nat
  | 0 => G 17
  | i + 1 => if rmP G N a i i ≠ 0 ∧ G 10 i = a + 1 ∧ G 16 i ≠ 0 then fun v => rmV (G 10) (rmP G N a i) N i v else rmP G N a i
theorem rmV_or {P p : Nat → Nat} {N a v : Nat} : rmV P p N a v = 0 ∨ rmV P p N a v = p v := by
  unfold rmV
  split
  · split
    · split
      · exact Or.inl rfl
      · exact Or.inr rfl
    · exact Or.inr rfl
  · exact Or.inr rfl
theorem rmP_or {G : Nat → Nat → Nat} {N a : Nat} : ∀ (i v : Nat), rmP G N a i v = 0 ∨ rmP G N a i v = G 17 v
  | 0, v => Or.inr rfl
  | i + 1, v => by
    unfold rmP
    split
    · rcases rmV_or (P := G 10) (p := rmP G N a i) (N := N) (a := i) (v := v) with h | h
      · exact Or.inl h
      · dsimp only; rw [h]; exact rmP_or i v
    · exact rmP_or i v
theorem gset_17 {G G1 : Nat → Nat → Nat} (h : ∀ k, k ≠ 17 → G1 k = G k) : G1 = gset G 17 (G1 17) := by
  funext k
  by_cases hk : k = 17
  · rw [hk, gset_s]
  · rw [gset_n hk, h k hk]
theorem rmI_end {s s1 : Nat → Nat} {G G1 : Nat → Nat → Nat} {a : Nat} (h : rmI s s1 G G1 a (s 2)) : G1 = gset G 17 (fun v => rmV (G 10) (G 17) (s 2) a v) := by
  rw [gset_17 h.1]
  congr 1
  funext v
  by_cases hv : v < s 2
  · exact h.2.1 v hv
  · rw [h.2.2.1 v (by omega)]
    unfold rmV
    rw [if_neg hv]
theorem gset_gset {G : Nat → Nat → Nat} {a : Nat} {f g : Nat → Nat} : gset (gset G a f) a g = gset G a g := by
  funext k
  by_cases hk : k = a
  · rw [hk, gset_s, gset_s]
  · rw [gset_n hk, gset_n hk, gset_n hk]
def chT (G : Nat → Nat → Nat) (a N : Nat) : List Nat → Prop
  | [] => True
  | v :: t => v < N ∧ nxC G a (G 12 v) N = t.head? ∧ chT G a N t
def rlL (f : Nat → Nat) : List Nat → Nat → Nat → Nat
  | [], _ => f
  | v :: t, k => rlL (nup f v ((k + 1) * 19683)) t (k + 1)
theorem nB.p17 {N : Nat} {G : Nat → Nat → Nat} {f : Nat → Nat} (h : nB N G) (hf : ∀ v, f v = 0 ∨ f v = G 17 v) : nB N (gset G 17 f) := by
  refine ⟨h.1, fun v hv => ?_⟩
  have := h.2 v hv
  rw [gset_n (by decide), gset_n (by decide), gset_n (by decide), gset_n (by decide), gset_s]
  rcases hf v with z | z <;> omega
set_option maxHeartbeats 4000000 in
theorem mo_renum1 {Γ : zCtx} (d : Nat) {M0 : List zE} {s : Nat → Nat} {G : Nat → Nat → Nat} (hB : nB (s 2) G) (hC : ∀ v, v < s 2 → G 17 v ≠ 0 → chk (G 10) (s 2) 3 (v + 1)) {a : Nat} (ha : a < 160)  : ∀ (f : Nat) (i : Nat) (M : List zE) (s1 : Nat → Nat), i ≤ s 2 → s 2 < i + f → FW M0 M s1 (gset G 17 (rmP G (s 2) a i)) → (∀ j, j ≠ 3 → s1 j = s j) → s1 3 = cnt (rmP G (s 2) a i) (s 2) → ∀ Q : List zE → Option Value → Prop, (∀ M1 s2, FW M0 M1 s2 (gset G 17 (rmP G (s 2) a (s 2))) → (∀ j, j ≠ 3 → s2 j = s j) → s2 3 = cnt (rmP G (s 2) a (s 2)) (s 2) → Z Γ (zRm (d + 3) m_mo_renumber) m_mo_renumber (zPh Γ m_mo_renumber Q) 0 0 49 [some (.ref 123), some (.int (nI a)), some (.int (nI (s 2))), none] [] M1) → Z Γ (zRm (d + 3) m_mo_renumber) m_mo_renumber (zPh Γ m_mo_renumber Q) 0 0 2 [some (.ref 123), some (.int (nI a)), some (.int (nI i)), none] [] M := by
  intro f
  induction f with
  | zero => intro i M s1 hi hf; exact absurd hf (by omega)
  | succ f ih =>
    intro i M s1 hi hf hF hs1 hc3 Q hQ
    have h160 := hB.1
    refine Z_iload_n d_mo_renumber_2 rfl ?_
    refine Z_aload_n d_mo_renumber_3 rfl ?_
    refine Z_get (v := .int (nI (s1 2))) d_mo_renumber_4 lf_mo_144 hF.1 rfl ?_
    have e2 : s1 2 = s 2 := hs1 2 (by decide)
    refine Zn_icmp_ge (tgt := 49) d_mo_renumber_7 (by decide) (by omega) (by omega) (fun h7 => ?_) (fun h7 => ?_)
    · skip
      obtain rfl : i = s 2 := by omega
      exact hQ _ s1 hF hs1 hc3
    · skip
      have hbi := hB.2 i (by omega)
      have hor := rmP_or (G := G) (N := s 2) (a := a) i i
      refine Z_aload_n d_mo_renumber_10 rfl ?_
      refine Z_get (v := .ref 141) d_mo_renumber_11 lf_mo_62 hF.1 rfl ?_
      refine Z_iload_n d_mo_renumber_14 rfl ?_
      refine Zn_zald d_mo_renumber_15 hF.a17 (by omega) (by omega) ?_
      rw [gset_s]
      refine Zn_if_eq (tgt := 43) d_mo_renumber_16 (by decide) (by omega) (fun h16 => ?_) (fun h16 => ?_)
      · skip
        refine Zn_iinc [some (.ref 123), some (.int (nI a)), some (.int (nI (i + 1))), none] (nI (i + 1)) d_mo_renumber_43 rfl (by decide) (nI_add i 1) rfl ?_
        refine Z_goto (tgt := 2) d_mo_renumber_46 (by decide) ?_
        have hno : rmP G (s 2) a (i + 1) = rmP G (s 2) a i := by
          rw [rmP, if_neg (fun z => by first | exact z.1 h16 | exact h26 z.2.1 | exact z.2.2 h35)]
        refine ih (i + 1) _ s1 (by omega) (by omega) ?_ hs1 ?_ Q hQ
        · rw [hno]; exact hF
        · rw [hno]; exact hc3
      · skip
        refine Z_aload_n d_mo_renumber_19 rfl ?_
        refine Z_get (v := .ref 134) d_mo_renumber_20 lf_mo_40 hF.1 rfl ?_
        refine Z_iload_n d_mo_renumber_23 rfl ?_
        refine Zn_iald d_mo_renumber_24 hF.a10 (by omega) (by omega) ?_
        rw [gset_n (by decide)]
        refine Z_iload_n d_mo_renumber_25 rfl ?_
        refine Z_icmp_ne (tgt := 43) d_mo_renumber_26 (by decide) (fun h26 => ?_) (fun h26 => ?_)
        · skip
          have h26 : ¬ G 10 i = a + 1 := fun z => h26 ((mI_inj (y := a + 1) (by omega) (by omega)).mpr z)
          refine Zn_iinc [some (.ref 123), some (.int (nI a)), some (.int (nI (i + 1))), none] (nI (i + 1)) d_mo_renumber_43 rfl (by decide) (nI_add i 1) rfl ?_
          refine Z_goto (tgt := 2) d_mo_renumber_46 (by decide) ?_
          have hno : rmP G (s 2) a (i + 1) = rmP G (s 2) a i := by
            rw [rmP, if_neg (fun z => by first | exact z.1 h16 | exact h26 z.2.1 | exact z.2.2 h35)]
          refine ih (i + 1) _ s1 (by omega) (by omega) ?_ hs1 ?_ Q hQ
          · rw [hno]; exact hF
          · rw [hno]; exact hc3
        · skip
          have h26 : G 10 i = a + 1 := (mI_inj (y := a + 1) (by omega) (by omega)).mp h26
          refine Z_aload_n d_mo_renumber_29 rfl ?_
          refine Z_get (v := .ref 140) d_mo_renumber_30 lf_mo_58 hF.1 rfl ?_
          refine Z_iload_n d_mo_renumber_33 rfl ?_
          refine Zn_zald d_mo_renumber_34 hF.a16 (by omega) (by omega) ?_
          rw [gset_n (by decide)]
          refine Zn_if_eq (tgt := 43) d_mo_renumber_35 (by decide) (by omega) (fun h35 => ?_) (fun h35 => ?_)
          · skip
            refine Zn_iinc [some (.ref 123), some (.int (nI a)), some (.int (nI (i + 1))), none] (nI (i + 1)) d_mo_renumber_43 rfl (by decide) (nI_add i 1) rfl ?_
            refine Z_goto (tgt := 2) d_mo_renumber_46 (by decide) ?_
            have hno : rmP G (s 2) a (i + 1) = rmP G (s 2) a i := by
              rw [rmP, if_neg (fun z => by first | exact z.1 h16 | exact h26 z.2.1 | exact z.2.2 h35)]
            refine ih (i + 1) _ s1 (by omega) (by omega) ?_ hs1 ?_ Q hQ
            · rw [hno]; exact hF
            · rw [hno]; exact hc3
          · skip
            refine Z_aload_n d_mo_renumber_38 rfl ?_
            refine Z_iload_n d_mo_renumber_39 rfl ?_
            refine zV (As := [.int (nI i)]) (by omega) d_mo_renumber_40 lm_mo_285 hF.1 rfl rfl (Nat.le_of_ble_eq_true rfl) (mo_remove_ok d hF (by rw [e2]; exact hB.p17 (rmP_or i)) (by rw [e2]; intro v hv hp; rw [gset_s] at hp; rw [gset_n (by decide)]; exact hC v hv (fun z => by rcases rmP_or (G := G) (N := s 2) (a := a) i v with y | y <;> omega)) (by rw [e2, gset_s]; exact hc3) (by omega)) (fun M1 v hq hlen => ?_)
            obtain ⟨rfl, s2, G2, hF, hri⟩ := hq
            have hG2 := rmI_end hri
            rw [gset_gset, gset_n (by decide), gset_s, e2] at hG2
            subst hG2
            have hs2 : ∀ j, j ≠ 3 → s2 j = s j := fun j hj => (hri.2.2.2.1 j hj).trans (hs1 j hj)
            have hc4 := hri.2.2.2.2
            rw [gset_s, e2] at hc4
            refine Zn_iinc [some (.ref 123), some (.int (nI a)), some (.int (nI (i + 1))), none] (nI (i + 1)) d_mo_renumber_43 rfl (by decide) (nI_add i 1) rfl ?_
            refine Z_goto (tgt := 2) d_mo_renumber_46 (by decide) ?_
            refine ih (i + 1) _ s2 (by omega) (by omega) ?_ hs2 ?_ Q hQ
            · rw [rmP, if_pos ⟨h16, h26, h35⟩]; exact hF
            · rw [rmP, if_pos ⟨h16, h26, h35⟩]; exact hc4
set_option maxHeartbeats 4000000 in
theorem mo_renum3 {Γ : zCtx} (d : Nat) {M0 : List zE} {s : Nat → Nat} {a n : Nat} (hn : n ≤ 160) : ∀ (f : Nat) (t : List Nat) (k : Nat) (M : List zE) (G : Nat → Nat → Nat), t.length < f → k + t.length = n → FW M0 M s G → (∀ (j : Nat) (hj : j < t.length), G 23 (k + j) = t[j]) → (∀ x ∈ t, x < 160) → ∀ Q : List zE → Option Value → Prop, (∀ M1 G2, FW M0 M1 s G2 → G2 12 = rlL (G 12) t k → (∀ b, b ≠ 12 → b ≠ 12 → G2 b = G b) → Q M1 none) → Z Γ (zRm (d + 3) m_mo_renumber) m_mo_renumber (zPh Γ m_mo_renumber Q) 0 0 89 [some (.ref 123), some (.int (nI a)), some (.int (nI n)), some (.int (nI k))] [] M := by
  intro f
  induction f with
  | zero => intro t k M G hf; exact absurd hf (by omega)
  | succ f ih =>
    intro t k M G hf hlen hF hpos hlt Q hQ
    refine Z_iload_n d_mo_renumber_89 rfl ?_
    refine Z_iload_n d_mo_renumber_90 rfl ?_
    refine Zn_icmp_ge (tgt := 118) d_mo_renumber_91 (by decide) (by omega) (by omega) (fun h91 => ?_) (fun h91 => ?_)
    · skip
      obtain rfl : t = [] := by
        cases t with
        | nil => rfl
        | cons x y => simp at hlen; omega
      refine Z_vret d_mo_renumber_118 rfl ?_
      exact hQ _ _ hF rfl (fun b h1 h2 => rfl)
    · skip
      obtain ⟨v, t, rfl⟩ : ∃ v y, t = v :: y := by
        cases t with
        | nil => simp at hlen; omega
        | cons x y => exact ⟨x, y, rfl⟩
      have hv := hpos 0 (by simp)
      simp at hv hlen hf
      have hv2 := hlt v (by simp)
      refine Z_aload_n d_mo_renumber_94 rfl ?_
      refine Z_get (v := .ref 136) d_mo_renumber_95 lf_mo_46 hF.1 rfl ?_
      refine Z_aload_n d_mo_renumber_98 rfl ?_
      refine Z_get (v := .ref 147) d_mo_renumber_99 lf_mo_80 hF.1 rfl ?_
      refine Z_iload_n d_mo_renumber_102 rfl ?_
      refine Zn_iald d_mo_renumber_103 hF.a23 (by omega) (by omega) ?_
      rw [hv]
      refine Z_iload_n d_mo_renumber_104 rfl ?_
      refine Zn_iconst (nI 1) d_mo_renumber_105 (by decide) ?_
      refine Zn_iadd d_mo_renumber_106 ?_
      refine Zn_sipush (nI 19683) d_mo_renumber_107 (by decide) ?_
      refine Zn_imul d_mo_renumber_110 ?_
      refine Zn_iast d_mo_renumber_111 hF.a12 (by omega) (by omega) ?_
      replace hF := hF.p12 v ((k + 1) * 19683)
      refine Zn_iinc [some (.ref 123), some (.int (nI a)), some (.int (nI n)), some (.int (nI (k + 1)))] (nI (k + 1)) d_mo_renumber_112 rfl (by decide) (nI_add k 1) rfl ?_
      refine Z_goto (tgt := 89) d_mo_renumber_115 (by decide) ?_
      refine ih t (k + 1) _ _ (by omega) (by omega) hF (fun j hj => ?_) (fun x hx => hlt x (by simp [hx])) Q (fun M1 G2 a1 a2 a3 => hQ M1 G2 a1 ?_ (fun b h1 h2 => ?_))
      · rw [gup_n (by decide)]
        have := hpos (j + 1) (by simpa using hj)
        rw [show k + 1 + j = k + (j + 1) by omega]
        simpa using this
      · rw [a2, gup_s]; rfl
      · rw [a3 b h1 h2, gup_n h1]
theorem nxC_same {G G1 : Nat → Nat → Nat} (h : ∀ b, b ≠ 23 → G1 b = G b) {a c : Nat} : ∀ {i : Nat}, nxC G1 a c i = nxC G a c i := by
  intro i
  induction i with
  | zero => rfl
  | succ i ih =>
    unfold nxC
    rw [ih]
    unfold isC
    rw [h 17 (by decide), h 10 (by decide), h 12 (by decide)]
theorem nB_same {N : Nat} {G G1 : Nat → Nat → Nat} (hB : nB N G) (h : ∀ b, b ≠ 23 → G1 b = G b) : nB N G1 := by
  refine ⟨hB.1, fun v hv => ?_⟩
  have := hB.2 v hv
  rw [h 17 (by decide), h 10 (by decide), h 12 (by decide), h 11 (by decide), h 16 (by decide)]
  exact this
set_option maxHeartbeats 4000000 in
theorem mo_renum2 {Γ : zCtx} (d : Nat) {M0 : List zE} {s : Nat → Nat} {G : Nat → Nat → Nat} (hB : nB (s 2) G) {a : Nat} (ha : a < 160)  : ∀ (f : Nat) (t l0 : List Nat) (M : List zE) (G1 : Nat → Nat → Nat), t.length < f → l0.length + t.length ≤ 160 → FW M0 M s G1 → chT G (a + 1) (s 2) t → (∀ b, b ≠ 23 → G1 b = G b) → (∀ (j : Nat) (hj : j < l0.length), G1 23 j = l0[j]) → (∀ x ∈ l0, x < 160) → ∀ Q : List zE → Option Value → Prop, (∀ M1 G2, FW M0 M1 s G2 → G2 12 = rlL (G 12) (l0 ++ t) 0 → (∀ b, b ≠ 12 → b ≠ 23 → G2 b = G b) → Q M1 none) → Z Γ (zRm (d + 3) m_mo_renumber) m_mo_renumber (zPh Γ m_mo_renumber Q) 0 0 58 [some (.ref 123), some (.int (nI a)), some (.int (nI l0.length)), some (.int (oI t.head? (-1)))] [] M := by
  intro f
  induction f with
  | zero => intro t l0 M G1 hf; exact absurd hf (by omega)
  | succ f ih =>
    intro t l0 M G1 hf hlen hF hch hG hpos hlt Q hQ
    rcases t with _ | ⟨v, t⟩
    · skip
      refine Z_iload_n d_mo_renumber_58 rfl ?_
      refine Z_if_lt (tgt := 87) d_mo_renumber_59 (by decide) (fun h59 => ?_) (fun h59 => ?_)
      · skip
        skip
        refine Zn_iconst (nI 0) d_mo_renumber_87 (by decide) ?_
        refine Zn_istore_n [some (.ref 123), some (.int (nI a)), some (.int (nI l0.length)), some (.int (nI 0))] d_mo_renumber_88 (by decide) rfl ?_
        have hQ3 := hQ
        refine mo_renum3 d (n := l0.length) (by omega) (l0.length + 1) l0 0 _ _ (by omega) (by omega) hF (fun j hj => by rw [Nat.zero_add]; exact hpos j hj) hlt _ (fun M1 G2 a1 a2 a3 => ?_)
        rw [List.append_nil] at hQ
        refine hQ M1 G2 a1 ?_ (fun b h1 h2 => ?_)
        · rw [a2, hG 12 (by decide)]
        · rw [a3 b h1 h1, hG b h2]
      · skip
        exact absurd (by decide) h59 -- end
    · skip
      obtain ⟨hv1, hv2, hv3⟩ := hch
      simp at hlen hf
      have hbv := hB.2 v hv1
      have h160 := hB.1
      have e12 : G1 12 = G 12 := hG 12 (by decide)
      refine Z_iload_n d_mo_renumber_58 rfl ?_
      refine Z_if_lt (tgt := 87) d_mo_renumber_59 (by decide) (fun h59 => ?_) (fun h59 => ?_)
      · skip
        exact absurd h59 (nI_pos (by omega)) -- end
      · skip
        skip
        refine Z_aload_n d_mo_renumber_62 rfl ?_
        refine Z_get (v := .ref 147) d_mo_renumber_63 lf_mo_80 hF.1 rfl ?_
        refine Z_iload_n d_mo_renumber_66 rfl ?_
        refine Z_iload_n d_mo_renumber_67 rfl ?_
        refine Zn_iast d_mo_renumber_68 hF.a23 (by omega) (by omega) ?_
        replace hF := hF.p23 l0.length v
        refine Zn_iinc [some (.ref 123), some (.int (nI a)), some (.int (nI (l0.length + 1))), some (.int (nI v))] (nI (l0.length + 1)) d_mo_renumber_69 rfl (by decide) (nI_add l0.length 1) rfl ?_
        refine Z_aload_n d_mo_renumber_72 rfl ?_
        refine Z_iload_n d_mo_renumber_73 rfl ?_
        refine Z_aload_n d_mo_renumber_74 rfl ?_
        refine Z_get (v := .ref 136) d_mo_renumber_75 lf_mo_46 hF.1 rfl ?_
        refine Z_iload_n d_mo_renumber_78 rfl ?_
        refine Zn_iald d_mo_renumber_79 hF.a12 (by omega) (by omega) ?_
        refine zVe (As := [.int (nI a), .int (nI ((gup G1 23 l0.length v) 12 v))]) (by omega) d_mo_renumber_80 lm_mo_165 hF.1 rfl rfl (Nat.le_of_ble_eq_true rfl) (mo_nextChild_ok (a := a + 1) (d + 1) hF (nB_same hB (fun b hb => by rw [gup_n hb, hG b hb])) (by omega) (by rw [gup_n (by decide), e12]; omega)) ?_
        rw [nxC_same (G := G) (fun b hb => by rw [gup_n hb, hG b hb]), gup_n (by decide), e12, hv2]
        refine Zn_istore_n [some (.ref 123), some (.int (nI a)), some (.int (nI (l0.length + 1))), some (.int (oI t.head? (-1)))] d_mo_renumber_83 (by decide) rfl ?_
        refine Z_goto (tgt := 58) d_mo_renumber_84 (by decide) ?_
        rw [show l0.length + 1 = (l0 ++ [v]).length by simp]
        refine ih t (l0 ++ [v]) _ _ (by omega) (by simp; omega) hF hv3 (fun b hb => by rw [gup_n hb, hG b hb]) (fun j hj => ?_) (fun x hx => ?_) Q (by rw [List.append_assoc]; exact hQ)
        · rw [gup_s]
          by_cases hjl : j = l0.length
          · subst hjl; simp [nup_s]
          · simp at hj; rw [nup_n hjl, hpos j (by omega)]; simp [List.getElem_append, show j < l0.length by omega]
        · rcases List.mem_append.mp hx with h | h
          · exact hlt x h
          · simp at h; omega
set_option maxHeartbeats 4000000 in
theorem mo_renumber_ok {Γ : zCtx} {M : List zE} (d : Nat) {M0 : List zE} {s : Nat → Nat} {G : Nat → Nat → Nat} (hF : FW M0 M s G) (hB : nB (s 2) G) (hC : ∀ v, v < s 2 → G 17 v ≠ 0 → chk (G 10) (s 2) 3 (v + 1)) (hcn : s 3 = cnt (G 17) (s 2)) {a : Nat} (ha : a < 160) {l : List Nat} (hl : nxC (gset G 17 (rmP G (s 2) a (s 2))) (a + 1) 0 (s 2) = l.head? ∧ chT (gset G 17 (rmP G (s 2) a (s 2))) (a + 1) (s 2) l ∧ l.length ≤ 160) : ZM Γ (d + 3) m_mo_renumber [.ref 123, .int (nI a)] M (fun M1 v => v = none ∧ ∃ s' G', FW M0 M1 s' G' ∧ (∀ j, j ≠ 3 → s' j = s j) ∧ s' 3 = cnt (rmP G (s 2) a (s 2)) (s 2) ∧ G' 12 = rlL (G 12) l 0 ∧ G' 17 = rmP G (s 2) a (s 2) ∧ ∀ b, b ≠ 12 → b ≠ 17 → b ≠ 23 → G' b = G b) := by
  refine ZM.of mk_mo_renumber (Nat.le_of_ble_eq_true rfl) ?_
  rw [show zEn [.ref 123, .int (nI a)] = [some (.ref 123), some (.int (nI a))] from rfl]
  refine zPad 2 ?_
  show Z _ _ _ _ _ _ _ [some (.ref 123), some (.int (nI a)), none, none] _ _
  refine Zn_iconst (nI 0) d_mo_renumber_0 (by decide) ?_
  refine Zn_istore_n [some (.ref 123), some (.int (nI a)), some (.int (nI 0)), none] d_mo_renumber_1 (by decide) rfl ?_
  refine mo_renum1 d hB hC ha (s 2 + 1) 0 _ s (by omega) (by omega) (by rw [show gset G 17 (rmP G (s 2) a 0) = G from (gset_17 (fun _ _ => rfl)).symm]; exact hF) (fun _ _ => rfl) hcn _ (fun M1 s1 hF hs1 hc3 => ?_)
  refine Zn_iconst (nI 0) d_mo_renumber_49 (by decide) ?_
  refine Zn_istore_n [some (.ref 123), some (.int (nI a)), some (.int (nI 0)), none] d_mo_renumber_50 (by decide) rfl ?_
  refine Z_aload_n d_mo_renumber_51 rfl ?_
  refine Z_iload_n d_mo_renumber_52 rfl ?_
  refine Zn_iconst (nI 0) d_mo_renumber_53 (by decide) ?_
  refine zVe (As := [.int (nI a), .int (nI 0)]) (by omega) d_mo_renumber_54 lm_mo_165 hF.1 rfl rfl (Nat.le_of_ble_eq_true rfl) (mo_nextChild_ok (a := a + 1) (d + 1) hF (by rw [hs1 2 (by decide)]; exact hB.p17 (rmP_or (s 2))) (by omega) (by omega)) ?_
  rw [hs1 2 (by decide), hl.1]
  refine Zn_istore_n [some (.ref 123), some (.int (nI a)), some (.int (nI 0)), some (.int (oI l.head? (-1)))] d_mo_renumber_57 (by decide) rfl ?_
  exact mo_renum2 (s := s1) (G := gset G 17 (rmP G (s 2) a (s 2))) d (by rw [hs1 2 (by decide)]; exact hB.p17 (rmP_or (s 2))) ha (l.length + 1) l [] _ _ (by omega) (by simp; omega) hF (by rw [hs1 2 (by decide)]; exact hl.2.1) (fun _ _ => rfl) (fun j hj => by simp at hj) (fun x hx => by simp at hx) _ (fun M2 G2 b1 b2 b3 => ⟨rfl, s1, G2, b1, hs1, hc3, by rw [b2, gset_n (by decide)]; rfl, by rw [b3 17 (by decide) (by decide), gset_s], fun b h1 h2 h3 => by rw [b3 b h1 h3, gset_n h2]⟩)
