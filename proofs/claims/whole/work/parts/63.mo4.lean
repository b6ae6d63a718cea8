/-! what lies below, repeal, removal -/
def chk (P : Nat → Nat) (N : Nat) : Nat → Nat → Prop
  | 0, x => x = 0
  | f + 1, x => x = 0 ∨ (x - 1 < N ∧ chk P N f (P (x - 1)))
def blw (P : Nat → Nat) (a : Nat) : Nat → Nat → Bool
  | 0, _ => false
  | f + 1, x => if x = 0 then false else if x - 1 = a then true else blw P a f (P (x - 1))
theorem blw_0 {P : Nat → Nat} {a f : Nat} : blw P a f 0 = false := by cases f <;> simp [blw]
theorem chk_s {P : Nat → Nat} {N f q : Nat} (h : chk P N f (q + 1)) : ∃ g, f = g + 1 ∧ q < N ∧ chk P N g (P q) := by
  cases f with
  | zero => exact absurd h (by simp [chk])
  | succ f => rcases h with h | h
              · omega
              · exact ⟨f, rfl, by simpa using h.1, by simpa using h.2⟩
set_option maxHeartbeats 4000000 in
theorem mo_isBelow_loop {Γ : zCtx} (d : Nat) {M : List zE} {M0 : List zE} {s : Nat → Nat} {G : Nat → Nat → Nat} (hF : FW M0 M s G) (h160 : s 2 ≤ 160) {v a : Nat} (ha : a < 1000) : ∀ (F : Nat) (f x : Nat), f < F → chk (G 10) (s 2) f x → ∀ Q : List zE → Option Value → Prop, Q M (some (.int (nI (if blw (G 10) a f x = true then 1 else 0)))) → Z Γ (zRm (d + 1) m_mo_isBelow) m_mo_isBelow (zPh Γ m_mo_isBelow Q) 0 0 2 [some (.ref 123), some (.int (nI v)), some (.int (nI a)), some (.int (mI x))] [] M := by
  intro F
  induction F with
  | zero => intro f x hf; exact absurd hf (by omega)
  | succ F ih =>
    intro f x hf hx Q hQ
    rcases x with _ | q
    · skip
      rw [blw_0] at hQ
      refine Z_iload_n d_mo_isBelow_2 rfl ?_
      refine Z_if_lt (tgt := 21) d_mo_isBelow_3 (by decide) (fun h3 => ?_) (fun h3 => ?_)
      · skip
        skip
        refine Z_iload_n d_mo_isBelow_21 rfl ?_
        refine Z_iload_n d_mo_isBelow_22 rfl ?_
        refine Z_icmp_ne (tgt := 30) d_mo_isBelow_23 (by decide) (fun h23 => ?_) (fun h23 => ?_)
        · skip
          skip
          refine Zn_iconst (nI 0) d_mo_isBelow_30 (by decide) ?_
          refine Z_zret d_mo_isBelow_31 rfl rfl ?_
          exact hQ
        · skip
          exact absurd h23.symm (zn_m1 (by omega)) -- end
      · skip
        exact absurd (by decide) h3 -- end
    · skip
      obtain ⟨g, rfl, hq, hx2⟩ := chk_s hx
      have hbl : blw (G 10) a (g + 1) (q + 1) = if q = a then true else blw (G 10) a g (G 10 q) := by simp [blw]
      rw [hbl] at hQ
      refine Z_iload_n d_mo_isBelow_2 rfl ?_
      refine Z_if_lt (tgt := 21) d_mo_isBelow_3 (by decide) (fun h3 => ?_) (fun h3 => ?_)
      · skip
        exact absurd h3 (nI_pos (by omega)) -- end
      · skip
        skip
        refine Z_iload_n d_mo_isBelow_6 rfl ?_
        refine Z_iload_n d_mo_isBelow_7 rfl ?_
        refine Zn_icmp_eq (tgt := 21) d_mo_isBelow_8 (by decide) (by omega) (by omega) (fun h8 => ?_) (fun h8 => ?_)
        · skip
          refine Z_iload_n d_mo_isBelow_21 rfl ?_
          refine Z_iload_n d_mo_isBelow_22 rfl ?_
          refine Zn_icmp_ne (tgt := 30) d_mo_isBelow_23 (by decide) (by omega) (by omega) (fun h23 => ?_) (fun h23 => ?_)
          · skip
            exact absurd h8 h23 -- end
          · skip
            skip
            refine Zn_iconst (nI 1) d_mo_isBelow_26 (by decide) ?_
            refine Z_goto (tgt := 31) d_mo_isBelow_27 (by decide) ?_
            refine Z_zret d_mo_isBelow_31 rfl rfl ?_
            rw [if_pos (show q = a from h8)] at hQ
            exact hQ
        · skip
          refine Z_aload_n d_mo_isBelow_11 rfl ?_
          refine Z_get (v := .ref 134) d_mo_isBelow_12 lf_mo_40 hF.1 rfl ?_
          refine Z_iload_n d_mo_isBelow_15 rfl ?_
          refine Zn_iald d_mo_isBelow_16 hF.a10 (by omega) (by omega) ?_
          refine Zn_istore_n [some (.ref 123), some (.int (nI v)), some (.int (nI a)), some (.int (mI (G 10 q)))] d_mo_isBelow_17 (by decide) rfl ?_
          refine Z_goto (tgt := 2) d_mo_isBelow_18 (by decide) ?_
          rw [if_neg (show ¬ q = a from h8)] at hQ
          exact ih g (G 10 q) (by omega) hx2 Q hQ
set_option maxHeartbeats 4000000 in
theorem mo_isBelow_ok {Γ : zCtx} {M : List zE} (d : Nat) {M0 : List zE} {s : Nat → Nat} {G : Nat → Nat → Nat} (hF : FW M0 M s G) (h160 : s 2 ≤ 160) {v a : Nat} (ha : a < 1000) (hv : chk (G 10) (s 2) 3 (v + 1)) : ZM Γ (d + 1) m_mo_isBelow [.ref 123, .int (nI v), .int (nI a)] M (zEq M (some (.int (nI (if blw (G 10) a 3 (v + 1) = true then 1 else 0))))) := by
  refine ZM.of mk_mo_isBelow (Nat.le_of_ble_eq_true rfl) ?_
  rw [show zEn [.ref 123, .int (nI v), .int (nI a)] = [some (.ref 123), some (.int (nI v)), some (.int (nI a))] from rfl]
  refine zPad 1 ?_
  show Z _ _ _ _ _ _ _ [some (.ref 123), some (.int (nI v)), some (.int (nI a)), none] _ _
  refine Z_iload_n d_mo_isBelow_0 rfl ?_
  refine Zn_istore_n [some (.ref 123), some (.int (nI v)), some (.int (nI a)), some (.int (nI v))] d_mo_isBelow_1 (by decide) rfl ?_
  exact mo_isBelow_loop d hF h160 ha 4 3 (v + 1) (by omega) hv _ ⟨rfl, rfl⟩
def rpV (G : Nat → Nat → Nat) (a v : Nat) : Nat := if G 16 v ≠ 0 then 1 else if G 17 v ≠ 0 then (if blw (G 10) a 3 (v + 1) = true then 1 else 0) else 0
def rpI (G G1 : Nat → Nat → Nat) (a i : Nat) : Prop := (∀ k, k ≠ 16 → G1 k = G k) ∧ (∀ v, v < i → G1 16 v = rpV G a v) ∧ ∀ v, i ≤ v → G1 16 v = G 16 v
theorem rpI.step {G G1 : Nat → Nat → Nat} {a i x : Nat} (h : rpI G G1 a i) (hx : rpV G a i = x) : rpI G (gup G1 16 i x) a (i + 1) := by
  obtain ⟨h1, h2, h3⟩ := h
  refine ⟨fun k hk => by rw [gup_n hk, h1 k hk], fun v hv => ?_, fun v hv => ?_⟩
  · rw [gup_s]
    by_cases hvi : v = i
    · subst hvi; rw [nup_s, hx]
    · rw [nup_n hvi, h2 v (by omega)]
  · rw [gup_s, nup_n (by omega), h3 v (by omega)]
set_option maxHeartbeats 4000000 in
theorem mo_repeal_loop {Γ : zCtx} (d : Nat) {M0 : List zE} {s : Nat → Nat} {G : Nat → Nat → Nat} (hB : nB (s 2) G) (hC : ∀ v, v < s 2 → G 17 v ≠ 0 → chk (G 10) (s 2) 3 (v + 1)) (h160 : s 2 ≤ 160) {a : Nat} (ha : a < 1000) : ∀ (f : Nat) (i : Nat) (M : List zE) (G1 : Nat → Nat → Nat), i ≤ s 2 → s 2 < i + f → FW M0 M s G1 → rpI G G1 a i → ∀ Q : List zE → Option Value → Prop, (∀ M1 G2, FW M0 M1 s G2 → rpI G G2 a (s 2) → Q M1 none) → Z Γ (zRm (d + 2) m_mo_repeal) m_mo_repeal (zPh Γ m_mo_repeal Q) 0 0 2 [some (.ref 123), some (.int (nI a)), some (.int (nI i))] [] M := by
  intro f
  induction f with
  | zero => intro i M G1 hi hf; exact absurd hf (by omega)
  | succ f ih =>
    intro i M G1 hi hf hF hr Q hQ
    refine Z_iload_n d_mo_repeal_2 rfl ?_
    refine Z_aload_n d_mo_repeal_3 rfl ?_
    refine Z_get (v := .int (nI (s 2))) d_mo_repeal_4 lf_mo_144 hF.1 rfl ?_
    skip
    refine Zn_icmp_ge (tgt := 54) d_mo_repeal_7 (by decide) (by omega) (by omega) (fun h7 => ?_) (fun h7 => ?_)
    · skip
      obtain rfl : i = s 2 := by omega
      refine Z_vret d_mo_repeal_54 rfl ?_
      exact hQ _ G1 hF hr
    · skip
      refine Z_aload_n d_mo_repeal_10 rfl ?_
      refine Z_get (v := .ref 140) d_mo_repeal_11 lf_mo_58 hF.1 rfl ?_
      refine Z_iload_n d_mo_repeal_14 rfl ?_
      have hbi := hB.2 i (by omega)
      have e16 := hr.2.2 i (by omega)
      have e17 : G1 17 i = G 17 i := by rw [hr.1 17 (by decide)]
      refine Z_aload_n d_mo_repeal_15 rfl ?_
      refine Z_get (v := .ref 140) d_mo_repeal_16 lf_mo_58 hF.1 rfl ?_
      refine Z_iload_n d_mo_repeal_19 rfl ?_
      refine Zn_zald d_mo_repeal_20 hF.a16 (by omega) (by omega) ?_
      refine Zn_if_ne (tgt := 42) d_mo_repeal_21 (by decide) (by omega) (fun h21 => ?_) (fun h21 => ?_)
      · skip
        refine Zn_iconst (nI 1) d_mo_repeal_42 (by decide) ?_
        refine Z_goto (tgt := 47) d_mo_repeal_43 (by decide) ?_
        refine Zn_zast (x := nI 1) d_mo_repeal_47 hF.a16 (by omega) (by omega) (by first | exact Or.inl rfl | exact Or.inr rfl) ?_
        replace hF := hF.p16 i 1
        refine Zn_iinc [some (.ref 123), some (.int (nI a)), some (.int (nI (i + 1)))] (nI (i + 1)) d_mo_repeal_48 rfl (by decide) (nI_add i 1) rfl ?_
        refine Z_goto (tgt := 2) d_mo_repeal_51 (by decide) ?_
        exact ih (i + 1) _ _ (by omega) (by omega) hF (hr.step (by unfold rpV; first | (rw [if_pos (by omega)]; done) | (rw [if_neg (by omega), if_neg (by omega)]; done) | (rw [if_neg (by omega), if_pos (by omega), if_pos t39]; done) | (rw [if_neg (by omega), if_pos (by omega), if_neg (fun z => absurd (t39.symm.trans z) (by decide))]; done))) Q hQ
      · skip
        refine Z_aload_n d_mo_repeal_24 rfl ?_
        refine Z_get (v := .ref 141) d_mo_repeal_25 lf_mo_62 hF.1 rfl ?_
        refine Z_iload_n d_mo_repeal_28 rfl ?_
        refine Zn_zald d_mo_repeal_29 hF.a17 (by omega) (by omega) ?_
        refine Zn_if_eq (tgt := 46) d_mo_repeal_30 (by decide) (by omega) (fun h30 => ?_) (fun h30 => ?_)
        · skip
          refine Zn_iconst (nI 0) d_mo_repeal_46 (by decide) ?_
          refine Zn_zast (x := nI 0) d_mo_repeal_47 hF.a16 (by omega) (by omega) (by first | exact Or.inl rfl | exact Or.inr rfl) ?_
          replace hF := hF.p16 i 0
          refine Zn_iinc [some (.ref 123), some (.int (nI a)), some (.int (nI (i + 1)))] (nI (i + 1)) d_mo_repeal_48 rfl (by decide) (nI_add i 1) rfl ?_
          refine Z_goto (tgt := 2) d_mo_repeal_51 (by decide) ?_
          exact ih (i + 1) _ _ (by omega) (by omega) hF (hr.step (by unfold rpV; first | (rw [if_pos (by omega)]; done) | (rw [if_neg (by omega), if_neg (by omega)]; done) | (rw [if_neg (by omega), if_pos (by omega), if_pos t39]; done) | (rw [if_neg (by omega), if_pos (by omega), if_neg (fun z => absurd (t39.symm.trans z) (by decide))]; done))) Q hQ
        · skip
          refine Z_aload_n d_mo_repeal_33 rfl ?_
          refine Z_iload_n d_mo_repeal_34 rfl ?_
          refine Z_iload_n d_mo_repeal_35 rfl ?_
          refine zVe (As := [.int (nI i), .int (nI a)]) (by omega) d_mo_repeal_36 lm_mo_282 hF.1 rfl rfl (Nat.le_of_ble_eq_true rfl) (mo_isBelow_ok (d + 0) hF h160 (by omega) (by rw [hr.1 10 (by decide)]; exact hC i (by omega) (by omega))) ?_
          rw [hr.1 10 (by decide)]
          have hle := b10_lt (x := blw (G 10) a 3 (i + 1))
          refine Zn_if_eq (tgt := 46) d_mo_repeal_39 (by decide) (by omega) (fun h39 => ?_) (fun h39 => ?_)
          · skip
            have t39 := b10_f h39
            refine Zn_iconst (nI 0) d_mo_repeal_46 (by decide) ?_
            refine Zn_zast (x := nI 0) d_mo_repeal_47 hF.a16 (by omega) (by omega) (by first | exact Or.inl rfl | exact Or.inr rfl) ?_
            replace hF := hF.p16 i 0
            refine Zn_iinc [some (.ref 123), some (.int (nI a)), some (.int (nI (i + 1)))] (nI (i + 1)) d_mo_repeal_48 rfl (by decide) (nI_add i 1) rfl ?_
            refine Z_goto (tgt := 2) d_mo_repeal_51 (by decide) ?_
            exact ih (i + 1) _ _ (by omega) (by omega) hF (hr.step (by unfold rpV; first | (rw [if_pos (by omega)]; done) | (rw [if_neg (by omega), if_neg (by omega)]; done) | (rw [if_neg (by omega), if_pos (by omega), if_pos t39]; done) | (rw [if_neg (by omega), if_pos (by omega), if_neg (fun z => absurd (t39.symm.trans z) (by decide))]; done))) Q hQ
          · skip
            have t39 := b10_t h39
            refine Zn_iconst (nI 1) d_mo_repeal_42 (by decide) ?_
            refine Z_goto (tgt := 47) d_mo_repeal_43 (by decide) ?_
            refine Zn_zast (x := nI 1) d_mo_repeal_47 hF.a16 (by omega) (by omega) (by first | exact Or.inl rfl | exact Or.inr rfl) ?_
            replace hF := hF.p16 i 1
            refine Zn_iinc [some (.ref 123), some (.int (nI a)), some (.int (nI (i + 1)))] (nI (i + 1)) d_mo_repeal_48 rfl (by decide) (nI_add i 1) rfl ?_
            refine Z_goto (tgt := 2) d_mo_repeal_51 (by decide) ?_
            exact ih (i + 1) _ _ (by omega) (by omega) hF (hr.step (by unfold rpV; first | (rw [if_pos (by omega)]; done) | (rw [if_neg (by omega), if_neg (by omega)]; done) | (rw [if_neg (by omega), if_pos (by omega), if_pos t39]; done) | (rw [if_neg (by omega), if_pos (by omega), if_neg (fun z => absurd (t39.symm.trans z) (by decide))]; done))) Q hQ
set_option maxHeartbeats 4000000 in
theorem mo_repeal_ok {Γ : zCtx} {M : List zE} (d : Nat) {M0 : List zE} {s : Nat → Nat} {G : Nat → Nat → Nat} (hF : FW M0 M s G) (hB : nB (s 2) G) (hC : ∀ v, v < s 2 → G 17 v ≠ 0 → chk (G 10) (s 2) 3 (v + 1)) {a : Nat} (ha : a < 1000) : ZM Γ (d + 2) m_mo_repeal [.ref 123, .int (nI a)] M (fun M1 v => v = none ∧ ∃ G', FW M0 M1 s G' ∧ rpI G G' a (s 2)) := by
  refine ZM.of mk_mo_repeal (Nat.le_of_ble_eq_true rfl) ?_
  rw [show zEn [.ref 123, .int (nI a)] = [some (.ref 123), some (.int (nI a))] from rfl]
  refine zPad 1 ?_
  show Z _ _ _ _ _ _ _ [some (.ref 123), some (.int (nI a)), none] _ _
  refine Zn_iconst (nI 0) d_mo_repeal_0 (by decide) ?_
  refine Zn_istore_n [some (.ref 123), some (.int (nI a)), some (.int (nI 0))] d_mo_repeal_1 (by decide) rfl ?_
  exact mo_repeal_loop d hB hC hB.1 ha (s 2 + 1) 0 _ G (by omega) (by omega) hF ⟨fun _ _ => rfl, fun v hv => absurd hv (by omega), fun _ _ => rfl⟩ _ (fun M1 G2 a1 a2 => ⟨rfl, G2, a1, a2⟩)
def cnt (p : Nat → Nat) : Nat → Nat
  | 0 => 0
  | i + 1 => cnt p i + (if p i ≠ 0 then 1 else 0)
theorem cnt_same {p q : Nat → Nat} : ∀ n, (∀ v, v < n → q v = p v) → cnt q n = cnt p n
  | 0, _ => rfl
  | n + 1, h => by unfold cnt; rw [cnt_same n (fun v hv => h v (by omega)), h n (by omega)]
theorem cnt_set {p : Nat → Nat} {k : Nat} (hk : p k ≠ 0) : ∀ n, k < n → cnt (nup p k 0) n + 1 = cnt p n
  | 0, h => by omega
  | n + 1, h => by
    unfold cnt
    by_cases hkn : k = n
    · subst hkn
      rw [nup_s, if_neg (by omega), if_pos hk, cnt_same k (fun v hv => nup_n (by omega))]
    · rw [nup_n (fun z => hkn z.symm)]
      have := cnt_set hk n (by omega)
      omega
def rmV (P p : Nat → Nat) (N a v : Nat) : Nat := if v < N then (if p v ≠ 0 then (if blw P a 3 (v + 1) = true then 0 else p v) else p v) else p v
def rmI (s s1 : Nat → Nat) (G G1 : Nat → Nat → Nat) (a i : Nat) : Prop := (∀ k, k ≠ 17 → G1 k = G k) ∧ (∀ v, v < i → G1 17 v = rmV (G 10) (G 17) (s 2) a v) ∧ (∀ v, i ≤ v → G1 17 v = G 17 v) ∧ (∀ j, j ≠ 3 → s1 j = s j) ∧ s1 3 = cnt (G1 17) (s 2)
theorem rmI.no {s s1 : Nat → Nat} {G G1 : Nat → Nat → Nat} {a i : Nat} (h : rmI s s1 G G1 a i) (hx : rmV (G 10) (G 17) (s 2) a i = G 17 i) : rmI s s1 G G1 a (i + 1) := by
  obtain ⟨h1, h2, h3, h4, h5⟩ := h
  refine ⟨h1, fun v hv => ?_, fun v hv => h3 v (by omega), h4, h5⟩
  by_cases hvi : v = i
  · subst hvi; rw [h3 v (by omega), hx]
  · exact h2 v (by omega)
theorem rmI.yes {s s1 : Nat → Nat} {G G1 : Nat → Nat → Nat} {a i : Nat} (h : rmI s s1 G G1 a i) (hi : i < s 2) (hp : G 17 i ≠ 0) (hx : rmV (G 10) (G 17) (s 2) a i = 0) : rmI s (nup s1 3 (s1 3 - 1)) G (gup G1 17 i 0) a (i + 1) := by
  obtain ⟨h1, h2, h3, h4, h5⟩ := h
  refine ⟨fun k hk => by rw [gup_n hk, h1 k hk], fun v hv => ?_, fun v hv => ?_, fun j hj => by rw [nup_n hj, h4 j hj], ?_⟩
  · rw [gup_s]
    by_cases hvi : v = i
    · subst hvi; rw [nup_s, hx]
    · rw [nup_n hvi, h2 v (by omega)]
  · rw [gup_s, nup_n (by omega), h3 v (by omega)]
  · rw [nup_s, gup_s]
    have := cnt_set (p := G1 17) (k := i) (by rw [h3 i (by omega)]; exact hp) (s 2) hi
    omega
set_option maxHeartbeats 4000000 in
theorem mo_remove_loop {Γ : zCtx} (d : Nat) {M0 : List zE} {s : Nat → Nat} {G : Nat → Nat → Nat} (hB : nB (s 2) G) (hC : ∀ v, v < s 2 → G 17 v ≠ 0 → chk (G 10) (s 2) 3 (v + 1)) (h160 : s 2 ≤ 160) {a : Nat} (ha : a < 1000) : ∀ (f : Nat) (i : Nat) (M : List zE) (s1 : Nat → Nat) (G1 : Nat → Nat → Nat), i ≤ s 2 → s 2 < i + f → FW M0 M s1 G1 → rmI s s1 G G1 a i → ∀ Q : List zE → Option Value → Prop, (∀ M1 s2 G2, FW M0 M1 s2 G2 → rmI s s2 G G2 a (s 2) → Q M1 none) → Z Γ (zRm (d + 2) m_mo_remove) m_mo_remove (zPh Γ m_mo_remove Q) 0 0 2 [some (.ref 123), some (.int (nI a)), some (.int (nI i))] [] M := by
  intro f
  induction f with
  | zero => intro i M s1 G1 hi hf; exact absurd hf (by omega)
  | succ f ih =>
    intro i M s1 G1 hi hf hF hr Q hQ
    refine Z_iload_n d_mo_remove_2 rfl ?_
    refine Z_aload_n d_mo_remove_3 rfl ?_
    refine Z_get (v := .int (nI (s1 2))) d_mo_remove_4 lf_mo_144 hF.1 rfl ?_
    have e2 : s1 2 = s 2 := hr.2.2.2.1 2 (by decide)
    refine Zn_icmp_ge (tgt := 51) d_mo_remove_7 (by decide) (by omega) (by omega) (fun h7 => ?_) (fun h7 => ?_)
    · skip
      obtain rfl : i = s 2 := by omega
      refine Z_vret d_mo_remove_51 rfl ?_
      exact hQ _ s1 G1 hF hr
    · skip
      have hbi := hB.2 i (by omega)
      have e17 := hr.2.2.1 i (by omega)
      refine Z_aload_n d_mo_remove_10 rfl ?_
      refine Z_get (v := .ref 141) d_mo_remove_11 lf_mo_62 hF.1 rfl ?_
      refine Z_iload_n d_mo_remove_14 rfl ?_
      refine Zn_zald d_mo_remove_15 hF.a17 (by omega) (by omega) ?_
      refine Zn_if_eq (tgt := 45) d_mo_remove_16 (by decide) (by omega) (fun h16 => ?_) (fun h16 => ?_)
      · skip
        refine Zn_iinc [some (.ref 123), some (.int (nI a)), some (.int (nI (i + 1)))] (nI (i + 1)) d_mo_remove_45 rfl (by decide) (nI_add i 1) rfl ?_
        refine Z_goto (tgt := 2) d_mo_remove_48 (by decide) ?_
        exact ih (i + 1) _ _ _ (by omega) (by omega) hF (hr.no (by unfold rmV; first | (rw [if_pos (by omega), if_neg (by omega)]; done) | (rw [if_pos (by omega), if_pos (by omega), if_neg (fun z => absurd (t25.symm.trans z) (by decide))]; done))) Q hQ
      · skip
        refine Z_aload_n d_mo_remove_19 rfl ?_
        refine Z_iload_n d_mo_remove_20 rfl ?_
        refine Z_iload_n d_mo_remove_21 rfl ?_
        refine zVe (As := [.int (nI i), .int (nI a)]) (by omega) d_mo_remove_22 lm_mo_282 hF.1 rfl rfl (Nat.le_of_ble_eq_true rfl) (mo_isBelow_ok (d + 0) hF (by rw [e2]; exact h160) (by omega) (by rw [hr.1 10 (by decide), e2]; exact hC i (by omega) (by omega))) ?_
        rw [hr.1 10 (by decide)]
        have hle := b10_lt (x := blw (G 10) a 3 (i + 1))
        refine Zn_if_eq (tgt := 45) d_mo_remove_25 (by decide) (by omega) (fun h25 => ?_) (fun h25 => ?_)
        · skip
          have t25 := b10_f h25
          refine Zn_iinc [some (.ref 123), some (.int (nI a)), some (.int (nI (i + 1)))] (nI (i + 1)) d_mo_remove_45 rfl (by decide) (nI_add i 1) rfl ?_
          refine Z_goto (tgt := 2) d_mo_remove_48 (by decide) ?_
          exact ih (i + 1) _ _ _ (by omega) (by omega) hF (hr.no (by unfold rmV; first | (rw [if_pos (by omega), if_neg (by omega)]; done) | (rw [if_pos (by omega), if_pos (by omega), if_neg (fun z => absurd (t25.symm.trans z) (by decide))]; done))) Q hQ
        · skip
          have t25 := b10_t h25
          refine Z_aload_n d_mo_remove_28 rfl ?_
          refine Z_get (v := .ref 141) d_mo_remove_29 lf_mo_62 hF.1 rfl ?_
          refine Z_iload_n d_mo_remove_32 rfl ?_
          refine Zn_iconst (nI 0) d_mo_remove_33 (by decide) ?_
          refine Zn_zast (x := nI 0) d_mo_remove_34 hF.a17 (by omega) (by omega) (by first | exact Or.inl rfl | exact Or.inr rfl) ?_
          replace hF := hF.p17 i 0
          refine Z_aload_n d_mo_remove_35 rfl ?_
          refine Z_dup d_mo_remove_36 rfl ?_
          refine Z_get (v := .int (nI (s1 3))) d_mo_remove_37 lf_mo_148 hF.1 rfl ?_
          refine Zn_iconst (nI 1) d_mo_remove_40 (by decide) ?_
          have hcn := cnt_set (p := G1 17) (k := i) (by omega) (s 2) (by omega)
          have hc3 := hr.2.2.2.2
          refine Zn_isub d_mo_remove_41 (by omega) ?_
          refine Z_puti d_mo_remove_42 lf_mo_148 hF.1 rfl rfl (Nat.le_of_ble_eq_true rfl) ?_
          replace hF := hF.u3 ((s1 3) - 1)
          refine Zn_iinc [some (.ref 123), some (.int (nI a)), some (.int (nI (i + 1)))] (nI (i + 1)) d_mo_remove_45 rfl (by decide) (nI_add i 1) rfl ?_
          refine Z_goto (tgt := 2) d_mo_remove_48 (by decide) ?_
          exact ih (i + 1) _ _ _ (by omega) (by omega) hF (hr.yes (by omega) (by omega) (by unfold rmV; rw [if_pos (by omega), if_pos (by omega), if_pos t25])) Q hQ
set_option maxHeartbeats 4000000 in
theorem mo_remove_ok {Γ : zCtx} {M : List zE} (d : Nat) {M0 : List zE} {s : Nat → Nat} {G : Nat → Nat → Nat} (hF : FW M0 M s G) (hB : nB (s 2) G) (hC : ∀ v, v < s 2 → G 17 v ≠ 0 → chk (G 10) (s 2) 3 (v + 1)) (hcn : s 3 = cnt (G 17) (s 2)) {a : Nat} (ha : a < 1000) : ZM Γ (d + 2) m_mo_remove [.ref 123, .int (nI a)] M (fun M1 v => v = none ∧ ∃ s' G', FW M0 M1 s' G' ∧ rmI s s' G G' a (s 2)) := by
  refine ZM.of mk_mo_remove (Nat.le_of_ble_eq_true rfl) ?_
  rw [show zEn [.ref 123, .int (nI a)] = [some (.ref 123), some (.int (nI a))] from rfl]
  refine zPad 1 ?_
  show Z _ _ _ _ _ _ _ [some (.ref 123), some (.int (nI a)), none] _ _
  refine Zn_iconst (nI 0) d_mo_remove_0 (by decide) ?_
  refine Zn_istore_n [some (.ref 123), some (.int (nI a)), some (.int (nI 0))] d_mo_remove_1 (by decide) rfl ?_
  exact mo_remove_loop d hB hC hB.1 ha (s 2 + 1) 0 _ s G (by omega) (by omega) hF ⟨fun _ _ => rfl, fun v hv => absurd hv (by omega), fun _ _ => rfl, fun _ _ => rfl, hcn⟩ _ (fun M1 s2 G2 a1 a2 => ⟨rfl, s2, G2, a1, a2⟩)
