/-! more of Provisions -/
set_option maxHeartbeats 4000000 in
theorem pv_changePath_loop {Γ : zCtx} {M0 : List zE} (d : Nat) {b n : Nat} {e : Nat → zEnt} (hn : n ≤ 60) (hk : ∀ i, i < n → ek (e i) < 2 ^ 63) {k : Nat} (hk9 : k < 2 ^ 63) (hlv : 1 ≤ lev k) {q : Nat} (hq9 : q < 2 ^ 63) (hq0 : q % un (lev k) = 0) : ∀ (f : Nat) (i : Nat) (M : List zE), i ≤ n → n < i + f → PvAt M b n (cpE e k q i) → zFr M0 M b 6 → ∀ Q : List zE → Option Value → Prop, (∀ M1, PvAt M1 b n (cpE e k q n) → zFr M0 M1 b 6 → Q M1 none) → Z Γ (zRm (d + 2) m_pv_changePath) m_pv_changePath (zPh Γ m_pv_changePath Q) 0 0 9 [some (.ref b), some (.long (lN k)), none, some (.long (lN q)), none, some (.int (nI (lev k))), some (.int (nI i))] [] M := by
  intro f
  induction f with
  | zero => intro i M hi hf; exact absurd hf (by omega)
  | succ f ih =>
    intro i M hi hf hP hF Q hQ
    obtain ⟨h0, h1, h2, h3, h4, h5⟩ := id hP
    have hl3 := lev_le k
    have hkk := hk i
    refine Z_iload d_pv_changePath_9 rfl ?_
    refine Z_aload_n d_pv_changePath_11 rfl ?_
    refine Z_get d_pv_changePath_12 lf_pv_29 (by assumption) rfl ?_
    refine Zn_icmp_ge (tgt := 61) d_pv_changePath_15 (by decide) (by omega) (by omega) (fun h15 => ?_) (fun h15 => ?_)
    · skip
      have hi : i = n := by omega
      subst hi
      refine Z_vret d_pv_changePath_61 rfl ?_
      exact hQ M hP hF
    · skip
      refine Z_aload_n d_pv_changePath_18 rfl ?_
      refine Z_get d_pv_changePath_19 lf_pv_9 (by assumption) rfl ?_
      refine Z_iload d_pv_changePath_22 rfl ?_
      refine Zn_lald d_pv_changePath_24 (by assumption) (by omega) (by omega) ?_
      rw [cp_self]
      refine Z_lload_n d_pv_changePath_25 rfl ?_
      refine Z_iload d_pv_changePath_26 rfl ?_
      refine zTe (As := [.long (lN (ek (e i))), .long (lN k), .int (nI (lev k))]) (by omega) d_pv_changePath_28 lm_pv_69 rfl (Nat.le_of_ble_eq_true rfl) (pa_isWithin_ok d (hk i (by omega)) hk9 (by omega) (by omega)) ?_
      have hle : (if ek (e i) / un (lev k) = k / un (lev k) then 1 else 0) < 2147483648 := by split <;> decide
      refine Zn_if_eq (tgt := 55) d_pv_changePath_31 (by decide) (by omega) (fun h31 => ?_) (fun h31 => ?_)
      · skip
        have hw : ¬ ek (e i) / un (lev k) = k / un (lev k) := fun z => by rw [if_pos z] at h31; exact absurd h31 (by decide)
        refine Zn_iinc [some (.ref b), some (.long (lN k)), none, some (.long (lN q)), none, some (.int (nI (lev k))), some (.int (nI (i + 1)))] (nI (i + 1)) d_pv_changePath_55 rfl (by decide) (nI_add i 1) rfl ?_
        refine Z_goto (tgt := 9) d_pv_changePath_58 (by decide) ?_
        exact ih (i + 1) _ (by omega) (by omega) (hP.ext (cp_skip hw)) hF Q hQ
      · skip
        have hw : ek (e i) / un (lev k) = k / un (lev k) := by
          rcases Nat.decEq (ek (e i) / un (lev k)) (k / un (lev k)) with z | z
          · rw [if_neg z] at h31; exact absurd rfl h31
          · exact z
        refine Z_aload_n d_pv_changePath_34 rfl ?_
        refine Z_get d_pv_changePath_35 lf_pv_9 (by assumption) rfl ?_
        refine Z_iload d_pv_changePath_38 rfl ?_
        refine Z_lload_n d_pv_changePath_40 rfl ?_
        refine Z_aload_n d_pv_changePath_41 rfl ?_
        refine Z_get d_pv_changePath_42 lf_pv_9 (by assumption) rfl ?_
        refine Z_iload d_pv_changePath_45 rfl ?_
        refine Zn_lald d_pv_changePath_47 (by assumption) (by omega) (by omega) ?_
        rw [cp_self]
        refine Z_iload d_pv_changePath_48 rfl ?_
        refine zTe (As := [.long (lN (ek (e i))), .int (nI (lev k))]) (by omega) d_pv_changePath_50 lm_pv_73 rfl (Nat.le_of_ble_eq_true rfl) (pa_tailBelow_ok d (hk i (by omega)) (by omega) (by omega)) ?_
        refine Z_lor d_pv_changePath_53 ?_
        rw [zb_or (s := (3 - lev k) * 21) (b := ek (e i) % un (lev k)) hq9 hq0 (Nat.mod_lt _ (un_pos _)) (by omega)]
        refine Zn_last d_pv_changePath_54 (by assumption) (by omega) (by omega) ?_
        obtain ⟨e_1, he_1⟩ : ∃ x, x = eup (cpE e k q i) i (sK ((cpE e k q i) i) (q + ek (e i) % un (lev k))) := ⟨_, rfl⟩
        have hP := hP.putK (j := i) (k := (q + ek (e i) % un (lev k)))
        rw [← he_1] at hP
        obtain ⟨h0, h1, h2, h3, h4, h5⟩ := id hP
        refine Zn_iinc [some (.ref b), some (.long (lN k)), none, some (.long (lN q)), none, some (.int (nI (lev k))), some (.int (nI (i + 1)))] (nI (i + 1)) d_pv_changePath_55 rfl (by decide) (nI_add i 1) rfl ?_
        refine Z_goto (tgt := 9) d_pv_changePath_58 (by decide) ?_
        exact ih (i + 1) _ (by omega) (by omega) (hP.ext (fun j => by rw [he_1]; exact cp_step hw j)) (by (repeat (first | exact hF | exact zFr.rf | refine zFr.set ?_ (by omega) (by omega)))) Q hQ
set_option maxHeartbeats 4000000 in
theorem pv_changePath_ok {Γ : zCtx} {M : List zE} (d : Nat) {b n : Nat} {e : Nat → zEnt} (hP : PvAt M b n e) (hn : n ≤ 60) (hk : ∀ i, i < n → ek (e i) < 2 ^ 63) {k : Nat} (hk9 : k < 2 ^ 63) (hlv : 1 ≤ lev k) {q : Nat} (hq9 : q < 2 ^ 63) (hq0 : q % un (lev k) = 0) : ZM Γ (d + 2) m_pv_changePath [.ref b, .long (lN k), .long (lN q)] M (fun M1 v => v = none ∧ PvAt M1 b n (cpE e k q n) ∧ zFr M M1 b 6) := by
  refine ZM.of mk_pv_changePath (Nat.le_of_ble_eq_true rfl) ?_
  rw [show zEn [.ref b, .long (lN k), .long (lN q)] = [some (.ref b), some (.long (lN k)), none, some (.long (lN q)), none] from rfl]
  refine zPad 2 ?_
  show Z _ _ _ _ _ _ _ [some (.ref b), some (.long (lN k)), none, some (.long (lN q)), none, none, none] _ _
  refine Z_lload_n d_pv_changePath_0 rfl ?_
  refine zTe (As := [.long (lN k)]) (by omega) d_pv_changePath_1 lm_pv_43 rfl (Nat.le_of_ble_eq_true rfl) (pa_levelOf_ok d hk9) ?_
  refine Zn_istore [some (.ref b), some (.long (lN k)), none, some (.long (lN q)), none, some (.int (nI (lev k))), none] d_pv_changePath_4 (by decide) rfl ?_
  refine Zn_iconst (nI 0) d_pv_changePath_6 (by decide) ?_
  refine Zn_istore [some (.ref b), some (.long (lN k)), none, some (.long (lN q)), none, some (.int (nI (lev k))), some (.int (nI 0))] d_pv_changePath_7 (by decide) rfl ?_
  exact pv_changePath_loop d hn hk hk9 hlv hq9 hq0 (n + 1) 0 M (by omega) (by omega) (hP.ext (fun j => if_neg (fun q => absurd q.1 (Nat.not_lt_zero j)))) zFr.rf _ (fun M1 a1 a2 => ⟨rfl, a1, a2⟩)
set_option maxHeartbeats 4000000 in
theorem pv_copyFrom_loop {Γ : zCtx} {M0 : List zE} (d : Nat) {b c n2 : Nat} {e e2 : Nat → zEnt} (hn2 : n2 ≤ 60) (hO : ∀ M1, zFr M0 M1 b 6 → PvAt M1 c n2 e2) : ∀ (f : Nat) (i : Nat) (M : List zE), i ≤ n2 → n2 < i + f → PvAt M b n2 (mixE e e2 i) → zFr M0 M b 6 → ∀ Q : List zE → Option Value → Prop, (∀ M1, PvAt M1 b n2 (mixE e e2 n2) → zFr M0 M1 b 6 → Q M1 none) → Z Γ (zRm (d + 1) m_pv_copyFrom) m_pv_copyFrom (zPh Γ m_pv_copyFrom Q) 0 0 15 [some (.ref b), some (.ref c), some (.int (nI i))] [] M := by
  intro f
  induction f with
  | zero => intro i M hi hf; exact absurd hf (by omega)
  | succ f ih =>
    intro i M hi hf hP hF Q hQ
    obtain ⟨h0, h1, h2, h3, h4, h5⟩ := id hP
    refine Z_iload_n d_pv_copyFrom_15 rfl ?_
    refine Z_aload_n d_pv_copyFrom_16 rfl ?_
    refine Z_get d_pv_copyFrom_17 lf_pv_29 (by assumption) rfl ?_
    refine Zn_icmp_ge (tgt := 89) d_pv_copyFrom_20 (by decide) (by omega) (by omega) (fun h20 => ?_) (fun h20 => ?_)
    · skip
      have hi : i = n2 := by omega
      subst hi
      refine Z_vret d_pv_copyFrom_89 rfl ?_
      exact hQ M hP hF
    · skip
      refine Z_aload_n d_pv_copyFrom_23 rfl ?_
      refine Z_get d_pv_copyFrom_24 lf_pv_9 (by assumption) rfl ?_
      refine Z_iload_n d_pv_copyFrom_27 rfl ?_
      refine Z_aload_n d_pv_copyFrom_28 rfl ?_
      refine Z_get d_pv_copyFrom_29 lf_pv_9 ((hO _ (by (repeat (first | exact hF | exact zFr.rf | refine zFr.set ?_ (by omega) (by omega))))).1) rfl ?_
      refine Z_iload_n d_pv_copyFrom_32 rfl ?_
      refine Zn_lald d_pv_copyFrom_33 ((hO _ (by (repeat (first | exact hF | exact zFr.rf | refine zFr.set ?_ (by omega) (by omega))))).2.1) (by omega) (by omega) ?_
      refine Zn_last d_pv_copyFrom_34 (by assumption) (by omega) (by omega) ?_
      obtain ⟨e_1, he_1⟩ : ∃ x, x = eup (mixE e e2 i) i (sK ((mixE e e2 i) i) (ek (e2 i))) := ⟨_, rfl⟩
      have hP := hP.putK (j := i) (k := (ek (e2 i)))
      rw [← he_1] at hP
      obtain ⟨h0, h1, h2, h3, h4, h5⟩ := id hP
      refine Z_aload_n d_pv_copyFrom_35 rfl ?_
      refine Z_get d_pv_copyFrom_36 lf_pv_15 (by assumption) rfl ?_
      refine Z_iload_n d_pv_copyFrom_39 rfl ?_
      refine Z_aload_n d_pv_copyFrom_40 rfl ?_
      refine Z_get d_pv_copyFrom_41 lf_pv_15 ((hO _ (by (repeat (first | exact hF | exact zFr.rf | refine zFr.set ?_ (by omega) (by omega))))).1) rfl ?_
      refine Z_iload_n d_pv_copyFrom_44 rfl ?_
      refine Zn_iald d_pv_copyFrom_45 ((hO _ (by (repeat (first | exact hF | exact zFr.rf | refine zFr.set ?_ (by omega) (by omega))))).2.2.1) (by omega) (by omega) ?_
      refine Zn_iast d_pv_copyFrom_46 (by assumption) (by omega) (by omega) ?_
      obtain ⟨e_2, he_2⟩ : ∃ x, x = eup e_1 i (sT (e_1 i) (et (e2 i))) := ⟨_, rfl⟩
      have hP := hP.putT (j := i) (x := et (e2 i))
      rw [← he_2] at hP
      obtain ⟨h0, h1, h2, h3, h4, h5⟩ := id hP
      refine Z_aload_n d_pv_copyFrom_47 rfl ?_
      refine Z_get d_pv_copyFrom_48 lf_pv_19 (by assumption) rfl ?_
      refine Z_iload_n d_pv_copyFrom_51 rfl ?_
      refine Z_aload_n d_pv_copyFrom_52 rfl ?_
      refine Z_get d_pv_copyFrom_53 lf_pv_19 ((hO _ (by (repeat (first | exact hF | exact zFr.rf | refine zFr.set ?_ (by omega) (by omega))))).1) rfl ?_
      refine Z_iload_n d_pv_copyFrom_56 rfl ?_
      refine Zn_zald d_pv_copyFrom_57 ((hO _ (by (repeat (first | exact hF | exact zFr.rf | refine zFr.set ?_ (by omega) (by omega))))).2.2.2.1) (by omega) (by omega) ?_
      refine Zn_zast d_pv_copyFrom_58 (by assumption) (by omega) (by omega) (bI_01 _) ?_
      obtain ⟨e_3, he_3⟩ : ∃ x, x = eup e_2 i (sR (e_2 i) (er (e2 i))) := ⟨_, rfl⟩
      have hP := hP.putR (j := i) (x := (er (e2 i)))
      rw [← he_3] at hP
      obtain ⟨h0, h1, h2, h3, h4, h5⟩ := id hP
      refine Z_aload_n d_pv_copyFrom_59 rfl ?_
      refine Z_get d_pv_copyFrom_60 lf_pv_23 (by assumption) rfl ?_
      refine Z_iload_n d_pv_copyFrom_63 rfl ?_
      refine Z_aload_n d_pv_copyFrom_64 rfl ?_
      refine Z_get d_pv_copyFrom_65 lf_pv_23 ((hO _ (by (repeat (first | exact hF | exact zFr.rf | refine zFr.set ?_ (by omega) (by omega))))).1) rfl ?_
      refine Z_iload_n d_pv_copyFrom_68 rfl ?_
      refine Zn_iald d_pv_copyFrom_69 ((hO _ (by (repeat (first | exact hF | exact zFr.rf | refine zFr.set ?_ (by omega) (by omega))))).2.2.2.2.1) (by omega) (by omega) ?_
      refine Zn_iast d_pv_copyFrom_70 (by assumption) (by omega) (by omega) ?_
      obtain ⟨e_4, he_4⟩ : ∃ x, x = eup e_3 i (sO (e_3 i) (eo (e2 i))) := ⟨_, rfl⟩
      have hP := hP.putO (j := i) (x := eo (e2 i))
      rw [← he_4] at hP
      obtain ⟨h0, h1, h2, h3, h4, h5⟩ := id hP
      refine Z_aload_n d_pv_copyFrom_71 rfl ?_
      refine Z_get d_pv_copyFrom_72 lf_pv_26 (by assumption) rfl ?_
      refine Z_iload_n d_pv_copyFrom_75 rfl ?_
      refine Z_aload_n d_pv_copyFrom_76 rfl ?_
      refine Z_get d_pv_copyFrom_77 lf_pv_26 ((hO _ (by (repeat (first | exact hF | exact zFr.rf | refine zFr.set ?_ (by omega) (by omega))))).1) rfl ?_
      refine Z_iload_n d_pv_copyFrom_80 rfl ?_
      refine Zn_iald d_pv_copyFrom_81 ((hO _ (by (repeat (first | exact hF | exact zFr.rf | refine zFr.set ?_ (by omega) (by omega))))).2.2.2.2.2) (by omega) (by omega) ?_
      refine Zn_iast d_pv_copyFrom_82 (by assumption) (by omega) (by omega) ?_
      obtain ⟨e_5, he_5⟩ : ∃ x, x = eup e_4 i (sC (e_4 i) (ec (e2 i))) := ⟨_, rfl⟩
      have hP := hP.putC (j := i) (x := ec (e2 i))
      rw [← he_5] at hP
      obtain ⟨h0, h1, h2, h3, h4, h5⟩ := id hP
      refine Zn_iinc [some (.ref b), some (.ref c), some (.int (nI (i + 1)))] (nI (i + 1)) d_pv_copyFrom_83 rfl (by decide) (nI_add i 1) rfl ?_
      refine Z_goto (tgt := 15) d_pv_copyFrom_86 (by decide) ?_
      exact ih (i + 1) _ (by omega) (by omega) (hP.ext (fun j => by rw [mix_step]; exact ecopy_eq he_1 he_2 he_3 he_4 he_5)) (by (repeat (first | exact hF | exact zFr.rf | refine zFr.set ?_ (by omega) (by omega)))) Q hQ
set_option maxHeartbeats 4000000 in
theorem pv_copyFrom_ok {Γ : zCtx} {M : List zE} (d : Nat) {b c n n2 : Nat} {e e2 : Nat → zEnt} (hP : PvAt M b n e) (hO : PvAt M c n2 e2) (hn2 : n2 ≤ 60) (hd : c + 6 ≤ b ∨ b + 6 ≤ c) : ZM Γ (d + 1) m_pv_copyFrom [.ref b, .ref c] M (fun M1 v => v = none ∧ PvAt M1 b n2 (mixE e e2 n2) ∧ zFr M M1 b 6) := by
  refine ZM.of mk_pv_copyFrom (Nat.le_of_ble_eq_true rfl) ?_
  obtain ⟨h0, h1, h2, h3, h4, h5⟩ := id hP
  rw [show zEn [.ref b, .ref c] = [some (.ref b), some (.ref c)] from rfl]
  refine zPad 1 ?_
  show Z _ _ _ _ _ _ _ [some (.ref b), some (.ref c), none] _ _
  refine Z_aload_n d_pv_copyFrom_0 rfl ?_
  refine Z_aload_n d_pv_copyFrom_1 rfl ?_
  refine Z_get d_pv_copyFrom_2 lf_pv_29 hO.1 rfl ?_
  refine Zn_bipush (nI 60) d_pv_copyFrom_5 (by decide) ?_
  refine zMin (by omega) d_pv_copyFrom_7 lmm_pv_33 (Nat.le_of_ble_eq_true rfl) ?_
  rw [zn_min (by omega) (by omega), Nat.min_eq_left (by omega)]
  refine Z_puti d_pv_copyFrom_10 lf_pv_29 (by assumption) rfl rfl (Nat.le_of_ble_eq_true rfl) ?_
  have hP := hP.putN (n' := n2)
  refine Zn_iconst (nI 0) d_pv_copyFrom_13 (by decide) ?_
  refine Zn_istore_n [some (.ref b), some (.ref c), some (.int (nI 0))] d_pv_copyFrom_14 (by decide) rfl ?_
  exact pv_copyFrom_loop (e := e) d hn2 (fun M1 hf => hO.fr hf hd) (n2 + 1) 0 _ (by omega) (by omega) (hP.ext (fun j => if_neg (Nat.not_lt_zero j))) (zFr.rf.set (by omega) (by omega)) _ (fun M1 a1 a2 => ⟨rfl, a1, a2⟩)
def dif (x y : zEnt) : Bool := !(decide (ek x = ek y) && decide (et x = et y) && decide (er x = er y))
set_option maxHeartbeats 4000000 in
theorem pv_differsAt_ok {Γ : zCtx} {M : List zE} (d : Nat) {b c n n2 : Nat} {e e2 : Nat → zEnt} (hP : PvAt M b n e) (hO : PvAt M c n2 e2) (hn : n ≤ 60) (hn2 : n2 ≤ 60) (hk : ∀ i, i < n → ek (e i) < 2 ^ 63) (hk2 : ∀ i, i < n2 → ek (e2 i) < 2 ^ 63) {i : Nat} (hi : i < n) (hi2 : i < n2) : ZM Γ (d + 1) m_pv_differsAt [.ref b, .int (nI i), .ref c] M (zEq M (some (.int (nI (if dif (e i) (e2 i) then 1 else 0))))) := by
  refine ZM.of mk_pv_differsAt (Nat.le_of_ble_eq_true rfl) ?_
  obtain ⟨h0, h1, h2, h3, h4, h5⟩ := id hP
  refine Z_aload_n d_pv_differsAt_0 rfl ?_
  refine Z_get d_pv_differsAt_1 lf_pv_9 (by assumption) rfl ?_
  refine Z_iload_n d_pv_differsAt_4 rfl ?_
  refine Zn_lald d_pv_differsAt_5 (by assumption) (by omega) (by omega) ?_
  refine Z_aload_n d_pv_differsAt_6 rfl ?_
  refine Z_get d_pv_differsAt_7 lf_pv_9 hO.1 rfl ?_
  refine Z_iload_n d_pv_differsAt_10 rfl ?_
  refine Zn_lald d_pv_differsAt_11 hO.2.1 (by omega) (by omega) ?_
  refine Z_lcmp d_pv_differsAt_12 ?_
  refine Z_if_ne (tgt := 46) d_pv_differsAt_13 (by decide) (fun h13 => ?_) (fun h13 => ?_)
  · skip
    have hx : dif (e i) (e2 i) = true := by
      have z : ¬ ek (e i) = ek (e2 i) := fun z => h13 ((zlN (hk i hi) (hk2 i hi2)).mpr z)
      simp [dif, z]
    refine Zn_iconst (nI 1) d_pv_differsAt_46 (by decide) ?_
    refine Z_goto (tgt := 51) d_pv_differsAt_47 (by decide) ?_
    refine Z_zret d_pv_differsAt_51 rfl rfl ?_
    exact ⟨rfl, by rw [hx]; rfl⟩
  · skip
    have h13 := (zlN (hk i hi) (hk2 i hi2)).mp h13
    refine Z_aload_n d_pv_differsAt_16 rfl ?_
    refine Z_get d_pv_differsAt_17 lf_pv_15 (by assumption) rfl ?_
    refine Z_iload_n d_pv_differsAt_20 rfl ?_
    refine Zn_iald d_pv_differsAt_21 (by assumption) (by omega) (by omega) ?_
    refine Z_aload_n d_pv_differsAt_22 rfl ?_
    refine Z_get d_pv_differsAt_23 lf_pv_15 hO.1 rfl ?_
    refine Z_iload_n d_pv_differsAt_26 rfl ?_
    refine Zn_iald d_pv_differsAt_27 hO.2.2.1 (by omega) (by omega) ?_
    refine Z_icmp_ne (tgt := 46) d_pv_differsAt_28 (by decide) (fun h28 => ?_) (fun h28 => ?_)
    · skip
      have hx : dif (e i) (e2 i) = true := by simp [dif, h28]
      refine Zn_iconst (nI 1) d_pv_differsAt_46 (by decide) ?_
      refine Z_goto (tgt := 51) d_pv_differsAt_47 (by decide) ?_
      refine Z_zret d_pv_differsAt_51 rfl rfl ?_
      exact ⟨rfl, by rw [hx]; rfl⟩
    · skip
      refine Z_aload_n d_pv_differsAt_31 rfl ?_
      refine Z_get d_pv_differsAt_32 lf_pv_19 (by assumption) rfl ?_
      refine Z_iload_n d_pv_differsAt_35 rfl ?_
      refine Zn_zald d_pv_differsAt_36 (by assumption) (by omega) (by omega) ?_
      refine Z_aload_n d_pv_differsAt_37 rfl ?_
      refine Z_get d_pv_differsAt_38 lf_pv_19 hO.1 rfl ?_
      refine Z_iload_n d_pv_differsAt_41 rfl ?_
      refine Zn_zald d_pv_differsAt_42 hO.2.2.2.1 (by omega) (by omega) ?_
      refine Z_icmp_eq (tgt := 50) d_pv_differsAt_43 (by decide) (fun h43 => ?_) (fun h43 => ?_)
      · skip
        have hx : dif (e i) (e2 i) = false := by simp [dif, h13, h28, bI_eq.mp h43]
        refine Zn_iconst (nI 0) d_pv_differsAt_50 (by decide) ?_
        refine Z_zret d_pv_differsAt_51 rfl rfl ?_
        exact ⟨rfl, by rw [hx]; rfl⟩
      · skip
        have hx : dif (e i) (e2 i) = true := by
          have z : ¬ er (e i) = er (e2 i) := fun z => h43 (bI_eq.mpr z)
          simp [dif, z]
        refine Zn_iconst (nI 1) d_pv_differsAt_46 (by decide) ?_
        refine Z_goto (tgt := 51) d_pv_differsAt_47 (by decide) ?_
        refine Z_zret d_pv_differsAt_51 rfl rfl ?_
        exact ⟨rfl, by rw [hx]; rfl⟩
def fdif (n n2 : Nat) (e e2 : Nat → zEnt) : Option Nat := match frst (fun i => dif (e i) (e2 i)) (min n n2) with
  | some i => some i
  | none => if n = n2 then none else some (min n n2)
set_option maxHeartbeats 4000000 in
theorem pv_firstDifferenceFrom_loop {Γ : zCtx} {M : List zE} (d : Nat) {b c n n2 : Nat} {e e2 : Nat → zEnt} (hP : PvAt M b n e) (hO : PvAt M c n2 e2) (hn : n ≤ 60) (hn2 : n2 ≤ 60) (hk : ∀ i, i < n → ek (e i) < 2 ^ 63) (hk2 : ∀ i, i < n2 → ek (e2 i) < 2 ^ 63) : ∀ (f : Nat) (i : Nat), i ≤ min n n2 → min n n2 < i + f → ∀ Q : List zE → Option Value → Prop, frst (fun i => dif (e i) (e2 i)) i = none → Q M (some (.int (oI (fdif n n2 e e2) (-9)))) → Z Γ (zRm (d + 2) m_pv_firstDifferenceFrom) m_pv_firstDifferenceFrom (zPh Γ m_pv_firstDifferenceFrom Q) 0 0 14 [some (.ref b), some (.ref c), some (.int (nI (min n n2))), some (.int (nI i))] [] M := by
  intro f
  induction f with
  | zero => intro i hi hf; exact absurd hf (by omega)
  | succ f ih =>
    intro i hi hf Q hN hQ
    obtain ⟨h0, h1, h2, h3, h4, h5⟩ := id hP
    refine Z_iload_n d_pv_firstDifferenceFrom_14 rfl ?_
    refine Z_iload_n d_pv_firstDifferenceFrom_15 rfl ?_
    refine Zn_icmp_ge (tgt := 36) d_pv_firstDifferenceFrom_16 (by decide) (by omega) (by omega) (fun h16 => ?_) (fun h16 => ?_)
    · skip
      have hi : i = min n n2 := by omega
      subst hi
      refine Z_aload_n d_pv_firstDifferenceFrom_36 rfl ?_
      refine Z_get d_pv_firstDifferenceFrom_37 lf_pv_29 (by assumption) rfl ?_
      refine Z_aload_n d_pv_firstDifferenceFrom_40 rfl ?_
      refine Z_get d_pv_firstDifferenceFrom_41 lf_pv_29 hO.1 rfl ?_
      refine Zn_icmp_ne (tgt := 52) d_pv_firstDifferenceFrom_44 (by decide) (by omega) (by omega) (fun h44 => ?_) (fun h44 => ?_)
      · skip
        refine Z_iload_n d_pv_firstDifferenceFrom_52 rfl ?_
        refine Z_iret d_pv_firstDifferenceFrom_53 rfl ?_
        unfold fdif at hQ
        rw [hN] at hQ
        first | (rw [if_pos (by assumption)] at hQ; exact hQ) | (rw [if_neg (by assumption)] at hQ; exact hQ)
      · skip
        refine Zn_bipush (-9) d_pv_firstDifferenceFrom_47 (by decide) ?_
        refine Z_goto (tgt := 53) d_pv_firstDifferenceFrom_49 (by decide) ?_
        refine Z_iret d_pv_firstDifferenceFrom_53 rfl ?_
        unfold fdif at hQ
        rw [hN] at hQ
        first | (rw [if_pos (by assumption)] at hQ; exact hQ) | (rw [if_neg (by assumption)] at hQ; exact hQ)
    · skip
      refine Z_aload_n d_pv_firstDifferenceFrom_19 rfl ?_
      refine Z_iload_n d_pv_firstDifferenceFrom_20 rfl ?_
      refine Z_aload_n d_pv_firstDifferenceFrom_21 rfl ?_
      refine zVe (As := [.int (nI i), .ref c]) (by omega) d_pv_firstDifferenceFrom_22 lm_pv_85 (by assumption) rfl rfl (Nat.le_of_ble_eq_true rfl) (pv_differsAt_ok d hP hO hn hn2 hk hk2 (i := i) (by omega) (by omega)) ?_
      have hle : (if dif (e i) (e2 i) = true then 1 else 0) < 2147483648 := by split <;> decide
      refine Zn_if_eq (tgt := 30) d_pv_firstDifferenceFrom_25 (by decide) (by omega) (fun h25 => ?_) (fun h25 => ?_)
      · skip
        have hx : dif (e i) (e2 i) = false := by
          cases hh : dif (e i) (e2 i) with
          | false => rfl
          | true => rw [hh] at h25; exact absurd h25 (by decide)
        refine Zn_iinc [some (.ref b), some (.ref c), some (.int (nI (min n n2))), some (.int (nI (i + 1)))] (nI (i + 1)) d_pv_firstDifferenceFrom_30 rfl (by decide) (nI_add i 1) rfl ?_
        refine Z_goto (tgt := 14) d_pv_firstDifferenceFrom_33 (by decide) ?_
        exact ih (i + 1) (by omega) (by omega) Q (frst_next hN hx) hQ
      · skip
        have hx : dif (e i) (e2 i) = true := by
          cases hh : dif (e i) (e2 i) with
          | true => rfl
          | false => rw [hh] at h25; exact absurd rfl h25
        refine Z_iload_n d_pv_firstDifferenceFrom_28 rfl ?_
        refine Z_iret d_pv_firstDifferenceFrom_29 rfl ?_
        unfold fdif at hQ
        rw [frst_at (P := fun i => dif (e i) (e2 i)) (by omega) hN hx] at hQ
        exact hQ
set_option maxHeartbeats 4000000 in
theorem pv_firstDifferenceFrom_ok {Γ : zCtx} {M : List zE} (d : Nat) {b c n n2 : Nat} {e e2 : Nat → zEnt} (hP : PvAt M b n e) (hO : PvAt M c n2 e2) (hn : n ≤ 60) (hn2 : n2 ≤ 60) (hk : ∀ i, i < n → ek (e i) < 2 ^ 63) (hk2 : ∀ i, i < n2 → ek (e2 i) < 2 ^ 63) : ZM Γ (d + 2) m_pv_firstDifferenceFrom [.ref b, .ref c] M (zEq M (some (.int (oI (fdif n n2 e e2) (-9))))) := by
  refine ZM.of mk_pv_firstDifferenceFrom (Nat.le_of_ble_eq_true rfl) ?_
  obtain ⟨h0, h1, h2, h3, h4, h5⟩ := id hP
  rw [show zEn [.ref b, .ref c] = [some (.ref b), some (.ref c)] from rfl]
  refine zPad 2 ?_
  show Z _ _ _ _ _ _ _ [some (.ref b), some (.ref c), none, none] _ _
  refine Z_aload_n d_pv_firstDifferenceFrom_0 rfl ?_
  refine Z_get d_pv_firstDifferenceFrom_1 lf_pv_29 (by assumption) rfl ?_
  refine Z_aload_n d_pv_firstDifferenceFrom_4 rfl ?_
  refine Z_get d_pv_firstDifferenceFrom_5 lf_pv_29 hO.1 rfl ?_
  refine zMin (by omega) d_pv_firstDifferenceFrom_8 lmm_pv_33 (Nat.le_of_ble_eq_true rfl) ?_
  rw [zn_min (by omega) (by omega)]
  refine Zn_istore_n [some (.ref b), some (.ref c), some (.int (nI (min n n2))), none] d_pv_firstDifferenceFrom_11 (by decide) rfl ?_
  refine Zn_iconst (nI 0) d_pv_firstDifferenceFrom_12 (by decide) ?_
  refine Zn_istore_n [some (.ref b), some (.ref c), some (.int (nI (min n n2))), some (.int (nI 0))] d_pv_firstDifferenceFrom_13 (by decide) rfl ?_
  exact pv_firstDifferenceFrom_loop d hP hO hn hn2 hk hk2 (min n n2 + 1) 0 (by omega) (by omega) _ rfl ⟨rfl, rfl⟩
def same (n n2 : Nat) (e e2 : Nat → zEnt) : Bool := (fdif n n2 e e2).isNone && (frst (fun i => decide (eo (e i) ≠ eo (e2 i))) n).isNone
set_option maxHeartbeats 4000000 in
theorem pv_isSameResultAs_loop {Γ : zCtx} {M : List zE} (d : Nat) {b c n n2 : Nat} {e e2 : Nat → zEnt} (hP : PvAt M b n e) (hO : PvAt M c n2 e2) (hn : n ≤ 60) (hn2 : n2 ≤ 60) (hk : ∀ i, i < n → ek (e i) < 2 ^ 63) (hk2 : ∀ i, i < n2 → ek (e2 i) < 2 ^ 63) (hd9 : fdif n n2 e e2 = none) (hnn : n = n2) : ∀ (f : Nat) (i : Nat), i ≤ n → n < i + f → ∀ Q : List zE → Option Value → Prop, frst (fun i => decide (eo (e i) ≠ eo (e2 i))) i = none → Q M (some (.int (nI (if same n n2 e e2 then 1 else 0)))) → Z Γ (zRm (d + 3) m_pv_isSameResultAs) m_pv_isSameResultAs (zPh Γ m_pv_isSameResultAs Q) 0 0 14 [some (.ref b), some (.ref c), some (.int (nI i))] [] M := by
  intro f
  induction f with
  | zero => intro i hi hf; exact absurd hf (by omega)
  | succ f ih =>
    intro i hi hf Q hN hQ
    obtain ⟨h0, h1, h2, h3, h4, h5⟩ := id hP
    refine Z_iload_n d_pv_isSameResultAs_14 rfl ?_
    refine Z_aload_n d_pv_isSameResultAs_15 rfl ?_
    refine Z_get d_pv_isSameResultAs_16 lf_pv_29 (by assumption) rfl ?_
    refine Zn_icmp_ge (tgt := 45) d_pv_isSameResultAs_19 (by decide) (by omega) (by omega) (fun h19 => ?_) (fun h19 => ?_)
    · skip
      have hi : i = n := by omega
      subst hi
      refine Zn_iconst (nI 1) d_pv_isSameResultAs_45 (by decide) ?_
      refine Z_zret d_pv_isSameResultAs_46 rfl rfl ?_
      rw [show same i n2 e e2 = true by unfold same; rw [hN, hd9]; rfl] at hQ
      exact hQ
    · skip
      refine Z_aload_n d_pv_isSameResultAs_22 rfl ?_
      refine Z_get d_pv_isSameResultAs_23 lf_pv_23 (by assumption) rfl ?_
      refine Z_iload_n d_pv_isSameResultAs_26 rfl ?_
      refine Zn_iald d_pv_isSameResultAs_27 (by assumption) (by omega) (by omega) ?_
      refine Z_aload_n d_pv_isSameResultAs_28 rfl ?_
      refine Z_get d_pv_isSameResultAs_29 lf_pv_23 hO.1 rfl ?_
      refine Z_iload_n d_pv_isSameResultAs_32 rfl ?_
      refine Zn_iald d_pv_isSameResultAs_33 hO.2.2.2.2.1 (by omega) (by omega) ?_
      refine Z_icmp_eq (tgt := 39) d_pv_isSameResultAs_34 (by decide) (fun h34 => ?_) (fun h34 => ?_)
      · skip
        have hx : decide (eo (e i) ≠ eo (e2 i)) = false := by simp [h34]
        refine Zn_iinc [some (.ref b), some (.ref c), some (.int (nI (i + 1)))] (nI (i + 1)) d_pv_isSameResultAs_39 rfl (by decide) (nI_add i 1) rfl ?_
        refine Z_goto (tgt := 14) d_pv_isSameResultAs_42 (by decide) ?_
        exact ih (i + 1) (by omega) (by omega) Q (frst_next hN hx) hQ
      · skip
        have hx : decide (eo (e i) ≠ eo (e2 i)) = true := by simp [h34]
        refine Zn_iconst (nI 0) d_pv_isSameResultAs_37 (by decide) ?_
        refine Z_zret d_pv_isSameResultAs_38 rfl rfl ?_
        rw [show same n n2 e e2 = false by unfold same; rw [frst_at (P := fun i => decide (eo (e i) ≠ eo (e2 i))) (by omega) hN hx]; simp] at hQ
        exact hQ
theorem zn_m9 {z : Nat} (hz : z < 2147483648) : ¬ nI z = -9 := by
  intro h
  have h2 := nI_pos hz
  rw [h] at h2
  exact h2 (by decide)
theorem fdif_eq {n n2 : Nat} {e e2 : Nat → zEnt} (h : fdif n n2 e e2 = none) : n = n2 := by
  unfold fdif at h
  split at h
  · cases h
  · by_cases q : n = n2
    · exact q
    · rw [if_neg q] at h; cases h
theorem fdif_le {n n2 z : Nat} {e e2 : Nat → zEnt} (h : fdif n n2 e e2 = some z) : z ≤ min n n2 := by
  unfold fdif at h
  split at h
  · rename_i j hj
    have := (frst_some.mp hj).1
    cases h
    omega
  · by_cases q : n = n2
    · rw [if_pos q] at h; cases h
    · rw [if_neg q] at h; cases h; exact Nat.le_refl _
set_option maxHeartbeats 4000000 in
theorem pv_isSameResultAs_ok {Γ : zCtx} {M : List zE} (d : Nat) {b c n n2 : Nat} {e e2 : Nat → zEnt} (hP : PvAt M b n e) (hO : PvAt M c n2 e2) (hn : n ≤ 60) (hn2 : n2 ≤ 60) (hk : ∀ i, i < n → ek (e i) < 2 ^ 63) (hk2 : ∀ i, i < n2 → ek (e2 i) < 2 ^ 63) : ZM Γ (d + 3) m_pv_isSameResultAs [.ref b, .ref c] M (zEq M (some (.int (nI (if same n n2 e e2 then 1 else 0))))) := by
  refine ZM.of mk_pv_isSameResultAs (Nat.le_of_ble_eq_true rfl) ?_
  obtain ⟨h0, h1, h2, h3, h4, h5⟩ := id hP
  rw [show zEn [.ref b, .ref c] = [some (.ref b), some (.ref c)] from rfl]
  refine zPad 1 ?_
  show Z _ _ _ _ _ _ _ [some (.ref b), some (.ref c), none] _ _
  refine Z_aload_n d_pv_isSameResultAs_0 rfl ?_
  refine Z_aload_n d_pv_isSameResultAs_1 rfl ?_
  refine zVe (As := [.ref c]) (by omega) d_pv_isSameResultAs_2 lm_pv_89 (by assumption) rfl rfl (Nat.le_of_ble_eq_true rfl) (pv_firstDifferenceFrom_ok d hP hO hn hn2 hk hk2) ?_
  rcases hr : fdif n n2 e e2 with _ | z
  · skip
    refine Zn_bipush (-9) d_pv_isSameResultAs_5 (by decide) ?_
    refine Z_icmp_eq (tgt := 12) d_pv_isSameResultAs_7 (by decide) (fun h7 => ?_) (fun h7 => ?_)
    · skip
      refine Zn_iconst (nI 0) d_pv_isSameResultAs_12 (by decide) ?_
      refine Zn_istore_n [some (.ref b), some (.ref c), some (.int (nI 0))] d_pv_isSameResultAs_13 (by decide) rfl ?_
      first | exact pv_isSameResultAs_loop d hP hO hn hn2 hk hk2 hr (fdif_eq hr) (n + 1) 0 (by omega) (by omega) _ rfl ⟨rfl, rfl⟩ | exact absurd h7 (zn_m9 (by omega))
    · skip
      refine Zn_iconst (nI 0) d_pv_isSameResultAs_10 (by decide) ?_
      refine Z_zret d_pv_isSameResultAs_11 rfl rfl ?_
      first | exact absurd rfl h7 | exact ⟨rfl, by unfold same; rw [hr]; rfl⟩
  · skip
    have hz := fdif_le hr
    refine Zn_bipush (-9) d_pv_isSameResultAs_5 (by decide) ?_
    refine Z_icmp_eq (tgt := 12) d_pv_isSameResultAs_7 (by decide) (fun h7 => ?_) (fun h7 => ?_)
    · skip
      refine Zn_iconst (nI 0) d_pv_isSameResultAs_12 (by decide) ?_
      refine Zn_istore_n [some (.ref b), some (.ref c), some (.int (nI 0))] d_pv_isSameResultAs_13 (by decide) rfl ?_
      first | exact pv_isSameResultAs_loop d hP hO hn hn2 hk hk2 hr (fdif_eq hr) (n + 1) 0 (by omega) (by omega) _ rfl ⟨rfl, rfl⟩ | exact absurd h7 (zn_m9 (by omega))
    · skip
      refine Zn_iconst (nI 0) d_pv_isSameResultAs_10 (by decide) ?_
      refine Z_zret d_pv_isSameResultAs_11 rfl rfl ?_
      first | exact absurd rfl h7 | exact ⟨rfl, by unfold same; rw [hr]; rfl⟩
