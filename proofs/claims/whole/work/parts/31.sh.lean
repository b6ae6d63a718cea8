/-! shelves -/
def ShAt (M : List zE) (fl : Nat → Bool) (ty ln : Nat → Nat) (el : Nat → Nat → Int32) : Prop :=
  M[95]? = some (.inr (3, [.ref 96, .ref 97, .ref 98, .ref 99])) ∧ M[96]? = some (.inl (2, 3, .inl (fun i => bI (fl i)))) ∧ M[97]? = some (.inl (0, 3, .inl (fun i => nI (ty i)))) ∧ M[98]? = some (.inl (0, 3, .inl (fun i => nI (ln i)))) ∧
  M[99]? = some (.inl (3, 3, .inr (.inr (.inr (.inr (fun i => if i < 3 then some (100 + i) else none)))))) ∧ ∀ i, i < 3 → M[100 + i]? = some (.inl (0, 10, .inl (el i)))
theorem ShAt.fr {M M1 : List zE} {lo w : Nat} {fl : Nat → Bool} {ty ln : Nat → Nat} {el : Nat → Nat → Int32} (h : ShAt M fl ty ln el) (hf : zFr M M1 lo w) (hd : 103 ≤ lo ∨ lo + w ≤ 95) : ShAt M1 fl ty ln el := by
  obtain ⟨h0, h1, h2, h3, h4, h5⟩ := h
  exact ⟨by rw [hf.2 _ (by omega)]; exact h0, by rw [hf.2 _ (by omega)]; exact h1, by rw [hf.2 _ (by omega)]; exact h2, by rw [hf.2 _ (by omega)]; exact h3, by rw [hf.2 _ (by omega)]; exact h4, fun i hi => by rw [hf.2 _ (by omega)]; exact h5 i hi⟩
def bup (f : Nat → Bool) (k : Nat) (v : Bool) : Nat → Bool := fun j => if j = k then v else f j
theorem upd_bI {f : Nat → Bool} {k : Nat} {v : Bool} : upd (fun i => bI (f i)) k (bI v) = fun i => bI (bup f k v i) := by
  funext i; unfold upd bup; split <;> rfl
def rup (f : Nat → Nat → Int32) (k : Nat) (v : Nat → Int32) : Nat → Nat → Int32 := fun j => if j = k then v else f j
theorem ShAt.putF {M : List zE} {fl : Nat → Bool} {ty ln : Nat → Nat} {el : Nat → Nat → Int32} (h : ShAt M fl ty ln el) (k : Nat) (v : Bool) : ShAt (M.set 96 (.inl (2, 3, .inl (upd (fun i => bI (fl i)) k (bI v))))) (bup fl k v) ty ln el := by
  obtain ⟨h0, h1, h2, h3, h4, h5⟩ := h
  rw [upd_bI]
  exact ⟨(st_ne (by omega)).trans h0, st_eq h1, (st_ne (by omega)).trans h2, (st_ne (by omega)).trans h3, (st_ne (by omega)).trans h4, fun i hi => (st_ne (by omega)).trans (h5 i hi)⟩
theorem ShAt.putT {M : List zE} {fl : Nat → Bool} {ty ln : Nat → Nat} {el : Nat → Nat → Int32} (h : ShAt M fl ty ln el) (k v : Nat) : ShAt (M.set 97 (.inl (0, 3, .inl (upd (fun i => nI (ty i)) k (nI v))))) fl (nup ty k v) ln el := by
  obtain ⟨h0, h1, h2, h3, h4, h5⟩ := h
  rw [upd_nI]
  exact ⟨(st_ne (by omega)).trans h0, (st_ne (by omega)).trans h1, st_eq h2, (st_ne (by omega)).trans h3, (st_ne (by omega)).trans h4, fun i hi => (st_ne (by omega)).trans (h5 i hi)⟩
theorem ShAt.putL {M : List zE} {fl : Nat → Bool} {ty ln : Nat → Nat} {el : Nat → Nat → Int32} (h : ShAt M fl ty ln el) (k v : Nat) : ShAt (M.set 98 (.inl (0, 3, .inl (upd (fun i => nI (ln i)) k (nI v))))) fl ty (nup ln k v) el := by
  obtain ⟨h0, h1, h2, h3, h4, h5⟩ := h
  rw [upd_nI]
  exact ⟨(st_ne (by omega)).trans h0, (st_ne (by omega)).trans h1, (st_ne (by omega)).trans h2, st_eq h3, (st_ne (by omega)).trans h4, fun i hi => (st_ne (by omega)).trans (h5 i hi)⟩
theorem ShAt.putE {M : List zE} {fl : Nat → Bool} {ty ln : Nat → Nat} {el : Nat → Nat → Int32} (h : ShAt M fl ty ln el) (k : Nat) (hk : k < 3) (g : Nat → Int32) : ShAt (M.set (100 + k) (.inl (0, 10, .inl g))) fl ty ln (rup el k g) := by
  obtain ⟨h0, h1, h2, h3, h4, h5⟩ := h
  refine ⟨(st_ne (by omega)).trans h0, (st_ne (by omega)).trans h1, (st_ne (by omega)).trans h2, (st_ne (by omega)).trans h3, (st_ne (by omega)).trans h4, fun i hi => ?_⟩
  by_cases hik : i = k
  · subst hik
    rw [st_eq (h5 i hi)]
    simp [rup]
  · rw [st_ne (by omega), h5 i hi]
    simp [rup, hik]
theorem ShAt.ext {M : List zE} {fl fl' : Nat → Bool} {ty ln : Nat → Nat} {el el' : Nat → Nat → Int32} (h : ShAt M fl ty ln el) (h1 : ∀ i, fl' i = fl i) (h2 : ∀ i j, el' i j = el i j) : ShAt M fl' ty ln el' := by
  rw [show fl' = fl from funext h1, show el' = el from funext fun i => funext fun j => h2 i j]; exact h
set_option maxHeartbeats 4000000 in
theorem sh_emptyAll_ok {Γ : zCtx} {M : List zE} (d : Nat) {fl : Nat → Bool} {ty ln : Nat → Nat} {el : Nat → Nat → Int32} (hP : ShAt M fl ty ln el) : ZM Γ (d + 1) m_sh_emptyAll [.ref 95] M (fun M1 v => v = none ∧ ShAt M1 (fun i => if i < 3 then false else fl i) ty ln el ∧ zFr M M1 95 8) := by
  refine ZM.of mk_sh_emptyAll (Nat.le_of_ble_eq_true rfl) ?_
  obtain ⟨h0, h1, h2, h3, h4, h5⟩ := id hP
  rw [show zEn [.ref 95] = [some (.ref 95)] from rfl]
  refine zPad 1 ?_
  show Z _ _ _ _ _ _ _ [some (.ref 95), none] _ _
  refine Zn_iconst (nI 0) d_sh_emptyAll_0 (by decide) ?_
  refine Zn_istore_n [some (.ref 95), some (.int (nI 0))] d_sh_emptyAll_1 (by decide) rfl ?_
  refine Z_iload_n d_sh_emptyAll_2 rfl ?_
  refine Zn_iconst (nI 3) d_sh_emptyAll_3 (by decide) ?_
  refine Zn_icmp_ge (a := 0) (b := 3) (tgt := 20) d_sh_emptyAll_4 (by decide) (by decide) (by decide) (fun h => absurd h (by decide)) (fun _ => ?_)
  refine Z_aload_n d_sh_emptyAll_7 rfl ?_
  refine Z_get d_sh_emptyAll_8 lf_sh_9 (by assumption) rfl ?_
  refine Z_iload_n d_sh_emptyAll_11 rfl ?_
  refine Zn_iconst (nI 0) d_sh_emptyAll_12 (by decide) ?_
  refine Zn_zast (x := bI false) d_sh_emptyAll_13 (by assumption) (by omega) (by omega) (by first | exact Or.inl rfl | exact Or.inr rfl) ?_
  have hP := hP.putF 0 false
  obtain ⟨h0, h1, h2, h3, h4, h5⟩ := id hP
  refine Zn_iinc [some (.ref 95), some (.int (nI 1))] (nI 1) d_sh_emptyAll_14 rfl (by decide) (nI_add 0 1) rfl ?_
  refine Z_goto (tgt := 2) d_sh_emptyAll_17 (by decide) ?_
  refine Z_iload_n d_sh_emptyAll_2 rfl ?_
  refine Zn_iconst (nI 3) d_sh_emptyAll_3 (by decide) ?_
  refine Zn_icmp_ge (a := 1) (b := 3) (tgt := 20) d_sh_emptyAll_4 (by decide) (by decide) (by decide) (fun h => absurd h (by decide)) (fun _ => ?_)
  refine Z_aload_n d_sh_emptyAll_7 rfl ?_
  refine Z_get d_sh_emptyAll_8 lf_sh_9 (by assumption) rfl ?_
  refine Z_iload_n d_sh_emptyAll_11 rfl ?_
  refine Zn_iconst (nI 0) d_sh_emptyAll_12 (by decide) ?_
  refine Zn_zast (x := bI false) d_sh_emptyAll_13 (by assumption) (by omega) (by omega) (by first | exact Or.inl rfl | exact Or.inr rfl) ?_
  have hP := hP.putF 1 false
  obtain ⟨h0, h1, h2, h3, h4, h5⟩ := id hP
  refine Zn_iinc [some (.ref 95), some (.int (nI 2))] (nI 2) d_sh_emptyAll_14 rfl (by decide) (nI_add 1 1) rfl ?_
  refine Z_goto (tgt := 2) d_sh_emptyAll_17 (by decide) ?_
  refine Z_iload_n d_sh_emptyAll_2 rfl ?_
  refine Zn_iconst (nI 3) d_sh_emptyAll_3 (by decide) ?_
  refine Zn_icmp_ge (a := 2) (b := 3) (tgt := 20) d_sh_emptyAll_4 (by decide) (by decide) (by decide) (fun h => absurd h (by decide)) (fun _ => ?_)
  refine Z_aload_n d_sh_emptyAll_7 rfl ?_
  refine Z_get d_sh_emptyAll_8 lf_sh_9 (by assumption) rfl ?_
  refine Z_iload_n d_sh_emptyAll_11 rfl ?_
  refine Zn_iconst (nI 0) d_sh_emptyAll_12 (by decide) ?_
  refine Zn_zast (x := bI false) d_sh_emptyAll_13 (by assumption) (by omega) (by omega) (by first | exact Or.inl rfl | exact Or.inr rfl) ?_
  have hP := hP.putF 2 false
  obtain ⟨h0, h1, h2, h3, h4, h5⟩ := id hP
  refine Zn_iinc [some (.ref 95), some (.int (nI 3))] (nI 3) d_sh_emptyAll_14 rfl (by decide) (nI_add 2 1) rfl ?_
  refine Z_goto (tgt := 2) d_sh_emptyAll_17 (by decide) ?_
  refine Z_iload_n d_sh_emptyAll_2 rfl ?_
  refine Zn_iconst (nI 3) d_sh_emptyAll_3 (by decide) ?_
  refine Zn_icmp_ge (a := 3) (b := 3) (tgt := 20) d_sh_emptyAll_4 (by decide) (by decide) (by decide) (fun _ => ?_) (fun h => absurd h (by decide))
  refine Z_vret d_sh_emptyAll_20 rfl ?_
  refine ⟨rfl, hP.ext (fun i => ?_) (fun _ _ => rfl), ?_⟩
  · unfold bup; split; (split; rfl; (split; rfl; (split; rfl; omega))); (split; omega; (split; omega; (split; omega; rfl)))
  · (repeat (first | exact zFr.rf | exact hF | refine zFr.set ?_ (by omega) (by omega)))
def refu (f : Bool) (l i : Nat) : Int32 := if f = true then (if i < l then nI 0 else -12) else -11
set_option maxHeartbeats 4000000 in
theorem sh_refusalOf_ok {Γ : zCtx} {M : List zE} (d : Nat) {fl : Nat → Bool} {ty ln : Nat → Nat} {el : Nat → Nat → Int32} (hP : ShAt M fl ty ln el) {s i : Nat} (hs : s < 3) (hl : ln s ≤ 10) (hi : i < 2147483648) : ZM Γ (d + 1) m_sh_refusalOf [.ref 95, .int (nI s), .int (nI i)] M (zEq M (some (.int (refu (fl s) (ln s) i)))) := by
  refine ZM.of mk_sh_refusalOf (Nat.le_of_ble_eq_true rfl) ?_
  obtain ⟨h0, h1, h2, h3, h4, h5⟩ := id hP
  refine Z_aload_n d_sh_refusalOf_0 rfl ?_
  refine Z_get d_sh_refusalOf_1 lf_sh_9 (by assumption) rfl ?_
  refine Z_iload_n d_sh_refusalOf_4 rfl ?_
  refine Zn_zald d_sh_refusalOf_5 (by assumption) (by omega) (by omega) ?_
  refine Z_if_ne (tgt := 12) d_sh_refusalOf_6 (by decide) (fun h6 => ?_) (fun h6 => ?_)
  · skip
    have h6 : fl s = true := by
      cases hh : fl s with
      | true => rfl
      | false => exact absurd (bI_0.mpr hh) h6
    refine Z_iload_n d_sh_refusalOf_12 rfl ?_
    refine Zn_if_lt (tgt := 30) d_sh_refusalOf_13 (by decide) (by omega) ?_
    refine Z_iload_n d_sh_refusalOf_16 rfl ?_
    refine Z_aload_n d_sh_refusalOf_17 rfl ?_
    refine Z_get d_sh_refusalOf_18 lf_sh_19 (by assumption) rfl ?_
    refine Z_iload_n d_sh_refusalOf_21 rfl ?_
    refine Zn_iald d_sh_refusalOf_22 (by assumption) (by omega) (by omega) ?_
    refine Zn_icmp_ge (tgt := 30) d_sh_refusalOf_23 (by decide) (by omega) (by omega) (fun h23 => ?_) (fun h23 => ?_)
    · skip
      refine Zn_bipush (-12) d_sh_refusalOf_30 (by decide) ?_
      refine Z_iret d_sh_refusalOf_32 rfl ?_
      refine ⟨rfl, ?_⟩
      unfold refu
      rw [h6]
      first | (rw [if_pos rfl, if_pos (by omega)]; done) | (rw [if_pos rfl, if_neg (by omega)]; done) | (rw [if_neg (by decide)]; done)
    · skip
      refine Zn_iconst (nI 0) d_sh_refusalOf_26 (by decide) ?_
      refine Z_goto (tgt := 32) d_sh_refusalOf_27 (by decide) ?_
      refine Z_iret d_sh_refusalOf_32 rfl ?_
      refine ⟨rfl, ?_⟩
      unfold refu
      rw [h6]
      first | (rw [if_pos rfl, if_pos (by omega)]; done) | (rw [if_pos rfl, if_neg (by omega)]; done) | (rw [if_neg (by decide)]; done)
  · skip
    have h6 : fl s = false := bI_0.mp h6
    refine Zn_bipush (-11) d_sh_refusalOf_9 (by decide) ?_
    refine Z_iret d_sh_refusalOf_11 rfl ?_
    refine ⟨rfl, ?_⟩
    unfold refu
    rw [h6]
    first | (rw [if_pos rfl, if_pos (by omega)]; done) | (rw [if_pos rfl, if_neg (by omega)]; done) | (rw [if_neg (by decide)]; done)
set_option maxHeartbeats 4000000 in
theorem sh_refusalOf_neg {Γ : zCtx} {M : List zE} (d : Nat) {fl : Nat → Bool} {ty ln : Nat → Nat} {el : Nat → Nat → Int32} (hP : ShAt M fl ty ln el) {s : Nat} {x : Int32} (hs : s < 3) (hx : x < 0) : ZM Γ (d + 1) m_sh_refusalOf [.ref 95, .int (nI s), .int x] M (zEq M (some (.int (if fl s then -12 else -11)))) := by
  refine ZM.of mk_sh_refusalOf (Nat.le_of_ble_eq_true rfl) ?_
  obtain ⟨h0, h1, h2, h3, h4, h5⟩ := id hP
  refine Z_aload_n d_sh_refusalOf_0 rfl ?_
  refine Z_get d_sh_refusalOf_1 lf_sh_9 (by assumption) rfl ?_
  refine Z_iload_n d_sh_refusalOf_4 rfl ?_
  refine Zn_zald d_sh_refusalOf_5 (by assumption) (by omega) (by omega) ?_
  refine Z_if_ne (tgt := 12) d_sh_refusalOf_6 (by decide) (fun h6 => ?_) (fun h6 => ?_)
  · skip
    have h6 : fl s = true := by
      cases hh : fl s with
      | true => rfl
      | false => exact absurd (bI_0.mpr hh) h6
    refine Z_iload_n d_sh_refusalOf_12 rfl ?_
    refine Z_if_lt (tgt := 30) d_sh_refusalOf_13 (by decide) (fun h13 => ?_) (fun h13 => ?_)
    · skip
      refine Zn_bipush (-12) d_sh_refusalOf_30 (by decide) ?_
      refine Z_iret d_sh_refusalOf_32 rfl ?_
      refine ⟨rfl, ?_⟩
      rw [h6]
      first | rfl | (rw [if_pos (by rfl)]; rfl)
    · skip
      exact absurd hx h13 -- end
  · skip
    have h6 : fl s = false := bI_0.mp h6
    refine Zn_bipush (-11) d_sh_refusalOf_9 (by decide) ?_
    refine Z_iret d_sh_refusalOf_11 rfl ?_
    refine ⟨rfl, ?_⟩
    rw [h6]
    first | rfl | (rw [if_pos (by rfl)]; rfl)
set_option maxHeartbeats 4000000 in
theorem sh_fill_loop {Γ : zCtx} {M0 : List zE} (d : Nat) {fl : Nat → Bool} {ty ln : Nat → Nat} {el : Nat → Nat → Int32} {s t l : Nat} (hs : s < 3) : ∀ (f i : Nat) (M : List zE) (el1 : Nat → Nat → Int32), i ≤ 10 → 10 < i + f → ShAt M fl ty ln el1 → zFr M0 M 95 8 → (∀ j, el1 s j = if j < i then -11 else el s j) → (∀ a, a ≠ s → el1 a = el a) → ∀ Q : List zE → Option Value → Prop, (∀ M1 el2, ShAt M1 fl ty ln el2 → zFr M0 M1 95 8 → (∀ j, el2 s j = if j < 10 then -11 else el s j) → (∀ a, a ≠ s → el2 a = el a) → Q M1 none) → Z Γ (zRm (d + 1) m_sh_fillWithMissing) m_sh_fillWithMissing (zPh Γ m_sh_fillWithMissing Q) 0 0 24 [some (.ref 95), some (.int (nI s)), some (.int (nI t)), some (.int (nI l)), some (.int (nI i))] [] M := by
  intro f
  induction f with
  | zero => intro i M el1 hi hf; exact absurd hf (by omega)
  | succ f ih =>
    intro i M el1 hi hf hP hF he ho Q hQ
    obtain ⟨h0, h1, h2, h3, h4, h5⟩ := id hP
    refine Z_iload d_sh_fillWithMissing_24 rfl ?_
    refine Zn_bipush (nI 10) d_sh_fillWithMissing_26 (by decide) ?_
    refine Zn_icmp_ge (tgt := 48) d_sh_fillWithMissing_28 (by decide) (by omega) (by omega) (fun h28 => ?_) (fun h28 => ?_)
    · skip
      have hi : i = 10 := by omega
      subst hi
      refine Z_vret d_sh_fillWithMissing_48 rfl ?_
      exact hQ M el1 hP hF he ho
    · skip
      refine Z_aload_n d_sh_fillWithMissing_31 rfl ?_
      refine Z_get d_sh_fillWithMissing_32 lf_sh_24 (by assumption) rfl ?_
      refine Z_iload_n d_sh_fillWithMissing_35 rfl ?_
      refine Zn_aald d_sh_fillWithMissing_36 (by assumption) (by omega) (by omega) (if_pos hs) (by omega) ?_
      refine Z_iload d_sh_fillWithMissing_37 rfl ?_
      refine Zn_bipush (-11) d_sh_fillWithMissing_39 (by decide) ?_
      refine Zn_iast d_sh_fillWithMissing_41 (h5 s hs) (by omega) (by omega) ?_
      have hP := hP.putE s hs (upd (el1 s) i (-11))
      obtain ⟨h0, h1, h2, h3, h4, h5⟩ := id hP
      refine Zn_iinc [some (.ref 95), some (.int (nI s)), some (.int (nI t)), some (.int (nI l)), some (.int (nI (i + 1)))] (nI (i + 1)) d_sh_fillWithMissing_42 rfl (by decide) (nI_add i 1) rfl ?_
      refine Z_goto (tgt := 24) d_sh_fillWithMissing_45 (by decide) ?_
      exact ih (i + 1) _ _ (by omega) (by omega) hP (by (repeat (first | exact zFr.rf | exact hF | refine zFr.set ?_ (by omega) (by omega)))) (fun j => by
        unfold rup upd
        rw [if_pos rfl]
        by_cases hj : j = i
        · subst hj; simp
        · rw [if_neg hj, he j]; by_cases hj2 : j < i
          · rw [if_pos hj2, if_pos (by omega)]
          · rw [if_neg hj2, if_neg (by omega)]) (fun a ha => by unfold rup; rw [if_neg ha, ho a ha]) Q hQ
set_option maxHeartbeats 4000000 in
theorem sh_fillWithMissing_ok {Γ : zCtx} {M : List zE} (d : Nat) {fl : Nat → Bool} {ty ln : Nat → Nat} {el : Nat → Nat → Int32} (hP : ShAt M fl ty ln el) {s t l : Nat} (hs : s < 3) : ZM Γ (d + 1) m_sh_fillWithMissing [.ref 95, .int (nI s), .int (nI t), .int (nI l)] M (fun M1 v => v = none ∧ ∃ el2, ShAt M1 (bup fl s true) (nup ty s t) (nup ln s l) el2 ∧ zFr M M1 95 8 ∧ (∀ j, el2 s j = if j < 10 then -11 else el s j) ∧ (∀ a, a ≠ s → el2 a = el a)) := by
  refine ZM.of mk_sh_fillWithMissing (Nat.le_of_ble_eq_true rfl) ?_
  obtain ⟨h0, h1, h2, h3, h4, h5⟩ := id hP
  rw [show zEn [.ref 95, .int (nI s), .int (nI t), .int (nI l)] = [some (.ref 95), some (.int (nI s)), some (.int (nI t)), some (.int (nI l))] from rfl]
  refine zPad 1 ?_
  show Z _ _ _ _ _ _ _ [some (.ref 95), some (.int (nI s)), some (.int (nI t)), some (.int (nI l)), none] _ _
  refine Z_aload_n d_sh_fillWithMissing_0 rfl ?_
  refine Z_get d_sh_fillWithMissing_1 lf_sh_9 (by assumption) rfl ?_
  refine Z_iload_n d_sh_fillWithMissing_4 rfl ?_
  refine Zn_iconst (nI 1) d_sh_fillWithMissing_5 (by decide) ?_
  refine Zn_zast (x := bI true) d_sh_fillWithMissing_6 (by assumption) (by omega) (by omega) (by first | exact Or.inl rfl | exact Or.inr rfl) ?_
  have hP := hP.putF s true
  obtain ⟨h0, h1, h2, h3, h4, h5⟩ := id hP
  refine Z_aload_n d_sh_fillWithMissing_7 rfl ?_
  refine Z_get d_sh_fillWithMissing_8 lf_sh_15 (by assumption) rfl ?_
  refine Z_iload_n d_sh_fillWithMissing_11 rfl ?_
  refine Z_iload_n d_sh_fillWithMissing_12 rfl ?_
  refine Zn_iast d_sh_fillWithMissing_13 (by assumption) (by omega) (by omega) ?_
  have hP := hP.putT s t
  obtain ⟨h0, h1, h2, h3, h4, h5⟩ := id hP
  refine Z_aload_n d_sh_fillWithMissing_14 rfl ?_
  refine Z_get d_sh_fillWithMissing_15 lf_sh_19 (by assumption) rfl ?_
  refine Z_iload_n d_sh_fillWithMissing_18 rfl ?_
  refine Z_iload_n d_sh_fillWithMissing_19 rfl ?_
  refine Zn_iast d_sh_fillWithMissing_20 (by assumption) (by omega) (by omega) ?_
  have hP := hP.putL s l
  obtain ⟨h0, h1, h2, h3, h4, h5⟩ := id hP
  refine Zn_iconst (nI 0) d_sh_fillWithMissing_21 (by decide) ?_
  refine Zn_istore [some (.ref 95), some (.int (nI s)), some (.int (nI t)), some (.int (nI l)), some (.int (nI 0))] d_sh_fillWithMissing_22 (by decide) rfl ?_
  exact sh_fill_loop (el := el) d hs 11 0 _ _ (by omega) (by omega) hP (by (repeat (first | exact zFr.rf | exact hF | refine zFr.set ?_ (by omega) (by omega)))) (fun j => (if_neg (Nat.not_lt_zero j)).symm) (fun _ _ => rfl) _ (fun M1 el2 a1 a2 a3 a4 => ⟨rfl, el2, a1, a2, a3, a4⟩)
set_option maxHeartbeats 4000000 in
theorem sh_copyArray_ok {Γ : zCtx} {M : List zE} (d : Nat) {fl : Nat → Bool} {ty ln : Nat → Nat} {el : Nat → Nat → Int32} (hP : ShAt M fl ty ln el) {a c : Nat} (ha : a < 3) (hc : c < 3) : ZM Γ (d + 1) m_sh_copyArray [.ref 95, .int (nI a), .int (nI c)] M (fun M1 v => v = none ∧ ShAt M1 (bup fl c (fl a)) (nup ty c (ty a)) (nup ln c (ln a)) (rup el c (va_cpy (el a) (el c) 0 0 10)) ∧ zFr M M1 95 8) := by
  refine ZM.of mk_sh_copyArray (Nat.le_of_ble_eq_true rfl) ?_
  obtain ⟨h0, h1, h2, h3, h4, h5⟩ := id hP
  refine Z_aload_n d_sh_copyArray_0 rfl ?_
  refine Z_get d_sh_copyArray_1 lf_sh_9 (by assumption) rfl ?_
  refine Z_iload_n d_sh_copyArray_4 rfl ?_
  refine Z_aload_n d_sh_copyArray_5 rfl ?_
  refine Z_get d_sh_copyArray_6 lf_sh_9 (by assumption) rfl ?_
  refine Z_iload_n d_sh_copyArray_9 rfl ?_
  refine Zn_zald d_sh_copyArray_10 (by assumption) (by omega) (by omega) ?_
  refine Zn_zast d_sh_copyArray_11 (by assumption) (by omega) (by omega) (bI_01 _) ?_
  have hP := hP.putF c (fl a)
  obtain ⟨h0, h1, h2, h3, h4, h5⟩ := id hP
  refine Z_aload_n d_sh_copyArray_12 rfl ?_
  refine Z_get d_sh_copyArray_13 lf_sh_15 (by assumption) rfl ?_
  refine Z_iload_n d_sh_copyArray_16 rfl ?_
  refine Z_aload_n d_sh_copyArray_17 rfl ?_
  refine Z_get d_sh_copyArray_18 lf_sh_15 (by assumption) rfl ?_
  refine Z_iload_n d_sh_copyArray_21 rfl ?_
  refine Zn_iald d_sh_copyArray_22 (by assumption) (by omega) (by omega) ?_
  refine Zn_iast d_sh_copyArray_23 (by assumption) (by omega) (by omega) ?_
  have hP := hP.putT c (ty a)
  obtain ⟨h0, h1, h2, h3, h4, h5⟩ := id hP
  refine Z_aload_n d_sh_copyArray_24 rfl ?_
  refine Z_get d_sh_copyArray_25 lf_sh_19 (by assumption) rfl ?_
  refine Z_iload_n d_sh_copyArray_28 rfl ?_
  refine Z_aload_n d_sh_copyArray_29 rfl ?_
  refine Z_get d_sh_copyArray_30 lf_sh_19 (by assumption) rfl ?_
  refine Z_iload_n d_sh_copyArray_33 rfl ?_
  refine Zn_iald d_sh_copyArray_34 (by assumption) (by omega) (by omega) ?_
  refine Zn_iast d_sh_copyArray_35 (by assumption) (by omega) (by omega) ?_
  have hP := hP.putL c (ln a)
  obtain ⟨h0, h1, h2, h3, h4, h5⟩ := id hP
  refine Z_aload_n d_sh_copyArray_36 rfl ?_
  refine Z_get d_sh_copyArray_37 lf_sh_24 (by assumption) rfl ?_
  refine Z_iload_n d_sh_copyArray_40 rfl ?_
  refine Zn_aald d_sh_copyArray_41 (by assumption) (by omega) (by omega) (if_pos ha) (by omega) ?_
  refine Zn_iconst (nI 0) d_sh_copyArray_42 (by decide) ?_
  refine Z_aload_n d_sh_copyArray_43 rfl ?_
  refine Z_get d_sh_copyArray_44 lf_sh_24 (by assumption) rfl ?_
  refine Z_iload_n d_sh_copyArray_47 rfl ?_
  refine Zn_aald d_sh_copyArray_48 (by assumption) (by omega) (by omega) (if_pos hc) (by omega) ?_
  refine Zn_iconst (nI 0) d_sh_copyArray_49 (by decide) ?_
  refine Zn_bipush (nI 10) d_sh_copyArray_50 (by decide) ?_
  refine zCpi (by omega) d_sh_copyArray_52 lc_sh_27 (h5 a ha) (h5 c hc) (by omega) (by omega) (by omega) (by omega) (Nat.le_of_ble_eq_true rfl) ?_
  have hP := hP.putE c hc (va_cpy (el a) (el c) 0 0 10)
  refine Z_vret d_sh_copyArray_55 rfl ?_
  exact ⟨rfl, hP, by (repeat (first | exact zFr.rf | exact hF | refine zFr.set ?_ (by omega) (by omega)))⟩
