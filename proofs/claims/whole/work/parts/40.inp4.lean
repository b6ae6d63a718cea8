/-! instructions -/
abbrev zIns : Type := Nat × (Nat × Nat × Nat) × (Nat × Nat × Nat) × Nat
def k3 (t : Nat × Nat × Nat) : Nat := kk t.1 t.2.1 t.2.2
def pKw (len : Nat) (ch : Nat → Nat) (p : Nat) : Option Nat × Nat := match kdR len ch p with
  | (none, q) => (none, q)
  | (some k, q) => if tk len ch q 32 = true then (some k, q + 1) else (none, q)
def pIns (len : Nat) (ch : Nat → Nat) (p : Nat) : Option zIns × Nat := match pKw len ch p with
  | (none, q) => (none, q)
  | (some k, q) => match pPth len ch q with
    | (false, _, q2) => (none, q2)
    | (true, l, q2) => if k = 3 ∨ k = 5 then (some (k, l, (0, 0, 0), 0), q2) else if tk len ch q2 32 = true then
        (if k = 4 then (match pPth len ch (q2 + 1) with
          | (false, _, q3) => (none, q3)
          | (true, g, q3) => (some (k, l, g, 0), q3))
         else match pTx len ch (q2 + 1) with
          | (none, q3) => (none, q3)
          | (some t, q3) => (some (k, l, (0, 0, 0), t), q3))
        else (none, q2)
def pAll (len : Nat) (ch : Nat → Nat) : Nat → Nat → Option (List zIns) × Nat
  | 0, p => (none, p)
  | f + 1, p => match pIns len ch p with
    | (none, q) => (none, q)
    | (some i, q) => if len ≤ q then (some [i], q) else if tk len ch q 59 = true then (match pAll len ch f (q + 1) with
        | (none, r) => (none, r)
        | (some l, r) => (some (i :: l), r)) else (none, q)
def slA (kd pt gl : Nat → Nat) (tx : Nat → Int32) (j : Nat) (i : zIns) : Prop := kd j = i.1 ∧ pt j = k3 i.2.1 ∧ gl j = k3 i.2.2.1 ∧ tx j = nI i.2.2.2
def slS (kd pt gl : Nat → Nat) (tx : Nat → Int32) (kd' pt' gl' : Nat → Nat) (tx' : Nat → Int32) (j : Nat) : Prop := kd' j = kd j ∧ pt' j = pt j ∧ gl' j = gl j ∧ tx' j = tx j
def zFi (M M1 : List zE) : Prop := M1.length = M.length ∧ ∀ j, (j < 40 ∨ 47 ≤ j) → (j < 93 ∨ 95 ≤ j) → M1[j]? = M[j]?
theorem zFi.rf {M : List zE} : zFi M M := ⟨rfl, fun _ _ _ => rfl⟩
theorem zFi.trans {M M1 M2 : List zE} (h : zFi M M1) (h' : zFi M1 M2) : zFi M M2 := ⟨h'.1.trans h.1, fun j a b => (h'.2 j a b).trans (h.2 j a b)⟩
theorem zFr.fi {M M1 : List zE} (h : zFr M M1 93 2) : zFi M M1 := ⟨h.1, fun j _ b => h.2 j (by omega)⟩
theorem zFr.fa {M M1 : List zE} (h : zFr M M1 40 7) : zFi M M1 := ⟨h.1, fun j b _ => h.2 j (by omega)⟩
theorem AmAt.putK {M : List zE} {b m : Nat} {dy sz kd pt gl : Nat → Nat} {tx : Nat → Int32} (h : AmAt M b m dy sz kd pt gl tx) (k v : Nat) : AmAt (M.set (b + 3) (.inl (0, 120, .inl (upd (fun i => nI (kd i)) k (nI v))))) b m dy sz (nup kd k v) pt gl tx := by
  obtain ⟨h0, h1, h2, h3, h4, h5, h6⟩ := h
  rw [upd_nI]
  exact ⟨(st_ne (by omega)).trans h0, (st_ne (by omega)).trans h1, (st_ne (by omega)).trans h2, st_eq h3, (st_ne (by omega)).trans h4, (st_ne (by omega)).trans h5, (st_ne (by omega)).trans h6⟩
theorem AmAt.putP {M : List zE} {b m : Nat} {dy sz kd pt gl : Nat → Nat} {tx : Nat → Int32} (h : AmAt M b m dy sz kd pt gl tx) (k v : Nat) : AmAt (M.set (b + 4) (.inl (1, 120, .inr (.inl (vp_updL (fun i => lN (pt i)) k (lN v)))))) b m dy sz kd (nup pt k v) gl tx := by
  obtain ⟨h0, h1, h2, h3, h4, h5, h6⟩ := h
  rw [updL_lN]
  exact ⟨(st_ne (by omega)).trans h0, (st_ne (by omega)).trans h1, (st_ne (by omega)).trans h2, (st_ne (by omega)).trans h3, st_eq h4, (st_ne (by omega)).trans h5, (st_ne (by omega)).trans h6⟩
theorem AmAt.putG {M : List zE} {b m : Nat} {dy sz kd pt gl : Nat → Nat} {tx : Nat → Int32} (h : AmAt M b m dy sz kd pt gl tx) (k v : Nat) : AmAt (M.set (b + 5) (.inl (1, 120, .inr (.inl (vp_updL (fun i => lN (gl i)) k (lN v)))))) b m dy sz kd pt (nup gl k v) tx := by
  obtain ⟨h0, h1, h2, h3, h4, h5, h6⟩ := h
  rw [updL_lN]
  exact ⟨(st_ne (by omega)).trans h0, (st_ne (by omega)).trans h1, (st_ne (by omega)).trans h2, (st_ne (by omega)).trans h3, (st_ne (by omega)).trans h4, st_eq h5, (st_ne (by omega)).trans h6⟩
theorem AmAt.putT {M : List zE} {b m : Nat} {dy sz kd pt gl : Nat → Nat} {tx : Nat → Int32} (h : AmAt M b m dy sz kd pt gl tx) (k : Nat) (v : Int32) : AmAt (M.set (b + 6) (.inl (0, 120, .inl (upd tx k v)))) b m dy sz kd pt gl (upd tx k v) := by
  obtain ⟨h0, h1, h2, h3, h4, h5, h6⟩ := h
  exact ⟨(st_ne (by omega)).trans h0, (st_ne (by omega)).trans h1, (st_ne (by omega)).trans h2, (st_ne (by omega)).trans h3, (st_ne (by omega)).trans h4, (st_ne (by omega)).trans h5, st_eq h6⟩
theorem InAt.st {M : List zE} {len p : Nat} {ch : Nat → Nat} (h : InAt M len p ch) {c : Nat} {x : zE} (hc : c < 93) : InAt (M.set c x) len p ch := ⟨(st_ne (by omega)).trans h.1, (st_ne (by omega)).trans h.2⟩
theorem upd_s' {f : Nat → Int32} {k : Nat} {v : Int32} : upd f k v k = v := by unfold upd; exact if_pos rfl
theorem upd_n' {f : Nat → Int32} {j k : Nat} {v : Int32} (h : j ≠ k) : upd f k v j = f j := by unfold upd; exact if_neg h
theorem pPth_f {len : Nat} {ch : Nat → Nat} {p : Nat} (h : (pPth len ch p).1 = false) : (pPth len ch p).2.1 = (0, 0, 0) := by
  unfold pPth at h ⊢
  repeat' split at h
  all_goals (first | (cases h; done) | skip)
  all_goals simp_all
theorem pKey_k3 {len : Nat} {ch : Nat → Nat} {p : Nat} : pKey len ch p = k3 (pPth len ch p).2.1 := rfl
theorem pKey_0 {len : Nat} {ch : Nat → Nat} {p : Nat} (hp : p ≤ len) : k3 (pPth len ch p).2.1 = 0 ↔ (pPth len ch p).1 = false := by
  constructor
  · intro h
    cases hh : (pPth len ch p).1 with
    | false => rfl
    | true =>
      have := (pPth_ok (ch := ch) hp).2.2.2.2.2 hh
      unfold k3 kk at h
      omega
  · intro h
    rw [pPth_f h]
    rfl
theorem k3_lt {len : Nat} {ch : Nat → Nat} {p : Nat} (hp : p ≤ len) : k3 (pPth len ch p).2.1 < 2 ^ 63 := by
  have := pPth_ok (ch := ch) hp
  exact kk_lt (by omega) (by omega) (by omega)
set_option maxHeartbeats 4000000 in
theorem in_readInstruction_ok {Γ : zCtx} {M : List zE} (d : Nat) {len p : Nat} {ch : Nat → Nat} (hP : InAt M len p ch) (hO : inOk len p ch) {m : Nat} {dy sz kd pt gl : Nat → Nat} {tx : Nat → Int32} (hA : AmAt M 40 m dy sz kd pt gl tx) {s : Nat} (hs : s < 120) : ZM Γ (d + 7) m_inp_readInstruction [.ref 93, .ref 40, .int (nI s)] M (fun M1 v => v = some (.int (nI (if (pIns len ch p).1.isSome = true then 1 else 0))) ∧ InAt M1 len (pIns len ch p).2 ch ∧ ∃ kd' pt' gl' tx', AmAt M1 40 m dy sz kd' pt' gl' tx' ∧ (∀ j, j ≠ s → slS kd pt gl tx kd' pt' gl' tx' j) ∧ (∀ i, (pIns len ch p).1 = some i → slA kd' pt' gl' tx' s i) ∧ zFi M M1) := by
  refine ZM.of mk_inp_readInstruction (Nat.le_of_ble_eq_true rfl) ?_
  have hF : zFi M M := zFi.rf
  obtain ⟨hO1, hO2, hO3⟩ := hO
  rw [show zEn [.ref 93, .ref 40, .int (nI s)] = [some (.ref 93), some (.ref 40), some (.int (nI s))] from rfl]
  refine zPad 3 ?_
  show Z _ _ _ _ _ _ _ [some (.ref 93), some (.ref 40), some (.int (nI s)), none, none, none] _ _
  refine Z_aload_n d_inp_readInstruction_0 rfl ?_
  refine zV (As := []) (by omega) d_inp_readInstruction_1 lm_inp_31 hP.1 rfl rfl (Nat.le_of_ble_eq_true rfl) (in_readKind_ok d hP ⟨hO1, by omega, hO3⟩) (fun M1 v hq hlen => ?_)
  have gk := kdR_ok (len := len) (ch := ch) (p := p) (by omega)
  rcases ek : kdR len ch p with ⟨o, q1⟩
  rw [ek] at hq gk
  dsimp only at hq gk
  obtain ⟨rfl, hP, hF1⟩ := hq
  replace hA := hA.fr hF1 (by omega)
  replace hF := hF.trans hF1.fi
  rcases o with _ | k
  · skip
    refine Zn_istore_n [some (.ref 93), some (.ref 40), some (.int (nI s)), some (.int (-1)), none, none] d_inp_readInstruction_4 (by decide) rfl ?_
    refine Z_iload_n d_inp_readInstruction_5 rfl ?_
    refine Zn_iconst (-1) d_inp_readInstruction_6 (by decide) ?_
    refine Z_icmp_eq (tgt := 19) d_inp_readInstruction_7 (by decide) (fun h7 => ?_) (fun h7 => ?_)
    · skip
      skip
      refine Zn_iconst (nI 0) d_inp_readInstruction_19 (by decide) ?_
      refine Z_zret d_inp_readInstruction_20 rfl rfl ?_
      have hz : pIns len ch p = (none, q1) := by simp [pIns, pKw, ek]
      rw [hz]
      exact ⟨rfl, hP, _, _, _, _, hA, fun j hj => ⟨by simp [nup, hj], by simp [nup, hj], by simp [nup, hj], by simp [upd, hj]⟩, (fun i hi => by cases hi), hF⟩
    · skip
      exact absurd rfl h7 -- end
  · skip
    have hk6 := gk.2.2 k rfl
    refine Zn_istore_n [some (.ref 93), some (.ref 40), some (.int (nI s)), some (.int (nI k)), none, none] d_inp_readInstruction_4 (by decide) rfl ?_
    refine Z_iload_n d_inp_readInstruction_5 rfl ?_
    refine Zn_iconst (-1) d_inp_readInstruction_6 (by decide) ?_
    refine Z_icmp_eq (tgt := 19) d_inp_readInstruction_7 (by decide) (fun h7 => ?_) (fun h7 => ?_)
    · skip
      exact absurd h7 (zn_m1 (by omega)) -- end
    · skip
      skip
      refine Z_aload_n d_inp_readInstruction_10 rfl ?_
      refine Zn_bipush (nI 32) d_inp_readInstruction_11 (by decide) ?_
      refine zV (As := [.int (nI 32)]) (by omega) d_inp_readInstruction_13 lm_inp_27 hP.1 rfl rfl (Nat.le_of_ble_eq_true rfl) (in_take_ok (d + 4) hP ⟨hO1, by omega, hO3⟩ (by decide)) (fun M1 v hq hlen => ?_)
      obtain ⟨rfl, hP, hF1⟩ := hq
      replace hA := hA.fr hF1 (by omega)
      replace hF := hF.trans hF1.fi
      have hle := b10_lt (x := tk len ch q1 32)
      refine Zn_if_ne (tgt := 21) d_inp_readInstruction_16 (by decide) (by omega) (fun h16 => ?_) (fun h16 => ?_)
      · skip
        have n_38 : tk len ch q1 32 = true := b10_t h16
        have in_38 := tk_iff.mp n_38
        rw [if_pos n_38] at hP
        refine Z_aload_n d_inp_readInstruction_21 rfl ?_
        refine zV (As := []) (by omega) d_inp_readInstruction_22 lm_inp_34 hP.1 rfl rfl (Nat.le_of_ble_eq_true rfl) (in_readPath_ok (d + 1) hP ⟨hO1, by omega, hO3⟩) (fun M1 v hq hlen => ?_)
        have g_39 := (pPth_ok (len := len) (ch := ch) (p := q1 + 1) (by omega))
        have z_39 := pKey_0 (len := len) (ch := ch) (p := q1 + 1) (by omega)
        have y_39 := k3_lt (len := len) (ch := ch) (p := q1 + 1) (by omega)
        rw [pKey_k3] at hq
        rcases e_39 : pPth len ch (q1 + 1) with ⟨b_39, t_39, q_39⟩
        rw [e_39] at hq g_39 z_39 y_39
        dsimp only at hq g_39 z_39 y_39
        obtain ⟨rfl, hP, hF1⟩ := hq
        replace hA := hA.fr hF1 (by omega)
        replace hF := hF.trans hF1.fi
        refine Zn_lstore [some (.ref 93), some (.ref 40), some (.int (nI s)), some (.int (nI k)), some (.long (lN (k3 t_39))), none] d_inp_readInstruction_25 (by decide) rfl ?_
        refine Z_lload d_inp_readInstruction_27 rfl ?_
        refine Zn_lconst (0) d_inp_readInstruction_29 (by decide) ?_
        refine Z_lcmp d_inp_readInstruction_30 ?_
        refine Z_if_ne (tgt := 36) d_inp_readInstruction_31 (by decide) (fun h31 => ?_) (fun h31 => ?_)
        · skip
          have b31_39 : b_39 = true := by
            cases hb : b_39 with
            | true => rfl
            | false => exact absurd ((zlN (b := 0) y_39 (by decide)).mpr (z_39.mpr hb)) h31
          refine Z_aload_n d_inp_readInstruction_36 rfl ?_
          refine Z_get d_inp_readInstruction_37 lf_inp_40 hA.1 rfl ?_
          refine Z_iload_n d_inp_readInstruction_40 rfl ?_
          refine Z_iload_n d_inp_readInstruction_41 rfl ?_
          refine Zn_iast d_inp_readInstruction_42 hA.2.2.2.1 (by omega) (by omega) ?_
          replace hA := hA.putK s k
          replace hP := hP.st (c := 40 + 3) (x := .inl (0, 120, .inl (upd (fun i => nI (kd i)) s (nI k)))) (by omega)
          replace hF := hF.trans (zFr.fa (zFr.set (c := 40 + 3) (x := .inl (0, 120, .inl (upd (fun i => nI (kd i)) s (nI k)))) zFr.rf (by omega) (by omega)))
          refine Z_aload_n d_inp_readInstruction_43 rfl ?_
          refine Z_get d_inp_readInstruction_44 lf_inp_45 hA.1 rfl ?_
          refine Z_iload_n d_inp_readInstruction_47 rfl ?_
          refine Z_lload d_inp_readInstruction_48 rfl ?_
          refine Zn_last d_inp_readInstruction_50 hA.2.2.2.2.1 (by omega) (by omega) ?_
          replace hA := hA.putP s (k3 t_39)
          replace hP := hP.st (c := 40 + 4) (x := .inl (1, 120, .inr (.inl (vp_updL (fun i => lN (pt i)) s (lN (k3 t_39)))))) (by omega)
          replace hF := hF.trans (zFr.fa (zFr.set (c := 40 + 4) (x := .inl (1, 120, .inr (.inl (vp_updL (fun i => lN (pt i)) s (lN (k3 t_39)))))) zFr.rf (by omega) (by omega)))
          refine Z_aload_n d_inp_readInstruction_51 rfl ?_
          refine Z_get d_inp_readInstruction_52 lf_inp_49 hA.1 rfl ?_
          refine Z_iload_n d_inp_readInstruction_55 rfl ?_
          refine Zn_lconst (0) d_inp_readInstruction_56 (by decide) ?_
          refine Zn_last d_inp_readInstruction_57 hA.2.2.2.2.2.1 (by omega) (by omega) ?_
          replace hA := hA.putG s 0
          replace hP := hP.st (c := 40 + 5) (x := .inl (1, 120, .inr (.inl (vp_updL (fun i => lN (gl i)) s (lN 0))))) (by omega)
          replace hF := hF.trans (zFr.fa (zFr.set (c := 40 + 5) (x := .inl (1, 120, .inr (.inl (vp_updL (fun i => lN (gl i)) s (lN 0))))) zFr.rf (by omega) (by omega)))
          refine Z_aload_n d_inp_readInstruction_58 rfl ?_
          refine Z_get d_inp_readInstruction_59 lf_inp_52 hA.1 rfl ?_
          refine Z_iload_n d_inp_readInstruction_62 rfl ?_
          refine Zn_iconst (nI 0) d_inp_readInstruction_63 (by decide) ?_
          refine Zn_iast d_inp_readInstruction_64 hA.2.2.2.2.2.2 (by omega) (by omega) ?_
          replace hA := hA.putT s (nI 0)
          replace hP := hP.st (c := 40 + 6) (x := .inl (0, 120, .inl (upd tx s (nI 0)))) (by omega)
          replace hF := hF.trans (zFr.fa (zFr.set (c := 40 + 6) (x := .inl (0, 120, .inl (upd tx s (nI 0)))) zFr.rf (by omega) (by omega)))
          refine Z_iload_n d_inp_readInstruction_65 rfl ?_
          refine Zn_iconst (nI 3) d_inp_readInstruction_66 (by decide) ?_
          refine Zn_icmp_eq (tgt := 75) d_inp_readInstruction_67 (by decide) (by omega) (by omega) (fun h67 => ?_) (fun h67 => ?_)
          · skip
            skip
            refine Zn_iconst (nI 1) d_inp_readInstruction_75 (by decide) ?_
            refine Z_zret d_inp_readInstruction_76 rfl rfl ?_
            have hz : pIns len ch p = (some (k, t_39, (0, 0, 0), 0), q_39) := by simp [pIns, pKw, ek, n_38, e_39, b31_39, h67]
            rw [hz]
            exact ⟨rfl, hP, _, _, _, _, hA, fun j hj => ⟨by simp [nup, hj], by simp [nup, hj], by simp [nup, hj], by simp [upd, hj]⟩, fun i hi => by cases hi; exact ⟨by simp [nup], by simp [nup], by simp [nup, k3, kk], by simp [upd]⟩, hF⟩
          · skip
            skip
            refine Z_iload_n d_inp_readInstruction_70 rfl ?_
            refine Zn_iconst (nI 5) d_inp_readInstruction_71 (by decide) ?_
            refine Zn_icmp_ne (tgt := 77) d_inp_readInstruction_72 (by decide) (by omega) (by omega) (fun h72 => ?_) (fun h72 => ?_)
            · skip
              skip
              refine Z_aload_n d_inp_readInstruction_77 rfl ?_
              refine Zn_bipush (nI 32) d_inp_readInstruction_78 (by decide) ?_
              refine zV (As := [.int (nI 32)]) (by omega) d_inp_readInstruction_80 lm_inp_27 hP.1 rfl rfl (Nat.le_of_ble_eq_true rfl) (in_take_ok (d + 4) hP ⟨hO1, by omega, hO3⟩ (by decide)) (fun M1 v hq hlen => ?_)
              obtain ⟨rfl, hP, hF1⟩ := hq
              replace hA := hA.fr hF1 (by omega)
              replace hF := hF.trans hF1.fi
              have hle := b10_lt (x := tk len ch q_39 32)
              refine Zn_if_ne (tgt := 88) d_inp_readInstruction_83 (by decide) (by omega) (fun h83 => ?_) (fun h83 => ?_)
              · skip
                have n_40 : tk len ch q_39 32 = true := b10_t h83
                have in_40 := tk_iff.mp n_40
                rw [if_pos n_40] at hP
                refine Z_iload_n d_inp_readInstruction_88 rfl ?_
                refine Zn_iconst (nI 4) d_inp_readInstruction_89 (by decide) ?_
                refine Zn_icmp_ne (tgt := 120) d_inp_readInstruction_90 (by decide) (by omega) (by omega) (fun h90 => ?_) (fun h90 => ?_)
                · skip
                  skip
                  refine Z_aload_n d_inp_readInstruction_120 rfl ?_
                  refine Z_get d_inp_readInstruction_121 lf_inp_52 hA.1 rfl ?_
                  refine Z_iload_n d_inp_readInstruction_124 rfl ?_
                  refine Z_aload_n d_inp_readInstruction_125 rfl ?_
                  refine zV (As := []) (by omega) d_inp_readInstruction_126 lm_inp_55 hP.1 rfl rfl (Nat.le_of_ble_eq_true rfl) (in_readText_ok (d + 2) hP ⟨hO1, by omega, hO3⟩) (fun M1 v hq hlen => ?_)
                  have gt := pTx_ok (len := len) (ch := ch) (p := q_39 + 1) (by omega)
                  rcases et : pTx len ch (q_39 + 1) with ⟨ot, qt⟩
                  rw [et] at hq gt
                  dsimp only at hq gt
                  obtain ⟨rfl, hP, hF1⟩ := hq
                  replace hA := hA.fr hF1 (by omega)
                  replace hF := hF.trans hF1.fi
                  rcases ot with _ | t
                  · skip
                    refine Zn_iast d_inp_readInstruction_129 hA.2.2.2.2.2.2 (by omega) (by omega) ?_
                    replace hA := hA.putT s (-1)
                    replace hP := hP.st (c := 40 + 6) (x := .inl (0, 120, .inl (upd (upd tx s (nI 0)) s (-1)))) (by omega)
                    replace hF := hF.trans (zFr.fa (zFr.set (c := 40 + 6) (x := .inl (0, 120, .inl (upd (upd tx s (nI 0)) s (-1)))) zFr.rf (by omega) (by omega)))
                    refine Z_aload_n d_inp_readInstruction_130 rfl ?_
                    refine Z_get d_inp_readInstruction_131 lf_inp_52 hA.1 rfl ?_
                    refine Z_iload_n d_inp_readInstruction_134 rfl ?_
                    refine Zn_iald d_inp_readInstruction_135 hA.2.2.2.2.2.2 (by omega) (by omega) ?_
                    rw [upd_s']
                    refine Zn_iconst (-1) d_inp_readInstruction_136 (by decide) ?_
                    refine Z_icmp_eq (tgt := 144) d_inp_readInstruction_137 (by decide) (fun h137 => ?_) (fun h137 => ?_)
                    · skip
                      skip
                      refine Zn_iconst (nI 0) d_inp_readInstruction_144 (by decide) ?_
                      refine Z_zret d_inp_readInstruction_145 rfl rfl ?_
                      have hz : pIns len ch p = (none, qt) := by simp [pIns, pKw, ek, n_38, e_39, b31_39, h67, h72, n_40, h90, et]
                      rw [hz]
                      exact ⟨rfl, hP, _, _, _, _, hA, fun j hj => ⟨by simp [nup, hj], by simp [nup, hj], by simp [nup, hj], by simp [upd, hj]⟩, (fun i hi => by cases hi), hF⟩
                    · skip
                      exact absurd rfl h137 -- end
                  · skip
                    have ht := gt.1 t rfl
                    refine Zn_iast d_inp_readInstruction_129 hA.2.2.2.2.2.2 (by omega) (by omega) ?_
                    replace hA := hA.putT s (nI t)
                    replace hP := hP.st (c := 40 + 6) (x := .inl (0, 120, .inl (upd (upd tx s (nI 0)) s (nI t)))) (by omega)
                    replace hF := hF.trans (zFr.fa (zFr.set (c := 40 + 6) (x := .inl (0, 120, .inl (upd (upd tx s (nI 0)) s (nI t)))) zFr.rf (by omega) (by omega)))
                    refine Z_aload_n d_inp_readInstruction_130 rfl ?_
                    refine Z_get d_inp_readInstruction_131 lf_inp_52 hA.1 rfl ?_
                    refine Z_iload_n d_inp_readInstruction_134 rfl ?_
                    refine Zn_iald d_inp_readInstruction_135 hA.2.2.2.2.2.2 (by omega) (by omega) ?_
                    rw [upd_s']
                    refine Zn_iconst (-1) d_inp_readInstruction_136 (by decide) ?_
                    refine Z_icmp_eq (tgt := 144) d_inp_readInstruction_137 (by decide) (fun h137 => ?_) (fun h137 => ?_)
                    · skip
                      exact absurd h137 (zn_m1 (by omega)) -- end
                    · skip
                      skip
                      refine Zn_iconst (nI 1) d_inp_readInstruction_140 (by decide) ?_
                      refine Z_goto (tgt := 145) d_inp_readInstruction_141 (by decide) ?_
                      refine Z_zret d_inp_readInstruction_145 rfl rfl ?_
                      have hz : pIns len ch p = (some (k, t_39, (0, 0, 0), t), qt) := by simp [pIns, pKw, ek, n_38, e_39, b31_39, h67, h72, n_40, h90, et]
                      rw [hz]
                      exact ⟨rfl, hP, _, _, _, _, hA, fun j hj => ⟨by simp [nup, hj], by simp [nup, hj], by simp [nup, hj], by simp [upd, hj]⟩, fun i hi => by cases hi; exact ⟨by simp [nup], by simp [nup], by simp [nup, k3, kk], by simp [upd]⟩, hF⟩
                · skip
                  skip
                  refine Z_aload_n d_inp_readInstruction_93 rfl ?_
                  refine Z_get d_inp_readInstruction_94 lf_inp_49 hA.1 rfl ?_
                  refine Z_iload_n d_inp_readInstruction_97 rfl ?_
                  refine Z_aload_n d_inp_readInstruction_98 rfl ?_
                  refine zV (As := []) (by omega) d_inp_readInstruction_99 lm_inp_34 hP.1 rfl rfl (Nat.le_of_ble_eq_true rfl) (in_readPath_ok (d + 1) hP ⟨hO1, by omega, hO3⟩) (fun M1 v hq hlen => ?_)
                  have g_41 := (pPth_ok (len := len) (ch := ch) (p := q_39 + 1) (by omega))
                  have z_41 := pKey_0 (len := len) (ch := ch) (p := q_39 + 1) (by omega)
                  have y_41 := k3_lt (len := len) (ch := ch) (p := q_39 + 1) (by omega)
                  rw [pKey_k3] at hq
                  rcases e_41 : pPth len ch (q_39 + 1) with ⟨b_41, t_41, q_41⟩
                  rw [e_41] at hq g_41 z_41 y_41
                  dsimp only at hq g_41 z_41 y_41
                  obtain ⟨rfl, hP, hF1⟩ := hq
                  replace hA := hA.fr hF1 (by omega)
                  replace hF := hF.trans hF1.fi
                  refine Zn_last d_inp_readInstruction_102 hA.2.2.2.2.2.1 (by omega) (by omega) ?_
                  replace hA := hA.putG s (k3 t_41)
                  replace hP := hP.st (c := 40 + 5) (x := .inl (1, 120, .inr (.inl (vp_updL (fun i => lN ((nup gl s 0) i)) s (lN (k3 t_41)))))) (by omega)
                  replace hF := hF.trans (zFr.fa (zFr.set (c := 40 + 5) (x := .inl (1, 120, .inr (.inl (vp_updL (fun i => lN ((nup gl s 0) i)) s (lN (k3 t_41)))))) zFr.rf (by omega) (by omega)))
                  refine Z_aload_n d_inp_readInstruction_103 rfl ?_
                  refine Z_get d_inp_readInstruction_104 lf_inp_49 hA.1 rfl ?_
                  refine Z_iload_n d_inp_readInstruction_107 rfl ?_
                  refine Zn_lald d_inp_readInstruction_108 hA.2.2.2.2.2.1 (by omega) (by omega) ?_
                  rw [nup_s]
                  refine Zn_lconst (0) d_inp_readInstruction_109 (by decide) ?_
                  refine Z_lcmp d_inp_readInstruction_110 ?_
                  refine Z_if_eq (tgt := 118) d_inp_readInstruction_111 (by decide) (fun h111 => ?_) (fun h111 => ?_)
                  · skip
                    have b111_41 : b_41 = false := z_41.mp ((zlN (b := 0) y_41 (by decide)).mp h111)
                    refine Zn_iconst (nI 0) d_inp_readInstruction_118 (by decide) ?_
                    refine Z_zret d_inp_readInstruction_119 rfl rfl ?_
                    have hz : pIns len ch p = (none, q_41) := by simp [pIns, pKw, ek, n_38, e_39, b31_39, h67, h72, n_40, h90, e_41, b111_41]
                    rw [hz]
                    exact ⟨rfl, hP, _, _, _, _, hA, fun j hj => ⟨by simp [nup, hj], by simp [nup, hj], by simp [nup, hj], by simp [upd, hj]⟩, (fun i hi => by cases hi), hF⟩
                  · skip
                    have b111_41 : b_41 = true := by
                      cases hb : b_41 with
                      | true => rfl
                      | false => exact absurd ((zlN (b := 0) y_41 (by decide)).mpr (z_41.mpr hb)) h111
                    refine Zn_iconst (nI 1) d_inp_readInstruction_114 (by decide) ?_
                    refine Z_goto (tgt := 119) d_inp_readInstruction_115 (by decide) ?_
                    refine Z_zret d_inp_readInstruction_119 rfl rfl ?_
                    have hz : pIns len ch p = (some (k, t_39, t_41, 0), q_41) := by simp [pIns, pKw, ek, n_38, e_39, b31_39, h67, h72, n_40, h90, e_41, b111_41]
                    rw [hz]
                    exact ⟨rfl, hP, _, _, _, _, hA, fun j hj => ⟨by simp [nup, hj], by simp [nup, hj], by simp [nup, hj], by simp [upd, hj]⟩, fun i hi => by cases hi; exact ⟨by simp [nup], by simp [nup], by simp [nup, k3, kk], by simp [upd]⟩, hF⟩
              · skip
                have n_42 : tk len ch q_39 32 = false := b10_f h83
                rw [if_neg (fun z => absurd (n_42.symm.trans z) (by decide))] at hP
                refine Zn_iconst (nI 0) d_inp_readInstruction_86 (by decide) ?_
                refine Z_zret d_inp_readInstruction_87 rfl rfl ?_
                have hz : pIns len ch p = (none, q_39) := by simp [pIns, pKw, ek, n_38, e_39, b31_39, h67, h72, n_42]
                rw [hz]
                exact ⟨rfl, hP, _, _, _, _, hA, fun j hj => ⟨by simp [nup, hj], by simp [nup, hj], by simp [nup, hj], by simp [upd, hj]⟩, (fun i hi => by cases hi), hF⟩
            · skip
              skip
              refine Zn_iconst (nI 1) d_inp_readInstruction_75 (by decide) ?_
              refine Z_zret d_inp_readInstruction_76 rfl rfl ?_
              have hz : pIns len ch p = (some (k, t_39, (0, 0, 0), 0), q_39) := by simp [pIns, pKw, ek, n_38, e_39, b31_39, h67, h72]
              rw [hz]
              exact ⟨rfl, hP, _, _, _, _, hA, fun j hj => ⟨by simp [nup, hj], by simp [nup, hj], by simp [nup, hj], by simp [upd, hj]⟩, fun i hi => by cases hi; exact ⟨by simp [nup], by simp [nup], by simp [nup, k3, kk], by simp [upd]⟩, hF⟩
        · skip
          have b31_39 : b_39 = false := z_39.mp ((zlN (b := 0) y_39 (by decide)).mp h31)
          refine Zn_iconst (nI 0) d_inp_readInstruction_34 (by decide) ?_
          refine Z_zret d_inp_readInstruction_35 rfl rfl ?_
          have hz : pIns len ch p = (none, q_39) := by simp [pIns, pKw, ek, n_38, e_39, b31_39]
          rw [hz]
          exact ⟨rfl, hP, _, _, _, _, hA, fun j hj => ⟨by simp [nup, hj], by simp [nup, hj], by simp [nup, hj], by simp [upd, hj]⟩, (fun i hi => by cases hi), hF⟩
      · skip
        have n_43 : tk len ch q1 32 = false := b10_f h16
        rw [if_neg (fun z => absurd (n_43.symm.trans z) (by decide))] at hP
        refine Zn_iconst (nI 0) d_inp_readInstruction_19 (by decide) ?_
        refine Z_zret d_inp_readInstruction_20 rfl rfl ?_
        have hz : pIns len ch p = (none, q1) := by simp [pIns, pKw, ek, n_43]
        rw [hz]
        exact ⟨rfl, hP, _, _, _, _, hA, fun j hj => ⟨by simp [nup, hj], by simp [nup, hj], by simp [nup, hj], by simp [upd, hj]⟩, (fun i hi => by cases hi), hF⟩
