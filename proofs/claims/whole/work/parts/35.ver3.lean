/-! computing a version -/
def vBeg (S : vSt) (n2 : Nat) (e2 : Nat → zEnt) : vSt := (n2, mixE S.2.1 e2 n2, 0, S.2.2.2)
set_option maxHeartbeats 4000000 in
theorem ver_start_ok {Γ : zCtx} {M : List zE} (d : Nat) {b : Nat} {S : vSt} (hV : VeS M b S) (hb : b ≤ 1000) {c n2 m : Nat} {e2 : Nat → zEnt} {rc : Nat → Nat} {tg : Nat → Nat → Nat} {dy sz kd pt gl : Nat → Nat} {tx : Nat → Int32} (hS : StAt M c n2 e2 rc tg m dy sz kd pt gl tx) (hn2 : n2 ≤ 30) (hd : c + 46 ≤ b ∨ b + 10 ≤ c) : ZM Γ (d + 2) m_ver_start [.ref b, .ref c] M (fun M1 v => v = none ∧ VeS M1 b (vBeg S n2 e2) ∧ zFr M M1 b 10) := by
  refine ZM.of mk_ver_start (Nat.le_of_ble_eq_true rfl) ?_
  refine Z_aload_n d_ver_start_0 rfl ?_
  refine Z_get d_ver_start_1 lf_ver_12 hV.1 rfl ?_
  refine Z_aload_n d_ver_start_4 rfl ?_
  refine Z_get d_ver_start_5 lf_ver_51 hS.1 rfl ?_
  refine zV (As := [.ref (c + 1)]) (by omega) d_ver_start_8 lm_ver_54 hV.2.1.1 rfl rfl (Nat.le_of_ble_eq_true rfl) (pv_copyFrom_ok d hV.2.1 hS.2.1 (by omega) (by omega)) (fun M1 v hq hlen => ?_)
  obtain ⟨rfl, hP1, hF1⟩ := hq
  have hV := VeAt.pv hV hP1 hF1
  refine Z_aload_n d_ver_start_11 rfl ?_
  refine Zn_iconst (nI 0) d_ver_start_12 (by decide) ?_
  refine Z_puti d_ver_start_13 lf_ver_58 hV.1 rfl rfl (Nat.le_of_ble_eq_true rfl) ?_
  refine Z_vret d_ver_start_16 rfl ?_
  exact ⟨rfl, hV.q, zFr.set (hF1.wide (by omega) (by omega)) (by omega) (by omega)⟩
def aplL (dy : Nat → Nat) (m : Nat) (x : Int32) : Nat → Option Nat → List Nat
  | 0, _ => []
  | _ + 1, none => []
  | f + 1, some a => if nI (dy a) ≤ x then a :: aplL dy m x f (nxA dy (some a) m) else []
def vLs (sz kd pt gl : Nat → Nat) (tx : Nat → Int32) : List Nat → vSt → vSt → Prop
  | [], S, S' => S' = S
  | a :: l, S, S' => ∃ S1, vAp kd pt gl tx a S (sz a) S1 ∧ vLs sz kd pt gl tx l S1 S'
theorem vLs_app {sz kd pt gl : Nat → Nat} {tx : Nat → Int32} : ∀ {l1 l2 : List Nat} {S S1 S2 : vSt}, vLs sz kd pt gl tx l1 S S1 → vLs sz kd pt gl tx l2 S1 S2 → vLs sz kd pt gl tx (l1 ++ l2) S S2
  | [], l2, S, S1, S2, h1, h2 => by have h1 : S1 = S := h1; subst h1; exact h2
  | a :: l, l2, S, S1, S2, ⟨S3, h3, h4⟩, h2 => ⟨S3, h3, vLs_app h4 h2⟩
set_option maxHeartbeats 4000000 in
theorem ver_compute_loop {Γ : zCtx} {M0 : List zE} (d : Nat) {b : Nat} (hb : b ≤ 1000) {c n2 m : Nat} {e2 : Nat → zEnt} {rc : Nat → Nat} {tg : Nat → Nat → Nat} {dy sz kd pt gl : Nat → Nat} {tx : Nat → Int32} (hS : ∀ M1, zFr M0 M1 b 10 → StAt M1 c n2 e2 rc tg m dy sz kd pt gl tx) (hn2 : n2 ≤ 30) (hc9 : c ≤ 1000) (hd : c + 46 ≤ b ∨ b + 10 ≤ c) (hm : m ≤ 8) (hdy : ∀ i, i < m → dy i ≤ 9999) (hsz : ∀ i, i < m → sz i ≤ 15) (hok : ∀ a, a < m → ∀ i, i < sz a → insOk kd pt gl (a * 15 + i)) (hpr : vPres kd pt gl tx) {x : Int32} : ∀ (f j : Nat) (M : List zE) (S : vSt) (o : Option Nat), j ≤ 8 → 8 < j + f → VeS M b S → zFr M0 M b 10 → vInv S.1 S.2.1 → S.2.2.1 ≤ 15 * j → (∀ a, o = some a → a < m) → ∀ Q : List zE → Option Value → Prop, (∀ M1 S1, VeS M1 b S1 → zFr M0 M1 b 10 → vInv S1.1 S1.2.1 → S1.2.2.1 ≤ 120 → vLs sz kd pt gl tx (aplL dy m x (8 - j) o) S S1 → Q M1 (some (.int (nI 1)))) → Z Γ (zRm (d + 6) m_ver_compute) m_ver_compute (zPh Γ m_ver_compute Q) 0 0 34 [some (.ref b), some (.ref c), some (.int x), some (.ref (c + 39)), some (.int (oI o (-1))), some (.int (nI j))] [] M := by
  intro f
  induction f with
  | zero => intro j M S o hj hf; exact absurd hf (by omega)
  | succ f ih =>
    intro j M S o hj hf hV hF hI hqq ho Q hQ
    rcases o with _ | a
    · skip
      refine Z_iload d_ver_compute_34 rfl ?_
      refine Zn_bipush (nI 8) d_ver_compute_36 (by decide) ?_
      refine Zn_icmp_ge (tgt := 78) d_ver_compute_38 (by decide) (by omega) (by omega) (fun h38 => ?_) (fun h38 => ?_)
      · skip
        have hj : j = 8 := by omega
        subst hj
        refine Zn_iconst (nI 1) d_ver_compute_78 (by decide) ?_
        refine Z_zret d_ver_compute_79 rfl rfl ?_
        first | exact hQ M S hV hF hI (by omega) (by rw [show 8 - 8 = 0 from rfl]; rfl) | exact hQ M S hV hF hI (by omega) (by rw [show 8 - j = (8 - (j + 1)) + 1 by omega]; rfl) | exact hQ M S hV hF hI (by omega) (by rw [show 8 - j = (8 - (j + 1)) + 1 by omega, aplL, if_neg (Int32.not_le.mpr h54)]; rfl)
      · skip
        refine Z_iload d_ver_compute_41 rfl ?_
        refine Z_if_lt (tgt := 78) d_ver_compute_43 (by decide) (fun h43 => ?_) (fun h43 => ?_)
        · skip
          refine Zn_iconst (nI 1) d_ver_compute_78 (by decide) ?_
          refine Z_zret d_ver_compute_79 rfl rfl ?_
          first | exact hQ M S hV hF hI (by omega) (by rw [show 8 - 8 = 0 from rfl]; rfl) | exact hQ M S hV hF hI (by omega) (by rw [show 8 - j = (8 - (j + 1)) + 1 by omega]; rfl) | exact hQ M S hV hF hI (by omega) (by rw [show 8 - j = (8 - (j + 1)) + 1 by omega, aplL, if_neg (Int32.not_le.mpr h54)]; rfl)
        · skip
          exact absurd (by decide) h43 -- end
    · skip
      have ha := ho a rfl
      have hda := hdy a ha
      have hsa := hsz a ha
      refine Z_iload d_ver_compute_34 rfl ?_
      refine Zn_bipush (nI 8) d_ver_compute_36 (by decide) ?_
      refine Zn_icmp_ge (tgt := 78) d_ver_compute_38 (by decide) (by omega) (by omega) (fun h38 => ?_) (fun h38 => ?_)
      · skip
        have hj : j = 8 := by omega
        subst hj
        refine Zn_iconst (nI 1) d_ver_compute_78 (by decide) ?_
        refine Z_zret d_ver_compute_79 rfl rfl ?_
        first | exact hQ M S hV hF hI (by omega) (by rw [show 8 - 8 = 0 from rfl]; rfl) | exact hQ M S hV hF hI (by omega) (by rw [show 8 - j = (8 - (j + 1)) + 1 by omega]; rfl) | exact hQ M S hV hF hI (by omega) (by rw [show 8 - j = (8 - (j + 1)) + 1 by omega, aplL, if_neg (Int32.not_le.mpr h54)]; rfl)
      · skip
        refine Z_iload d_ver_compute_41 rfl ?_
        refine Zn_if_lt (tgt := 78) d_ver_compute_43 (by decide) (by omega) ?_
        refine Z_aload_n d_ver_compute_46 rfl ?_
        refine Z_get d_ver_compute_47 lf_ver_44 (hS _ hF).2.2.2.2.2.1 rfl ?_
        refine Z_iload d_ver_compute_50 rfl ?_
        refine Zn_iald d_ver_compute_52 (hS _ hF).2.2.2.2.2.2.1 (by omega) (by omega) ?_
        refine Z_iload_n d_ver_compute_53 rfl ?_
        refine Z_icmp_gt (tgt := 78) d_ver_compute_54 (by decide) (fun h54 => ?_) (fun h54 => ?_)
        · skip
          refine Zn_iconst (nI 1) d_ver_compute_78 (by decide) ?_
          refine Z_zret d_ver_compute_79 rfl rfl ?_
          first | exact hQ M S hV hF hI (by omega) (by rw [show 8 - 8 = 0 from rfl]; rfl) | exact hQ M S hV hF hI (by omega) (by rw [show 8 - j = (8 - (j + 1)) + 1 by omega]; rfl) | exact hQ M S hV hF hI (by omega) (by rw [show 8 - j = (8 - (j + 1)) + 1 by omega, aplL, if_neg (Int32.not_le.mpr h54)]; rfl)
        · skip
          refine Z_aload_n d_ver_compute_57 rfl ?_
          refine Z_aload_n d_ver_compute_58 rfl ?_
          refine Z_iload d_ver_compute_59 rfl ?_
          refine zV (As := [.ref (c + 39), .int (nI a)]) (by omega) d_ver_compute_61 lm_ver_47 hV.1 rfl rfl (Nat.le_of_ble_eq_true rfl) (ver_apply_ok (q0 := 15 * j) (a := a) d hV hb (hS _ hF).2.2.2.2.2 (by omega) (by omega) (hsz _ (by omega)) (by omega) (by have := hsz a (by omega); omega) (hok a (by omega)) hpr hI) (fun M1 v hq hlen => ?_)
          obtain ⟨rfl, S1, hV1, hF1, hI1, hq1, hap⟩ := hq
          have hF1 := hF.trans hF1
          refine Z_aload_n d_ver_compute_64 rfl ?_
          refine Z_iload d_ver_compute_65 rfl ?_
          refine zVe (As := [.int (nI a)]) (by omega) d_ver_compute_67 lm_ver_38 (hS _ hF1).2.2.2.2.2.1 rfl rfl (Nat.le_of_ble_eq_true rfl) (am_next_ok (a := a) (d + 3) (hS _ hF1).2.2.2.2.2 hm hdy ha) ?_
          refine Zn_istore [some (.ref b), some (.ref c), some (.int x), some (.ref (c + 39)), some (.int (oI (nxA dy (some a) m) (-1))), some (.int (nI j))] d_ver_compute_70 (by decide) rfl ?_
          refine Zn_iinc [some (.ref b), some (.ref c), some (.int x), some (.ref (c + 39)), some (.int (oI (nxA dy (some a) m) (-1))), some (.int (nI (j + 1)))] (nI (j + 1)) d_ver_compute_72 rfl (by decide) (nI_add j 1) rfl ?_
          refine Z_goto (tgt := 34) d_ver_compute_75 (by decide) ?_
          have hle : nI (dy a) ≤ x := Int32.not_lt.mp h54
          exact ih (j + 1) M1 S1 (nxA dy (some a) m) (by omega) (by omega) hV1 hF1 hI1 (by omega) (fun q hq => nxA_lt hq) Q (fun M2 S2 b1 b2 b3 b4 b5 => hQ M2 S2 b1 b2 b3 b4 (by
            rw [show 8 - j = (8 - (j + 1)) + 1 by omega, aplL, if_pos hle]
            exact ⟨S1, hap, b5⟩))
theorem vInv_mix {n2 : Nat} {e e2 : Nat → zEnt} (hn2 : n2 ≤ 30) (h : vInv n2 e2) : vInv n2 (mixE e e2 n2) := ⟨by omega, fun i hi => by unfold mixE; rw [if_pos hi]; exact h.2 i hi⟩
set_option maxHeartbeats 4000000 in
theorem ver_compute_ok {Γ : zCtx} {M : List zE} (d : Nat) {b : Nat} {S : vSt} (hV : VeS M b S) (hb : b ≤ 1000) {c n2 m : Nat} {e2 : Nat → zEnt} {rc : Nat → Nat} {tg : Nat → Nat → Nat} {dy sz kd pt gl : Nat → Nat} {tx : Nat → Int32} (hS : StAt M c n2 e2 rc tg m dy sz kd pt gl tx) (hn2 : n2 ≤ 30) (hd : c + 46 ≤ b ∨ b + 10 ≤ c) (hc9 : c ≤ 1000) (hm : m ≤ 8) (hdy : ∀ i, i < m → dy i ≤ 9999) (hsz : ∀ i, i < m → sz i ≤ 15) (hok : ∀ a, a < m → ∀ i, i < sz a → insOk kd pt gl (a * 15 + i)) (hpr : vPres kd pt gl tx) (hI : vInv n2 e2) {x : Int32} (hx1 : ¬ x < -1) (hx2 : x ≤ 9999) : ZM Γ (d + 6) m_ver_compute [.ref b, .ref c, .int x] M (fun M1 v => v = some (.int (nI 1)) ∧ ∃ S1, VeS M1 b S1 ∧ zFr M M1 b 10 ∧ vInv S1.1 S1.2.1 ∧ S1.2.2.1 ≤ 120 ∧ vLs sz kd pt gl tx (aplL dy m x 8 (nxA dy none m)) (vBeg S n2 e2) S1) := by
  refine ZM.of mk_ver_compute (Nat.le_of_ble_eq_true rfl) ?_
  rw [show zEn [.ref b, .ref c, .int x] = [some (.ref b), some (.ref c), some (.int x)] from rfl]
  refine zPad 3 ?_
  show Z _ _ _ _ _ _ _ [some (.ref b), some (.ref c), some (.int x), none, none, none] _ _
  refine Z_iload_n d_ver_compute_0 rfl ?_
  refine Zn_iconst (-1) d_ver_compute_1 (by decide) ?_
  refine Z_icmp_lt (tgt := 12) d_ver_compute_2 (by decide) (fun h2 => ?_) (fun h2 => ?_)
  · skip
    exact absurd h2 hx1 -- end
  · skip
    refine Z_iload_n d_ver_compute_5 rfl ?_
    refine Zn_sipush (nI 9999) d_ver_compute_6 (by decide) ?_
    refine Z_icmp_le (tgt := 14) d_ver_compute_9 (by decide) (fun h9 => ?_) (fun h9 => ?_)
    · skip
      refine Z_aload_n d_ver_compute_14 rfl ?_
      refine Z_aload_n d_ver_compute_15 rfl ?_
      refine zV (As := [.ref c]) (by omega) d_ver_compute_16 lm_ver_28 hV.1 rfl rfl (Nat.le_of_ble_eq_true rfl) (ver_start_ok (d + 3) hV hb hS hn2 (by omega)) (fun M1 v hq hlen => ?_)
      obtain ⟨rfl, hV1, hF1⟩ := hq
      have hS0 := hS
      have hS := hS0.fr hF1 (by omega)
      refine Z_aload_n d_ver_compute_19 rfl ?_
      refine Z_get d_ver_compute_20 lf_ver_32 hS.1 rfl ?_
      refine Zn_astore_n [some (.ref b), some (.ref c), some (.int x), some (.ref (c + 39)), none, none] d_ver_compute_23 (by decide) rfl ?_
      refine Z_aload_n d_ver_compute_24 rfl ?_
      refine Zn_iconst (-1) d_ver_compute_25 (by decide) ?_
      refine zVe (As := [.int (-1)]) (by omega) d_ver_compute_26 lm_ver_38 hS.2.2.2.2.2.1 rfl rfl (Nat.le_of_ble_eq_true rfl) (am_first_ok (d + 3) hS.2.2.2.2.2 hm hdy) ?_
      refine Zn_istore [some (.ref b), some (.ref c), some (.int x), some (.ref (c + 39)), some (.int (oI (nxA dy none m) (-1))), none] d_ver_compute_29 (by decide) rfl ?_
      refine Zn_iconst (nI 0) d_ver_compute_31 (by decide) ?_
      refine Zn_istore [some (.ref b), some (.ref c), some (.int x), some (.ref (c + 39)), some (.int (oI (nxA dy none m) (-1))), some (.int (nI 0))] d_ver_compute_32 (by decide) rfl ?_
      exact ver_compute_loop (M0 := M) d hb (fun M1 hf => hS0.fr hf (by omega)) hn2 hc9 hd hm hdy hsz hok hpr 9 0 M1 _ _ (by omega) (by omega) hV1 hF1 (vInv_mix hn2 hI) (by show 0 ≤ _; omega) (fun q hq => nxA_lt hq) _ (fun M2 S2 b1 b2 b3 b4 b5 => ⟨rfl, S2, b1, b2, b3, b4, b5⟩)
    · skip
      exact absurd hx2 h9 -- end
set_option maxHeartbeats 4000000 in
theorem ver_compute_no {Γ : zCtx} {M : List zE} (d : Nat) {b c : Nat} {x : Int32} (hx : ¬ x < -1 → ¬ x ≤ 9999) : ZM Γ (d + 6) m_ver_compute [.ref b, .ref c, .int x] M (zEq M (some (.int (nI 0)))) := by
  refine ZM.of mk_ver_compute (Nat.le_of_ble_eq_true rfl) ?_
  rw [show zEn [.ref b, .ref c, .int x] = [some (.ref b), some (.ref c), some (.int x)] from rfl]
  refine zPad 3 ?_
  show Z _ _ _ _ _ _ _ [some (.ref b), some (.ref c), some (.int x), none, none, none] _ _
  refine Z_iload_n d_ver_compute_0 rfl ?_
  refine Zn_iconst (-1) d_ver_compute_1 (by decide) ?_
  refine Z_icmp_lt (tgt := 12) d_ver_compute_2 (by decide) (fun h2 => ?_) (fun h2 => ?_)
  · skip
    refine Zn_iconst (nI 0) d_ver_compute_12 (by decide) ?_
    refine Z_zret d_ver_compute_13 rfl rfl ?_
    exact ⟨rfl, rfl⟩
  · skip
    refine Z_iload_n d_ver_compute_5 rfl ?_
    refine Zn_sipush (nI 9999) d_ver_compute_6 (by decide) ?_
    refine Z_icmp_le (tgt := 14) d_ver_compute_9 (by decide) (fun h9 => ?_) (fun h9 => ?_)
    · skip
      exact absurd h9 (fun z => hx h2 z) -- end
    · skip
      refine Zn_iconst (nI 0) d_ver_compute_12 (by decide) ?_
      refine Z_zret d_ver_compute_13 rfl rfl ?_
      exact ⟨rfl, rfl⟩
set_option maxHeartbeats 4000000 in
theorem ver_two_ok {Γ : zCtx} {M : List zE} (d : Nat) {b : Nat} {S : vSt} (hV : VeS M b S) (hb : b ≤ 1000) {c n2 m : Nat} {e2 : Nat → zEnt} {rc : Nat → Nat} {tg : Nat → Nat → Nat} {dy sz kd pt gl : Nat → Nat} {tx : Nat → Int32} (hS0 : StAt M c n2 e2 rc tg m dy sz kd pt gl tx) (hn2 : n2 ≤ 30) (hd : c + 46 ≤ b ∨ b + 10 ≤ c) (hc9 : c ≤ 1000) (hm : m ≤ 8) (hdy : ∀ i, i < m → dy i ≤ 9999) (hsz : ∀ i, i < m → sz i ≤ 15) (hok : ∀ a, a < m → ∀ i, i < sz a → insOk kd pt gl (a * 15 + i)) (hpr : vPres kd pt gl tx) (hI0 : vInv n2 e2) {a a2 : Nat} (ha : a < m) (ha2 : a2 < m) : ZM Γ (d + 6) m_ver_computeFromTwo [.ref b, .ref c, .int (nI a), .int (nI a2)] M (fun M1 v => v = none ∧ ∃ S1, VeS M1 b S1 ∧ zFr M M1 b 10 ∧ vInv S1.1 S1.2.1 ∧ S1.2.2.1 ≤ 120 ∧ vLs sz kd pt gl tx [a, a2] (vBeg S n2 e2) S1) := by
  refine ZM.of mk_ver_computeFromTwo (Nat.le_of_ble_eq_true rfl) ?_
  have hS : ∀ M1, zFr M M1 b 10 → StAt M1 c n2 e2 rc tg m dy sz kd pt gl tx := fun M1 hf => hS0.fr hf (by omega)
  refine Z_aload_n d_ver_computeFromTwo_0 rfl ?_
  refine Z_aload_n d_ver_computeFromTwo_1 rfl ?_
  refine zV (As := [.ref c]) (by omega) d_ver_computeFromTwo_2 lm_ver_28 hV.1 rfl rfl (Nat.le_of_ble_eq_true rfl) (ver_start_ok (d + 3) hV hb (hS _ zFr.rf) hn2 (by omega)) (fun M1 v hq hlen => ?_)
  obtain ⟨rfl, hV1, hF1⟩ := hq
  have hF := hF1
  have hI := vInv_mix (e := S.2.1) hn2 hI0
  refine Z_aload_n d_ver_computeFromTwo_5 rfl ?_
  refine Z_aload_n d_ver_computeFromTwo_6 rfl ?_
  refine Z_get d_ver_computeFromTwo_7 lf_ver_32 (hS _ hF).1 rfl ?_
  refine Z_iload_n d_ver_computeFromTwo_10 rfl ?_
  refine zV (As := [.ref (c + 39), .int (nI a)]) (by omega) d_ver_computeFromTwo_11 lm_ver_47 hV1.1 rfl rfl (Nat.le_of_ble_eq_true rfl) (ver_apply_ok (q0 := 0) (a := a) d hV1 hb (hS _ hF).2.2.2.2.2 (by omega) (by omega) (hsz _ ha) (by show 0 ≤ 0; omega) (by have := hsz a ha; omega) (hok a ha) hpr hI) (fun M2 v hq hlen => ?_)
  obtain ⟨rfl, S2, hV2, hF2, hI2, hq2, hap2⟩ := hq
  have hF := hF.trans hF2
  refine Z_aload_n d_ver_computeFromTwo_14 rfl ?_
  refine Z_aload_n d_ver_computeFromTwo_15 rfl ?_
  refine Z_get d_ver_computeFromTwo_16 lf_ver_32 (hS _ hF).1 rfl ?_
  refine Z_iload_n d_ver_computeFromTwo_19 rfl ?_
  refine zV (As := [.ref (c + 39), .int (nI a2)]) (by omega) d_ver_computeFromTwo_20 lm_ver_47 hV2.1 rfl rfl (Nat.le_of_ble_eq_true rfl) (ver_apply_ok (q0 := 15) (a := a2) d hV2 hb (hS _ hF).2.2.2.2.2 (by omega) (by omega) (hsz _ ha2) (by have := hsz a ha; omega) (by have := hsz a2 ha2; omega) (hok a2 ha2) hpr hI2) (fun M3 v hq hlen => ?_)
  obtain ⟨rfl, S3, hV3, hF3, hI3, hq3, hap3⟩ := hq
  have hF := hF.trans hF3
  refine Z_vret d_ver_computeFromTwo_23 rfl ?_
  exact ⟨rfl, S3, hV3, hF, hI3, by have := hsz a2 ha2; omega, S2, hap2, S3, hap3, rfl⟩
