/-! figures, snapshots -/
def avS (S : vSt) : Nat → Nat × Nat
  | 0 => (0, 0)
  | i + 1 => if er (S.2.1 i) = true then avS S i else ((avS S i).1 + lev (ek (S.2.1 i)), (avS S i).2 + 1)
theorem avS_le (S : vSt) : ∀ i, (avS S i).1 ≤ 3 * i ∧ (avS S i).2 ≤ i
  | 0 => by simp [avS]
  | i + 1 => by
    have ih := avS_le S i
    have hl := lev_le (ek (S.2.1 i))
    unfold avS
    split
    · omega
    · dsimp only; omega
def rpS (S : vSt) : Nat → Nat
  | 0 => 0
  | i + 1 => if er (S.2.1 i) = true then rpS S i + 1 else rpS S i
theorem rpS_le (S : vSt) : ∀ i, rpS S i ≤ i
  | 0 => Nat.le_refl _
  | i + 1 => by
    have ih := rpS_le S i
    unfold rpS
    split <;> omega
def avA (S : vSt) : Int32 := if (avS S S.1).2 = 0 then 2143289344 else (qBt (avS S S.1).1 (avS S S.1).2 24 127).toInt32
def rpA (S : vSt) : Int64 := if S.1 = 0 then 9221120237041090560 else qBt (rpS S S.1) S.1 53 1023
set_option maxHeartbeats 4000000 in
theorem sc_av_loop {Γ : zCtx} {M : List zE} (d : Nat) {sv : Bool} (h0 : ScO M sv) {n m : Nat} {e : Nat → zEnt} {rc : Nat → Nat} {tg : Nat → Nat → Nat} {dy sz kd pt gl : Nat → Nat} {tx : Nat → Int32} (hS : StAt M 1 n e rc tg m dy sz kd pt gl tx) (hn : n ≤ 30) {S : vSt} (hV : VeS M 103 S) (hn6 : S.1 ≤ 60) (hvI : vInv S.1 S.2.1) {x : Int32} : ∀ (f i : Nat), i ≤ S.1 → S.1 < i + f → ∀ Q : List zE → Option Value → Prop, Q M (some (.int (avA S))) → Z Γ (zRm (d + 7) m_sc_averageLevel) m_sc_averageLevel (zPh Γ m_sc_averageLevel Q) 0 0 25 [some (.ref 0), some (.int x), some (.int (nI ((avS S i).1))), some (.int (nI ((avS S i).2))), some (.int (nI i))] [] M := by
  intro f
  induction f with
  | zero => intro i h1 h2; exact absurd h2 (by omega)
  | succ f ih =>
    intro i h1 hf Q hQ
    refine Z_iload d_sc_averageLevel_25 rfl ?_
    refine Z_aload_n d_sc_averageLevel_27 rfl ?_
    refine Z_get d_sc_averageLevel_28 lf_sc_40 h0 rfl ?_
    refine Z_get d_sc_averageLevel_31 lf_sc_142 hV.1 rfl ?_
    refine Z_get d_sc_averageLevel_34 lf_sc_68 hV.2.1.1 rfl ?_
    have hal := avS_le S i
    refine Zn_icmp_ge (tgt := 84) d_sc_averageLevel_37 (by decide) (by omega) (by omega) (fun h37 => ?_) (fun h37 => ?_)
    · skip
      have hi : i = S.1 := by omega
      subst hi
      refine Z_iload_n d_sc_averageLevel_84 rfl ?_
      refine Zn_if_ne (tgt := 91) d_sc_averageLevel_85 (by decide) (by omega) (fun h85 => ?_) (fun h85 => ?_)
      · skip
        refine Z_iload_n d_sc_averageLevel_91 rfl ?_
        refine Z_iload_n d_sc_averageLevel_92 rfl ?_
        refine Zn_bipush (nI 24) d_sc_averageLevel_93 (by decide) ?_
        refine Zn_bipush (nI 127) d_sc_averageLevel_95 (by decide) ?_
        refine zTe (As := [.int (nI ((avS S S.1).1)), .int (nI ((avS S S.1).2)), .int (nI 24), .int (nI 127)]) (by omega) d_sc_averageLevel_97 lm_sc_216 rfl (Nat.le_of_ble_eq_true rfl) (sc_q_ok (d + 5) (by omega) (by omega) (by omega) (by omega) (by omega)) ?_
        refine Z_l2i d_sc_averageLevel_100 ?_
        refine Z_iret d_sc_averageLevel_101 rfl ?_
        unfold avA at hQ
        rw [if_neg h85] at hQ
        exact hQ
      · skip
        refine Z_ldc wk_sc_215 d_sc_averageLevel_88 ?_
        refine Z_iret d_sc_averageLevel_90 rfl ?_
        unfold avA at hQ
        rw [if_pos h85] at hQ
        exact hQ
    · skip
      refine Z_aload_n d_sc_averageLevel_40 rfl ?_
      refine Z_get d_sc_averageLevel_41 lf_sc_40 h0 rfl ?_
      refine Z_get d_sc_averageLevel_44 lf_sc_142 hV.1 rfl ?_
      refine Z_get d_sc_averageLevel_47 lf_sc_153 hV.2.1.1 rfl ?_
      refine Z_iload d_sc_averageLevel_50 rfl ?_
      refine Zn_zald d_sc_averageLevel_52 hV.2.1.2.2.2.1 (by omega) (by omega) ?_
      refine Z_if_ne (tgt := 78) d_sc_averageLevel_53 (by decide) (fun h53 => ?_) (fun h53 => ?_)
      · skip
        have r53 : er (S.2.1 i) = true := by
          cases hh : er (S.2.1 i) with
          | true => rfl
          | false => exact absurd (bI_0.mpr hh) h53
        refine Zn_iinc [some (.ref 0), some (.int x), some (.int (nI ((avS S i).1))), some (.int (nI ((avS S i).2))), some (.int (nI (i + 1)))] (nI (i + 1)) d_sc_averageLevel_78 rfl (by decide) (nI_add i 1) rfl ?_
        refine Z_goto (tgt := 25) d_sc_averageLevel_81 (by decide) ?_
        have ha1 : nI ((avS S i).1) = nI (avS S (i + 1)).1 := by rw [avS, if_pos r53]
        have ha2 : nI ((avS S i).2) = nI (avS S (i + 1)).2 := by rw [avS, if_pos r53]
        rw [ha1, ha2]
        exact ih (i + 1) (by omega) (by omega) Q hQ
      · skip
        have r53 : er (S.2.1 i) = false := bI_0.mp h53
        refine Z_iload_n d_sc_averageLevel_56 rfl ?_
        refine Z_aload_n d_sc_averageLevel_57 rfl ?_
        refine Z_get d_sc_averageLevel_58 lf_sc_40 h0 rfl ?_
        refine Z_get d_sc_averageLevel_61 lf_sc_142 hV.1 rfl ?_
        refine Z_get d_sc_averageLevel_64 lf_sc_149 hV.2.1.1 rfl ?_
        refine Z_iload d_sc_averageLevel_67 rfl ?_
        refine Zn_lald d_sc_averageLevel_69 hV.2.1.2.1 (by omega) (by omega) ?_
        have hkv := hvI.2 i (by omega)
        refine zTe (As := [.long (lN (ek (S.2.1 i)))]) (by omega) d_sc_averageLevel_70 lm_sc_60 rfl (Nat.le_of_ble_eq_true rfl) (pa_levelOf_ok (d + 5) hkv.1) ?_
        have hl3 := lev_le (ek (S.2.1 i))
        refine Zn_iadd d_sc_averageLevel_73 ?_
        refine Zn_istore_n [some (.ref 0), some (.int x), some (.int (nI (((avS S i).1) + (lev (ek (S.2.1 i)))))), some (.int (nI ((avS S i).2))), some (.int (nI i))] d_sc_averageLevel_74 (by decide) rfl ?_
        refine Zn_iinc [some (.ref 0), some (.int x), some (.int (nI (((avS S i).1) + (lev (ek (S.2.1 i)))))), some (.int (nI (((avS S i).2) + 1))), some (.int (nI i))] (nI (((avS S i).2) + 1)) d_sc_averageLevel_75 rfl (by decide) (nI_add ((avS S i).2) 1) rfl ?_
        refine Zn_iinc [some (.ref 0), some (.int x), some (.int (nI (((avS S i).1) + (lev (ek (S.2.1 i)))))), some (.int (nI (((avS S i).2) + 1))), some (.int (nI (i + 1)))] (nI (i + 1)) d_sc_averageLevel_78 rfl (by decide) (nI_add i 1) rfl ?_
        refine Z_goto (tgt := 25) d_sc_averageLevel_81 (by decide) ?_
        have ha1 : nI (((avS S i).1) + (lev (ek (S.2.1 i)))) = nI (avS S (i + 1)).1 := by rw [avS, if_neg (by rw [r53]; decide)]
        have ha2 : nI (((avS S i).2) + 1) = nI (avS S (i + 1)).2 := by rw [avS, if_neg (by rw [r53]; decide)]
        rw [ha1, ha2]
        exact ih (i + 1) (by omega) (by omega) Q hQ
set_option maxHeartbeats 4000000 in
theorem sc_averageLevel_ok {Γ : zCtx} {M : List zE} (d : Nat) {sv : Bool} (h0 : ScO M sv) {n m : Nat} {e : Nat → zEnt} {rc : Nat → Nat} {tg : Nat → Nat → Nat} {dy sz kd pt gl : Nat → Nat} {tx : Nat → Int32} (hS : StAt M 1 n e rc tg m dy sz kd pt gl tx) (hn : n ≤ 30) (hc : cOk n e m dy sz kd pt gl) {S0 : vSt} (hV : VeS M 103 S0) (x : Int32) : ZM Γ (d + 7) m_sc_averageLevel [.ref 0, .int x] M (vQ 103 M n e m dy sz kd pt gl tx x (.int (-4)) (fun S => .int (avA S))) := by
  refine ZM.of mk_sc_averageLevel (Nat.le_of_ble_eq_true rfl) ?_
  rw [show zEn [.ref 0, .int x] = [some (.ref 0), some (.int x)] from rfl]
  refine zPad 3 ?_
  show Z _ _ _ _ _ _ _ [some (.ref 0), some (.int x), none, none, none] _ _
  refine Z_aload_n d_sc_averageLevel_0 rfl ?_
  refine Z_get d_sc_averageLevel_1 lf_sc_40 h0 rfl ?_
  refine Z_aload_n d_sc_averageLevel_4 rfl ?_
  refine Z_get d_sc_averageLevel_5 lf_sc_12 h0 rfl ?_
  refine Z_iload_n d_sc_averageLevel_8 rfl ?_
  refine zV (As := [.ref 1, .int x]) (by omega) d_sc_averageLevel_9 lm_sc_138 hV.1 rfl rfl (Nat.le_of_ble_eq_true rfl) (ver_cmp (d + 0) hV hS hn (by omega) hc x) (fun M1 v hq hlen => ?_)
  rcases hq with ⟨hdf, hM, rfl⟩ | ⟨hdt, S, hV1, hF, hvo, rfl⟩
  · skip
    subst hM
    refine Zn_if_ne (a := 0) (tgt := 18) d_sc_averageLevel_12 (by decide) (by decide) (fun h => absurd h (by decide)) (fun _ => ?_)
    refine Zn_bipush (-4) d_sc_averageLevel_15 (by decide) ?_
    refine Z_iret d_sc_averageLevel_17 rfl ?_
    exact Or.inl ⟨hdf, rfl, rfl⟩
  · skip
    have h0 := h0.fr hF (by omega)
    have hS := hS.fr hF (by omega)
    have hV := hV1
    have hn6 := hvo.1.1
    refine Zn_if_ne (a := 1) (tgt := 18) d_sc_averageLevel_12 (by decide) (by decide) (fun _ => ?_) (fun h => absurd h (by decide))
    refine Zn_iconst (nI 0) d_sc_averageLevel_18 (by decide) ?_
    refine Zn_istore_n [some (.ref 0), some (.int x), some (.int (nI 0)), none, none] d_sc_averageLevel_19 (by decide) rfl ?_
    refine Zn_iconst (nI 0) d_sc_averageLevel_20 (by decide) ?_
    refine Zn_istore_n [some (.ref 0), some (.int x), some (.int (nI 0)), some (.int (nI 0)), none] d_sc_averageLevel_21 (by decide) rfl ?_
    refine Zn_iconst (nI 0) d_sc_averageLevel_22 (by decide) ?_
    refine Zn_istore [some (.ref 0), some (.int x), some (.int (nI 0)), some (.int (nI 0)), some (.int (nI 0))] d_sc_averageLevel_23 (by decide) rfl ?_
    exact sc_av_loop (d + 0) h0 hS hn hV hn6 hvo.1 (S.1 + 1) 0 (by omega) (by omega) _ (Or.inr ⟨hdt, S, hV1, hF, hvo, rfl⟩)
set_option maxHeartbeats 4000000 in
theorem sc_rp_loop {Γ : zCtx} {M : List zE} (d : Nat) {sv : Bool} (h0 : ScO M sv) {n m : Nat} {e : Nat → zEnt} {rc : Nat → Nat} {tg : Nat → Nat → Nat} {dy sz kd pt gl : Nat → Nat} {tx : Nat → Int32} (hS : StAt M 1 n e rc tg m dy sz kd pt gl tx) (hn : n ≤ 30) {S : vSt} (hV : VeS M 103 S) (hn6 : S.1 ≤ 60) {x : Int32} : ∀ (f i : Nat), i ≤ S.1 → S.1 < i + f → ∀ Q : List zE → Option Value → Prop, Q M (some (.long (rpA S))) → Z Γ (zRm (d + 7) m_sc_repealedShare) m_sc_repealedShare (zPh Γ m_sc_repealedShare Q) 0 0 23 [some (.ref 0), some (.int x), some (.int (nI (rpS S i))), some (.int (nI i))] [] M := by
  intro f
  induction f with
  | zero => intro i h1 h2; exact absurd h2 (by omega)
  | succ f ih =>
    intro i h1 hf Q hQ
    refine Z_iload_n d_sc_repealedShare_23 rfl ?_
    refine Z_aload_n d_sc_repealedShare_24 rfl ?_
    refine Z_get d_sc_repealedShare_25 lf_sc_40 h0 rfl ?_
    refine Z_get d_sc_repealedShare_28 lf_sc_142 hV.1 rfl ?_
    refine Z_get d_sc_repealedShare_31 lf_sc_68 hV.2.1.1 rfl ?_
    have hal := rpS_le S i
    refine Zn_icmp_ge (tgt := 61) d_sc_repealedShare_34 (by decide) (by omega) (by omega) (fun h34 => ?_) (fun h34 => ?_)
    · skip
      have hi : i = S.1 := by omega
      subst hi
      refine Z_aload_n d_sc_repealedShare_61 rfl ?_
      refine Z_get d_sc_repealedShare_62 lf_sc_40 h0 rfl ?_
      refine Z_get d_sc_repealedShare_65 lf_sc_142 hV.1 rfl ?_
      refine Z_get d_sc_repealedShare_68 lf_sc_68 hV.2.1.1 rfl ?_
      refine Zn_if_ne (tgt := 78) d_sc_repealedShare_71 (by decide) (by omega) (fun h71 => ?_) (fun h71 => ?_)
      · skip
        refine Z_iload_n d_sc_repealedShare_78 rfl ?_
        refine Z_aload_n d_sc_repealedShare_79 rfl ?_
        refine Z_get d_sc_repealedShare_80 lf_sc_40 h0 rfl ?_
        refine Z_get d_sc_repealedShare_83 lf_sc_142 hV.1 rfl ?_
        refine Z_get d_sc_repealedShare_86 lf_sc_68 hV.2.1.1 rfl ?_
        refine Zn_bipush (nI 53) d_sc_repealedShare_89 (by decide) ?_
        refine Zn_sipush (nI 1023) d_sc_repealedShare_91 (by decide) ?_
        refine zTe (As := [.int (nI (rpS S S.1)), .int (nI S.1), .int (nI 53), .int (nI 1023)]) (by omega) d_sc_repealedShare_94 lm_sc_216 rfl (Nat.le_of_ble_eq_true rfl) (sc_q_ok (d + 5) (by omega) (by omega) (by omega) (by omega) (by omega)) ?_
        refine Z_lret d_sc_repealedShare_97 rfl ?_
        unfold rpA at hQ
        rw [if_neg h71] at hQ
        exact hQ
      · skip
        refine Z_ldc2 wk_sc_222 d_sc_repealedShare_74 ?_
        refine Z_lret d_sc_repealedShare_77 rfl ?_
        unfold rpA at hQ
        rw [if_pos h71] at hQ
        exact hQ
    · skip
      refine Z_aload_n d_sc_repealedShare_37 rfl ?_
      refine Z_get d_sc_repealedShare_38 lf_sc_40 h0 rfl ?_
      refine Z_get d_sc_repealedShare_41 lf_sc_142 hV.1 rfl ?_
      refine Z_get d_sc_repealedShare_44 lf_sc_153 hV.2.1.1 rfl ?_
      refine Z_iload_n d_sc_repealedShare_47 rfl ?_
      refine Zn_zald d_sc_repealedShare_48 hV.2.1.2.2.2.1 (by omega) (by omega) ?_
      refine Z_if_eq (tgt := 55) d_sc_repealedShare_49 (by decide) (fun h49 => ?_) (fun h49 => ?_)
      · skip
        have r49 : er (S.2.1 i) = false := bI_0.mp h49
        refine Zn_iinc [some (.ref 0), some (.int x), some (.int (nI (rpS S i))), some (.int (nI (i + 1)))] (nI (i + 1)) d_sc_repealedShare_55 rfl (by decide) (nI_add i 1) rfl ?_
        refine Z_goto (tgt := 23) d_sc_repealedShare_58 (by decide) ?_
        rw [show nI (rpS S i) = nI (rpS S (i + 1)) from by rw [rpS, if_neg (by rw [r49]; decide)]]
        exact ih (i + 1) (by omega) (by omega) Q hQ
      · skip
        have r49 : er (S.2.1 i) = true := by
          cases hh : er (S.2.1 i) with
          | true => rfl
          | false => exact absurd (bI_0.mpr hh) h49
        refine Zn_iinc [some (.ref 0), some (.int x), some (.int (nI ((rpS S i) + 1))), some (.int (nI i))] (nI ((rpS S i) + 1)) d_sc_repealedShare_52 rfl (by decide) (nI_add (rpS S i) 1) rfl ?_
        refine Zn_iinc [some (.ref 0), some (.int x), some (.int (nI ((rpS S i) + 1))), some (.int (nI (i + 1)))] (nI (i + 1)) d_sc_repealedShare_55 rfl (by decide) (nI_add i 1) rfl ?_
        refine Z_goto (tgt := 23) d_sc_repealedShare_58 (by decide) ?_
        rw [show nI ((rpS S i) + 1) = nI (rpS S (i + 1)) from by rw [rpS, if_pos r49]]
        exact ih (i + 1) (by omega) (by omega) Q hQ
set_option maxHeartbeats 4000000 in
theorem sc_repealedShare_ok {Γ : zCtx} {M : List zE} (d : Nat) {sv : Bool} (h0 : ScO M sv) {n m : Nat} {e : Nat → zEnt} {rc : Nat → Nat} {tg : Nat → Nat → Nat} {dy sz kd pt gl : Nat → Nat} {tx : Nat → Int32} (hS : StAt M 1 n e rc tg m dy sz kd pt gl tx) (hn : n ≤ 30) (hc : cOk n e m dy sz kd pt gl) {S0 : vSt} (hV : VeS M 103 S0) (x : Int32) : ZM Γ (d + 7) m_sc_repealedShare [.ref 0, .int x] M (vQ 103 M n e m dy sz kd pt gl tx x (.long (-4)) (fun S => .long (rpA S))) := by
  refine ZM.of mk_sc_repealedShare (Nat.le_of_ble_eq_true rfl) ?_
  rw [show zEn [.ref 0, .int x] = [some (.ref 0), some (.int x)] from rfl]
  refine zPad 2 ?_
  show Z _ _ _ _ _ _ _ [some (.ref 0), some (.int x), none, none] _ _
  refine Z_aload_n d_sc_repealedShare_0 rfl ?_
  refine Z_get d_sc_repealedShare_1 lf_sc_40 h0 rfl ?_
  refine Z_aload_n d_sc_repealedShare_4 rfl ?_
  refine Z_get d_sc_repealedShare_5 lf_sc_12 h0 rfl ?_
  refine Z_iload_n d_sc_repealedShare_8 rfl ?_
  refine zV (As := [.ref 1, .int x]) (by omega) d_sc_repealedShare_9 lm_sc_138 hV.1 rfl rfl (Nat.le_of_ble_eq_true rfl) (ver_cmp (d + 0) hV hS hn (by omega) hc x) (fun M1 v hq hlen => ?_)
  rcases hq with ⟨hdf, hM, rfl⟩ | ⟨hdt, S, hV1, hF, hvo, rfl⟩
  · skip
    subst hM
    refine Zn_if_ne (a := 0) (tgt := 19) d_sc_repealedShare_12 (by decide) (by decide) (fun h => absurd h (by decide)) (fun _ => ?_)
    refine Z_ldc2 wk_sc_220 d_sc_repealedShare_15 ?_
    refine Z_lret d_sc_repealedShare_18 rfl ?_
    exact Or.inl ⟨hdf, rfl, rfl⟩
  · skip
    have h0 := h0.fr hF (by omega)
    have hS := hS.fr hF (by omega)
    have hV := hV1
    have hn6 := hvo.1.1
    refine Zn_if_ne (a := 1) (tgt := 19) d_sc_repealedShare_12 (by decide) (by decide) (fun _ => ?_) (fun h => absurd h (by decide))
    refine Zn_iconst (nI 0) d_sc_repealedShare_19 (by decide) ?_
    refine Zn_istore_n [some (.ref 0), some (.int x), some (.int (nI 0)), none] d_sc_repealedShare_20 (by decide) rfl ?_
    refine Zn_iconst (nI 0) d_sc_repealedShare_21 (by decide) ?_
    refine Zn_istore_n [some (.ref 0), some (.int x), some (.int (nI 0)), some (.int (nI 0))] d_sc_repealedShare_22 (by decide) rfl ?_
    exact sc_rp_loop (d + 0) h0 hS hn hV hn6 (S.1 + 1) 0 (by omega) (by omega) _ (Or.inr ⟨hdt, S, hV1, hF, hvo, rfl⟩)
set_option maxHeartbeats 4000000 in
theorem sc_saveSnapshot_ok {Γ : zCtx} {M : List zE} (d : Nat) {sv : Bool} (h0 : ScO M sv) {n m : Nat} {e : Nat → zEnt} {rc : Nat → Nat} {tg : Nat → Nat → Nat} {dy sz kd pt gl : Nat → Nat} {tx : Nat → Int32} (hS : StAt M 1 n e rc tg m dy sz kd pt gl tx) (hn : n ≤ 30) {n2 m2 : Nat} {e2 : Nat → zEnt} {rc2 : Nat → Nat} {tg2 : Nat → Nat → Nat} {dy2 sz2 kd2 pt2 gl2 : Nat → Nat} {tx2 : Nat → Int32} (hB : StAt M 47 n2 e2 rc2 tg2 m2 dy2 sz2 kd2 pt2 gl2 tx2) (hn2 : n2 ≤ 30) (hm : m ≤ 8) (hm2 : m2 ≤ 8) (ho : stOut rc tg) (ho2 : stOut rc2 tg2) (ha : amOut dy sz kd pt gl tx) (ha2 : amOut dy2 sz2 kd2 pt2 gl2 tx2)  : ZM Γ (d + 3) m_sc_saveSnapshot [.ref 0] M (fun M1 v => v = some (.int (nI n)) ∧ ScO M1 true ∧ StAt M1 1 n e rc tg m dy sz kd pt gl tx ∧ StAt M1 47 n (mixE e2 e n) rc (fun i => if i < 30 then tg i else tg2 i) m dy sz kd pt gl tx ∧ zF2 M M1 47 93 0 1) := by
  refine ZM.of mk_sc_saveSnapshot (Nat.le_of_ble_eq_true rfl) ?_
  refine Z_aload_n d_sc_saveSnapshot_0 rfl ?_
  refine Z_get d_sc_saveSnapshot_1 lf_sc_16 h0 rfl ?_
  refine Z_aload_n d_sc_saveSnapshot_4 rfl ?_
  refine Z_get d_sc_saveSnapshot_5 lf_sc_12 h0 rfl ?_
  refine zV (As := [.ref 1]) (by omega) d_sc_saveSnapshot_8 lm_sc_250 hB.1 rfl rfl (Nat.le_of_ble_eq_true rfl) (sta_copyFrom_ok d hB (by omega) hn2 hS (by omega) hn hm2 ho2 ho ha2 ha (by omega)) (fun M1 v hq hlen => ?_)
  obtain ⟨rfl, hB1, hF1⟩ := hq
  replace hS := hS.fr hF1 (by omega)
  replace h0 := h0.fr hF1 (by omega)
  refine Z_aload_n d_sc_saveSnapshot_11 rfl ?_
  refine Zn_iconst (nI 1) d_sc_saveSnapshot_12 (by decide) ?_
  refine Z_putz d_sc_saveSnapshot_13 lf_sc_19 h0 rfl rfl (by first | exact Or.inl rfl | exact Or.inr rfl) (Nat.le_of_ble_eq_true rfl) ?_
  have hF0 : zFr M1 (M1.set 0 (.inr (6, [.ref 1, .ref 47, .int (bI true), .ref 93, .ref 95, .ref 103, .ref 113]))) 0 1 := zFr.rf.set (by omega) (by omega)
  replace h0 : ScO (M1.set 0 (.inr (6, [.ref 1, .ref 47, .int (bI true), .ref 93, .ref 95, .ref 103, .ref 113]))) true := st_eq h0
  replace hS := hS.fr hF0 (by omega)
  replace hB1 := hB1.fr hF0 (by omega)
  refine Z_aload_n d_sc_saveSnapshot_16 rfl ?_
  refine Z_get d_sc_saveSnapshot_17 lf_sc_12 h0 rfl ?_
  refine Z_get d_sc_saveSnapshot_20 lf_sc_64 hS.1 rfl ?_
  refine Z_get d_sc_saveSnapshot_23 lf_sc_68 hS.2.1.1 rfl ?_
  refine Z_iret d_sc_saveSnapshot_26 rfl ?_
  exact ⟨rfl, h0, hS, hB1, zF2.mk2 hF1 hF0⟩
set_option maxHeartbeats 4000000 in
theorem sc_restoreSnapshot_ok {Γ : zCtx} {M : List zE} (d : Nat) {sv : Bool} (h0 : ScO M sv) {n m : Nat} {e : Nat → zEnt} {rc : Nat → Nat} {tg : Nat → Nat → Nat} {dy sz kd pt gl : Nat → Nat} {tx : Nat → Int32} (hS : StAt M 1 n e rc tg m dy sz kd pt gl tx) (hn : n ≤ 30) {n2 m2 : Nat} {e2 : Nat → zEnt} {rc2 : Nat → Nat} {tg2 : Nat → Nat → Nat} {dy2 sz2 kd2 pt2 gl2 : Nat → Nat} {tx2 : Nat → Int32} (hB : StAt M 47 n2 e2 rc2 tg2 m2 dy2 sz2 kd2 pt2 gl2 tx2) (hn2 : n2 ≤ 30) (hm : m ≤ 8) (hm2 : m2 ≤ 8) (ho : stOut rc tg) (ho2 : stOut rc2 tg2) (ha : amOut dy sz kd pt gl tx) (ha2 : amOut dy2 sz2 kd2 pt2 gl2 tx2) {fl : Nat → Bool} {ty ln : Nat → Nat} {el : Nat → Nat → Int32} (hH : ShAt M fl ty ln el)  : ZM Γ (d + 3) m_sc_restoreSnapshot [.ref 0] M (fun M1 v => match sv with | false => v = some (.int (-9)) ∧ M1 = M | true => v = some (.int (nI n2)) ∧ StAt M1 1 n2 (mixE e e2 n2) rc2 (fun i => if i < 30 then tg2 i else tg i) m2 dy2 sz2 kd2 pt2 gl2 tx2 ∧ ShAt M1 (fun i => if i < 3 then false else fl i) ty ln el ∧ zF2 M M1 1 47 95 103) := by
  refine ZM.of mk_sc_restoreSnapshot (Nat.le_of_ble_eq_true rfl) ?_
  refine Z_aload_n d_sc_restoreSnapshot_0 rfl ?_
  refine Z_get d_sc_restoreSnapshot_1 lf_sc_19 h0 rfl ?_
  refine Z_if_ne (tgt := 10) d_sc_restoreSnapshot_4 (by decide) (fun h4 => ?_) (fun h4 => ?_)
  · skip
    have t4 : sv = true := by
      cases sv with
      | true => rfl
      | false => exact absurd rfl h4
    refine Z_aload_n d_sc_restoreSnapshot_10 rfl ?_
    refine Z_get d_sc_restoreSnapshot_11 lf_sc_12 h0 rfl ?_
    refine Z_aload_n d_sc_restoreSnapshot_14 rfl ?_
    refine Z_get d_sc_restoreSnapshot_15 lf_sc_16 h0 rfl ?_
    refine zV (As := [.ref 47]) (by omega) d_sc_restoreSnapshot_18 lm_sc_250 hS.1 rfl rfl (Nat.le_of_ble_eq_true rfl) (sta_copyFrom_ok d hS (by omega) hn hB (by omega) hn2 hm ho ho2 ha ha2 (by omega)) (fun M1 v hq hlen => ?_)
    obtain ⟨rfl, hS1, hF1⟩ := hq
    replace hS := hS1
    replace h0 := h0.fr hF1 (by omega)
    replace hH := hH.fr hF1 (by omega)
    refine Z_aload_n d_sc_restoreSnapshot_21 rfl ?_
    refine Z_get d_sc_restoreSnapshot_22 lf_sc_33 h0 rfl ?_
    refine zV (As := []) (by omega) d_sc_restoreSnapshot_25 lm_sc_114 hH.1 rfl rfl (Nat.le_of_ble_eq_true rfl) (sh_emptyAll_ok (d + 1) hH) (fun M2 v hq hlen => ?_)
    obtain ⟨rfl, hH, hF2⟩ := hq
    replace hS := hS.fr hF2 (by omega)
    replace h0 := h0.fr hF2 (by omega)
    skip
    refine Z_aload_n d_sc_restoreSnapshot_28 rfl ?_
    refine Z_get d_sc_restoreSnapshot_29 lf_sc_12 h0 rfl ?_
    refine Z_get d_sc_restoreSnapshot_32 lf_sc_64 hS.1 rfl ?_
    refine Z_get d_sc_restoreSnapshot_35 lf_sc_68 hS.2.1.1 rfl ?_
    refine Z_iret d_sc_restoreSnapshot_38 rfl ?_
    subst t4
    exact ⟨rfl, hS, hH, zF2.mk2 hF1 hF2⟩
  · skip
    have t4 : sv = false := by
      cases sv with
      | false => rfl
      | true => exact absurd h4 (by decide)
    refine Zn_bipush (-9) d_sc_restoreSnapshot_7 (by decide) ?_
    refine Z_iret d_sc_restoreSnapshot_9 rfl ?_
    subst t4
    exact ⟨rfl, rfl⟩
