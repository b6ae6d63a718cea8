/-! figures -/
set_option maxHeartbeats 4000000 in
theorem jf_isNaN_ok {Γ : zCtx} {M : List zE} (d : Nat) {r : UInt32} : ZM Γ (d + 1) m_jf_isNaN [.float r] M (zEq M (some (.int (nI (if isNaN32 r = true then 1 else 0))))) := by
  refine ZM.of mk_jf_isNaN (Nat.le_of_ble_eq_true rfl) ?_
  refine Z_fload_n d_jf_isNaN_0 rfl ?_
  refine Z_fload_n d_jf_isNaN_1 rfl ?_
  refine Z_fcmp d_jf_isNaN_2 ?_
  refine Z_if_eq (tgt := 10) d_jf_isNaN_3 (by decide) (fun h3 => ?_) (fun h3 => ?_)
  · skip
    refine Zn_iconst (nI 0) d_jf_isNaN_10 (by decide) ?_
    refine Z_zret d_jf_isNaN_11 rfl rfl ?_
    refine ⟨rfl, ?_⟩
    rw [if_neg (by rw [nan_f.mp h3]; decide)]
  · skip
    refine Zn_iconst (nI 1) d_jf_isNaN_6 (by decide) ?_
    refine Z_goto (tgt := 11) d_jf_isNaN_7 (by decide) ?_
    refine Z_zret d_jf_isNaN_11 rfl rfl ?_
    refine ⟨rfl, ?_⟩
    rw [if_pos (by
      cases hb : isNaN32 r with
      | false => exact absurd (nan_f.mpr hb) h3
      | true => rfl)]
set_option maxHeartbeats 4000000 in
theorem jf_bits_ok {Γ : zCtx} {M : List zE} (d : Nat) {r : UInt32} : ZM Γ (d + 2) m_jf_floatToIntBits [.float r] M (zEq M (some (.int (if isNaN32 r = true then 2143289344 else r.toInt32)))) := by
  refine ZM.of mk_jf_floatToIntBits (Nat.le_of_ble_eq_true rfl) ?_
  refine Z_fload_n d_jf_floatToIntBits_0 rfl ?_
  refine zTe (As := [.float r]) (by omega) d_jf_floatToIntBits_1 lm_jf_59 rfl (Nat.le_of_ble_eq_true rfl) (jf_isNaN_ok d) ?_
  rcases hb : isNaN32 r with _ | _
  · skip
    refine Zn_if_ne (a := 0) (tgt := 12) d_jf_floatToIntBits_4 (by decide) (by decide) (fun h => absurd h (by decide)) (fun _ => ?_)
    refine Z_fload_n d_jf_floatToIntBits_7 rfl ?_
    refine Z_f2i d_jf_floatToIntBits_8 lr_jf_74 (Nat.le_of_ble_eq_true rfl) (by show 1 ≤ d + 2; omega) (by show 64 ≤ 64 * (d + 2); omega) ?_
    refine Z_iret d_jf_floatToIntBits_11 rfl ?_
    exact ⟨rfl, rfl⟩
  · skip
    refine Zn_if_ne (a := 1) (tgt := 12) d_jf_floatToIntBits_4 (by decide) (by decide) (fun _ => ?_) (fun h => absurd h (by decide))
    refine Z_ldc wk_jf_77 d_jf_floatToIntBits_12 ?_
    refine Z_iret d_jf_floatToIntBits_14 rfl ?_
    exact ⟨rfl, rfl⟩
set_option maxHeartbeats 4000000 in
theorem jd_isNaN_ok {Γ : zCtx} {M : List zE} (d : Nat) {r : UInt64} : ZM Γ (d + 1) m_jd_isNaN [.double r] M (zEq M (some (.int (nI (if isNaN64 r = true then 1 else 0))))) := by
  refine ZM.of mk_jd_isNaN (Nat.le_of_ble_eq_true rfl) ?_
  refine Z_dload_n d_jd_isNaN_0 rfl ?_
  refine Z_dload_n d_jd_isNaN_1 rfl ?_
  refine Z_dcmp d_jd_isNaN_2 ?_
  refine Z_if_eq (tgt := 10) d_jd_isNaN_3 (by decide) (fun h3 => ?_) (fun h3 => ?_)
  · skip
    refine Zn_iconst (nI 0) d_jd_isNaN_10 (by decide) ?_
    refine Z_zret d_jd_isNaN_11 rfl rfl ?_
    refine ⟨rfl, ?_⟩
    rw [if_neg (by rw [nan_d.mp h3]; decide)]
  · skip
    refine Zn_iconst (nI 1) d_jd_isNaN_6 (by decide) ?_
    refine Z_goto (tgt := 11) d_jd_isNaN_7 (by decide) ?_
    refine Z_zret d_jd_isNaN_11 rfl rfl ?_
    refine ⟨rfl, ?_⟩
    rw [if_pos (by
      cases hb : isNaN64 r with
      | false => exact absurd (nan_d.mpr hb) h3
      | true => rfl)]
set_option maxHeartbeats 4000000 in
theorem jd_bits_ok {Γ : zCtx} {M : List zE} (d : Nat) {r : UInt64} : ZM Γ (d + 2) m_jd_doubleToLongBits [.double r] M (zEq M (some (.long (if isNaN64 r = true then 9221120237041090560 else r.toInt64)))) := by
  refine ZM.of mk_jd_doubleToLongBits (Nat.le_of_ble_eq_true rfl) ?_
  refine Z_dload_n d_jd_doubleToLongBits_0 rfl ?_
  refine zTe (As := [.double r]) (by omega) d_jd_doubleToLongBits_1 lm_jd_122 rfl (Nat.le_of_ble_eq_true rfl) (jd_isNaN_ok d) ?_
  rcases hb : isNaN64 r with _ | _
  · skip
    refine Zn_if_ne (a := 0) (tgt := 12) d_jd_doubleToLongBits_4 (by decide) (by decide) (fun h => absurd h (by decide)) (fun _ => ?_)
    refine Z_dload_n d_jd_doubleToLongBits_7 rfl ?_
    refine Z_d2l d_jd_doubleToLongBits_8 lr_jd_134 (Nat.le_of_ble_eq_true rfl) (by show 1 ≤ d + 2; omega) (by show 64 ≤ 64 * (d + 2); omega) ?_
    refine Z_lret d_jd_doubleToLongBits_11 rfl ?_
    exact ⟨rfl, rfl⟩
  · skip
    refine Zn_if_ne (a := 1) (tgt := 12) d_jd_doubleToLongBits_4 (by decide) (by decide) (fun _ => ?_) (fun h => absurd h (by decide))
    refine Z_ldc2 wk_jd_137 d_jd_doubleToLongBits_12 ?_
    refine Z_lret d_jd_doubleToLongBits_15 rfl ?_
    exact ⟨rfl, rfl⟩
theorem avS_3 (S : vSt) : ∀ i, (avS S i).1 ≤ 3 * (avS S i).2
  | 0 => Nat.le_refl _
  | i + 1 => by
    have ih := avS_3 S i
    have := lev_le (ek (S.2.1 i))
    unfold avS
    split
    · exact ih
    · show (avS S i).1 + lev (ek (S.2.1 i)) ≤ 3 * ((avS S i).2 + 1); omega
theorem al32 {r x : UInt32} (h : alike32 r x = true) : (isNaN32 x = false → r = x) ∧ (isNaN32 x = true → isNaN32 r = true) := by
  unfold alike32 at h
  rcases Bool.or_eq_true_iff.mp h with z | z
  · have := of_decide_eq_true z
    subst this
    exact ⟨fun _ => rfl, fun y => y⟩
  · have := Bool.and_eq_true_iff.mp z
    exact ⟨(fun y => absurd this.2 (by rw [y]; decide)), fun _ => this.1⟩
theorem al64 {r x : UInt64} (h : alike64 r x = true) : (isNaN64 x = false → r = x) ∧ (isNaN64 x = true → isNaN64 r = true) := by
  unfold alike64 at h
  rcases Bool.or_eq_true_iff.mp h with z | z
  · have := of_decide_eq_true z
    subst this
    exact ⟨fun _ => rfl, fun y => y⟩
  · have := Bool.and_eq_true_iff.mp z
    exact ⟨(fun y => absurd this.2 (by rw [y]; decide)), fun _ => this.1⟩
theorem nan00 : isNaN32 (FP.fdiv (FP.i2f (nI 0)) (FP.i2f (nI 0))) = true := by decide +kernel
theorem nan00d : isNaN64 (FP.ddiv (FP.i2d (nI 0)) (FP.i2d (nI 0))) = true := by decide +kernel
theorem av_eq {S : vSt} (h60 : S.1 ≤ 60) {r : UInt32} (h : alike32 r (FP.fdiv (FP.i2f (nI (avS S S.1).1)) (FP.i2f (nI (avS S S.1).2))) = true) : (if isNaN32 r = true then (2143289344 : Int32) else r.toInt32) = avA S := by
  have h3 := avS_3 S S.1
  have h2 := (avS_le S S.1).2
  unfold avA
  by_cases c : (avS S S.1).2 = 0
  · rw [if_pos c]
    have c1 : (avS S S.1).1 = 0 := by omega
    rw [c, c1] at h
    rw [if_pos ((al32 h).2 nan00)]
  · rw [if_neg c]
    have f := fp_f (a := (avS S S.1).1) (b := (avS S S.1).2) (by omega) (by omega) h3
    have f2 := Bool.and_eq_true_iff.mp f
    have n : isNaN32 (FP.fdiv (FP.i2f (nI (avS S S.1).1)) (FP.i2f (nI (avS S S.1).2))) = false := by
      cases hb : isNaN32 (FP.fdiv (FP.i2f (nI (avS S S.1).1)) (FP.i2f (nI (avS S S.1).2))) with
      | false => rfl
      | true => have := f2.2; rw [hb] at this; cases this
    rw [(al32 h).1 n, if_neg (by rw [n]; decide)]
    exact of_decide_eq_true f2.1
theorem rp_eq {S : vSt} (h60 : S.1 ≤ 60) {r : UInt64} (h : alike64 r (FP.ddiv (FP.i2d (nI (rpS S S.1))) (FP.i2d (nI S.1))) = true) : (if isNaN64 r = true then (9221120237041090560 : Int64) else r.toInt64) = rpA S := by
  have h2 := rpS_le S S.1
  unfold rpA
  by_cases c : S.1 = 0
  · rw [if_pos c]
    have c1 : rpS S S.1 = 0 := by omega
    rw [c1, c] at h
    rw [if_pos ((al64 h).2 nan00d)]
  · rw [if_neg c]
    have f := fp_d (a := rpS S S.1) (b := S.1) (by omega) h60 h2
    have f2 := Bool.and_eq_true_iff.mp f
    have n : isNaN64 (FP.ddiv (FP.i2d (nI (rpS S S.1))) (FP.i2d (nI S.1))) = false := by
      cases hb : isNaN64 (FP.ddiv (FP.i2d (nI (rpS S S.1))) (FP.i2d (nI S.1))) with
      | false => rfl
      | true => have := f2.2; rw [hb] at this; cases this
    rw [(al64 h).1 n, if_neg (by rw [n]; decide)]
    exact of_decide_eq_true f2.1
set_option maxHeartbeats 4000000 in
theorem mo_av_loop {Γ : zCtx} (d : Nat) {M : List zE} {M0 : List zE} {s : Nat → Nat} {G : Nat → Nat → Nat} (hF : FW M0 M s G) {n : Nat} {S1 : vSt} (hRO : RO S1 n s G) {y : Nat}  : ∀ (f : Nat) (i : Nat), i ≤ S1.1 → S1.1 < i + f → ∀ Q : List zE → Option Value → Prop, Q M (some (.int (avA S1))) → Z Γ (zRm (d + 8) m_mo_averageLevel) m_mo_averageLevel (zPh Γ m_mo_averageLevel Q) 0 0 18 [some (.ref 123), some (.int (mI y)), some (.int (nI ((avS S1 i).1))), some (.int (nI ((avS S1 i).2))), some (.int (nI i))] [] M := by
  intro f
  induction f with
  | zero => intro i hi hf; exact absurd hf (by omega)
  | succ f ih =>
    intro i hi hf Q hQ
    have hnn := hRO.nn
    refine Z_iload d_mo_averageLevel_18 rfl ?_
    refine Z_aload_n d_mo_averageLevel_20 rfl ?_
    refine Z_get (v := .int (nI (s 3))) d_mo_averageLevel_21 lf_mo_148 hF.1 rfl ?_
    refine Zn_icmp_ge (tgt := 90) d_mo_averageLevel_24 (by decide) (by omega) (by omega) (fun h24 => ?_) (fun h24 => ?_)
    · skip
      obtain rfl : i = S1.1 := by omega
      refine Z_iload_n d_mo_averageLevel_90 rfl ?_
      refine Z_i2f d_mo_averageLevel_91 ?_
      refine Z_iload_n d_mo_averageLevel_92 rfl ?_
      refine Z_i2f d_mo_averageLevel_93 ?_
      refine Z_fdiv d_mo_averageLevel_94 (fun r hal => ?_)
      refine zTe (As := [.float r]) (by omega) d_mo_averageLevel_95 lm_mo_360 rfl (Nat.le_of_ble_eq_true rfl) (jf_bits_ok d) ?_
      refine Z_iret d_mo_averageLevel_98 rfl ?_
      rw [av_eq hnn.1 hal]
      exact hQ
    · skip
      have hat := hRO.at (show i < S1.1 by omega)
      refine Z_iload_n d_mo_averageLevel_27 rfl ?_
      refine Z_aload_n d_mo_averageLevel_28 rfl ?_
      refine Z_get (v := .ref 140) d_mo_averageLevel_29 lf_mo_58 hF.1 rfl ?_
      refine Z_aload_n d_mo_averageLevel_32 rfl ?_
      refine Z_get (v := .ref 142) d_mo_averageLevel_33 lf_mo_65 hF.1 rfl ?_
      refine Z_iload d_mo_averageLevel_36 rfl ?_
      refine Zn_iald d_mo_averageLevel_38 hF.a18 (by omega) (by omega) ?_
      refine Zn_zald d_mo_averageLevel_39 hF.a16 (by omega) (by omega) ?_
      refine Zn_if_eq (tgt := 47) d_mo_averageLevel_40 (by decide) (by omega) (fun h40 => ?_) (fun h40 => ?_)
      · skip
        have er0 : er (S1.2.1 i) = false := by rw [hat.2.2.2.2.1]; exact decide_eq_false (fun z => z h40)
        refine Z_aload_n d_mo_averageLevel_47 rfl ?_
        refine Z_get (v := .ref 135) d_mo_averageLevel_48 lf_mo_43 hF.1 rfl ?_
        refine Z_aload_n d_mo_averageLevel_51 rfl ?_
        refine Z_get (v := .ref 142) d_mo_averageLevel_52 lf_mo_65 hF.1 rfl ?_
        refine Z_iload d_mo_averageLevel_55 rfl ?_
        refine Zn_iald d_mo_averageLevel_57 hF.a18 (by omega) (by omega) ?_
        refine Zn_iald d_mo_averageLevel_58 hF.a11 (by omega) (by omega) ?_
        refine Zn_iadd d_mo_averageLevel_59 ?_
        refine Zn_istore_n [some (.ref 123), some (.int (mI y)), some (.int (nI (((avS S1 i).1) + (G 11 (G 18 i))))), some (.int (nI ((avS S1 i).2))), some (.int (nI i))] d_mo_averageLevel_60 (by decide) rfl ?_
        refine Z_iload_n d_mo_averageLevel_61 rfl ?_
        refine Z_aload_n d_mo_averageLevel_62 rfl ?_
        refine Z_get (v := .ref 140) d_mo_averageLevel_63 lf_mo_58 hF.1 rfl ?_
        refine Z_aload_n d_mo_averageLevel_66 rfl ?_
        refine Z_get (v := .ref 142) d_mo_averageLevel_67 lf_mo_65 hF.1 rfl ?_
        refine Z_iload d_mo_averageLevel_70 rfl ?_
        refine Zn_iald d_mo_averageLevel_72 hF.a18 (by omega) (by omega) ?_
        refine Zn_zald d_mo_averageLevel_73 hF.a16 (by omega) (by omega) ?_
        refine Zn_if_eq (tgt := 81) d_mo_averageLevel_74 (by decide) (by omega) (fun h74 => ?_) (fun h74 => ?_)
        · skip
          skip
          refine Zn_iconst (nI 1) d_mo_averageLevel_81 (by decide) ?_
          refine Zn_iadd d_mo_averageLevel_82 ?_
          refine Zn_istore_n [some (.ref 123), some (.int (mI y)), some (.int (nI (((avS S1 i).1) + (G 11 (G 18 i))))), some (.int (nI (((avS S1 i).2) + 1))), some (.int (nI i))] d_mo_averageLevel_83 (by decide) rfl ?_
          refine Zn_iinc [some (.ref 123), some (.int (mI y)), some (.int (nI (((avS S1 i).1) + (G 11 (G 18 i))))), some (.int (nI (((avS S1 i).2) + 1))), some (.int (nI (i + 1)))] (nI (i + 1)) d_mo_averageLevel_84 rfl (by decide) (nI_add i 1) rfl ?_
          refine Z_goto (tgt := 18) d_mo_averageLevel_87 (by decide) ?_
          have e1 : avS S1 (i + 1) = ((avS S1 i).1 + G 11 (G 18 i), (avS S1 i).2 + 1) := by
            show (if er (S1.2.1 i) = true then _ else _) = _
            rw [if_neg (by rw [er0]; decide), hat.2.2.1]
          have hih := ih (i + 1) (by omega) (by omega) Q hQ
          rw [e1] at hih
          exact hih
        · skip
          exact absurd h40 h74 -- end
      · skip
        have er0 : er (S1.2.1 i) = true := by rw [hat.2.2.2.2.1]; exact decide_eq_true h40
        refine Zn_iconst (nI 0) d_mo_averageLevel_43 (by decide) ?_
        refine Z_goto (tgt := 59) d_mo_averageLevel_44 (by decide) ?_
        refine Zn_iadd d_mo_averageLevel_59 ?_
        refine Zn_istore_n [some (.ref 123), some (.int (mI y)), some (.int (nI (((avS S1 i).1) + 0))), some (.int (nI ((avS S1 i).2))), some (.int (nI i))] d_mo_averageLevel_60 (by decide) rfl ?_
        refine Z_iload_n d_mo_averageLevel_61 rfl ?_
        refine Z_aload_n d_mo_averageLevel_62 rfl ?_
        refine Z_get (v := .ref 140) d_mo_averageLevel_63 lf_mo_58 hF.1 rfl ?_
        refine Z_aload_n d_mo_averageLevel_66 rfl ?_
        refine Z_get (v := .ref 142) d_mo_averageLevel_67 lf_mo_65 hF.1 rfl ?_
        refine Z_iload d_mo_averageLevel_70 rfl ?_
        refine Zn_iald d_mo_averageLevel_72 hF.a18 (by omega) (by omega) ?_
        refine Zn_zald d_mo_averageLevel_73 hF.a16 (by omega) (by omega) ?_
        refine Zn_if_eq (tgt := 81) d_mo_averageLevel_74 (by decide) (by omega) (fun h74 => ?_) (fun h74 => ?_)
        · skip
          exact absurd h74 h40 -- end
        · skip
          skip
          refine Zn_iconst (nI 0) d_mo_averageLevel_77 (by decide) ?_
          refine Z_goto (tgt := 82) d_mo_averageLevel_78 (by decide) ?_
          refine Zn_iadd d_mo_averageLevel_82 ?_
          refine Zn_istore_n [some (.ref 123), some (.int (mI y)), some (.int (nI (((avS S1 i).1) + 0))), some (.int (nI (((avS S1 i).2) + 0))), some (.int (nI i))] d_mo_averageLevel_83 (by decide) rfl ?_
          refine Zn_iinc [some (.ref 123), some (.int (mI y)), some (.int (nI (((avS S1 i).1) + 0))), some (.int (nI (((avS S1 i).2) + 0))), some (.int (nI (i + 1)))] (nI (i + 1)) d_mo_averageLevel_84 rfl (by decide) (nI_add i 1) rfl ?_
          refine Z_goto (tgt := 18) d_mo_averageLevel_87 (by decide) ?_
          have e1 : avS S1 (i + 1) = avS S1 i := by
            show (if er (S1.2.1 i) = true then _ else _) = _
            rw [if_pos er0]
          have hih := ih (i + 1) (by omega) (by omega) Q hQ
          rw [e1] at hih
          exact hih
set_option maxHeartbeats 4000000 in
theorem mo_averageLevel_ok {Γ : zCtx} {M : List zE} (d : Nat) {M0 : List zE} {s : Nat → Nat} {G : Nat → Nat → Nat} (hF : FW M0 M s G) {m : Nat} {dy sz kd pt gl : Nat → Nat} {tx : Nat → Int32} {n : Nat} {e : Nat → zEnt} {K : Nat → Nat} {y : Nat} {S1 : vSt} (hV : vHy m dy sz kd pt gl tx s G n e K y S1)  : ZM Γ (d + 8) m_mo_averageLevel [.ref 123, .int (mI y)] M (fun M1 v => v = some (.int (avA S1)) ∧ ∃ s' G', FW M0 M1 s' G' ∧ pF s s' G G') := by
  refine ZM.of mk_mo_averageLevel (Nat.le_of_ble_eq_true rfl) ?_
  rw [show zEn [.ref 123, .int (mI y)] = [some (.ref 123), some (.int (mI y))] from rfl]
  refine zPad 3 ?_
  show Z _ _ _ _ _ _ _ [some (.ref 123), some (.int (mI y)), none, none, none] _ _
  refine Z_aload_n d_mo_averageLevel_0 rfl ?_
  refine Z_iload_n d_mo_averageLevel_1 rfl ?_
  refine zV (As := [.int (mI y)]) (by omega) d_mo_averageLevel_2 lm_mo_313 hF.1 rfl rfl (Nat.le_of_ble_eq_true rfl) (mo_compute_v d hF hV) (fun M1 v hq hlen => ?_)
  obtain ⟨rfl, s1, G1, hF, hRO, hc⟩ := hq
  have hnn := hRO.nn
  have h120 := hV.2.2.2.2.2.1
  refine Zn_if_ne (a := 1) (tgt := 11) d_mo_averageLevel_5 (by decide) (by decide) (fun _ => ?_) (fun h => absurd h (by decide))
  refine Zn_iconst (nI 0) d_mo_averageLevel_11 (by decide) ?_
  refine Zn_istore_n [some (.ref 123), some (.int (mI y)), some (.int (nI 0)), none, none] d_mo_averageLevel_12 (by decide) rfl ?_
  refine Zn_iconst (nI 0) d_mo_averageLevel_13 (by decide) ?_
  refine Zn_istore_n [some (.ref 123), some (.int (mI y)), some (.int (nI 0)), some (.int (nI 0)), none] d_mo_averageLevel_14 (by decide) rfl ?_
  refine Zn_iconst (nI 0) d_mo_averageLevel_15 (by decide) ?_
  refine Zn_istore [some (.ref 123), some (.int (mI y)), some (.int (nI 0)), some (.int (nI 0)), some (.int (nI 0))] d_mo_averageLevel_16 (by decide) rfl ?_
  exact mo_av_loop d hF hRO (S1.1 + 1) 0 (by omega) (by omega) _ ⟨rfl, s1, G1, hF, hc.p⟩
set_option maxHeartbeats 4000000 in
theorem mo_averageLevel_no {Γ : zCtx} {M : List zE} (d : Nat) {M0 : List zE} {s : Nat → Nat} {G : Nat → Nat → Nat} (hF : FW M0 M s G) {x : Int32} (hno : dOk x = false)  : ZM Γ (d + 8) m_mo_averageLevel [.ref 123, .int x] M (zEq M (some (.int (-4)))) := by
  refine ZM.of mk_mo_averageLevel (Nat.le_of_ble_eq_true rfl) ?_
  rw [show zEn [.ref 123, .int x] = [some (.ref 123), some (.int x)] from rfl]
  refine zPad 3 ?_
  show Z _ _ _ _ _ _ _ [some (.ref 123), some (.int x), none, none, none] _ _
  refine Z_aload_n d_mo_averageLevel_0 rfl ?_
  refine Z_iload_n d_mo_averageLevel_1 rfl ?_
  refine zVe (As := [.int x]) (by omega) d_mo_averageLevel_2 lm_mo_313 hF.1 rfl rfl (Nat.le_of_ble_eq_true rfl) (mo_compute_no d hF hno) ?_
  refine Zn_if_ne (a := 0) (tgt := 11) d_mo_averageLevel_5 (by decide) (by decide) (fun h => absurd h (by decide)) (fun _ => ?_)
  refine Zn_bipush (-4) d_mo_averageLevel_8 (by decide) ?_
  refine Z_iret d_mo_averageLevel_10 rfl ?_
  exact ⟨rfl, rfl⟩
set_option maxHeartbeats 4000000 in
theorem mo_rs_loop {Γ : zCtx} (d : Nat) {M : List zE} {M0 : List zE} {s : Nat → Nat} {G : Nat → Nat → Nat} (hF : FW M0 M s G) {n : Nat} {S1 : vSt} (hRO : RO S1 n s G) {y : Nat}  : ∀ (f : Nat) (i : Nat), i ≤ S1.1 → S1.1 < i + f → ∀ Q : List zE → Option Value → Prop, Q M (some (.long (rpA S1))) → Z Γ (zRm (d + 8) m_mo_repealedShare) m_mo_repealedShare (zPh Γ m_mo_repealedShare Q) 0 0 16 [some (.ref 123), some (.int (mI y)), some (.int (nI (rpS S1 i))), some (.int (nI i))] [] M := by
  intro f
  induction f with
  | zero => intro i hi hf; exact absurd hf (by omega)
  | succ f ih =>
    intro i hi hf Q hQ
    have hnn := hRO.nn
    refine Z_iload_n d_mo_repealedShare_16 rfl ?_
    refine Z_aload_n d_mo_repealedShare_17 rfl ?_
    refine Z_get (v := .int (nI (s 3))) d_mo_repealedShare_18 lf_mo_148 hF.1 rfl ?_
    refine Zn_icmp_ge (tgt := 52) d_mo_repealedShare_21 (by decide) (by omega) (by omega) (fun h21 => ?_) (fun h21 => ?_)
    · skip
      obtain rfl : i = S1.1 := by omega
      refine Z_iload_n d_mo_repealedShare_52 rfl ?_
      refine Z_i2d d_mo_repealedShare_53 ?_
      refine Z_aload_n d_mo_repealedShare_54 rfl ?_
      refine Z_get (v := .int (nI (s 3))) d_mo_repealedShare_55 lf_mo_148 hF.1 rfl ?_
      refine Z_i2d d_mo_repealedShare_58 ?_
      refine Z_ddiv d_mo_repealedShare_59 (fun r hal => ?_)
      refine zTe (As := [.double r]) (by omega) d_mo_repealedShare_60 lm_mo_368 rfl (Nat.le_of_ble_eq_true rfl) (jd_bits_ok d) ?_
      refine Z_lret d_mo_repealedShare_63 rfl ?_
      rw [hnn.2.1] at hal
      rw [rp_eq hnn.1 hal]
      exact hQ
    · skip
      have hat := hRO.at (show i < S1.1 by omega)
      refine Z_iload_n d_mo_repealedShare_24 rfl ?_
      refine Z_aload_n d_mo_repealedShare_25 rfl ?_
      refine Z_get (v := .ref 140) d_mo_repealedShare_26 lf_mo_58 hF.1 rfl ?_
      refine Z_aload_n d_mo_repealedShare_29 rfl ?_
      refine Z_get (v := .ref 142) d_mo_repealedShare_30 lf_mo_65 hF.1 rfl ?_
      refine Z_iload_n d_mo_repealedShare_33 rfl ?_
      refine Zn_iald d_mo_repealedShare_34 hF.a18 (by omega) (by omega) ?_
      refine Zn_zald d_mo_repealedShare_35 hF.a16 (by omega) (by omega) ?_
      refine Zn_if_eq (tgt := 43) d_mo_repealedShare_36 (by decide) (by omega) (fun h36 => ?_) (fun h36 => ?_)
      · skip
        have er0 : er (S1.2.1 i) = false := by rw [hat.2.2.2.2.1]; exact decide_eq_false (fun z => z h36)
        refine Zn_iconst (nI 0) d_mo_repealedShare_43 (by decide) ?_
        refine Zn_iadd d_mo_repealedShare_44 ?_
        refine Zn_istore_n [some (.ref 123), some (.int (mI y)), some (.int (nI ((rpS S1 i) + 0))), some (.int (nI i))] d_mo_repealedShare_45 (by decide) rfl ?_
        refine Zn_iinc [some (.ref 123), some (.int (mI y)), some (.int (nI ((rpS S1 i) + 0))), some (.int (nI (i + 1)))] (nI (i + 1)) d_mo_repealedShare_46 rfl (by decide) (nI_add i 1) rfl ?_
        refine Z_goto (tgt := 16) d_mo_repealedShare_49 (by decide) ?_
        have e1 : rpS S1 (i + 1) = rpS S1 i := by
          show (if er (S1.2.1 i) = true then _ else _) = _
          first | rw [if_pos er0] | rw [if_neg (by rw [er0]; decide)]
        have hih := ih (i + 1) (by omega) (by omega) Q hQ
        rw [e1] at hih
        exact hih
      · skip
        have er0 : er (S1.2.1 i) = true := by rw [hat.2.2.2.2.1]; exact decide_eq_true h36
        refine Zn_iconst (nI 1) d_mo_repealedShare_39 (by decide) ?_
        refine Z_goto (tgt := 44) d_mo_repealedShare_40 (by decide) ?_
        refine Zn_iadd d_mo_repealedShare_44 ?_
        refine Zn_istore_n [some (.ref 123), some (.int (mI y)), some (.int (nI ((rpS S1 i) + 1))), some (.int (nI i))] d_mo_repealedShare_45 (by decide) rfl ?_
        refine Zn_iinc [some (.ref 123), some (.int (mI y)), some (.int (nI ((rpS S1 i) + 1))), some (.int (nI (i + 1)))] (nI (i + 1)) d_mo_repealedShare_46 rfl (by decide) (nI_add i 1) rfl ?_
        refine Z_goto (tgt := 16) d_mo_repealedShare_49 (by decide) ?_
        have e1 : rpS S1 (i + 1) = rpS S1 i + 1 := by
          show (if er (S1.2.1 i) = true then _ else _) = _
          first | rw [if_pos er0] | rw [if_neg (by rw [er0]; decide)]
        have hih := ih (i + 1) (by omega) (by omega) Q hQ
        rw [e1] at hih
        exact hih
set_option maxHeartbeats 4000000 in
theorem mo_repealedShare_ok {Γ : zCtx} {M : List zE} (d : Nat) {M0 : List zE} {s : Nat → Nat} {G : Nat → Nat → Nat} (hF : FW M0 M s G) {m : Nat} {dy sz kd pt gl : Nat → Nat} {tx : Nat → Int32} {n : Nat} {e : Nat → zEnt} {K : Nat → Nat} {y : Nat} {S1 : vSt} (hV : vHy m dy sz kd pt gl tx s G n e K y S1)  : ZM Γ (d + 8) m_mo_repealedShare [.ref 123, .int (mI y)] M (fun M1 v => v = some (.long (rpA S1)) ∧ ∃ s' G', FW M0 M1 s' G' ∧ pF s s' G G') := by
  refine ZM.of mk_mo_repealedShare (Nat.le_of_ble_eq_true rfl) ?_
  rw [show zEn [.ref 123, .int (mI y)] = [some (.ref 123), some (.int (mI y))] from rfl]
  refine zPad 2 ?_
  show Z _ _ _ _ _ _ _ [some (.ref 123), some (.int (mI y)), none, none] _ _
  refine Z_aload_n d_mo_repealedShare_0 rfl ?_
  refine Z_iload_n d_mo_repealedShare_1 rfl ?_
  refine zV (As := [.int (mI y)]) (by omega) d_mo_repealedShare_2 lm_mo_313 hF.1 rfl rfl (Nat.le_of_ble_eq_true rfl) (mo_compute_v d hF hV) (fun M1 v hq hlen => ?_)
  obtain ⟨rfl, s1, G1, hF, hRO, hc⟩ := hq
  have hnn := hRO.nn
  have h120 := hV.2.2.2.2.2.1
  refine Zn_if_ne (a := 1) (tgt := 12) d_mo_repealedShare_5 (by decide) (by decide) (fun _ => ?_) (fun h => absurd h (by decide))
  refine Zn_iconst (nI 0) d_mo_repealedShare_12 (by decide) ?_
  refine Zn_istore_n [some (.ref 123), some (.int (mI y)), some (.int (nI 0)), none] d_mo_repealedShare_13 (by decide) rfl ?_
  refine Zn_iconst (nI 0) d_mo_repealedShare_14 (by decide) ?_
  refine Zn_istore_n [some (.ref 123), some (.int (mI y)), some (.int (nI 0)), some (.int (nI 0))] d_mo_repealedShare_15 (by decide) rfl ?_
  exact mo_rs_loop d hF hRO (S1.1 + 1) 0 (by omega) (by omega) _ ⟨rfl, s1, G1, hF, hc.p⟩
set_option maxHeartbeats 4000000 in
theorem mo_repealedShare_no {Γ : zCtx} {M : List zE} (d : Nat) {M0 : List zE} {s : Nat → Nat} {G : Nat → Nat → Nat} (hF : FW M0 M s G) {x : Int32} (hno : dOk x = false)  : ZM Γ (d + 8) m_mo_repealedShare [.ref 123, .int x] M (zEq M (some (.long (-4)))) := by
  refine ZM.of mk_mo_repealedShare (Nat.le_of_ble_eq_true rfl) ?_
  rw [show zEn [.ref 123, .int x] = [some (.ref 123), some (.int x)] from rfl]
  refine zPad 2 ?_
  show Z _ _ _ _ _ _ _ [some (.ref 123), some (.int x), none, none] _ _
  refine Z_aload_n d_mo_repealedShare_0 rfl ?_
  refine Z_iload_n d_mo_repealedShare_1 rfl ?_
  refine zVe (As := [.int x]) (by omega) d_mo_repealedShare_2 lm_mo_313 hF.1 rfl rfl (Nat.le_of_ble_eq_true rfl) (mo_compute_no d hF hno) ?_
  refine Zn_if_ne (a := 0) (tgt := 12) d_mo_repealedShare_5 (by decide) (by decide) (fun h => absurd h (by decide)) (fun _ => ?_)
  refine Z_ldc2 wk_mo_366 d_mo_repealedShare_8 ?_
  refine Z_lret d_mo_repealedShare_11 rfl ?_
  exact ⟨rfl, rfl⟩
