/-! reading keywords in the reference -/
set_option maxHeartbeats 4000000 in
theorem mo_keyword_0 {Γ : zCtx} {M : List zE} (d : Nat)  : ZM Γ (d + 1) m_mo_keyword [.int (nI 0)] M (zEq M (some (.ref (1000001 + 6)))) := by
  refine ZM.of mk_mo_keyword (Nat.le_of_ble_eq_true rfl) ?_
  refine Z_iload_n d_mo_keyword_0 rfl ?_
  refine Z_tableIn (off := 35) (tgt := 36) d_mo_keyword_1 (by decide) (by decide) rfl (by decide) ?_
  refine Z_ldcS (i := 6) rfl d_mo_keyword_36 ?_
  refine Z_aret d_mo_keyword_38 rfl (Or.inl ⟨_, rfl⟩) ?_
  exact ⟨rfl, rfl⟩
set_option maxHeartbeats 4000000 in
theorem mo_keyword_1 {Γ : zCtx} {M : List zE} (d : Nat)  : ZM Γ (d + 1) m_mo_keyword [.int (nI 1)] M (zEq M (some (.ref (1000001 + 7)))) := by
  refine ZM.of mk_mo_keyword (Nat.le_of_ble_eq_true rfl) ?_
  refine Z_iload_n d_mo_keyword_0 rfl ?_
  refine Z_tableIn (off := 38) (tgt := 39) d_mo_keyword_1 (by decide) (by decide) rfl (by decide) ?_
  refine Z_ldcS (i := 7) rfl d_mo_keyword_39 ?_
  refine Z_aret d_mo_keyword_41 rfl (Or.inl ⟨_, rfl⟩) ?_
  exact ⟨rfl, rfl⟩
set_option maxHeartbeats 4000000 in
theorem mo_keyword_2 {Γ : zCtx} {M : List zE} (d : Nat)  : ZM Γ (d + 1) m_mo_keyword [.int (nI 2)] M (zEq M (some (.ref (1000001 + 8)))) := by
  refine ZM.of mk_mo_keyword (Nat.le_of_ble_eq_true rfl) ?_
  refine Z_iload_n d_mo_keyword_0 rfl ?_
  refine Z_tableIn (off := 41) (tgt := 42) d_mo_keyword_1 (by decide) (by decide) rfl (by decide) ?_
  refine Z_ldcS (i := 8) rfl d_mo_keyword_42 ?_
  refine Z_aret d_mo_keyword_44 rfl (Or.inl ⟨_, rfl⟩) ?_
  exact ⟨rfl, rfl⟩
set_option maxHeartbeats 4000000 in
theorem mo_keyword_3 {Γ : zCtx} {M : List zE} (d : Nat)  : ZM Γ (d + 1) m_mo_keyword [.int (nI 3)] M (zEq M (some (.ref (1000001 + 9)))) := by
  refine ZM.of mk_mo_keyword (Nat.le_of_ble_eq_true rfl) ?_
  refine Z_iload_n d_mo_keyword_0 rfl ?_
  refine Z_tableIn (off := 44) (tgt := 45) d_mo_keyword_1 (by decide) (by decide) rfl (by decide) ?_
  refine Z_ldcS (i := 9) rfl d_mo_keyword_45 ?_
  refine Z_aret d_mo_keyword_47 rfl (Or.inl ⟨_, rfl⟩) ?_
  exact ⟨rfl, rfl⟩
set_option maxHeartbeats 4000000 in
theorem mo_keyword_4 {Γ : zCtx} {M : List zE} (d : Nat)  : ZM Γ (d + 1) m_mo_keyword [.int (nI 4)] M (zEq M (some (.ref (1000001 + 10)))) := by
  refine ZM.of mk_mo_keyword (Nat.le_of_ble_eq_true rfl) ?_
  refine Z_iload_n d_mo_keyword_0 rfl ?_
  refine Z_tableIn (off := 47) (tgt := 48) d_mo_keyword_1 (by decide) (by decide) rfl (by decide) ?_
  refine Z_ldcS (i := 10) rfl d_mo_keyword_48 ?_
  refine Z_aret d_mo_keyword_50 rfl (Or.inl ⟨_, rfl⟩) ?_
  exact ⟨rfl, rfl⟩
set_option maxHeartbeats 4000000 in
theorem mo_keyword_5 {Γ : zCtx} {M : List zE} (d : Nat)  : ZM Γ (d + 1) m_mo_keyword [.int (nI 5)] M (zEq M (some (.ref (1000001 + 11)))) := by
  refine ZM.of mk_mo_keyword (Nat.le_of_ble_eq_true rfl) ?_
  refine Z_iload_n d_mo_keyword_0 rfl ?_
  refine Z_tableOut (tgt := 51) d_mo_keyword_1 (by decide) (by decide) ?_
  refine Z_ldcS (i := 11) rfl d_mo_keyword_51 ?_
  refine Z_aret d_mo_keyword_53 rfl (Or.inl ⟨_, rfl⟩) ?_
  exact ⟨rfl, rfl⟩
theorem mo_keyword_ok {Γ : zCtx} {M : List zE} (d : Nat) {k : Nat} (hk : k < 6) : ZM Γ (d + 1) m_mo_keyword [.int (nI k)] M (zEq M (some (.ref (1000001 + (6 + k))))) := by
  match k, hk with
  | 0, _ => exact mo_keyword_0 d
  | 1, _ => exact mo_keyword_1 d
  | 2, _ => exact mo_keyword_2 d
  | 3, _ => exact mo_keyword_3 d
  | 4, _ => exact mo_keyword_4 d
  | 5, _ => exact mo_keyword_5 d
set_option maxHeartbeats 4000000 in
theorem mo_kw_in {Γ : zCtx} (d : Nat) {M : List zE} {M0 : List zE} {s : Nat → Nat} {G : Nat → Nat → Nat} {p j : Nat} (hF : FW M0 M (pst s (p + j) 0) G) (h120 : s 5 ≤ 120) (hp : p + j ≤ s 5) (hch : ∀ i, G 22 i ≤ 126) (hj9 : j ≤ 9) (hnf : ∀ k, k < 6 → (ksK k).length ≤ mtl (s 5) (G 22) p (ksK k) → j < (ksK k).length)  : ∀ (f : Nat) (k : Nat) (y6 y7 : Option Value), k ≤ 6 → 6 < k + f → ∀ Q : List zE → Option Value → Prop, (∀ y6 y7 : Option Value, Z Γ (zRm (d + 5) m_mo_parseKeyword) m_mo_parseKeyword (zPh Γ m_mo_parseKeyword Q) 0 0 143 [some (.ref 123), some (.int (nI (mkB (fun i => decide (j ≤ mtl (s 5) (G 22) p (ksK i))) 6))), some (.int (nI p)), some (.int (oI (fnd (fun i => mtl (s 5) (G 22) p (ksK i)) j 6) (-1))), some (.int (nI (mkB (fun i => decide (j + 1 ≤ mtl (s 5) (G 22) p (ksK i))) 6))), some (.int (nI 6)), y6, y7] [] M) → Z Γ (zRm (d + 5) m_mo_parseKeyword) m_mo_parseKeyword (zPh Γ m_mo_parseKeyword Q) 0 0 27 [some (.ref 123), some (.int (nI (mkB (fun i => decide (j ≤ mtl (s 5) (G 22) p (ksK i))) 6))), some (.int (nI p)), some (.int (oI (fnd (fun i => mtl (s 5) (G 22) p (ksK i)) j k) (-1))), some (.int (nI (mkB (fun i => decide (j + 1 ≤ mtl (s 5) (G 22) p (ksK i))) k))), some (.int (nI k)), y6, y7] [] M := by
  intro f
  induction f with
  | zero => intro k y6 y7 hk hf; exact absurd hf (by omega)
  | succ f ih =>
    intro k y6 y7 hk hf Q hQ
    refine Z_iload d_mo_parseKeyword_27 rfl ?_
    refine Zn_iconst (nI 5) d_mo_parseKeyword_29 (by decide) ?_
    refine Zn_icmp_gt (tgt := 143) d_mo_parseKeyword_30 (by decide) (by omega) (by omega) (fun h30 => ?_) (fun h30 => ?_)
    · skip
      obtain rfl : k = 6 := by omega
      exact hQ _ _
    · skip
      refine Z_iload d_mo_parseKeyword_33 rfl ?_
      refine zTe (As := [.int (nI k)]) (by omega) d_mo_parseKeyword_35 lm_mo_251 rfl (Nat.le_of_ble_eq_true rfl) (mo_keyword_ok (d + 3) (by omega)) ?_
      have hkl := ksK_len (k := k) (by omega)
      have hwd := ksK_wd (k := k) (by omega)
      refine Zn_astore [some (.ref 123), some (.int (nI (mkB (fun i => decide (j ≤ mtl (s 5) (G 22) p (ksK i))) 6))), some (.int (nI p)), some (.int (oI (fnd (fun i => mtl (s 5) (G 22) p (ksK i)) j k) (-1))), some (.int (nI (mkB (fun i => decide (j + 1 ≤ mtl (s 5) (G 22) p (ksK i))) k))), some (.int (nI k)), some (.ref (1000001 + (6 + k))), y7] d_mo_parseKeyword_38 (by decide) rfl ?_
      refine Z_iload_n d_mo_parseKeyword_40 rfl ?_
      refine Z_iload d_mo_parseKeyword_41 rfl ?_
      refine Z_ishr d_mo_parseKeyword_43 ?_
      refine Zn_iconst (nI 1) d_mo_parseKeyword_44 (by decide) ?_
      refine Z_iand d_mo_parseKeyword_45 ?_
      rw [shB _ (mkB_lt (fun i => decide (j ≤ mtl (s 5) (G 22) p (ksK i))) 6) k (by omega), bitB (c := (fun i => decide (j ≤ mtl (s 5) (G 22) p (ksK i)))) (by omega)]
      rcases hjb : decide (j ≤ mtl (s 5) (G 22) p (ksK k)) with _ | _
      · skip
        have hjm := of_decide_eq_false hjb
        refine Zn_iconst (nI 1) d_mo_parseKeyword_46 (by decide) ?_
        refine Zn_icmp_ne (a := 0) (b := 1) (tgt := 88) d_mo_parseKeyword_47 (by decide) (by decide) (by decide) (fun _ => ?_) (fun h => absurd h (by decide))
        refine Zn_iconst (nI 0) d_mo_parseKeyword_88 (by decide) ?_
        refine Zn_istore [some (.ref 123), some (.int (nI (mkB (fun i => decide (j ≤ mtl (s 5) (G 22) p (ksK i))) 6))), some (.int (nI p)), some (.int (oI (fnd (fun i => mtl (s 5) (G 22) p (ksK i)) j k) (-1))), some (.int (nI (mkB (fun i => decide (j + 1 ≤ mtl (s 5) (G 22) p (ksK i))) k))), some (.int (nI k)), some (.ref (1000001 + (6 + k))), some (.int (nI 0))] d_mo_parseKeyword_89 (by decide) rfl ?_
        refine Z_iload d_mo_parseKeyword_91 rfl ?_
        refine Z_iload d_mo_parseKeyword_93 rfl ?_
        refine Zn_if_eq (a := 0) (tgt := 105) d_mo_parseKeyword_95 (by decide) (by decide) (fun _ => ?_) (fun h => absurd h (by decide))
        refine Zn_iconst (nI 0) d_mo_parseKeyword_105 (by decide) ?_
        refine Z_ior d_mo_parseKeyword_106 ?_
        rw [or0 _ (by have := mkB_lt (fun i => decide (j + 1 ≤ mtl (s 5) (G 22) p (ksK i))) k; have : 2 ^ k ≤ 2 ^ 6 := Nat.pow_le_pow_right (by decide) (by omega); omega)]
        refine Zn_istore [some (.ref 123), some (.int (nI (mkB (fun i => decide (j ≤ mtl (s 5) (G 22) p (ksK i))) 6))), some (.int (nI p)), some (.int (oI (fnd (fun i => mtl (s 5) (G 22) p (ksK i)) j k) (-1))), some (.int (nI (mkB (fun i => decide (j + 1 ≤ mtl (s 5) (G 22) p (ksK i))) k))), some (.int (nI k)), some (.ref (1000001 + (6 + k))), some (.int (nI 0))] d_mo_parseKeyword_107 (by decide) rfl ?_
        refine Z_iload d_mo_parseKeyword_109 rfl ?_
        refine Zn_if_eq (a := 0) (tgt := 135) d_mo_parseKeyword_111 (by decide) (by decide) (fun _ => ?_) (fun h => absurd h (by decide))
        refine Z_iload_n d_mo_parseKeyword_135 rfl ?_
        refine Zn_istore_n [some (.ref 123), some (.int (nI (mkB (fun i => decide (j ≤ mtl (s 5) (G 22) p (ksK i))) 6))), some (.int (nI p)), some (.int (oI (fnd (fun i => mtl (s 5) (G 22) p (ksK i)) j k) (-1))), some (.int (nI (mkB (fun i => decide (j + 1 ≤ mtl (s 5) (G 22) p (ksK i))) k))), some (.int (nI k)), some (.ref (1000001 + (6 + k))), some (.int (nI 0))] d_mo_parseKeyword_136 (by decide) rfl ?_
        refine Zn_iinc [some (.ref 123), some (.int (nI (mkB (fun i => decide (j ≤ mtl (s 5) (G 22) p (ksK i))) 6))), some (.int (nI p)), some (.int (oI (fnd (fun i => mtl (s 5) (G 22) p (ksK i)) j k) (-1))), some (.int (nI (mkB (fun i => decide (j + 1 ≤ mtl (s 5) (G 22) p (ksK i))) k))), some (.int (nI (k + 1))), some (.ref (1000001 + (6 + k))), some (.int (nI 0))] (nI (k + 1)) d_mo_parseKeyword_137 rfl (by decide) (nI_add k 1) rfl ?_
        refine Z_goto (tgt := 27) d_mo_parseKeyword_140 (by decide) ?_
        have hck : ¬ j + 1 ≤ mtl (s 5) (G 22) p (ksK k) := fun z => by
          omega
        have e1 : mkB (fun i => decide (j + 1 ≤ mtl (s 5) (G 22) p (ksK i))) (k + 1) = mkB (fun i => decide (j + 1 ≤ mtl (s 5) (G 22) p (ksK i))) k := by
          show _ + (if decide (j + 1 ≤ mtl (s 5) (G 22) p (ksK k)) = true then 2 ^ k else 0) = _
          rw [if_neg (by rw [decide_eq_false hck]; decide)]
          rfl
        have e2 : fnd (fun i => mtl (s 5) (G 22) p (ksK i)) j (k + 1) = fnd (fun i => mtl (s 5) (G 22) p (ksK i)) j k := by
          show (if mtl (s 5) (G 22) p (ksK k) = j + 1 ∧ (ksK k).length = j + 1 then some k else _) = _
          rw [if_neg (by omega)]
        have hih := ih (k + 1) (some (.ref (1000001 + (6 + k)))) (some (.int (nI 0))) (by omega) (by omega) Q hQ
        rw [e1, e2] at hih
        exact hih
      · skip
        have hjm := of_decide_eq_true hjb
        refine Zn_iconst (nI 1) d_mo_parseKeyword_46 (by decide) ?_
        refine Zn_icmp_ne (a := 1) (b := 1) (tgt := 88) d_mo_parseKeyword_47 (by decide) (by decide) (by decide) (fun h => absurd h (by decide)) (fun _ => ?_)
        refine Z_aload_n d_mo_parseKeyword_50 rfl ?_
        refine Z_get (v := .int (nI (p + j))) d_mo_parseKeyword_51 lf_mo_218 hF.1 rfl ?_
        refine Z_aload_n d_mo_parseKeyword_54 rfl ?_
        refine Z_get (v := .int (nI (s 5))) d_mo_parseKeyword_55 lf_mo_215 hF.1 rfl ?_
        refine Zn_icmp_ge (tgt := 88) d_mo_parseKeyword_58 (by decide) (by omega) (by omega) (fun h58 => ?_) (fun h58 => ?_)
        · skip
          skip
          refine Zn_iconst (nI 0) d_mo_parseKeyword_88 (by decide) ?_
          refine Zn_istore [some (.ref 123), some (.int (nI (mkB (fun i => decide (j ≤ mtl (s 5) (G 22) p (ksK i))) 6))), some (.int (nI p)), some (.int (oI (fnd (fun i => mtl (s 5) (G 22) p (ksK i)) j k) (-1))), some (.int (nI (mkB (fun i => decide (j + 1 ≤ mtl (s 5) (G 22) p (ksK i))) k))), some (.int (nI k)), some (.ref (1000001 + (6 + k))), some (.int (nI 0))] d_mo_parseKeyword_89 (by decide) rfl ?_
          refine Z_iload d_mo_parseKeyword_91 rfl ?_
          refine Z_iload d_mo_parseKeyword_93 rfl ?_
          refine Zn_if_eq (a := 0) (tgt := 105) d_mo_parseKeyword_95 (by decide) (by decide) (fun _ => ?_) (fun h => absurd h (by decide))
          refine Zn_iconst (nI 0) d_mo_parseKeyword_105 (by decide) ?_
          refine Z_ior d_mo_parseKeyword_106 ?_
          rw [or0 _ (by have := mkB_lt (fun i => decide (j + 1 ≤ mtl (s 5) (G 22) p (ksK i))) k; have : 2 ^ k ≤ 2 ^ 6 := Nat.pow_le_pow_right (by decide) (by omega); omega)]
          refine Zn_istore [some (.ref 123), some (.int (nI (mkB (fun i => decide (j ≤ mtl (s 5) (G 22) p (ksK i))) 6))), some (.int (nI p)), some (.int (oI (fnd (fun i => mtl (s 5) (G 22) p (ksK i)) j k) (-1))), some (.int (nI (mkB (fun i => decide (j + 1 ≤ mtl (s 5) (G 22) p (ksK i))) k))), some (.int (nI k)), some (.ref (1000001 + (6 + k))), some (.int (nI 0))] d_mo_parseKeyword_107 (by decide) rfl ?_
          refine Z_iload d_mo_parseKeyword_109 rfl ?_
          refine Zn_if_eq (a := 0) (tgt := 135) d_mo_parseKeyword_111 (by decide) (by decide) (fun _ => ?_) (fun h => absurd h (by decide))
          refine Z_iload_n d_mo_parseKeyword_135 rfl ?_
          refine Zn_istore_n [some (.ref 123), some (.int (nI (mkB (fun i => decide (j ≤ mtl (s 5) (G 22) p (ksK i))) 6))), some (.int (nI p)), some (.int (oI (fnd (fun i => mtl (s 5) (G 22) p (ksK i)) j k) (-1))), some (.int (nI (mkB (fun i => decide (j + 1 ≤ mtl (s 5) (G 22) p (ksK i))) k))), some (.int (nI k)), some (.ref (1000001 + (6 + k))), some (.int (nI 0))] d_mo_parseKeyword_136 (by decide) rfl ?_
          refine Zn_iinc [some (.ref 123), some (.int (nI (mkB (fun i => decide (j ≤ mtl (s 5) (G 22) p (ksK i))) 6))), some (.int (nI p)), some (.int (oI (fnd (fun i => mtl (s 5) (G 22) p (ksK i)) j k) (-1))), some (.int (nI (mkB (fun i => decide (j + 1 ≤ mtl (s 5) (G 22) p (ksK i))) k))), some (.int (nI (k + 1))), some (.ref (1000001 + (6 + k))), some (.int (nI 0))] (nI (k + 1)) d_mo_parseKeyword_137 rfl (by decide) (nI_add k 1) rfl ?_
          refine Z_goto (tgt := 27) d_mo_parseKeyword_140 (by decide) ?_
          have hck : ¬ j + 1 ≤ mtl (s 5) (G 22) p (ksK k) := fun z => by
            have := (mtl_le (len := s 5) (ch := G 22) (ksK k) p).2 (by omega); omega
          have e1 : mkB (fun i => decide (j + 1 ≤ mtl (s 5) (G 22) p (ksK i))) (k + 1) = mkB (fun i => decide (j + 1 ≤ mtl (s 5) (G 22) p (ksK i))) k := by
            show _ + (if decide (j + 1 ≤ mtl (s 5) (G 22) p (ksK k)) = true then 2 ^ k else 0) = _
            rw [if_neg (by rw [decide_eq_false hck]; decide)]
            rfl
          have e2 : fnd (fun i => mtl (s 5) (G 22) p (ksK i)) j (k + 1) = fnd (fun i => mtl (s 5) (G 22) p (ksK i)) j k := by
            show (if mtl (s 5) (G 22) p (ksK k) = j + 1 ∧ (ksK k).length = j + 1 then some k else _) = _
            rw [if_neg (by omega)]
          have hih := ih (k + 1) (some (.ref (1000001 + (6 + k)))) (some (.int (nI 0))) (by omega) (by omega) Q hQ
          rw [e1, e2] at hih
          exact hih
        · skip
          refine Z_aload d_mo_parseKeyword_61 rfl ?_
          refine Z_aload_n d_mo_parseKeyword_63 rfl ?_
          refine Z_get (v := .int (nI (p + j))) d_mo_parseKeyword_64 lf_mo_218 hF.1 rfl ?_
          refine Z_iload_n d_mo_parseKeyword_67 rfl ?_
          refine Zn_isub d_mo_parseKeyword_68 (by omega) ?_
          have hjl : j < (ksK k).length := by
            rcases Nat.lt_or_ge j (ksK k).length with z | z
            · exact z
            · have := (mtl_le (len := s 5) (ch := G 22) (ksK k) p).1
              exact absurd (hnf k (by omega) (by omega)) (by omega)
          rw [show p + j - p = j by omega]
          refine zStrE (i := 6 + k) (As := [.int (nI j)]) (by omega) (by omega) d_mo_parseKeyword_69 lm_mo_255 rfl rfl (Nat.le_of_ble_eq_true rfl) (wd_at d hwd hjl) ?_
          have hcb := (wd_c hwd).2 j hjl
          have hci := hch (p + j)
          refine Z_aload_n d_mo_parseKeyword_72 rfl ?_
          refine Z_get (v := .ref 146) d_mo_parseKeyword_73 lf_mo_77 hF.1 rfl ?_
          refine Z_aload_n d_mo_parseKeyword_76 rfl ?_
          refine Z_get (v := .int (nI (p + j))) d_mo_parseKeyword_77 lf_mo_218 hF.1 rfl ?_
          refine Zn_iald d_mo_parseKeyword_80 hF.a22 (by omega) (by omega) ?_
          refine Zn_icmp_ne (tgt := 88) d_mo_parseKeyword_81 (by decide) (by omega) (by omega) (fun h81 => ?_) (fun h81 => ?_)
          · skip
            skip
            refine Zn_iconst (nI 0) d_mo_parseKeyword_88 (by decide) ?_
            refine Zn_istore [some (.ref 123), some (.int (nI (mkB (fun i => decide (j ≤ mtl (s 5) (G 22) p (ksK i))) 6))), some (.int (nI p)), some (.int (oI (fnd (fun i => mtl (s 5) (G 22) p (ksK i)) j k) (-1))), some (.int (nI (mkB (fun i => decide (j + 1 ≤ mtl (s 5) (G 22) p (ksK i))) k))), some (.int (nI k)), some (.ref (1000001 + (6 + k))), some (.int (nI 0))] d_mo_parseKeyword_89 (by decide) rfl ?_
            refine Z_iload d_mo_parseKeyword_91 rfl ?_
            refine Z_iload d_mo_parseKeyword_93 rfl ?_
            refine Zn_if_eq (a := 0) (tgt := 105) d_mo_parseKeyword_95 (by decide) (by decide) (fun _ => ?_) (fun h => absurd h (by decide))
            refine Zn_iconst (nI 0) d_mo_parseKeyword_105 (by decide) ?_
            refine Z_ior d_mo_parseKeyword_106 ?_
            rw [or0 _ (by have := mkB_lt (fun i => decide (j + 1 ≤ mtl (s 5) (G 22) p (ksK i))) k; have : 2 ^ k ≤ 2 ^ 6 := Nat.pow_le_pow_right (by decide) (by omega); omega)]
            refine Zn_istore [some (.ref 123), some (.int (nI (mkB (fun i => decide (j ≤ mtl (s 5) (G 22) p (ksK i))) 6))), some (.int (nI p)), some (.int (oI (fnd (fun i => mtl (s 5) (G 22) p (ksK i)) j k) (-1))), some (.int (nI (mkB (fun i => decide (j + 1 ≤ mtl (s 5) (G 22) p (ksK i))) k))), some (.int (nI k)), some (.ref (1000001 + (6 + k))), some (.int (nI 0))] d_mo_parseKeyword_107 (by decide) rfl ?_
            refine Z_iload d_mo_parseKeyword_109 rfl ?_
            refine Zn_if_eq (a := 0) (tgt := 135) d_mo_parseKeyword_111 (by decide) (by decide) (fun _ => ?_) (fun h => absurd h (by decide))
            refine Z_iload_n d_mo_parseKeyword_135 rfl ?_
            refine Zn_istore_n [some (.ref 123), some (.int (nI (mkB (fun i => decide (j ≤ mtl (s 5) (G 22) p (ksK i))) 6))), some (.int (nI p)), some (.int (oI (fnd (fun i => mtl (s 5) (G 22) p (ksK i)) j k) (-1))), some (.int (nI (mkB (fun i => decide (j + 1 ≤ mtl (s 5) (G 22) p (ksK i))) k))), some (.int (nI k)), some (.ref (1000001 + (6 + k))), some (.int (nI 0))] d_mo_parseKeyword_136 (by decide) rfl ?_
            refine Zn_iinc [some (.ref 123), some (.int (nI (mkB (fun i => decide (j ≤ mtl (s 5) (G 22) p (ksK i))) 6))), some (.int (nI p)), some (.int (oI (fnd (fun i => mtl (s 5) (G 22) p (ksK i)) j k) (-1))), some (.int (nI (mkB (fun i => decide (j + 1 ≤ mtl (s 5) (G 22) p (ksK i))) k))), some (.int (nI (k + 1))), some (.ref (1000001 + (6 + k))), some (.int (nI 0))] (nI (k + 1)) d_mo_parseKeyword_137 rfl (by decide) (nI_add k 1) rfl ?_
            refine Z_goto (tgt := 27) d_mo_parseKeyword_140 (by decide) ?_
            have hck : ¬ j + 1 ≤ mtl (s 5) (G 22) p (ksK k) := fun z => by
              exact absurd (tk_iff.mp ((mtl_iff hjl).mp z).2).2 (fun y => h81 y.symm)
            have e1 : mkB (fun i => decide (j + 1 ≤ mtl (s 5) (G 22) p (ksK i))) (k + 1) = mkB (fun i => decide (j + 1 ≤ mtl (s 5) (G 22) p (ksK i))) k := by
              show _ + (if decide (j + 1 ≤ mtl (s 5) (G 22) p (ksK k)) = true then 2 ^ k else 0) = _
              rw [if_neg (by rw [decide_eq_false hck]; decide)]
              rfl
            have e2 : fnd (fun i => mtl (s 5) (G 22) p (ksK i)) j (k + 1) = fnd (fun i => mtl (s 5) (G 22) p (ksK i)) j k := by
              show (if mtl (s 5) (G 22) p (ksK k) = j + 1 ∧ (ksK k).length = j + 1 then some k else _) = _
              rw [if_neg (by omega)]
            have hih := ih (k + 1) (some (.ref (1000001 + (6 + k)))) (some (.int (nI 0))) (by omega) (by omega) Q hQ
            rw [e1, e2] at hih
            exact hih
          · skip
            skip
            refine Zn_iconst (nI 1) d_mo_parseKeyword_84 (by decide) ?_
            refine Z_goto (tgt := 89) d_mo_parseKeyword_85 (by decide) ?_
            refine Zn_istore [some (.ref 123), some (.int (nI (mkB (fun i => decide (j ≤ mtl (s 5) (G 22) p (ksK i))) 6))), some (.int (nI p)), some (.int (oI (fnd (fun i => mtl (s 5) (G 22) p (ksK i)) j k) (-1))), some (.int (nI (mkB (fun i => decide (j + 1 ≤ mtl (s 5) (G 22) p (ksK i))) k))), some (.int (nI k)), some (.ref (1000001 + (6 + k))), some (.int (nI 1))] d_mo_parseKeyword_89 (by decide) rfl ?_
            refine Z_iload d_mo_parseKeyword_91 rfl ?_
            refine Z_iload d_mo_parseKeyword_93 rfl ?_
            refine Zn_if_eq (a := 1) (tgt := 105) d_mo_parseKeyword_95 (by decide) (by decide) (fun h => absurd h (by decide)) (fun _ => ?_)
            refine Zn_iconst (nI 1) d_mo_parseKeyword_98 (by decide) ?_
            refine Z_iload d_mo_parseKeyword_99 rfl ?_
            refine Z_ishl d_mo_parseKeyword_101 ?_
            refine Z_goto (tgt := 106) d_mo_parseKeyword_102 (by decide) ?_
            refine Z_ior d_mo_parseKeyword_106 ?_
            rw [orB k (by omega) _ (mkB_lt (fun i => decide (j + 1 ≤ mtl (s 5) (G 22) p (ksK i))) k)]
            refine Zn_istore [some (.ref 123), some (.int (nI (mkB (fun i => decide (j ≤ mtl (s 5) (G 22) p (ksK i))) 6))), some (.int (nI p)), some (.int (oI (fnd (fun i => mtl (s 5) (G 22) p (ksK i)) j k) (-1))), some (.int (nI (mkB (fun i => decide (j + 1 ≤ mtl (s 5) (G 22) p (ksK i))) k + 2 ^ k))), some (.int (nI k)), some (.ref (1000001 + (6 + k))), some (.int (nI 1))] d_mo_parseKeyword_107 (by decide) rfl ?_
            refine Z_iload d_mo_parseKeyword_109 rfl ?_
            refine Zn_if_eq (a := 1) (tgt := 135) d_mo_parseKeyword_111 (by decide) (by decide) (fun h => absurd h (by decide)) (fun _ => ?_)
            refine Z_aload_n d_mo_parseKeyword_114 rfl ?_
            refine Z_get (v := .int (nI (p + j))) d_mo_parseKeyword_115 lf_mo_218 hF.1 rfl ?_
            refine Z_iload_n d_mo_parseKeyword_118 rfl ?_
            refine Zn_isub d_mo_parseKeyword_119 (by omega) ?_
            refine Z_aload d_mo_parseKeyword_120 rfl ?_
            refine zStrE (i := 6 + k) (As := []) (by omega) (by omega) d_mo_parseKeyword_122 lm_mo_261 rfl rfl (Nat.le_of_ble_eq_true rfl) (wd_len (d + 2) hwd) ?_
            skip
            refine Zn_iconst (nI 1) d_mo_parseKeyword_125 (by decide) ?_
            refine Zn_isub d_mo_parseKeyword_126 (by omega) ?_
            refine Zn_icmp_ne (tgt := 135) d_mo_parseKeyword_127 (by decide) (by omega) (by omega) (fun h127 => ?_) (fun h127 => ?_)
            · skip
              skip
              refine Z_iload_n d_mo_parseKeyword_135 rfl ?_
              refine Zn_istore_n [some (.ref 123), some (.int (nI (mkB (fun i => decide (j ≤ mtl (s 5) (G 22) p (ksK i))) 6))), some (.int (nI p)), some (.int (oI (fnd (fun i => mtl (s 5) (G 22) p (ksK i)) j k) (-1))), some (.int (nI (mkB (fun i => decide (j + 1 ≤ mtl (s 5) (G 22) p (ksK i))) k + 2 ^ k))), some (.int (nI k)), some (.ref (1000001 + (6 + k))), some (.int (nI 1))] d_mo_parseKeyword_136 (by decide) rfl ?_
              refine Zn_iinc [some (.ref 123), some (.int (nI (mkB (fun i => decide (j ≤ mtl (s 5) (G 22) p (ksK i))) 6))), some (.int (nI p)), some (.int (oI (fnd (fun i => mtl (s 5) (G 22) p (ksK i)) j k) (-1))), some (.int (nI (mkB (fun i => decide (j + 1 ≤ mtl (s 5) (G 22) p (ksK i))) k + 2 ^ k))), some (.int (nI (k + 1))), some (.ref (1000001 + (6 + k))), some (.int (nI 1))] (nI (k + 1)) d_mo_parseKeyword_137 rfl (by decide) (nI_add k 1) rfl ?_
              refine Z_goto (tgt := 27) d_mo_parseKeyword_140 (by decide) ?_
              have hck : j + 1 ≤ mtl (s 5) (G 22) p (ksK k) := (mtl_iff hjl).mpr ⟨hjm, tk_iff.mpr ⟨by omega, h81.symm⟩⟩
              have e1 : mkB (fun i => decide (j + 1 ≤ mtl (s 5) (G 22) p (ksK i))) (k + 1) = mkB (fun i => decide (j + 1 ≤ mtl (s 5) (G 22) p (ksK i))) k + 2 ^ k := by
                show _ + (if decide (j + 1 ≤ mtl (s 5) (G 22) p (ksK k)) = true then 2 ^ k else 0) = _
                rw [if_pos (decide_eq_true hck)]
              have e2 : fnd (fun i => mtl (s 5) (G 22) p (ksK i)) j (k + 1) = fnd (fun i => mtl (s 5) (G 22) p (ksK i)) j k := by
                show (if mtl (s 5) (G 22) p (ksK k) = j + 1 ∧ (ksK k).length = j + 1 then some k else _) = _
                rw [if_neg (by omega)]
              have hih := ih (k + 1) (some (.ref (1000001 + (6 + k)))) (some (.int (nI 1))) (by omega) (by omega) Q hQ
              rw [e1, e2] at hih
              exact hih
            · skip
              skip
              refine Z_iload d_mo_parseKeyword_130 rfl ?_
              refine Z_goto (tgt := 136) d_mo_parseKeyword_132 (by decide) ?_
              refine Zn_istore_n [some (.ref 123), some (.int (nI (mkB (fun i => decide (j ≤ mtl (s 5) (G 22) p (ksK i))) 6))), some (.int (nI p)), some (.int (nI k)), some (.int (nI (mkB (fun i => decide (j + 1 ≤ mtl (s 5) (G 22) p (ksK i))) k + 2 ^ k))), some (.int (nI k)), some (.ref (1000001 + (6 + k))), some (.int (nI 1))] d_mo_parseKeyword_136 (by decide) rfl ?_
              refine Zn_iinc [some (.ref 123), some (.int (nI (mkB (fun i => decide (j ≤ mtl (s 5) (G 22) p (ksK i))) 6))), some (.int (nI p)), some (.int (nI k)), some (.int (nI (mkB (fun i => decide (j + 1 ≤ mtl (s 5) (G 22) p (ksK i))) k + 2 ^ k))), some (.int (nI (k + 1))), some (.ref (1000001 + (6 + k))), some (.int (nI 1))] (nI (k + 1)) d_mo_parseKeyword_137 rfl (by decide) (nI_add k 1) rfl ?_
              refine Z_goto (tgt := 27) d_mo_parseKeyword_140 (by decide) ?_
              have hck : j + 1 ≤ mtl (s 5) (G 22) p (ksK k) := (mtl_iff hjl).mpr ⟨hjm, tk_iff.mpr ⟨by omega, h81.symm⟩⟩
              have e1 : mkB (fun i => decide (j + 1 ≤ mtl (s 5) (G 22) p (ksK i))) (k + 1) = mkB (fun i => decide (j + 1 ≤ mtl (s 5) (G 22) p (ksK i))) k + 2 ^ k := by
                show _ + (if decide (j + 1 ≤ mtl (s 5) (G 22) p (ksK k)) = true then 2 ^ k else 0) = _
                rw [if_pos (decide_eq_true hck)]
              have e2 : fnd (fun i => mtl (s 5) (G 22) p (ksK i)) j (k + 1) = some k := by
                show (if mtl (s 5) (G 22) p (ksK k) = j + 1 ∧ (ksK k).length = j + 1 then some k else _) = _
                have := (mtl_le (len := s 5) (ch := G 22) (ksK k) p).1
                rw [if_pos ⟨by omega, by omega⟩]
              have hih := ih (k + 1) (some (.ref (1000001 + (6 + k)))) (some (.int (nI 1))) (by omega) (by omega) Q hQ
              rw [e1, e2] at hih
              exact hih
set_option maxHeartbeats 4000000 in
theorem mo_kw_out {Γ : zCtx} (d : Nat) {M0 : List zE} {s : Nat → Nat} {G : Nat → Nat → Nat} {p : Nat} (h120 : s 5 ≤ 120) (hch : ∀ i, G 22 i ≤ 126)  : ∀ (f : Nat) (j : Nat) {M : List zE} (y4 y5 y6 y7 : Option Value), j ≤ 9 → 9 < j + f → p + j ≤ s 5 → FW M0 M (pst s (p + j) 0) G → (∀ k, k < 6 → (ksK k).length ≤ mtl (s 5) (G 22) p (ksK k) → j < (ksK k).length) → (j = 0 ∨ ∃ k, k < 6 ∧ j ≤ mtl (s 5) (G 22) p (ksK k)) → ∀ Q : List zE → Option Value → Prop, (∀ M1, FW M0 M1 (pst s (pKw (s 5) (G 22) p).2 (if (pKw (s 5) (G 22) p).1.isSome = true then 0 else 1)) G → Q M1 (some (.int (oI (pKw (s 5) (G 22) p).1 (-1))))) → Z Γ (zRm (d + 5) m_mo_parseKeyword) m_mo_parseKeyword (zPh Γ m_mo_parseKeyword Q) 0 0 10 [some (.ref 123), some (.int (nI (mkB (fun i => decide (j ≤ mtl (s 5) (G 22) p (ksK i))) 6))), some (.int (nI p)), some (.int (-1)), y4, y5, y6, y7] [] M := by
  intro f
  induction f with
  | zero => intro j M y4 y5 y6 y7 hj9 hf; exact absurd hf (by omega)
  | succ f ih =>
    intro j M y4 y5 y6 y7 hj9 hf hp hF hnf hsome Q hQ
    refine Z_iload_n d_mo_parseKeyword_10 rfl ?_
    refine Z_if_ge (tgt := 183) d_mo_parseKeyword_11 (by decide) (fun h11 => ?_) (fun h11 => ?_)
    · skip
      exact absurd h11 (by decide) -- end
    · skip
      skip
      refine Z_aload_n d_mo_parseKeyword_14 rfl ?_
      refine Z_get (v := .int (nI 0)) d_mo_parseKeyword_15 lf_mo_221 hF.1 rfl ?_
      refine Zn_if_ne (a := 0) (tgt := 183) d_mo_parseKeyword_18 (by decide) (by decide) (fun h => absurd h (by decide)) (fun _ => ?_)
      refine Zn_iconst (nI 0) d_mo_parseKeyword_21 (by decide) ?_
      refine Zn_istore [some (.ref 123), some (.int (nI (mkB (fun i => decide (j ≤ mtl (s 5) (G 22) p (ksK i))) 6))), some (.int (nI p)), some (.int (-1)), some (.int (nI 0)), y5, y6, y7] d_mo_parseKeyword_22 (by decide) rfl ?_
      refine Zn_iconst (nI 0) d_mo_parseKeyword_24 (by decide) ?_
      refine Zn_istore [some (.ref 123), some (.int (nI (mkB (fun i => decide (j ≤ mtl (s 5) (G 22) p (ksK i))) 6))), some (.int (nI p)), some (.int (-1)), some (.int (nI 0)), some (.int (nI 0)), y6, y7] d_mo_parseKeyword_25 (by decide) rfl ?_
      refine mo_kw_in (j := j) d hF h120 (by omega) hch (by omega) hnf 7 0 _ _ (by omega) (by omega) Q (fun y6 y7 => ?_)
      rcases hfn : fnd (fun i => mtl (s 5) (G 22) p (ksK i)) j 6 with _ | k0
      · skip
        have hfno := fnd_none hfn
        refine Z_iload d_mo_parseKeyword_143 rfl ?_
        refine Zn_istore_n [some (.ref 123), some (.int (nI (mkB (fun i => decide (j + 1 ≤ mtl (s 5) (G 22) p (ksK i))) 6))), some (.int (nI p)), some (.int (-1)), some (.int (nI (mkB (fun i => decide (j + 1 ≤ mtl (s 5) (G 22) p (ksK i))) 6))), some (.int (nI 6)), y6, y7] d_mo_parseKeyword_145 (by decide) rfl ?_
        refine Z_aload_n d_mo_parseKeyword_146 rfl ?_
        refine Z_iload_n d_mo_parseKeyword_147 rfl ?_
        have hml := mkB_lt (fun i => decide (j + 1 ≤ mtl (s 5) (G 22) p (ksK i))) 6
        refine Zn_if_ne (tgt := 155) d_mo_parseKeyword_148 (by decide) (by omega) (fun h148 => ?_) (fun h148 => ?_)
        · skip
          obtain ⟨i0, hi0, him⟩ : ∃ k, k < 6 ∧ j + 1 ≤ mtl (s 5) (G 22) p (ksK k) := Classical.byContradiction (fun z => h148 ((mkB_z 6).mpr (fun k hk => decide_eq_false (fun y => z ⟨k, hk, y⟩))))
          have hile := (mtl_le (len := s 5) (ch := G 22) (ksK i0) p)
          have hile2 := hile.2 (by omega)
          have hil9 := ksK_len hi0
          refine Zn_iconst (nI 0) d_mo_parseKeyword_155 (by decide) ?_
          refine Z_putz d_mo_parseKeyword_156 lf_mo_221 hF.1 rfl rfl (by first | exact Or.inl rfl | exact Or.inr rfl) (Nat.le_of_ble_eq_true rfl) ?_
          replace hF := hF.u8 0
          rw [pst_8] at hF
          refine Z_aload_n d_mo_parseKeyword_159 rfl ?_
          refine Z_dup d_mo_parseKeyword_160 rfl ?_
          refine Z_get (v := .int (nI (p + j))) d_mo_parseKeyword_161 lf_mo_218 hF.1 rfl ?_
          refine Z_aload_n d_mo_parseKeyword_164 rfl ?_
          refine Z_get (v := .int (nI 0)) d_mo_parseKeyword_165 lf_mo_221 hF.1 rfl ?_
          refine Zn_if_eq (a := 0) (tgt := 175) d_mo_parseKeyword_168 (by decide) (by decide) (fun _ => ?_) (fun h => absurd h (by decide))
          refine Zn_iconst (nI 1) d_mo_parseKeyword_175 (by decide) ?_
          refine Zn_iadd d_mo_parseKeyword_176 ?_
          refine Z_puti d_mo_parseKeyword_177 lf_mo_218 hF.1 rfl rfl (Nat.le_of_ble_eq_true rfl) ?_
          replace hF := hF.u7 ((p + j) + 1)
          rw [pst_7] at hF
          refine Z_goto (tgt := 10) d_mo_parseKeyword_180 (by decide) ?_
          exact ih (j + 1) _ _ _ _ (by omega) (by omega) (by omega) hF (fun k hk hkf => by
            have h1 := hnf k hk hkf
            have h2 := hfno k hk
            have h3 := (mtl_le (len := s 5) (ch := G 22) (ksK k) p).1
            have h2 : ¬ (mtl (s 5) (G 22) p (ksK k) = j + 1 ∧ (ksK k).length = j + 1) := h2
            omega) (Or.inr ⟨i0, hi0, by omega⟩) Q hQ
        · skip
          have hall : ∀ k, k < 6 → ¬ j + 1 ≤ mtl (s 5) (G 22) p (ksK k) := fun k hk => of_decide_eq_false ((mkB_z 6).mp h148 k hk)
          refine Zn_iconst (nI 1) d_mo_parseKeyword_151 (by decide) ?_
          refine Z_goto (tgt := 156) d_mo_parseKeyword_152 (by decide) ?_
          refine Z_putz d_mo_parseKeyword_156 lf_mo_221 hF.1 rfl rfl (by first | exact Or.inl rfl | exact Or.inr rfl) (Nat.le_of_ble_eq_true rfl) ?_
          replace hF := hF.u8 1
          rw [pst_8] at hF
          refine Z_aload_n d_mo_parseKeyword_159 rfl ?_
          refine Z_dup d_mo_parseKeyword_160 rfl ?_
          refine Z_get (v := .int (nI (p + j))) d_mo_parseKeyword_161 lf_mo_218 hF.1 rfl ?_
          refine Z_aload_n d_mo_parseKeyword_164 rfl ?_
          refine Z_get (v := .int (nI 1)) d_mo_parseKeyword_165 lf_mo_221 hF.1 rfl ?_
          refine Zn_if_eq (a := 1) (tgt := 175) d_mo_parseKeyword_168 (by decide) (by decide) (fun h => absurd h (by decide)) (fun _ => ?_)
          refine Zn_iconst (nI 0) d_mo_parseKeyword_171 (by decide) ?_
          refine Z_goto (tgt := 176) d_mo_parseKeyword_172 (by decide) ?_
          refine Zn_iadd d_mo_parseKeyword_176 ?_
          refine Z_puti d_mo_parseKeyword_177 lf_mo_218 hF.1 rfl rfl (Nat.le_of_ble_eq_true rfl) ?_
          replace hF := hF.u7 ((p + j) + 0)
          rw [pst_7] at hF
          refine Z_goto (tgt := 10) d_mo_parseKeyword_180 (by decide) ?_
          refine Z_iload_n d_mo_parseKeyword_10 rfl ?_
          refine Z_if_ge (tgt := 183) d_mo_parseKeyword_11 (by decide) (fun h11 => ?_) (fun h11 => ?_)
          · skip
            exact absurd h11 (by decide) -- end
          · skip
            skip
            refine Z_aload_n d_mo_parseKeyword_14 rfl ?_
            refine Z_get (v := .int (nI 1)) d_mo_parseKeyword_15 lf_mo_221 hF.1 rfl ?_
            refine Zn_if_ne (a := 1) (tgt := 183) d_mo_parseKeyword_18 (by decide) (by decide) (fun _ => ?_) (fun h => absurd h (by decide))
            refine Z_iload_n d_mo_parseKeyword_183 rfl ?_
            refine Z_iret d_mo_parseKeyword_184 rfl ?_
            have eP := pkw_no (len := s 5) (ch := G 22) (p := p) (j := j) (fun k hk => by
              have h1 := hnf k hk
              have h2 := hall k hk
              omega) (fun k hk => by have := hall k hk; omega) (by
              rcases hsome with z | ⟨k, hk, z⟩
              · exact ⟨0, by decide, by have := hall 0 (by decide); omega⟩
              · exact ⟨k, hk, by have := hall k hk; omega⟩)
            rw [eP] at hQ
            exact hQ _ hF
      · skip
        obtain ⟨hk6, hkm, hkl⟩ := fnd_some hfn
        have hkm : mtl (s 5) (G 22) p (ksK k0) = j + 1 := hkm
        refine Z_iload d_mo_parseKeyword_143 rfl ?_
        refine Zn_istore_n [some (.ref 123), some (.int (nI (mkB (fun i => decide (j + 1 ≤ mtl (s 5) (G 22) p (ksK i))) 6))), some (.int (nI p)), some (.int (nI k0)), some (.int (nI (mkB (fun i => decide (j + 1 ≤ mtl (s 5) (G 22) p (ksK i))) 6))), some (.int (nI 6)), y6, y7] d_mo_parseKeyword_145 (by decide) rfl ?_
        refine Z_aload_n d_mo_parseKeyword_146 rfl ?_
        refine Z_iload_n d_mo_parseKeyword_147 rfl ?_
        have hml := mkB_lt (fun i => decide (j + 1 ≤ mtl (s 5) (G 22) p (ksK i))) 6
        refine Zn_if_ne (tgt := 155) d_mo_parseKeyword_148 (by decide) (by omega) (fun h148 => ?_) (fun h148 => ?_)
        · skip
          obtain ⟨i0, hi0, him⟩ : ∃ k, k < 6 ∧ j + 1 ≤ mtl (s 5) (G 22) p (ksK k) := Classical.byContradiction (fun z => h148 ((mkB_z 6).mpr (fun k hk => decide_eq_false (fun y => z ⟨k, hk, y⟩))))
          have hile := (mtl_le (len := s 5) (ch := G 22) (ksK i0) p)
          have hile2 := hile.2 (by omega)
          have hil9 := ksK_len hi0
          refine Zn_iconst (nI 0) d_mo_parseKeyword_155 (by decide) ?_
          refine Z_putz d_mo_parseKeyword_156 lf_mo_221 hF.1 rfl rfl (by first | exact Or.inl rfl | exact Or.inr rfl) (Nat.le_of_ble_eq_true rfl) ?_
          replace hF := hF.u8 0
          rw [pst_8] at hF
          refine Z_aload_n d_mo_parseKeyword_159 rfl ?_
          refine Z_dup d_mo_parseKeyword_160 rfl ?_
          refine Z_get (v := .int (nI (p + j))) d_mo_parseKeyword_161 lf_mo_218 hF.1 rfl ?_
          refine Z_aload_n d_mo_parseKeyword_164 rfl ?_
          refine Z_get (v := .int (nI 0)) d_mo_parseKeyword_165 lf_mo_221 hF.1 rfl ?_
          refine Zn_if_eq (a := 0) (tgt := 175) d_mo_parseKeyword_168 (by decide) (by decide) (fun _ => ?_) (fun h => absurd h (by decide))
          refine Zn_iconst (nI 1) d_mo_parseKeyword_175 (by decide) ?_
          refine Zn_iadd d_mo_parseKeyword_176 ?_
          refine Z_puti d_mo_parseKeyword_177 lf_mo_218 hF.1 rfl rfl (Nat.le_of_ble_eq_true rfl) ?_
          replace hF := hF.u7 ((p + j) + 1)
          rw [pst_7] at hF
          refine Z_goto (tgt := 10) d_mo_parseKeyword_180 (by decide) ?_
          refine Z_iload_n d_mo_parseKeyword_10 rfl ?_
          refine Z_if_ge (tgt := 183) d_mo_parseKeyword_11 (by decide) (fun h11 => ?_) (fun h11 => ?_)
          · skip
            skip
            refine Z_iload_n d_mo_parseKeyword_183 rfl ?_
            refine Z_iret d_mo_parseKeyword_184 rfl ?_
            have eP := pkw_some (len := s 5) (ch := G 22) (p := p) hk6 (by omega)
            rw [eP] at hQ
            refine hQ _ ?_
            have e : pst s (p + j + 1) 0 = pst s (p + (ksK k0).length) (if (some k0 : Option Nat).isSome = true then 0 else 1) := by rw [hkl]; rfl
            rw [← e]
            exact hF
          · skip
            exact absurd (nI_pos' (by omega)) h11 -- end
        · skip
          exact absurd ((mkB_z 6).mp h148 k0 hk6) (by rw [decide_eq_true (show j + 1 ≤ mtl (s 5) (G 22) p (ksK k0) by omega)]; decide) -- end
set_option maxHeartbeats 4000000 in
theorem mo_parseKeyword_ok {Γ : zCtx} {M : List zE} (d : Nat) {M0 : List zE} {s : Nat → Nat} {G : Nat → Nat → Nat} {p : Nat} (hF : FW M0 M (pst s p 0) G) (h120 : s 5 ≤ 120) (hp : p ≤ s 5) (hch : ∀ i, G 22 i ≤ 126)  : ZM Γ (d + 5) m_mo_parseKeyword [.ref 123] M (fun M1 v => v = some (.int (oI (pKw (s 5) (G 22) p).1 (-1))) ∧ FW M0 M1 (pst s (pKw (s 5) (G 22) p).2 (if (pKw (s 5) (G 22) p).1.isSome = true then 0 else 1)) G) := by
  refine ZM.of mk_mo_parseKeyword (Nat.le_of_ble_eq_true rfl) ?_
  rw [show zEn [.ref 123] = [some (.ref 123)] from rfl]
  refine zPad 7 ?_
  show Z _ _ _ _ _ _ _ [some (.ref 123), none, none, none, none, none, none, none] _ _
  refine Zn_bipush (nI 63) d_mo_parseKeyword_0 (by decide) ?_
  refine Zn_istore_n [some (.ref 123), some (.int (nI 63)), none, none, none, none, none, none] d_mo_parseKeyword_2 (by decide) rfl ?_
  refine Z_aload_n d_mo_parseKeyword_3 rfl ?_
  refine Z_get (v := .int (nI p)) d_mo_parseKeyword_4 lf_mo_218 hF.1 rfl ?_
  refine Zn_istore_n [some (.ref 123), some (.int (nI 63)), some (.int (nI p)), none, none, none, none, none] d_mo_parseKeyword_7 (by decide) rfl ?_
  refine Zn_iconst (-1) d_mo_parseKeyword_8 (by decide) ?_
  refine Zn_istore_n [some (.ref 123), some (.int (nI 63)), some (.int (nI p)), some (.int (-1)), none, none, none, none] d_mo_parseKeyword_9 (by decide) rfl ?_
  have e63 : mkB (fun i => decide (0 ≤ mtl (s 5) (G 22) p (ksK i))) 6 = 63 := by
    have : (fun i => decide (0 ≤ mtl (s 5) (G 22) p (ksK i))) = fun _ => true := by funext i; exact decide_eq_true (Nat.zero_le _)
    rw [this]; rfl
  rw [← e63]
  exact mo_kw_out (Γ := Γ) (M0 := M0) (p := p) d h120 hch 10 0 (M := M) none none none none (by omega) (by omega) (by omega) hF (fun k hk _ => by have := ksK_len hk; omega) (Or.inl rfl) _ (fun M1 h => ⟨rfl, h⟩)
