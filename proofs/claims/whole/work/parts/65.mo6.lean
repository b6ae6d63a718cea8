/-! looking up, moving, applying -/
def lk1 (G : Nat → Nat → Nat) (N a l : Nat) : Option Nat := match nxC G a (l - 1) N with
  | none => none
  | some q => if G 12 q = l then some q else none
def lkU (G : Nat → Nat → Nat) (N l1 l2 l3 : Nat) : Option Nat := if l1 = 0 then none else match lk1 G N 0 l1 with
  | none => none
  | some u => if l2 = 0 then some u else match lk1 G N (u + 1) l2 with
    | none => none
    | some w => if l3 = 0 then some w else lk1 G N (w + 1) l3
theorem lk1_lt {G : Nat → Nat → Nat} {N a l q : Nat} (h : lk1 G N a l = some q) : q < N := by
  unfold lk1 at h
  split at h
  · cases h
  · rename_i h1
    split at h
    · cases h; exact nxC_lt h1
    · cases h
theorem lkU_lt {G : Nat → Nat → Nat} {N l1 l2 l3 q : Nat} (h : lkU G N l1 l2 l3 = some q) : q < N := by
  unfold lkU at h
  split at h
  · cases h
  · split at h
    · cases h
    · rename_i h1
      split at h
      · cases h; exact lk1_lt h1
      · split at h
        · cases h
        · rename_i h2
          split at h
          · cases h; exact lk1_lt h2
          · exact lk1_lt h
set_option maxHeartbeats 4000000 in
theorem mo_lookUp_ok {Γ : zCtx} {M : List zE} (d : Nat) {M0 : List zE} {s : Nat → Nat} {G : Nat → Nat → Nat} (hF : FW M0 M s G) (hB : nB (s 2) G) {r f z l1 l2 l3 : Nat} {A : Nat → Nat} (hA : M[r]? = some (.inl (0, z, .inl (fun i => nI (A i))))) (hz : f + 3 ≤ z) (hz9 : z < 2147483648) (e1 : A (f + 0) = l1) (e2 : A (f + 1) = l2) (e3 : A (f + 2) = l3) (b1 : l1 < 2097152) (b2 : l2 < 2097152) (b3 : l3 < 2097152) : ZM Γ (d + 2) m_mo_lookUp [.ref 123, .ref r, .int (nI f)] M (zEq M (some (.int (oI (lkU G (s 2) l1 l2 l3) (-1))))) := by
  refine ZM.of mk_mo_lookUp (Nat.le_of_ble_eq_true rfl) ?_
  rw [show zEn [.ref 123, .ref r, .int (nI f)] = [some (.ref 123), some (.ref r), some (.int (nI f))] from rfl]
  refine zPad 3 ?_
  show Z _ _ _ _ _ _ _ [some (.ref 123), some (.ref r), some (.int (nI f)), none, none, none] _ _
  refine Zn_iconst (-1) d_mo_lookUp_0 (by decide) ?_
  refine Zn_istore_n [some (.ref 123), some (.ref r), some (.int (nI f)), some (.int (-1)), none, none] d_mo_lookUp_1 (by decide) rfl ?_
  refine Zn_iconst (nI 0) d_mo_lookUp_2 (by decide) ?_
  refine Zn_istore [some (.ref 123), some (.ref r), some (.int (nI f)), some (.int (-1)), some (.int (nI 0)), none] d_mo_lookUp_3 (by decide) rfl ?_
  refine Z_iload d_mo_lookUp_5 rfl ?_
  refine Zn_iconst (nI 3) d_mo_lookUp_7 (by decide) ?_
  refine Zn_icmp_ge (a := 0) (b := 3) (tgt := 67) d_mo_lookUp_8 (by decide) (by decide) (by decide) (fun h => absurd h (by decide)) (fun _ => ?_)
  refine Z_aload_n d_mo_lookUp_11 rfl ?_
  refine Z_iload_n d_mo_lookUp_12 rfl ?_
  refine Z_iload d_mo_lookUp_13 rfl ?_
  refine Zn_iadd d_mo_lookUp_15 ?_
  refine Zn_iald d_mo_lookUp_16 hA (by omega) (by omega) ?_
  first | rw [e1] | rw [e2] | rw [e3]
  refine Zn_if_le (tgt := 67) d_mo_lookUp_17 (by decide) (by omega) (fun h17 => ?_) (fun h17 => ?_)
  · skip
    have z1 : l1 = 0 := by omega
    refine Z_iload_n d_mo_lookUp_67 rfl ?_
    refine Z_iret d_mo_lookUp_68 rfl ?_
    refine ⟨rfl, ?_⟩
    rw [show lkU G (s 2) l1 l2 l3 = none from by simp [lkU, z1]]
    rfl
  · skip
    have z1 : ¬ l1 = 0 := by omega
    refine Z_aload_n d_mo_lookUp_20 rfl ?_
    refine Z_iload_n d_mo_lookUp_21 rfl ?_
    refine Z_aload_n d_mo_lookUp_22 rfl ?_
    refine Z_iload_n d_mo_lookUp_23 rfl ?_
    refine Z_iload d_mo_lookUp_24 rfl ?_
    refine Zn_iadd d_mo_lookUp_26 ?_
    refine Zn_iald d_mo_lookUp_27 hA (by omega) (by omega) ?_
    first | rw [e1] | rw [e2] | rw [e3]
    refine Zn_iconst (nI 1) d_mo_lookUp_28 (by decide) ?_
    refine Zn_isub d_mo_lookUp_29 (by omega) ?_
    refine zVe (As := [.int (-1), .int (nI (l1 - 1))]) (by omega) d_mo_lookUp_30 lm_mo_165 hF.1 rfl rfl (Nat.le_of_ble_eq_true rfl) (mo_nextChild_ok (a := 0) d hF hB (by omega) (by omega)) ?_
    rcases ho1 : nxC G 0 (l1 - 1) (s 2) with _ | q1
    · have hk1 : lk1 G (s 2) 0 l1 = none := by unfold lk1; rw [ho1]
      refine Zn_istore [some (.ref 123), some (.ref r), some (.int (nI f)), some (.int (-1)), some (.int (nI 0)), some (.int (-1))] d_mo_lookUp_33 (by decide) rfl ?_
      refine Z_iload d_mo_lookUp_35 rfl ?_
      refine Z_if_lt (tgt := 56) d_mo_lookUp_37 (by decide) (fun h37 => ?_) (fun h37 => ?_)
      · skip
        skip
        refine Zn_iconst (-1) d_mo_lookUp_56 (by decide) ?_
        refine Z_iret d_mo_lookUp_57 rfl ?_
        refine ⟨rfl, ?_⟩
        rw [show lkU G (s 2) l1 l2 l3 = none from by simp [lkU, z1, hk1]]
        rfl
      · skip
        exact absurd (by decide) h37 -- end
    · have hq1 := nxC_lt ho1
      have hb1 := hB.2 q1 hq1
      have h160 := hB.1
      refine Zn_istore [some (.ref 123), some (.ref r), some (.int (nI f)), some (.int (-1)), some (.int (nI 0)), some (.int (nI q1))] d_mo_lookUp_33 (by decide) rfl ?_
      refine Z_iload d_mo_lookUp_35 rfl ?_
      refine Z_if_lt (tgt := 56) d_mo_lookUp_37 (by decide) (fun h37 => ?_) (fun h37 => ?_)
      · skip
        exact absurd h37 (nI_pos (by omega)) -- end
      · skip
        skip
        refine Z_aload_n d_mo_lookUp_40 rfl ?_
        refine Z_get (v := .ref 136) d_mo_lookUp_41 lf_mo_46 hF.1 rfl ?_
        refine Z_iload d_mo_lookUp_44 rfl ?_
        refine Zn_iald d_mo_lookUp_46 hF.a12 (by omega) (by omega) ?_
        refine Z_aload_n d_mo_lookUp_47 rfl ?_
        refine Z_iload_n d_mo_lookUp_48 rfl ?_
        refine Z_iload d_mo_lookUp_49 rfl ?_
        refine Zn_iadd d_mo_lookUp_51 ?_
        refine Zn_iald d_mo_lookUp_52 hA (by omega) (by omega) ?_
        first | rw [e1] | rw [e2] | rw [e3]
        refine Zn_icmp_eq (tgt := 58) d_mo_lookUp_53 (by decide) (by omega) (by omega) (fun h53 => ?_) (fun h53 => ?_)
        · skip
          have hk1 : lk1 G (s 2) 0 l1 = some q1 := by unfold lk1; rw [ho1]; exact if_pos h53
          refine Z_iload d_mo_lookUp_58 rfl ?_
          refine Zn_istore_n [some (.ref 123), some (.ref r), some (.int (nI f)), some (.int (nI q1)), some (.int (nI 0)), some (.int (nI q1))] d_mo_lookUp_60 (by decide) rfl ?_
          refine Zn_iinc [some (.ref 123), some (.ref r), some (.int (nI f)), some (.int (nI q1)), some (.int (nI 1)), some (.int (nI q1))] (nI 1) d_mo_lookUp_61 rfl (by decide) (nI_add 0 1) rfl ?_
          refine Z_goto (tgt := 5) d_mo_lookUp_64 (by decide) ?_
          refine Z_iload d_mo_lookUp_5 rfl ?_
          refine Zn_iconst (nI 3) d_mo_lookUp_7 (by decide) ?_
          refine Zn_icmp_ge (a := 1) (b := 3) (tgt := 67) d_mo_lookUp_8 (by decide) (by decide) (by decide) (fun h => absurd h (by decide)) (fun _ => ?_)
          refine Z_aload_n d_mo_lookUp_11 rfl ?_
          refine Z_iload_n d_mo_lookUp_12 rfl ?_
          refine Z_iload d_mo_lookUp_13 rfl ?_
          refine Zn_iadd d_mo_lookUp_15 ?_
          refine Zn_iald d_mo_lookUp_16 hA (by omega) (by omega) ?_
          first | rw [e1] | rw [e2] | rw [e3]
          refine Zn_if_le (tgt := 67) d_mo_lookUp_17 (by decide) (by omega) (fun h17 => ?_) (fun h17 => ?_)
          · skip
            have z2 : l2 = 0 := by omega
            refine Z_iload_n d_mo_lookUp_67 rfl ?_
            refine Z_iret d_mo_lookUp_68 rfl ?_
            refine ⟨rfl, ?_⟩
            rw [show lkU G (s 2) l1 l2 l3 = some q1 from by simp [lkU, z1, hk1, z2]]
            rfl
          · skip
            have z2 : ¬ l2 = 0 := by omega
            refine Z_aload_n d_mo_lookUp_20 rfl ?_
            refine Z_iload_n d_mo_lookUp_21 rfl ?_
            refine Z_aload_n d_mo_lookUp_22 rfl ?_
            refine Z_iload_n d_mo_lookUp_23 rfl ?_
            refine Z_iload d_mo_lookUp_24 rfl ?_
            refine Zn_iadd d_mo_lookUp_26 ?_
            refine Zn_iald d_mo_lookUp_27 hA (by omega) (by omega) ?_
            first | rw [e1] | rw [e2] | rw [e3]
            refine Zn_iconst (nI 1) d_mo_lookUp_28 (by decide) ?_
            refine Zn_isub d_mo_lookUp_29 (by omega) ?_
            refine zVe (As := [.int (nI q1), .int (nI (l2 - 1))]) (by omega) d_mo_lookUp_30 lm_mo_165 hF.1 rfl rfl (Nat.le_of_ble_eq_true rfl) (mo_nextChild_ok (a := q1 + 1) d hF hB (by omega) (by omega)) ?_
            rcases ho2 : nxC G (q1 + 1) (l2 - 1) (s 2) with _ | q2
            · have hk2 : lk1 G (s 2) (q1 + 1) l2 = none := by unfold lk1; rw [ho2]
              refine Zn_istore [some (.ref 123), some (.ref r), some (.int (nI f)), some (.int (nI q1)), some (.int (nI 1)), some (.int (-1))] d_mo_lookUp_33 (by decide) rfl ?_
              refine Z_iload d_mo_lookUp_35 rfl ?_
              refine Z_if_lt (tgt := 56) d_mo_lookUp_37 (by decide) (fun h37 => ?_) (fun h37 => ?_)
              · skip
                skip
                refine Zn_iconst (-1) d_mo_lookUp_56 (by decide) ?_
                refine Z_iret d_mo_lookUp_57 rfl ?_
                refine ⟨rfl, ?_⟩
                rw [show lkU G (s 2) l1 l2 l3 = none from by simp [lkU, z1, hk1, z2, hk2]]
                rfl
              · skip
                exact absurd (by decide) h37 -- end
            · have hq2 := nxC_lt ho2
              have hb2 := hB.2 q2 hq2
              have h160 := hB.1
              refine Zn_istore [some (.ref 123), some (.ref r), some (.int (nI f)), some (.int (nI q1)), some (.int (nI 1)), some (.int (nI q2))] d_mo_lookUp_33 (by decide) rfl ?_
              refine Z_iload d_mo_lookUp_35 rfl ?_
              refine Z_if_lt (tgt := 56) d_mo_lookUp_37 (by decide) (fun h37 => ?_) (fun h37 => ?_)
              · skip
                exact absurd h37 (nI_pos (by omega)) -- end
              · skip
                skip
                refine Z_aload_n d_mo_lookUp_40 rfl ?_
                refine Z_get (v := .ref 136) d_mo_lookUp_41 lf_mo_46 hF.1 rfl ?_
                refine Z_iload d_mo_lookUp_44 rfl ?_
                refine Zn_iald d_mo_lookUp_46 hF.a12 (by omega) (by omega) ?_
                refine Z_aload_n d_mo_lookUp_47 rfl ?_
                refine Z_iload_n d_mo_lookUp_48 rfl ?_
                refine Z_iload d_mo_lookUp_49 rfl ?_
                refine Zn_iadd d_mo_lookUp_51 ?_
                refine Zn_iald d_mo_lookUp_52 hA (by omega) (by omega) ?_
                first | rw [e1] | rw [e2] | rw [e3]
                refine Zn_icmp_eq (tgt := 58) d_mo_lookUp_53 (by decide) (by omega) (by omega) (fun h53 => ?_) (fun h53 => ?_)
                · skip
                  have hk2 : lk1 G (s 2) (q1 + 1) l2 = some q2 := by unfold lk1; rw [ho2]; exact if_pos h53
                  refine Z_iload d_mo_lookUp_58 rfl ?_
                  refine Zn_istore_n [some (.ref 123), some (.ref r), some (.int (nI f)), some (.int (nI q2)), some (.int (nI 1)), some (.int (nI q2))] d_mo_lookUp_60 (by decide) rfl ?_
                  refine Zn_iinc [some (.ref 123), some (.ref r), some (.int (nI f)), some (.int (nI q2)), some (.int (nI 2)), some (.int (nI q2))] (nI 2) d_mo_lookUp_61 rfl (by decide) (nI_add 1 1) rfl ?_
                  refine Z_goto (tgt := 5) d_mo_lookUp_64 (by decide) ?_
                  refine Z_iload d_mo_lookUp_5 rfl ?_
                  refine Zn_iconst (nI 3) d_mo_lookUp_7 (by decide) ?_
                  refine Zn_icmp_ge (a := 2) (b := 3) (tgt := 67) d_mo_lookUp_8 (by decide) (by decide) (by decide) (fun h => absurd h (by decide)) (fun _ => ?_)
                  refine Z_aload_n d_mo_lookUp_11 rfl ?_
                  refine Z_iload_n d_mo_lookUp_12 rfl ?_
                  refine Z_iload d_mo_lookUp_13 rfl ?_
                  refine Zn_iadd d_mo_lookUp_15 ?_
                  refine Zn_iald d_mo_lookUp_16 hA (by omega) (by omega) ?_
                  first | rw [e1] | rw [e2] | rw [e3]
                  refine Zn_if_le (tgt := 67) d_mo_lookUp_17 (by decide) (by omega) (fun h17 => ?_) (fun h17 => ?_)
                  · skip
                    have z3 : l3 = 0 := by omega
                    refine Z_iload_n d_mo_lookUp_67 rfl ?_
                    refine Z_iret d_mo_lookUp_68 rfl ?_
                    refine ⟨rfl, ?_⟩
                    rw [show lkU G (s 2) l1 l2 l3 = some q2 from by simp [lkU, z1, hk1, z2, hk2, z3]]
                    rfl
                  · skip
                    have z3 : ¬ l3 = 0 := by omega
                    refine Z_aload_n d_mo_lookUp_20 rfl ?_
                    refine Z_iload_n d_mo_lookUp_21 rfl ?_
                    refine Z_aload_n d_mo_lookUp_22 rfl ?_
                    refine Z_iload_n d_mo_lookUp_23 rfl ?_
                    refine Z_iload d_mo_lookUp_24 rfl ?_
                    refine Zn_iadd d_mo_lookUp_26 ?_
                    refine Zn_iald d_mo_lookUp_27 hA (by omega) (by omega) ?_
                    first | rw [e1] | rw [e2] | rw [e3]
                    refine Zn_iconst (nI 1) d_mo_lookUp_28 (by decide) ?_
                    refine Zn_isub d_mo_lookUp_29 (by omega) ?_
                    refine zVe (As := [.int (nI q2), .int (nI (l3 - 1))]) (by omega) d_mo_lookUp_30 lm_mo_165 hF.1 rfl rfl (Nat.le_of_ble_eq_true rfl) (mo_nextChild_ok (a := q2 + 1) d hF hB (by omega) (by omega)) ?_
                    rcases ho3 : nxC G (q2 + 1) (l3 - 1) (s 2) with _ | q3
                    · have hk3 : lk1 G (s 2) (q2 + 1) l3 = none := by unfold lk1; rw [ho3]
                      refine Zn_istore [some (.ref 123), some (.ref r), some (.int (nI f)), some (.int (nI q2)), some (.int (nI 2)), some (.int (-1))] d_mo_lookUp_33 (by decide) rfl ?_
                      refine Z_iload d_mo_lookUp_35 rfl ?_
                      refine Z_if_lt (tgt := 56) d_mo_lookUp_37 (by decide) (fun h37 => ?_) (fun h37 => ?_)
                      · skip
                        skip
                        refine Zn_iconst (-1) d_mo_lookUp_56 (by decide) ?_
                        refine Z_iret d_mo_lookUp_57 rfl ?_
                        refine ⟨rfl, ?_⟩
                        rw [show lkU G (s 2) l1 l2 l3 = none from by simp [lkU, z1, hk1, z2, hk2, z3, hk3]]
                        rfl
                      · skip
                        exact absurd (by decide) h37 -- end
                    · have hq3 := nxC_lt ho3
                      have hb3 := hB.2 q3 hq3
                      have h160 := hB.1
                      refine Zn_istore [some (.ref 123), some (.ref r), some (.int (nI f)), some (.int (nI q2)), some (.int (nI 2)), some (.int (nI q3))] d_mo_lookUp_33 (by decide) rfl ?_
                      refine Z_iload d_mo_lookUp_35 rfl ?_
                      refine Z_if_lt (tgt := 56) d_mo_lookUp_37 (by decide) (fun h37 => ?_) (fun h37 => ?_)
                      · skip
                        exact absurd h37 (nI_pos (by omega)) -- end
                      · skip
                        skip
                        refine Z_aload_n d_mo_lookUp_40 rfl ?_
                        refine Z_get (v := .ref 136) d_mo_lookUp_41 lf_mo_46 hF.1 rfl ?_
                        refine Z_iload d_mo_lookUp_44 rfl ?_
                        refine Zn_iald d_mo_lookUp_46 hF.a12 (by omega) (by omega) ?_
                        refine Z_aload_n d_mo_lookUp_47 rfl ?_
                        refine Z_iload_n d_mo_lookUp_48 rfl ?_
                        refine Z_iload d_mo_lookUp_49 rfl ?_
                        refine Zn_iadd d_mo_lookUp_51 ?_
                        refine Zn_iald d_mo_lookUp_52 hA (by omega) (by omega) ?_
                        first | rw [e1] | rw [e2] | rw [e3]
                        refine Zn_icmp_eq (tgt := 58) d_mo_lookUp_53 (by decide) (by omega) (by omega) (fun h53 => ?_) (fun h53 => ?_)
                        · skip
                          have hk3 : lk1 G (s 2) (q2 + 1) l3 = some q3 := by unfold lk1; rw [ho3]; exact if_pos h53
                          refine Z_iload d_mo_lookUp_58 rfl ?_
                          refine Zn_istore_n [some (.ref 123), some (.ref r), some (.int (nI f)), some (.int (nI q3)), some (.int (nI 2)), some (.int (nI q3))] d_mo_lookUp_60 (by decide) rfl ?_
                          refine Zn_iinc [some (.ref 123), some (.ref r), some (.int (nI f)), some (.int (nI q3)), some (.int (nI 3)), some (.int (nI q3))] (nI 3) d_mo_lookUp_61 rfl (by decide) (nI_add 2 1) rfl ?_
                          refine Z_goto (tgt := 5) d_mo_lookUp_64 (by decide) ?_
                          refine Z_iload d_mo_lookUp_5 rfl ?_
                          refine Zn_iconst (nI 3) d_mo_lookUp_7 (by decide) ?_
                          refine Zn_icmp_ge (a := 3) (b := 3) (tgt := 67) d_mo_lookUp_8 (by decide) (by decide) (by decide) (fun _ => ?_) (fun h => absurd h (by decide))
                          refine Z_iload_n d_mo_lookUp_67 rfl ?_
                          refine Z_iret d_mo_lookUp_68 rfl ?_
                          refine ⟨rfl, ?_⟩
                          rw [show lkU G (s 2) l1 l2 l3 = some q3 from by simp [lkU, z1, hk1, z2, hk2, z3, hk3]]
                          rfl
                        · skip
                          have hk3 : lk1 G (s 2) (q2 + 1) l3 = none := by unfold lk1; rw [ho3]; exact if_neg h53
                          refine Zn_iconst (-1) d_mo_lookUp_56 (by decide) ?_
                          refine Z_iret d_mo_lookUp_57 rfl ?_
                          refine ⟨rfl, ?_⟩
                          rw [show lkU G (s 2) l1 l2 l3 = none from by simp [lkU, z1, hk1, z2, hk2, z3, hk3]]
                          rfl
                · skip
                  have hk2 : lk1 G (s 2) (q1 + 1) l2 = none := by unfold lk1; rw [ho2]; exact if_neg h53
                  refine Zn_iconst (-1) d_mo_lookUp_56 (by decide) ?_
                  refine Z_iret d_mo_lookUp_57 rfl ?_
                  refine ⟨rfl, ?_⟩
                  rw [show lkU G (s 2) l1 l2 l3 = none from by simp [lkU, z1, hk1, z2, hk2]]
                  rfl
        · skip
          have hk1 : lk1 G (s 2) 0 l1 = none := by unfold lk1; rw [ho1]; exact if_neg h53
          refine Zn_iconst (-1) d_mo_lookUp_56 (by decide) ?_
          refine Z_iret d_mo_lookUp_57 rfl ?_
          refine ⟨rfl, ?_⟩
          rw [show lkU G (s 2) l1 l2 l3 = none from by simp [lkU, z1, hk1]]
          rfl
def mvR (s : Nat → Nat) (G G' : Nat → Nat → Nat) (p q r : Nat) : Prop := (∀ k, k ≠ 10 → k ≠ 12 → G' k = G k) ∧ match lbA (gup G 17 p 0) (s 2) q with
  | none => r = 5 ∧ G' 10 = G 10 ∧ G' 12 = G 12
  | some b => r = 0 ∧ G' 10 = nup (G 10) p (G 10 q) ∧ G' 12 = nup (G 12) p b
theorem gup_17 {G : Nat → Nat → Nat} {p : Nat} (h : G 17 p = 1) : gup (gup G 17 p 0) 17 p 1 = G := by
  funext k
  by_cases hk : k = 17
  · subst hk
    rw [gup_s, gup_s]
    funext v
    unfold nup
    by_cases hv : v = p
    · rw [if_pos hv, hv, h]
    · rw [if_neg hv, if_neg hv]
  · rw [gup_n hk, gup_n hk]
theorem nB.pp {N : Nat} {G : Nat → Nat → Nat} {p : Nat} (h : nB N G) : nB N (gup G 17 p 0) := by
  refine ⟨h.1, fun v hv => ?_⟩
  have := h.2 v hv
  rw [gup_n (by decide), gup_n (by decide), gup_n (by decide), gup_n (by decide), gup_s]
  unfold nup
  split <;> omega
theorem lbA_lt {G : Nat → Nat → Nat} {N v b : Nat} (h : lbA G N v = some b) (hv : G 12 v < 2097152) : b < 2200000 := by
  unfold lbA at h
  rw [Option.map_eq_some_iff] at h
  obtain ⟨x, h1, h2⟩ := h
  have h3 := sfB_lt h1
  have h4 := lmA_le (G := G) (N := N) (v := v)
  omega
set_option maxHeartbeats 4000000 in
theorem mo_move_ok {Γ : zCtx} {M : List zE} (d : Nat) {M0 : List zE} {s : Nat → Nat} {G : Nat → Nat → Nat} (hF : FW M0 M s G) (hB : nB (s 2) G) {p q : Nat} (hp : p < s 2) (hq : q < s 2) (hp1 : G 17 p = 1) : ZM Γ (d + 4) m_mo_move [.ref 123, .int (nI p), .int (nI q)] M (fun M1 v => ∃ r G', v = some (.int (nI r)) ∧ FW M0 M1 s G' ∧ mvR s G G' p q r) := by
  refine ZM.of mk_mo_move (Nat.le_of_ble_eq_true rfl) ?_
  have h160 := hB.1
  rw [show zEn [.ref 123, .int (nI p), .int (nI q)] = [some (.ref 123), some (.int (nI p)), some (.int (nI q))] from rfl]
  refine zPad 1 ?_
  show Z _ _ _ _ _ _ _ [some (.ref 123), some (.int (nI p)), some (.int (nI q)), none] _ _
  refine Z_aload_n d_mo_move_0 rfl ?_
  refine Z_get (v := .ref 141) d_mo_move_1 lf_mo_62 hF.1 rfl ?_
  refine Z_iload_n d_mo_move_4 rfl ?_
  refine Zn_iconst (nI 0) d_mo_move_5 (by decide) ?_
  refine Zn_zast (x := nI 0) d_mo_move_6 hF.a17 (by omega) (by omega) (by first | exact Or.inl rfl | exact Or.inr rfl) ?_
  replace hF := hF.p17 p 0
  refine Z_aload_n d_mo_move_7 rfl ?_
  refine Z_iload_n d_mo_move_8 rfl ?_
  refine zVe (As := [.int (nI q)]) (by omega) d_mo_move_9 lm_mo_206 hF.1 rfl rfl (Nat.le_of_ble_eq_true rfl) (mo_labelAfter_ok (d + 0) hF hB.pp hq) ?_
  rcases ho : lbA (gup G 17 p 0) (s 2) q with _ | b
  · skip
    refine Zn_istore_n [some (.ref 123), some (.int (nI p)), some (.int (nI q)), some (.int (-1))] d_mo_move_12 (by decide) rfl ?_
    refine Z_aload_n d_mo_move_13 rfl ?_
    refine Z_get (v := .ref 141) d_mo_move_14 lf_mo_62 hF.1 rfl ?_
    refine Z_iload_n d_mo_move_17 rfl ?_
    refine Zn_iconst (nI 1) d_mo_move_18 (by decide) ?_
    refine Zn_zast (x := nI 1) d_mo_move_19 hF.a17 (by omega) (by omega) (by first | exact Or.inl rfl | exact Or.inr rfl) ?_
    replace hF := hF.p17 p 1
    rw [gup_17 hp1] at hF
    refine Z_iload_n d_mo_move_20 rfl ?_
    refine Z_if_ge (tgt := 26) d_mo_move_21 (by decide) (fun h21 => ?_) (fun h21 => ?_)
    · skip
      exact absurd h21 (by decide) -- end
    · skip
      skip
      refine Zn_iconst (nI 5) d_mo_move_24 (by decide) ?_
      refine Z_iret d_mo_move_25 rfl ?_
      refine ⟨5, G, rfl, hF, fun _ _ _ => rfl, ?_⟩
      rw [ho]
      exact ⟨rfl, rfl, rfl⟩
  · skip
    have hb := lbA_lt ho (by rw [gup_n (by decide)]; exact (hB.2 q hq).1)
    refine Zn_istore_n [some (.ref 123), some (.int (nI p)), some (.int (nI q)), some (.int (nI b))] d_mo_move_12 (by decide) rfl ?_
    refine Z_aload_n d_mo_move_13 rfl ?_
    refine Z_get (v := .ref 141) d_mo_move_14 lf_mo_62 hF.1 rfl ?_
    refine Z_iload_n d_mo_move_17 rfl ?_
    refine Zn_iconst (nI 1) d_mo_move_18 (by decide) ?_
    refine Zn_zast (x := nI 1) d_mo_move_19 hF.a17 (by omega) (by omega) (by first | exact Or.inl rfl | exact Or.inr rfl) ?_
    replace hF := hF.p17 p 1
    rw [gup_17 hp1] at hF
    refine Z_iload_n d_mo_move_20 rfl ?_
    refine Z_if_ge (tgt := 26) d_mo_move_21 (by decide) (fun h21 => ?_) (fun h21 => ?_)
    · skip
      skip
      refine Z_aload_n d_mo_move_26 rfl ?_
      refine Z_get (v := .ref 134) d_mo_move_27 lf_mo_40 hF.1 rfl ?_
      refine Z_iload_n d_mo_move_30 rfl ?_
      refine Z_aload_n d_mo_move_31 rfl ?_
      refine Z_get (v := .ref 134) d_mo_move_32 lf_mo_40 hF.1 rfl ?_
      refine Z_iload_n d_mo_move_35 rfl ?_
      refine Zn_iald d_mo_move_36 hF.a10 (by omega) (by omega) ?_
      refine Zn_iast d_mo_move_37 hF.a10 (by omega) (by omega) ?_
      replace hF := hF.p10 p (G 10 q)
      refine Z_aload_n d_mo_move_38 rfl ?_
      refine Z_get (v := .ref 136) d_mo_move_39 lf_mo_46 hF.1 rfl ?_
      refine Z_iload_n d_mo_move_42 rfl ?_
      refine Z_iload_n d_mo_move_43 rfl ?_
      refine Zn_iast d_mo_move_44 hF.a12 (by omega) (by omega) ?_
      replace hF := hF.p12 p b
      refine Zn_iconst (nI 0) d_mo_move_45 (by decide) ?_
      refine Z_iret d_mo_move_46 rfl ?_
      refine ⟨0, _, rfl, hF, fun k h1 h2 => by rw [gup_n h2, gup_n h1], ?_⟩
      rw [ho]
      exact ⟨rfl, by rw [gup_n (by decide), gup_s], by rw [gup_s, gup_n (by decide)]⟩
    · skip
      exact absurd (Int32.not_lt.mp (nI_pos (by omega))) h21 -- end
