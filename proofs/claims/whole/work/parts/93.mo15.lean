/-! writing paths -/
theorem wF.pt {s : Nat → Nat} {G : Nat → Nat → Nat} (c : Nat) : wF s (nup s 9 (s 9 + 1)) G (gup G 24 (s 9) c) := wF.put
set_option maxHeartbeats 4000000 in
theorem mo_write_ok {Γ : zCtx} {M : List zE} (d : Nat) {M0 : List zE} {s : Nat → Nat} {G : Nat → Nat → Nat} (hF : FW M0 M s G) (h9 : s 9 < 24) {c : Nat}  : ZM Γ (d + 1) m_mo_write [.ref 123, .int (nI c)] M (fun M1 v => v = none ∧ FW M0 M1 (nup s 9 (s 9 + 1)) (gup G 24 (s 9) c)) := by
  refine ZM.of mk_mo_write (Nat.le_of_ble_eq_true rfl) ?_
  refine Z_aload_n d_mo_write_0 rfl ?_
  refine Z_get (v := .ref 148) d_mo_write_1 lf_mo_83 hF.1 rfl ?_
  refine Z_aload_n d_mo_write_4 rfl ?_
  refine Z_get (v := .int (nI (s 9))) d_mo_write_5 lf_mo_319 hF.1 rfl ?_
  refine Z_iload_n d_mo_write_8 rfl ?_
  refine Zn_iast d_mo_write_9 hF.a24 (by omega) (by omega) ?_
  replace hF := hF.p24 (s 9) c
  refine Z_aload_n d_mo_write_10 rfl ?_
  refine Z_dup d_mo_write_11 rfl ?_
  refine Z_get (v := .int (nI (s 9))) d_mo_write_12 lf_mo_319 hF.1 rfl ?_
  refine Zn_iconst (nI 1) d_mo_write_15 (by decide) ?_
  refine Zn_iadd d_mo_write_16 ?_
  refine Z_puti d_mo_write_17 lf_mo_319 hF.1 rfl rfl (Nat.le_of_ble_eq_true rfl) ?_
  replace hF := hF.u9 ((s 9) + 1)
  refine Z_vret d_mo_write_20 rfl ?_
  exact ⟨rfl, hF⟩
set_option maxHeartbeats 4000000 in
theorem mo_writeLabel_ok {Γ : zCtx} {M : List zE} (d : Nat) {M0 : List zE} {s : Nat → Nat} {G : Nat → Nat → Nat} (hF : FW M0 M s G) {l0 : List Nat} (hw : wr s G l0) (hl : l0.length + 5 ≤ 24) {b : Nat} (hb : b < 2097152) : ZM Γ (d + 2) m_mo_writeLabel [.ref 123, .int (nI b)] M (fun M1 v => v = none ∧ ∃ s' G', FW M0 M1 s' G' ∧ wr s' G' (l0 ++ lbC b) ∧ wF s s' G G') := by
  refine ZM.of mk_mo_writeLabel (Nat.le_of_ble_eq_true rfl) ?_
  have hf : wF s s G G := wF.rf
  rw [show zEn [.ref 123, .int (nI b)] = [some (.ref 123), some (.int (nI b))] from rfl]
  refine zPad 3 ?_
  show Z _ _ _ _ _ _ _ [some (.ref 123), some (.int (nI b)), none, none, none] _ _
  refine Z_iload_n d_mo_writeLabel_0 rfl ?_
  refine Zn_sipush (nI 19683) d_mo_writeLabel_1 (by decide) ?_
  refine Zn_idiv d_mo_writeLabel_4 (by omega) (by omega) (by omega) ?_
  refine Zn_istore_n [some (.ref 123), some (.int (nI b)), some (.int (nI (b / 19683))), none, none] d_mo_writeLabel_5 (by decide) rfl ?_
  refine Z_iload_n d_mo_writeLabel_6 rfl ?_
  refine Zn_bipush (nI 9) d_mo_writeLabel_7 (by decide) ?_
  refine Zn_icmp_le (tgt := 23) d_mo_writeLabel_9 (by decide) (by omega) (by omega) (fun h9 => ?_) (fun h9 => ?_)
  · skip
    skip
    refine Z_aload_n d_mo_writeLabel_23 rfl ?_
    refine Zn_bipush (nI 48) d_mo_writeLabel_24 (by decide) ?_
    refine Z_iload_n d_mo_writeLabel_26 rfl ?_
    refine Zn_bipush (nI 10) d_mo_writeLabel_27 (by decide) ?_
    refine Zn_irem d_mo_writeLabel_29 (by omega) (by omega) (by omega) ?_
    refine Zn_iadd d_mo_writeLabel_30 ?_
    refine zV (As := [.int (nI (48 + ((b / 19683) % 10)))]) (by omega) d_mo_writeLabel_31 lm_mo_322 hF.1 rfl rfl (Nat.le_of_ble_eq_true rfl) (mo_write_ok d hF (c := (48 + ((b / 19683) % 10))) (by have h9 := hw.1; (try simp only [List.length_append, List.length_cons, List.length_nil] at h9); omega)) (fun M1 v hq hlen => ?_)
    obtain ⟨rfl, hF⟩ := hq
    replace hw := hw.put (48 + ((b / 19683) % 10))
    replace hf := hf.tr (wF.pt (48 + ((b / 19683) % 10)))
    refine Zn_sipush (nI 729) d_mo_writeLabel_34 (by decide) ?_
    refine Zn_istore_n [some (.ref 123), some (.int (nI b)), some (.int (nI (b / 19683))), some (.int (nI 729)), none] d_mo_writeLabel_37 (by decide) rfl ?_
    refine Z_iload_n d_mo_writeLabel_38 rfl ?_
    refine Zn_if_le (a := 729) (tgt := 74) d_mo_writeLabel_39 (by decide) (by decide) (fun h => absurd h (by decide)) (fun _ => ?_)
    refine Z_iload_n d_mo_writeLabel_42 rfl ?_
    refine Z_iload_n d_mo_writeLabel_43 rfl ?_
    refine Zn_idiv d_mo_writeLabel_44 (by omega) (by omega) (by omega) ?_
    refine Zn_bipush (nI 27) d_mo_writeLabel_45 (by decide) ?_
    refine Zn_irem d_mo_writeLabel_47 (by omega) (by omega) (by omega) ?_
    refine Zn_istore [some (.ref 123), some (.int (nI b)), some (.int (nI (b / 19683))), some (.int (nI 729)), some (.int (nI ((b / 729) % 27)))] d_mo_writeLabel_48 (by decide) rfl ?_
    refine Z_iload d_mo_writeLabel_50 rfl ?_
    refine Zn_if_le (tgt := 66) d_mo_writeLabel_52 (by decide) (by omega) (fun h52 => ?_) (fun h52 => ?_)
    · skip
      skip
      refine Z_iload_n d_mo_writeLabel_66 rfl ?_
      refine Zn_bipush (nI 27) d_mo_writeLabel_67 (by decide) ?_
      refine Zn_idiv d_mo_writeLabel_69 (by decide) (by decide) (by decide) ?_
      refine Zn_istore_n [some (.ref 123), some (.int (nI b)), some (.int (nI (b / 19683))), some (.int (nI 27)), some (.int (nI ((b / 729) % 27)))] d_mo_writeLabel_70 (by decide) rfl ?_
      refine Z_goto (tgt := 38) d_mo_writeLabel_71 (by decide) ?_
      refine Z_iload_n d_mo_writeLabel_38 rfl ?_
      refine Zn_if_le (a := 27) (tgt := 74) d_mo_writeLabel_39 (by decide) (by decide) (fun h => absurd h (by decide)) (fun _ => ?_)
      refine Z_iload_n d_mo_writeLabel_42 rfl ?_
      refine Z_iload_n d_mo_writeLabel_43 rfl ?_
      refine Zn_idiv d_mo_writeLabel_44 (by omega) (by omega) (by omega) ?_
      refine Zn_bipush (nI 27) d_mo_writeLabel_45 (by decide) ?_
      refine Zn_irem d_mo_writeLabel_47 (by omega) (by omega) (by omega) ?_
      refine Zn_istore [some (.ref 123), some (.int (nI b)), some (.int (nI (b / 19683))), some (.int (nI 27)), some (.int (nI ((b / 27) % 27)))] d_mo_writeLabel_48 (by decide) rfl ?_
      refine Z_iload d_mo_writeLabel_50 rfl ?_
      refine Zn_if_le (tgt := 66) d_mo_writeLabel_52 (by decide) (by omega) (fun h52 => ?_) (fun h52 => ?_)
      · skip
        skip
        refine Z_iload_n d_mo_writeLabel_66 rfl ?_
        refine Zn_bipush (nI 27) d_mo_writeLabel_67 (by decide) ?_
        refine Zn_idiv d_mo_writeLabel_69 (by decide) (by decide) (by decide) ?_
        refine Zn_istore_n [some (.ref 123), some (.int (nI b)), some (.int (nI (b / 19683))), some (.int (nI 1)), some (.int (nI ((b / 27) % 27)))] d_mo_writeLabel_70 (by decide) rfl ?_
        refine Z_goto (tgt := 38) d_mo_writeLabel_71 (by decide) ?_
        refine Z_iload_n d_mo_writeLabel_38 rfl ?_
        refine Zn_if_le (a := 1) (tgt := 74) d_mo_writeLabel_39 (by decide) (by decide) (fun h => absurd h (by decide)) (fun _ => ?_)
        refine Z_iload_n d_mo_writeLabel_42 rfl ?_
        refine Z_iload_n d_mo_writeLabel_43 rfl ?_
        refine Zn_idiv d_mo_writeLabel_44 (by omega) (by omega) (by omega) ?_
        refine Zn_bipush (nI 27) d_mo_writeLabel_45 (by decide) ?_
        refine Zn_irem d_mo_writeLabel_47 (by omega) (by omega) (by omega) ?_
        refine Zn_istore [some (.ref 123), some (.int (nI b)), some (.int (nI (b / 19683))), some (.int (nI 1)), some (.int (nI ((b / 1) % 27)))] d_mo_writeLabel_48 (by decide) rfl ?_
        refine Z_iload d_mo_writeLabel_50 rfl ?_
        refine Zn_if_le (tgt := 66) d_mo_writeLabel_52 (by decide) (by omega) (fun h52 => ?_) (fun h52 => ?_)
        · skip
          skip
          refine Z_iload_n d_mo_writeLabel_66 rfl ?_
          refine Zn_bipush (nI 27) d_mo_writeLabel_67 (by decide) ?_
          refine Zn_idiv d_mo_writeLabel_69 (by decide) (by decide) (by decide) ?_
          refine Zn_istore_n [some (.ref 123), some (.int (nI b)), some (.int (nI (b / 19683))), some (.int (nI 0)), some (.int (nI ((b / 1) % 27)))] d_mo_writeLabel_70 (by decide) rfl ?_
          refine Z_goto (tgt := 38) d_mo_writeLabel_71 (by decide) ?_
          refine Z_iload_n d_mo_writeLabel_38 rfl ?_
          refine Zn_if_le (a := 0) (tgt := 74) d_mo_writeLabel_39 (by decide) (by decide) (fun _ => ?_) (fun h => absurd h (by decide))
          refine Z_vret d_mo_writeLabel_74 rfl ?_
          have e : lbC b = [48 + ((b / 19683) % 10)] := by
            unfold lbC
            rw [if_neg (show ¬ 9 < b / 19683 by omega), if_neg (show ¬ 0 < b / 729 % 27 by omega), if_neg (show ¬ 0 < b / 27 % 27 by omega), if_neg (show ¬ 0 < b / 1 % 27 by omega)]
            rfl
          refine ⟨rfl, _, _, hF, ?_, hf⟩
          rw [show l0 ++ lbC b = (l0 ++ [48 + ((b / 19683) % 10)]) from by rw [e] <;> simp]
          exact hw
        · skip
          skip
          refine Z_aload_n d_mo_writeLabel_55 rfl ?_
          refine Zn_bipush (nI 65) d_mo_writeLabel_56 (by decide) ?_
          refine Z_iload d_mo_writeLabel_58 rfl ?_
          refine Zn_iadd d_mo_writeLabel_60 ?_
          refine Zn_iconst (nI 1) d_mo_writeLabel_61 (by decide) ?_
          refine Zn_isub d_mo_writeLabel_62 (by omega) ?_
          refine zV (As := [.int (nI ((65 + ((b / 1) % 27)) - 1))]) (by omega) d_mo_writeLabel_63 lm_mo_322 hF.1 rfl rfl (Nat.le_of_ble_eq_true rfl) (mo_write_ok d hF (c := ((65 + ((b / 1) % 27)) - 1)) (by have h9 := hw.1; (try simp only [List.length_append, List.length_cons, List.length_nil] at h9); omega)) (fun M1 v hq hlen => ?_)
          obtain ⟨rfl, hF⟩ := hq
          replace hw := hw.put ((65 + ((b / 1) % 27)) - 1)
          replace hf := hf.tr (wF.pt ((65 + ((b / 1) % 27)) - 1))
          refine Z_iload_n d_mo_writeLabel_66 rfl ?_
          refine Zn_bipush (nI 27) d_mo_writeLabel_67 (by decide) ?_
          refine Zn_idiv d_mo_writeLabel_69 (by decide) (by decide) (by decide) ?_
          refine Zn_istore_n [some (.ref 123), some (.int (nI b)), some (.int (nI (b / 19683))), some (.int (nI 0)), some (.int (nI ((b / 1) % 27)))] d_mo_writeLabel_70 (by decide) rfl ?_
          refine Z_goto (tgt := 38) d_mo_writeLabel_71 (by decide) ?_
          refine Z_iload_n d_mo_writeLabel_38 rfl ?_
          refine Zn_if_le (a := 0) (tgt := 74) d_mo_writeLabel_39 (by decide) (by decide) (fun _ => ?_) (fun h => absurd h (by decide))
          refine Z_vret d_mo_writeLabel_74 rfl ?_
          have e : lbC b = [48 + ((b / 19683) % 10), (65 + ((b / 1) % 27)) - 1] := by
            unfold lbC
            rw [if_neg (show ¬ 9 < b / 19683 by omega), if_neg (show ¬ 0 < b / 729 % 27 by omega), if_neg (show ¬ 0 < b / 27 % 27 by omega), if_pos (show 0 < b / 1 % 27 by omega)]
            rfl
          refine ⟨rfl, _, _, hF, ?_, hf⟩
          rw [show l0 ++ lbC b = ((l0 ++ [48 + ((b / 19683) % 10)]) ++ [(65 + ((b / 1) % 27)) - 1]) from by rw [e] <;> simp]
          exact hw
      · skip
        skip
        refine Z_aload_n d_mo_writeLabel_55 rfl ?_
        refine Zn_bipush (nI 65) d_mo_writeLabel_56 (by decide) ?_
        refine Z_iload d_mo_writeLabel_58 rfl ?_
        refine Zn_iadd d_mo_writeLabel_60 ?_
        refine Zn_iconst (nI 1) d_mo_writeLabel_61 (by decide) ?_
        refine Zn_isub d_mo_writeLabel_62 (by omega) ?_
        refine zV (As := [.int (nI ((65 + ((b / 27) % 27)) - 1))]) (by omega) d_mo_writeLabel_63 lm_mo_322 hF.1 rfl rfl (Nat.le_of_ble_eq_true rfl) (mo_write_ok d hF (c := ((65 + ((b / 27) % 27)) - 1)) (by have h9 := hw.1; (try simp only [List.length_append, List.length_cons, List.length_nil] at h9); omega)) (fun M1 v hq hlen => ?_)
        obtain ⟨rfl, hF⟩ := hq
        replace hw := hw.put ((65 + ((b / 27) % 27)) - 1)
        replace hf := hf.tr (wF.pt ((65 + ((b / 27) % 27)) - 1))
        refine Z_iload_n d_mo_writeLabel_66 rfl ?_
        refine Zn_bipush (nI 27) d_mo_writeLabel_67 (by decide) ?_
        refine Zn_idiv d_mo_writeLabel_69 (by decide) (by decide) (by decide) ?_
        refine Zn_istore_n [some (.ref 123), some (.int (nI b)), some (.int (nI (b / 19683))), some (.int (nI 1)), some (.int (nI ((b / 27) % 27)))] d_mo_writeLabel_70 (by decide) rfl ?_
        refine Z_goto (tgt := 38) d_mo_writeLabel_71 (by decide) ?_
        refine Z_iload_n d_mo_writeLabel_38 rfl ?_
        refine Zn_if_le (a := 1) (tgt := 74) d_mo_writeLabel_39 (by decide) (by decide) (fun h => absurd h (by decide)) (fun _ => ?_)
        refine Z_iload_n d_mo_writeLabel_42 rfl ?_
        refine Z_iload_n d_mo_writeLabel_43 rfl ?_
        refine Zn_idiv d_mo_writeLabel_44 (by omega) (by omega) (by omega) ?_
        refine Zn_bipush (nI 27) d_mo_writeLabel_45 (by decide) ?_
        refine Zn_irem d_mo_writeLabel_47 (by omega) (by omega) (by omega) ?_
        refine Zn_istore [some (.ref 123), some (.int (nI b)), some (.int (nI (b / 19683))), some (.int (nI 1)), some (.int (nI ((b / 1) % 27)))] d_mo_writeLabel_48 (by decide) rfl ?_
        refine Z_iload d_mo_writeLabel_50 rfl ?_
        refine Zn_if_le (tgt := 66) d_mo_writeLabel_52 (by decide) (by omega) (fun h52 => ?_) (fun h52 => ?_)
        · skip
          skip
          refine Z_iload_n d_mo_writeLabel_66 rfl ?_
          refine Zn_bipush (nI 27) d_mo_writeLabel_67 (by decide) ?_
          refine Zn_idiv d_mo_writeLabel_69 (by decide) (by decide) (by decide) ?_
          refine Zn_istore_n [some (.ref 123), some (.int (nI b)), some (.int (nI (b / 19683))), some (.int (nI 0)), some (.int (nI ((b / 1) % 27)))] d_mo_writeLabel_70 (by decide) rfl ?_
          refine Z_goto (tgt := 38) d_mo_writeLabel_71 (by decide) ?_
          refine Z_iload_n d_mo_writeLabel_38 rfl ?_
          refine Zn_if_le (a := 0) (tgt := 74) d_mo_writeLabel_39 (by decide) (by decide) (fun _ => ?_) (fun h => absurd h (by decide))
          refine Z_vret d_mo_writeLabel_74 rfl ?_
          have e : lbC b = [48 + ((b / 19683) % 10), (65 + ((b / 27) % 27)) - 1] := by
            unfold lbC
            rw [if_neg (show ¬ 9 < b / 19683 by omega), if_neg (show ¬ 0 < b / 729 % 27 by omega), if_pos (show 0 < b / 27 % 27 by omega), if_neg (show ¬ 0 < b / 1 % 27 by omega)]
            rfl
          refine ⟨rfl, _, _, hF, ?_, hf⟩
          rw [show l0 ++ lbC b = ((l0 ++ [48 + ((b / 19683) % 10)]) ++ [(65 + ((b / 27) % 27)) - 1]) from by rw [e] <;> simp]
          exact hw
        · skip
          skip
          refine Z_aload_n d_mo_writeLabel_55 rfl ?_
          refine Zn_bipush (nI 65) d_mo_writeLabel_56 (by decide) ?_
          refine Z_iload d_mo_writeLabel_58 rfl ?_
          refine Zn_iadd d_mo_writeLabel_60 ?_
          refine Zn_iconst (nI 1) d_mo_writeLabel_61 (by decide) ?_
          refine Zn_isub d_mo_writeLabel_62 (by omega) ?_
          refine zV (As := [.int (nI ((65 + ((b / 1) % 27)) - 1))]) (by omega) d_mo_writeLabel_63 lm_mo_322 hF.1 rfl rfl (Nat.le_of_ble_eq_true rfl) (mo_write_ok d hF (c := ((65 + ((b / 1) % 27)) - 1)) (by have h9 := hw.1; (try simp only [List.length_append, List.length_cons, List.length_nil] at h9); omega)) (fun M1 v hq hlen => ?_)
          obtain ⟨rfl, hF⟩ := hq
          replace hw := hw.put ((65 + ((b / 1) % 27)) - 1)
          replace hf := hf.tr (wF.pt ((65 + ((b / 1) % 27)) - 1))
          refine Z_iload_n d_mo_writeLabel_66 rfl ?_
          refine Zn_bipush (nI 27) d_mo_writeLabel_67 (by decide) ?_
          refine Zn_idiv d_mo_writeLabel_69 (by decide) (by decide) (by decide) ?_
          refine Zn_istore_n [some (.ref 123), some (.int (nI b)), some (.int (nI (b / 19683))), some (.int (nI 0)), some (.int (nI ((b / 1) % 27)))] d_mo_writeLabel_70 (by decide) rfl ?_
          refine Z_goto (tgt := 38) d_mo_writeLabel_71 (by decide) ?_
          refine Z_iload_n d_mo_writeLabel_38 rfl ?_
          refine Zn_if_le (a := 0) (tgt := 74) d_mo_writeLabel_39 (by decide) (by decide) (fun _ => ?_) (fun h => absurd h (by decide))
          refine Z_vret d_mo_writeLabel_74 rfl ?_
          have e : lbC b = [48 + ((b / 19683) % 10), (65 + ((b / 27) % 27)) - 1, (65 + ((b / 1) % 27)) - 1] := by
            unfold lbC
            rw [if_neg (show ¬ 9 < b / 19683 by omega), if_neg (show ¬ 0 < b / 729 % 27 by omega), if_pos (show 0 < b / 27 % 27 by omega), if_pos (show 0 < b / 1 % 27 by omega)]
            rfl
          refine ⟨rfl, _, _, hF, ?_, hf⟩
          rw [show l0 ++ lbC b = (((l0 ++ [48 + ((b / 19683) % 10)]) ++ [(65 + ((b / 27) % 27)) - 1]) ++ [(65 + ((b / 1) % 27)) - 1]) from by rw [e] <;> simp]
          exact hw
    · skip
      skip
      refine Z_aload_n d_mo_writeLabel_55 rfl ?_
      refine Zn_bipush (nI 65) d_mo_writeLabel_56 (by decide) ?_
      refine Z_iload d_mo_writeLabel_58 rfl ?_
      refine Zn_iadd d_mo_writeLabel_60 ?_
      refine Zn_iconst (nI 1) d_mo_writeLabel_61 (by decide) ?_
      refine Zn_isub d_mo_writeLabel_62 (by omega) ?_
      refine zV (As := [.int (nI ((65 + ((b / 729) % 27)) - 1))]) (by omega) d_mo_writeLabel_63 lm_mo_322 hF.1 rfl rfl (Nat.le_of_ble_eq_true rfl) (mo_write_ok d hF (c := ((65 + ((b / 729) % 27)) - 1)) (by have h9 := hw.1; (try simp only [List.length_append, List.length_cons, List.length_nil] at h9); omega)) (fun M1 v hq hlen => ?_)
      obtain ⟨rfl, hF⟩ := hq
      replace hw := hw.put ((65 + ((b / 729) % 27)) - 1)
      replace hf := hf.tr (wF.pt ((65 + ((b / 729) % 27)) - 1))
      refine Z_iload_n d_mo_writeLabel_66 rfl ?_
      refine Zn_bipush (nI 27) d_mo_writeLabel_67 (by decide) ?_
      refine Zn_idiv d_mo_writeLabel_69 (by decide) (by decide) (by decide) ?_
      refine Zn_istore_n [some (.ref 123), some (.int (nI b)), some (.int (nI (b / 19683))), some (.int (nI 27)), some (.int (nI ((b / 729) % 27)))] d_mo_writeLabel_70 (by decide) rfl ?_
      refine Z_goto (tgt := 38) d_mo_writeLabel_71 (by decide) ?_
      refine Z_iload_n d_mo_writeLabel_38 rfl ?_
      refine Zn_if_le (a := 27) (tgt := 74) d_mo_writeLabel_39 (by decide) (by decide) (fun h => absurd h (by decide)) (fun _ => ?_)
      refine Z_iload_n d_mo_writeLabel_42 rfl ?_
      refine Z_iload_n d_mo_writeLabel_43 rfl ?_
      refine Zn_idiv d_mo_writeLabel_44 (by omega) (by omega) (by omega) ?_
      refine Zn_bipush (nI 27) d_mo_writeLabel_45 (by decide) ?_
      refine Zn_irem d_mo_writeLabel_47 (by omega) (by omega) (by omega) ?_
      refine Zn_istore [some (.ref 123), some (.int (nI b)), some (.int (nI (b / 19683))), some (.int (nI 27)), some (.int (nI ((b / 27) % 27)))] d_mo_writeLabel_48 (by decide) rfl ?_
      refine Z_iload d_mo_writeLabel_50 rfl ?_
      refine Zn_if_le (tgt := 66) d_mo_writeLabel_52 (by decide) (by omega) (fun h52 => ?_) (fun h52 => ?_)
      · skip
        skip
        refine Z_iload_n d_mo_writeLabel_66 rfl ?_
        refine Zn_bipush (nI 27) d_mo_writeLabel_67 (by decide) ?_
        refine Zn_idiv d_mo_writeLabel_69 (by decide) (by decide) (by decide) ?_
        refine Zn_istore_n [some (.ref 123), some (.int (nI b)), some (.int (nI (b / 19683))), some (.int (nI 1)), some (.int (nI ((b / 27) % 27)))] d_mo_writeLabel_70 (by decide) rfl ?_
        refine Z_goto (tgt := 38) d_mo_writeLabel_71 (by decide) ?_
        refine Z_iload_n d_mo_writeLabel_38 rfl ?_
        refine Zn_if_le (a := 1) (tgt := 74) d_mo_writeLabel_39 (by decide) (by decide) (fun h => absurd h (by decide)) (fun _ => ?_)
        refine Z_iload_n d_mo_writeLabel_42 rfl ?_
        refine Z_iload_n d_mo_writeLabel_43 rfl ?_
        refine Zn_idiv d_mo_writeLabel_44 (by omega) (by omega) (by omega) ?_
        refine Zn_bipush (nI 27) d_mo_writeLabel_45 (by decide) ?_
        refine Zn_irem d_mo_writeLabel_47 (by omega) (by omega) (by omega) ?_
        refine Zn_istore [some (.ref 123), some (.int (nI b)), some (.int (nI (b / 19683))), some (.int (nI 1)), some (.int (nI ((b / 1) % 27)))] d_mo_writeLabel_48 (by decide) rfl ?_
        refine Z_iload d_mo_writeLabel_50 rfl ?_
        refine Zn_if_le (tgt := 66) d_mo_writeLabel_52 (by decide) (by omega) (fun h52 => ?_) (fun h52 => ?_)
        · skip
          skip
          refine Z_iload_n d_mo_writeLabel_66 rfl ?_
          refine Zn_bipush (nI 27) d_mo_writeLabel_67 (by decide) ?_
          refine Zn_idiv d_mo_writeLabel_69 (by decide) (by decide) (by decide) ?_
          refine Zn_istore_n [some (.ref 123), some (.int (nI b)), some (.int (nI (b / 19683))), some (.int (nI 0)), some (.int (nI ((b / 1) % 27)))] d_mo_writeLabel_70 (by decide) rfl ?_
          refine Z_goto (tgt := 38) d_mo_writeLabel_71 (by decide) ?_
          refine Z_iload_n d_mo_writeLabel_38 rfl ?_
          refine Zn_if_le (a := 0) (tgt := 74) d_mo_writeLabel_39 (by decide) (by decide) (fun _ => ?_) (fun h => absurd h (by decide))
          refine Z_vret d_mo_writeLabel_74 rfl ?_
          have e : lbC b = [48 + ((b / 19683) % 10), (65 + ((b / 729) % 27)) - 1] := by
            unfold lbC
            rw [if_neg (show ¬ 9 < b / 19683 by omega), if_pos (show 0 < b / 729 % 27 by omega), if_neg (show ¬ 0 < b / 27 % 27 by omega), if_neg (show ¬ 0 < b / 1 % 27 by omega)]
            rfl
          refine ⟨rfl, _, _, hF, ?_, hf⟩
          rw [show l0 ++ lbC b = ((l0 ++ [48 + ((b / 19683) % 10)]) ++ [(65 + ((b / 729) % 27)) - 1]) from by rw [e] <;> simp]
          exact hw
        · skip
          skip
          refine Z_aload_n d_mo_writeLabel_55 rfl ?_
          refine Zn_bipush (nI 65) d_mo_writeLabel_56 (by decide) ?_
          refine Z_iload d_mo_writeLabel_58 rfl ?_
          refine Zn_iadd d_mo_writeLabel_60 ?_
          refine Zn_iconst (nI 1) d_mo_writeLabel_61 (by decide) ?_
          refine Zn_isub d_mo_writeLabel_62 (by omega) ?_
          refine zV (As := [.int (nI ((65 + ((b / 1) % 27)) - 1))]) (by omega) d_mo_writeLabel_63 lm_mo_322 hF.1 rfl rfl (Nat.le_of_ble_eq_true rfl) (mo_write_ok d hF (c := ((65 + ((b / 1) % 27)) - 1)) (by have h9 := hw.1; (try simp only [List.length_append, List.length_cons, List.length_nil] at h9); omega)) (fun M1 v hq hlen => ?_)
          obtain ⟨rfl, hF⟩ := hq
          replace hw := hw.put ((65 + ((b / 1) % 27)) - 1)
          replace hf := hf.tr (wF.pt ((65 + ((b / 1) % 27)) - 1))
          refine Z_iload_n d_mo_writeLabel_66 rfl ?_
          refine Zn_bipush (nI 27) d_mo_writeLabel_67 (by decide) ?_
          refine Zn_idiv d_mo_writeLabel_69 (by decide) (by decide) (by decide) ?_
          refine Zn_istore_n [some (.ref 123), some (.int (nI b)), some (.int (nI (b / 19683))), some (.int (nI 0)), some (.int (nI ((b / 1) % 27)))] d_mo_writeLabel_70 (by decide) rfl ?_
          refine Z_goto (tgt := 38) d_mo_writeLabel_71 (by decide) ?_
          refine Z_iload_n d_mo_writeLabel_38 rfl ?_
          refine Zn_if_le (a := 0) (tgt := 74) d_mo_writeLabel_39 (by decide) (by decide) (fun _ => ?_) (fun h => absurd h (by decide))
          refine Z_vret d_mo_writeLabel_74 rfl ?_
          have e : lbC b = [48 + ((b / 19683) % 10), (65 + ((b / 729) % 27)) - 1, (65 + ((b / 1) % 27)) - 1] := by
            unfold lbC
            rw [if_neg (show ¬ 9 < b / 19683 by omega), if_pos (show 0 < b / 729 % 27 by omega), if_neg (show ¬ 0 < b / 27 % 27 by omega), if_pos (show 0 < b / 1 % 27 by omega)]
            rfl
          refine ⟨rfl, _, _, hF, ?_, hf⟩
          rw [show l0 ++ lbC b = (((l0 ++ [48 + ((b / 19683) % 10)]) ++ [(65 + ((b / 729) % 27)) - 1]) ++ [(65 + ((b / 1) % 27)) - 1]) from by rw [e] <;> simp]
          exact hw
      · skip
        skip
        refine Z_aload_n d_mo_writeLabel_55 rfl ?_
        refine Zn_bipush (nI 65) d_mo_writeLabel_56 (by decide) ?_
        refine Z_iload d_mo_writeLabel_58 rfl ?_
        refine Zn_iadd d_mo_writeLabel_60 ?_
        refine Zn_iconst (nI 1) d_mo_writeLabel_61 (by decide) ?_
        refine Zn_isub d_mo_writeLabel_62 (by omega) ?_
        refine zV (As := [.int (nI ((65 + ((b / 27) % 27)) - 1))]) (by omega) d_mo_writeLabel_63 lm_mo_322 hF.1 rfl rfl (Nat.le_of_ble_eq_true rfl) (mo_write_ok d hF (c := ((65 + ((b / 27) % 27)) - 1)) (by have h9 := hw.1; (try simp only [List.length_append, List.length_cons, List.length_nil] at h9); omega)) (fun M1 v hq hlen => ?_)
        obtain ⟨rfl, hF⟩ := hq
        replace hw := hw.put ((65 + ((b / 27) % 27)) - 1)
        replace hf := hf.tr (wF.pt ((65 + ((b / 27) % 27)) - 1))
        refine Z_iload_n d_mo_writeLabel_66 rfl ?_
        refine Zn_bipush (nI 27) d_mo_writeLabel_67 (by decide) ?_
        refine Zn_idiv d_mo_writeLabel_69 (by decide) (by decide) (by decide) ?_
        refine Zn_istore_n [some (.ref 123), some (.int (nI b)), some (.int (nI (b / 19683))), some (.int (nI 1)), some (.int (nI ((b / 27) % 27)))] d_mo_writeLabel_70 (by decide) rfl ?_
        refine Z_goto (tgt := 38) d_mo_writeLabel_71 (by decide) ?_
        refine Z_iload_n d_mo_writeLabel_38 rfl ?_
        refine Zn_if_le (a := 1) (tgt := 74) d_mo_writeLabel_39 (by decide) (by decide) (fun h => absurd h (by decide)) (fun _ => ?_)
        refine Z_iload_n d_mo_writeLabel_42 rfl ?_
        refine Z_iload_n d_mo_writeLabel_43 rfl ?_
        refine Zn_idiv d_mo_writeLabel_44 (by omega) (by omega) (by omega) ?_
        refine Zn_bipush (nI 27) d_mo_writeLabel_45 (by decide) ?_
        refine Zn_irem d_mo_writeLabel_47 (by omega) (by omega) (by omega) ?_
        refine Zn_istore [some (.ref 123), some (.int (nI b)), some (.int (nI (b / 19683))), some (.int (nI 1)), some (.int (nI ((b / 1) % 27)))] d_mo_writeLabel_48 (by decide) rfl ?_
        refine Z_iload d_mo_writeLabel_50 rfl ?_
        refine Zn_if_le (tgt := 66) d_mo_writeLabel_52 (by decide) (by omega) (fun h52 => ?_) (fun h52 => ?_)
        · skip
          skip
          refine Z_iload_n d_mo_writeLabel_66 rfl ?_
          refine Zn_bipush (nI 27) d_mo_writeLabel_67 (by decide) ?_
          refine Zn_idiv d_mo_writeLabel_69 (by decide) (by decide) (by decide) ?_
          refine Zn_istore_n [some (.ref 123), some (.int (nI b)), some (.int (nI (b / 19683))), some (.int (nI 0)), some (.int (nI ((b / 1) % 27)))] d_mo_writeLabel_70 (by decide) rfl ?_
          refine Z_goto (tgt := 38) d_mo_writeLabel_71 (by decide) ?_
          refine Z_iload_n d_mo_writeLabel_38 rfl ?_
          refine Zn_if_le (a := 0) (tgt := 74) d_mo_writeLabel_39 (by decide) (by decide) (fun _ => ?_) (fun h => absurd h (by decide))
          refine Z_vret d_mo_writeLabel_74 rfl ?_
          have e : lbC b = [48 + ((b / 19683) % 10), (65 + ((b / 729) % 27)) - 1, (65 + ((b / 27) % 27)) - 1] := by
            unfold lbC
            rw [if_neg (show ¬ 9 < b / 19683 by omega), if_pos (show 0 < b / 729 % 27 by omega), if_pos (show 0 < b / 27 % 27 by omega), if_neg (show ¬ 0 < b / 1 % 27 by omega)]
            rfl
          refine ⟨rfl, _, _, hF, ?_, hf⟩
          rw [show l0 ++ lbC b = (((l0 ++ [48 + ((b / 19683) % 10)]) ++ [(65 + ((b / 729) % 27)) - 1]) ++ [(65 + ((b / 27) % 27)) - 1]) from by rw [e] <;> simp]
          exact hw
        · skip
          skip
          refine Z_aload_n d_mo_writeLabel_55 rfl ?_
          refine Zn_bipush (nI 65) d_mo_writeLabel_56 (by decide) ?_
          refine Z_iload d_mo_writeLabel_58 rfl ?_
          refine Zn_iadd d_mo_writeLabel_60 ?_
          refine Zn_iconst (nI 1) d_mo_writeLabel_61 (by decide) ?_
          refine Zn_isub d_mo_writeLabel_62 (by omega) ?_
          refine zV (As := [.int (nI ((65 + ((b / 1) % 27)) - 1))]) (by omega) d_mo_writeLabel_63 lm_mo_322 hF.1 rfl rfl (Nat.le_of_ble_eq_true rfl) (mo_write_ok d hF (c := ((65 + ((b / 1) % 27)) - 1)) (by have h9 := hw.1; (try simp only [List.length_append, List.length_cons, List.length_nil] at h9); omega)) (fun M1 v hq hlen => ?_)
          obtain ⟨rfl, hF⟩ := hq
          replace hw := hw.put ((65 + ((b / 1) % 27)) - 1)
          replace hf := hf.tr (wF.pt ((65 + ((b / 1) % 27)) - 1))
          refine Z_iload_n d_mo_writeLabel_66 rfl ?_
          refine Zn_bipush (nI 27) d_mo_writeLabel_67 (by decide) ?_
          refine Zn_idiv d_mo_writeLabel_69 (by decide) (by decide) (by decide) ?_
          refine Zn_istore_n [some (.ref 123), some (.int (nI b)), some (.int (nI (b / 19683))), some (.int (nI 0)), some (.int (nI ((b / 1) % 27)))] d_mo_writeLabel_70 (by decide) rfl ?_
          refine Z_goto (tgt := 38) d_mo_writeLabel_71 (by decide) ?_
          refine Z_iload_n d_mo_writeLabel_38 rfl ?_
          refine Zn_if_le (a := 0) (tgt := 74) d_mo_writeLabel_39 (by decide) (by decide) (fun _ => ?_) (fun h => absurd h (by decide))
          refine Z_vret d_mo_writeLabel_74 rfl ?_
          have e : lbC b = [48 + ((b / 19683) % 10), (65 + ((b / 729) % 27)) - 1, (65 + ((b / 27) % 27)) - 1, (65 + ((b / 1) % 27)) - 1] := by
            unfold lbC
            rw [if_neg (show ¬ 9 < b / 19683 by omega), if_pos (show 0 < b / 729 % 27 by omega), if_pos (show 0 < b / 27 % 27 by omega), if_pos (show 0 < b / 1 % 27 by omega)]
            rfl
          refine ⟨rfl, _, _, hF, ?_, hf⟩
          rw [show l0 ++ lbC b = ((((l0 ++ [48 + ((b / 19683) % 10)]) ++ [(65 + ((b / 729) % 27)) - 1]) ++ [(65 + ((b / 27) % 27)) - 1]) ++ [(65 + ((b / 1) % 27)) - 1]) from by rw [e] <;> simp]
          exact hw
  · skip
    skip
    refine Z_aload_n d_mo_writeLabel_12 rfl ?_
    refine Zn_bipush (nI 48) d_mo_writeLabel_13 (by decide) ?_
    refine Z_iload_n d_mo_writeLabel_15 rfl ?_
    refine Zn_bipush (nI 10) d_mo_writeLabel_16 (by decide) ?_
    refine Zn_idiv d_mo_writeLabel_18 (by omega) (by omega) (by omega) ?_
    refine Zn_iadd d_mo_writeLabel_19 ?_
    refine zV (As := [.int (nI (48 + ((b / 19683) / 10)))]) (by omega) d_mo_writeLabel_20 lm_mo_322 hF.1 rfl rfl (Nat.le_of_ble_eq_true rfl) (mo_write_ok d hF (c := (48 + ((b / 19683) / 10))) (by have h9 := hw.1; (try simp only [List.length_append, List.length_cons, List.length_nil] at h9); omega)) (fun M1 v hq hlen => ?_)
    obtain ⟨rfl, hF⟩ := hq
    replace hw := hw.put (48 + ((b / 19683) / 10))
    replace hf := hf.tr (wF.pt (48 + ((b / 19683) / 10)))
    refine Z_aload_n d_mo_writeLabel_23 rfl ?_
    refine Zn_bipush (nI 48) d_mo_writeLabel_24 (by decide) ?_
    refine Z_iload_n d_mo_writeLabel_26 rfl ?_
    refine Zn_bipush (nI 10) d_mo_writeLabel_27 (by decide) ?_
    refine Zn_irem d_mo_writeLabel_29 (by omega) (by omega) (by omega) ?_
    refine Zn_iadd d_mo_writeLabel_30 ?_
    refine zV (As := [.int (nI (48 + ((b / 19683) % 10)))]) (by omega) d_mo_writeLabel_31 lm_mo_322 hF.1 rfl rfl (Nat.le_of_ble_eq_true rfl) (mo_write_ok d hF (c := (48 + ((b / 19683) % 10))) (by have h9 := hw.1; (try simp only [List.length_append, List.length_cons, List.length_nil] at h9); omega)) (fun M1 v hq hlen => ?_)
    obtain ⟨rfl, hF⟩ := hq
    replace hw := hw.put (48 + ((b / 19683) % 10))
    replace hf := hf.tr (wF.pt (48 + ((b / 19683) % 10)))
    refine Zn_sipush (nI 729) d_mo_writeLabel_34 (by decide) ?_
    refine Zn_istore_n [some (.ref 123), some (.int (nI b)), some (.int (nI (b / 19683))), some (.int (nI 729)), none] d_mo_writeLabel_37 (by decide) rfl ?_
    refine Z_iload_n d_mo_writeLabel_38 rfl ?_
    refine Zn_if_le (a := 729) (tgt := 74) d_mo_writeLabel_39 (by decide) (by decide) (fun h => absurd h (by decide)) (fun _ => ?_)
    refine Z_iload_n d_mo_writeLabel_42 rfl ?_
    refine Z_iload_n d_mo_writeLabel_43 rfl ?_
    refine Zn_idiv d_mo_writeLabel_44 (by omega) (by omega) (by omega) ?_
    refine Zn_bipush (nI 27) d_mo_writeLabel_45 (by decide) ?_
    refine Zn_irem d_mo_writeLabel_47 (by omega) (by omega) (by omega) ?_
    refine Zn_istore [some (.ref 123), some (.int (nI b)), some (.int (nI (b / 19683))), some (.int (nI 729)), some (.int (nI ((b / 729) % 27)))] d_mo_writeLabel_48 (by decide) rfl ?_
    refine Z_iload d_mo_writeLabel_50 rfl ?_
    refine Zn_if_le (tgt := 66) d_mo_writeLabel_52 (by decide) (by omega) (fun h52 => ?_) (fun h52 => ?_)
    · skip
      skip
      refine Z_iload_n d_mo_writeLabel_66 rfl ?_
      refine Zn_bipush (nI 27) d_mo_writeLabel_67 (by decide) ?_
      refine Zn_idiv d_mo_writeLabel_69 (by decide) (by decide) (by decide) ?_
      refine Zn_istore_n [some (.ref 123), some (.int (nI b)), some (.int (nI (b / 19683))), some (.int (nI 27)), some (.int (nI ((b / 729) % 27)))] d_mo_writeLabel_70 (by decide) rfl ?_
      refine Z_goto (tgt := 38) d_mo_writeLabel_71 (by decide) ?_
      refine Z_iload_n d_mo_writeLabel_38 rfl ?_
      refine Zn_if_le (a := 27) (tgt := 74) d_mo_writeLabel_39 (by decide) (by decide) (fun h => absurd h (by decide)) (fun _ => ?_)
      refine Z_iload_n d_mo_writeLabel_42 rfl ?_
      refine Z_iload_n d_mo_writeLabel_43 rfl ?_
      refine Zn_idiv d_mo_writeLabel_44 (by omega) (by omega) (by omega) ?_
      refine Zn_bipush (nI 27) d_mo_writeLabel_45 (by decide) ?_
      refine Zn_irem d_mo_writeLabel_47 (by omega) (by omega) (by omega) ?_
      refine Zn_istore [some (.ref 123), some (.int (nI b)), some (.int (nI (b / 19683))), some (.int (nI 27)), some (.int (nI ((b / 27) % 27)))] d_mo_writeLabel_48 (by decide) rfl ?_
      refine Z_iload d_mo_writeLabel_50 rfl ?_
      refine Zn_if_le (tgt := 66) d_mo_writeLabel_52 (by decide) (by omega) (fun h52 => ?_) (fun h52 => ?_)
      · skip
        skip
        refine Z_iload_n d_mo_writeLabel_66 rfl ?_
        refine Zn_bipush (nI 27) d_mo_writeLabel_67 (by decide) ?_
        refine Zn_idiv d_mo_writeLabel_69 (by decide) (by decide) (by decide) ?_
        refine Zn_istore_n [some (.ref 123), some (.int (nI b)), some (.int (nI (b / 19683))), some (.int (nI 1)), some (.int (nI ((b / 27) % 27)))] d_mo_writeLabel_70 (by decide) rfl ?_
        refine Z_goto (tgt := 38) d_mo_writeLabel_71 (by decide) ?_
        refine Z_iload_n d_mo_writeLabel_38 rfl ?_
        refine Zn_if_le (a := 1) (tgt := 74) d_mo_writeLabel_39 (by decide) (by decide) (fun h => absurd h (by decide)) (fun _ => ?_)
        refine Z_iload_n d_mo_writeLabel_42 rfl ?_
        refine Z_iload_n d_mo_writeLabel_43 rfl ?_
        refine Zn_idiv d_mo_writeLabel_44 (by omega) (by omega) (by omega) ?_
        refine Zn_bipush (nI 27) d_mo_writeLabel_45 (by decide) ?_
        refine Zn_irem d_mo_writeLabel_47 (by omega) (by omega) (by omega) ?_
        refine Zn_istore [some (.ref 123), some (.int (nI b)), some (.int (nI (b / 19683))), some (.int (nI 1)), some (.int (nI ((b / 1) % 27)))] d_mo_writeLabel_48 (by decide) rfl ?_
        refine Z_iload d_mo_writeLabel_50 rfl ?_
        refine Zn_if_le (tgt := 66) d_mo_writeLabel_52 (by decide) (by omega) (fun h52 => ?_) (fun h52 => ?_)
        · skip
          skip
          refine Z_iload_n d_mo_writeLabel_66 rfl ?_
          refine Zn_bipush (nI 27) d_mo_writeLabel_67 (by decide) ?_
          refine Zn_idiv d_mo_writeLabel_69 (by decide) (by decide) (by decide) ?_
          refine Zn_istore_n [some (.ref 123), some (.int (nI b)), some (.int (nI (b / 19683))), some (.int (nI 0)), some (.int (nI ((b / 1) % 27)))] d_mo_writeLabel_70 (by decide) rfl ?_
          refine Z_goto (tgt := 38) d_mo_writeLabel_71 (by decide) ?_
          refine Z_iload_n d_mo_writeLabel_38 rfl ?_
          refine Zn_if_le (a := 0) (tgt := 74) d_mo_writeLabel_39 (by decide) (by decide) (fun _ => ?_) (fun h => absurd h (by decide))
          refine Z_vret d_mo_writeLabel_74 rfl ?_
          have e : lbC b = [48 + ((b / 19683) / 10), 48 + ((b / 19683) % 10)] := by
            unfold lbC
            rw [if_pos (show 9 < b / 19683 by omega), if_neg (show ¬ 0 < b / 729 % 27 by omega), if_neg (show ¬ 0 < b / 27 % 27 by omega), if_neg (show ¬ 0 < b / 1 % 27 by omega)]
            rfl
          refine ⟨rfl, _, _, hF, ?_, hf⟩
          rw [show l0 ++ lbC b = ((l0 ++ [48 + ((b / 19683) / 10)]) ++ [48 + ((b / 19683) % 10)]) from by rw [e] <;> simp]
          exact hw
        · skip
          skip
          refine Z_aload_n d_mo_writeLabel_55 rfl ?_
          refine Zn_bipush (nI 65) d_mo_writeLabel_56 (by decide) ?_
          refine Z_iload d_mo_writeLabel_58 rfl ?_
          refine Zn_iadd d_mo_writeLabel_60 ?_
          refine Zn_iconst (nI 1) d_mo_writeLabel_61 (by decide) ?_
          refine Zn_isub d_mo_writeLabel_62 (by omega) ?_
          refine zV (As := [.int (nI ((65 + ((b / 1) % 27)) - 1))]) (by omega) d_mo_writeLabel_63 lm_mo_322 hF.1 rfl rfl (Nat.le_of_ble_eq_true rfl) (mo_write_ok d hF (c := ((65 + ((b / 1) % 27)) - 1)) (by have h9 := hw.1; (try simp only [List.length_append, List.length_cons, List.length_nil] at h9); omega)) (fun M1 v hq hlen => ?_)
          obtain ⟨rfl, hF⟩ := hq
          replace hw := hw.put ((65 + ((b / 1) % 27)) - 1)
          replace hf := hf.tr (wF.pt ((65 + ((b / 1) % 27)) - 1))
          refine Z_iload_n d_mo_writeLabel_66 rfl ?_
          refine Zn_bipush (nI 27) d_mo_writeLabel_67 (by decide) ?_
          refine Zn_idiv d_mo_writeLabel_69 (by decide) (by decide) (by decide) ?_
          refine Zn_istore_n [some (.ref 123), some (.int (nI b)), some (.int (nI (b / 19683))), some (.int (nI 0)), some (.int (nI ((b / 1) % 27)))] d_mo_writeLabel_70 (by decide) rfl ?_
          refine Z_goto (tgt := 38) d_mo_writeLabel_71 (by decide) ?_
          refine Z_iload_n d_mo_writeLabel_38 rfl ?_
          refine Zn_if_le (a := 0) (tgt := 74) d_mo_writeLabel_39 (by decide) (by decide) (fun _ => ?_) (fun h => absurd h (by decide))
          refine Z_vret d_mo_writeLabel_74 rfl ?_
          have e : lbC b = [48 + ((b / 19683) / 10), 48 + ((b / 19683) % 10), (65 + ((b / 1) % 27)) - 1] := by
            unfold lbC
            rw [if_pos (show 9 < b / 19683 by omega), if_neg (show ¬ 0 < b / 729 % 27 by omega), if_neg (show ¬ 0 < b / 27 % 27 by omega), if_pos (show 0 < b / 1 % 27 by omega)]
            rfl
          refine ⟨rfl, _, _, hF, ?_, hf⟩
          rw [show l0 ++ lbC b = (((l0 ++ [48 + ((b / 19683) / 10)]) ++ [48 + ((b / 19683) % 10)]) ++ [(65 + ((b / 1) % 27)) - 1]) from by rw [e] <;> simp]
          exact hw
      · skip
        skip
        refine Z_aload_n d_mo_writeLabel_55 rfl ?_
        refine Zn_bipush (nI 65) d_mo_writeLabel_56 (by decide) ?_
        refine Z_iload d_mo_writeLabel_58 rfl ?_
        refine Zn_iadd d_mo_writeLabel_60 ?_
        refine Zn_iconst (nI 1) d_mo_writeLabel_61 (by decide) ?_
        refine Zn_isub d_mo_writeLabel_62 (by omega) ?_
        refine zV (As := [.int (nI ((65 + ((b / 27) % 27)) - 1))]) (by omega) d_mo_writeLabel_63 lm_mo_322 hF.1 rfl rfl (Nat.le_of_ble_eq_true rfl) (mo_write_ok d hF (c := ((65 + ((b / 27) % 27)) - 1)) (by have h9 := hw.1; (try simp only [List.length_append, List.length_cons, List.length_nil] at h9); omega)) (fun M1 v hq hlen => ?_)
        obtain ⟨rfl, hF⟩ := hq
        replace hw := hw.put ((65 + ((b / 27) % 27)) - 1)
        replace hf := hf.tr (wF.pt ((65 + ((b / 27) % 27)) - 1))
        refine Z_iload_n d_mo_writeLabel_66 rfl ?_
        refine Zn_bipush (nI 27) d_mo_writeLabel_67 (by decide) ?_
        refine Zn_idiv d_mo_writeLabel_69 (by decide) (by decide) (by decide) ?_
        refine Zn_istore_n [some (.ref 123), some (.int (nI b)), some (.int (nI (b / 19683))), some (.int (nI 1)), some (.int (nI ((b / 27) % 27)))] d_mo_writeLabel_70 (by decide) rfl ?_
        refine Z_goto (tgt := 38) d_mo_writeLabel_71 (by decide) ?_
        refine Z_iload_n d_mo_writeLabel_38 rfl ?_
        refine Zn_if_le (a := 1) (tgt := 74) d_mo_writeLabel_39 (by decide) (by decide) (fun h => absurd h (by decide)) (fun _ => ?_)
        refine Z_iload_n d_mo_writeLabel_42 rfl ?_
        refine Z_iload_n d_mo_writeLabel_43 rfl ?_
        refine Zn_idiv d_mo_writeLabel_44 (by omega) (by omega) (by omega) ?_
        refine Zn_bipush (nI 27) d_mo_writeLabel_45 (by decide) ?_
        refine Zn_irem d_mo_writeLabel_47 (by omega) (by omega) (by omega) ?_
        refine Zn_istore [some (.ref 123), some (.int (nI b)), some (.int (nI (b / 19683))), some (.int (nI 1)), some (.int (nI ((b / 1) % 27)))] d_mo_writeLabel_48 (by decide) rfl ?_
        refine Z_iload d_mo_writeLabel_50 rfl ?_
        refine Zn_if_le (tgt := 66) d_mo_writeLabel_52 (by decide) (by omega) (fun h52 => ?_) (fun h52 => ?_)
        · skip
          skip
          refine Z_iload_n d_mo_writeLabel_66 rfl ?_
          refine Zn_bipush (nI 27) d_mo_writeLabel_67 (by decide) ?_
          refine Zn_idiv d_mo_writeLabel_69 (by decide) (by decide) (by decide) ?_
          refine Zn_istore_n [some (.ref 123), some (.int (nI b)), some (.int (nI (b / 19683))), some (.int (nI 0)), some (.int (nI ((b / 1) % 27)))] d_mo_writeLabel_70 (by decide) rfl ?_
          refine Z_goto (tgt := 38) d_mo_writeLabel_71 (by decide) ?_
          refine Z_iload_n d_mo_writeLabel_38 rfl ?_
          refine Zn_if_le (a := 0) (tgt := 74) d_mo_writeLabel_39 (by decide) (by decide) (fun _ => ?_) (fun h => absurd h (by decide))
          refine Z_vret d_mo_writeLabel_74 rfl ?_
          have e : lbC b = [48 + ((b / 19683) / 10), 48 + ((b / 19683) % 10), (65 + ((b / 27) % 27)) - 1] := by
            unfold lbC
            rw [if_pos (show 9 < b / 19683 by omega), if_neg (show ¬ 0 < b / 729 % 27 by omega), if_pos (show 0 < b / 27 % 27 by omega), if_neg (show ¬ 0 < b / 1 % 27 by omega)]
            rfl
          refine ⟨rfl, _, _, hF, ?_, hf⟩
          rw [show l0 ++ lbC b = (((l0 ++ [48 + ((b / 19683) / 10)]) ++ [48 + ((b / 19683) % 10)]) ++ [(65 + ((b / 27) % 27)) - 1]) from by rw [e] <;> simp]
          exact hw
        · skip
          skip
          refine Z_aload_n d_mo_writeLabel_55 rfl ?_
          refine Zn_bipush (nI 65) d_mo_writeLabel_56 (by decide) ?_
          refine Z_iload d_mo_writeLabel_58 rfl ?_
          refine Zn_iadd d_mo_writeLabel_60 ?_
          refine Zn_iconst (nI 1) d_mo_writeLabel_61 (by decide) ?_
          refine Zn_isub d_mo_writeLabel_62 (by omega) ?_
          refine zV (As := [.int (nI ((65 + ((b / 1) % 27)) - 1))]) (by omega) d_mo_writeLabel_63 lm_mo_322 hF.1 rfl rfl (Nat.le_of_ble_eq_true rfl) (mo_write_ok d hF (c := ((65 + ((b / 1) % 27)) - 1)) (by have h9 := hw.1; (try simp only [List.length_append, List.length_cons, List.length_nil] at h9); omega)) (fun M1 v hq hlen => ?_)
          obtain ⟨rfl, hF⟩ := hq
          replace hw := hw.put ((65 + ((b / 1) % 27)) - 1)
          replace hf := hf.tr (wF.pt ((65 + ((b / 1) % 27)) - 1))
          refine Z_iload_n d_mo_writeLabel_66 rfl ?_
          refine Zn_bipush (nI 27) d_mo_writeLabel_67 (by decide) ?_
          refine Zn_idiv d_mo_writeLabel_69 (by decide) (by decide) (by decide) ?_
          refine Zn_istore_n [some (.ref 123), some (.int (nI b)), some (.int (nI (b / 19683))), some (.int (nI 0)), some (.int (nI ((b / 1) % 27)))] d_mo_writeLabel_70 (by decide) rfl ?_
          refine Z_goto (tgt := 38) d_mo_writeLabel_71 (by decide) ?_
          refine Z_iload_n d_mo_writeLabel_38 rfl ?_
          refine Zn_if_le (a := 0) (tgt := 74) d_mo_writeLabel_39 (by decide) (by decide) (fun _ => ?_) (fun h => absurd h (by decide))
          refine Z_vret d_mo_writeLabel_74 rfl ?_
          have e : lbC b = [48 + ((b / 19683) / 10), 48 + ((b / 19683) % 10), (65 + ((b / 27) % 27)) - 1, (65 + ((b / 1) % 27)) - 1] := by
            unfold lbC
            rw [if_pos (show 9 < b / 19683 by omega), if_neg (show ¬ 0 < b / 729 % 27 by omega), if_pos (show 0 < b / 27 % 27 by omega), if_pos (show 0 < b / 1 % 27 by omega)]
            rfl
          refine ⟨rfl, _, _, hF, ?_, hf⟩
          rw [show l0 ++ lbC b = ((((l0 ++ [48 + ((b / 19683) / 10)]) ++ [48 + ((b / 19683) % 10)]) ++ [(65 + ((b / 27) % 27)) - 1]) ++ [(65 + ((b / 1) % 27)) - 1]) from by rw [e] <;> simp]
          exact hw
    · skip
      skip
      refine Z_aload_n d_mo_writeLabel_55 rfl ?_
      refine Zn_bipush (nI 65) d_mo_writeLabel_56 (by decide) ?_
      refine Z_iload d_mo_writeLabel_58 rfl ?_
      refine Zn_iadd d_mo_writeLabel_60 ?_
      refine Zn_iconst (nI 1) d_mo_writeLabel_61 (by decide) ?_
      refine Zn_isub d_mo_writeLabel_62 (by omega) ?_
      refine zV (As := [.int (nI ((65 + ((b / 729) % 27)) - 1))]) (by omega) d_mo_writeLabel_63 lm_mo_322 hF.1 rfl rfl (Nat.le_of_ble_eq_true rfl) (mo_write_ok d hF (c := ((65 + ((b / 729) % 27)) - 1)) (by have h9 := hw.1; (try simp only [List.length_append, List.length_cons, List.length_nil] at h9); omega)) (fun M1 v hq hlen => ?_)
      obtain ⟨rfl, hF⟩ := hq
      replace hw := hw.put ((65 + ((b / 729) % 27)) - 1)
      replace hf := hf.tr (wF.pt ((65 + ((b / 729) % 27)) - 1))
      refine Z_iload_n d_mo_writeLabel_66 rfl ?_
      refine Zn_bipush (nI 27) d_mo_writeLabel_67 (by decide) ?_
      refine Zn_idiv d_mo_writeLabel_69 (by decide) (by decide) (by decide) ?_
      refine Zn_istore_n [some (.ref 123), some (.int (nI b)), some (.int (nI (b / 19683))), some (.int (nI 27)), some (.int (nI ((b / 729) % 27)))] d_mo_writeLabel_70 (by decide) rfl ?_
      refine Z_goto (tgt := 38) d_mo_writeLabel_71 (by decide) ?_
      refine Z_iload_n d_mo_writeLabel_38 rfl ?_
      refine Zn_if_le (a := 27) (tgt := 74) d_mo_writeLabel_39 (by decide) (by decide) (fun h => absurd h (by decide)) (fun _ => ?_)
      refine Z_iload_n d_mo_writeLabel_42 rfl ?_
      refine Z_iload_n d_mo_writeLabel_43 rfl ?_
      refine Zn_idiv d_mo_writeLabel_44 (by omega) (by omega) (by omega) ?_
      refine Zn_bipush (nI 27) d_mo_writeLabel_45 (by decide) ?_
      refine Zn_irem d_mo_writeLabel_47 (by omega) (by omega) (by omega) ?_
      refine Zn_istore [some (.ref 123), some (.int (nI b)), some (.int (nI (b / 19683))), some (.int (nI 27)), some (.int (nI ((b / 27) % 27)))] d_mo_writeLabel_48 (by decide) rfl ?_
      refine Z_iload d_mo_writeLabel_50 rfl ?_
      refine Zn_if_le (tgt := 66) d_mo_writeLabel_52 (by decide) (by omega) (fun h52 => ?_) (fun h52 => ?_)
      · skip
        skip
        refine Z_iload_n d_mo_writeLabel_66 rfl ?_
        refine Zn_bipush (nI 27) d_mo_writeLabel_67 (by decide) ?_
        refine Zn_idiv d_mo_writeLabel_69 (by decide) (by decide) (by decide) ?_
        refine Zn_istore_n [some (.ref 123), some (.int (nI b)), some (.int (nI (b / 19683))), some (.int (nI 1)), some (.int (nI ((b / 27) % 27)))] d_mo_writeLabel_70 (by decide) rfl ?_
        refine Z_goto (tgt := 38) d_mo_writeLabel_71 (by decide) ?_
        refine Z_iload_n d_mo_writeLabel_38 rfl ?_
        refine Zn_if_le (a := 1) (tgt := 74) d_mo_writeLabel_39 (by decide) (by decide) (fun h => absurd h (by decide)) (fun _ => ?_)
        refine Z_iload_n d_mo_writeLabel_42 rfl ?_
        refine Z_iload_n d_mo_writeLabel_43 rfl ?_
        refine Zn_idiv d_mo_writeLabel_44 (by omega) (by omega) (by omega) ?_
        refine Zn_bipush (nI 27) d_mo_writeLabel_45 (by decide) ?_
        refine Zn_irem d_mo_writeLabel_47 (by omega) (by omega) (by omega) ?_
        refine Zn_istore [some (.ref 123), some (.int (nI b)), some (.int (nI (b / 19683))), some (.int (nI 1)), some (.int (nI ((b / 1) % 27)))] d_mo_writeLabel_48 (by decide) rfl ?_
        refine Z_iload d_mo_writeLabel_50 rfl ?_
        refine Zn_if_le (tgt := 66) d_mo_writeLabel_52 (by decide) (by omega) (fun h52 => ?_) (fun h52 => ?_)
        · skip
          skip
          refine Z_iload_n d_mo_writeLabel_66 rfl ?_
          refine Zn_bipush (nI 27) d_mo_writeLabel_67 (by decide) ?_
          refine Zn_idiv d_mo_writeLabel_69 (by decide) (by decide) (by decide) ?_
          refine Zn_istore_n [some (.ref 123), some (.int (nI b)), some (.int (nI (b / 19683))), some (.int (nI 0)), some (.int (nI ((b / 1) % 27)))] d_mo_writeLabel_70 (by decide) rfl ?_
          refine Z_goto (tgt := 38) d_mo_writeLabel_71 (by decide) ?_
          refine Z_iload_n d_mo_writeLabel_38 rfl ?_
          refine Zn_if_le (a := 0) (tgt := 74) d_mo_writeLabel_39 (by decide) (by decide) (fun _ => ?_) (fun h => absurd h (by decide))
          refine Z_vret d_mo_writeLabel_74 rfl ?_
          have e : lbC b = [48 + ((b / 19683) / 10), 48 + ((b / 19683) % 10), (65 + ((b / 729) % 27)) - 1] := by
            unfold lbC
            rw [if_pos (show 9 < b / 19683 by omega), if_pos (show 0 < b / 729 % 27 by omega), if_neg (show ¬ 0 < b / 27 % 27 by omega), if_neg (show ¬ 0 < b / 1 % 27 by omega)]
            rfl
          refine ⟨rfl, _, _, hF, ?_, hf⟩
          rw [show l0 ++ lbC b = (((l0 ++ [48 + ((b / 19683) / 10)]) ++ [48 + ((b / 19683) % 10)]) ++ [(65 + ((b / 729) % 27)) - 1]) from by rw [e] <;> simp]
          exact hw
        · skip
          skip
          refine Z_aload_n d_mo_writeLabel_55 rfl ?_
          refine Zn_bipush (nI 65) d_mo_writeLabel_56 (by decide) ?_
          refine Z_iload d_mo_writeLabel_58 rfl ?_
          refine Zn_iadd d_mo_writeLabel_60 ?_
          refine Zn_iconst (nI 1) d_mo_writeLabel_61 (by decide) ?_
          refine Zn_isub d_mo_writeLabel_62 (by omega) ?_
          refine zV (As := [.int (nI ((65 + ((b / 1) % 27)) - 1))]) (by omega) d_mo_writeLabel_63 lm_mo_322 hF.1 rfl rfl (Nat.le_of_ble_eq_true rfl) (mo_write_ok d hF (c := ((65 + ((b / 1) % 27)) - 1)) (by have h9 := hw.1; (try simp only [List.length_append, List.length_cons, List.length_nil] at h9); omega)) (fun M1 v hq hlen => ?_)
          obtain ⟨rfl, hF⟩ := hq
          replace hw := hw.put ((65 + ((b / 1) % 27)) - 1)
          replace hf := hf.tr (wF.pt ((65 + ((b / 1) % 27)) - 1))
          refine Z_iload_n d_mo_writeLabel_66 rfl ?_
          refine Zn_bipush (nI 27) d_mo_writeLabel_67 (by decide) ?_
          refine Zn_idiv d_mo_writeLabel_69 (by decide) (by decide) (by decide) ?_
          refine Zn_istore_n [some (.ref 123), some (.int (nI b)), some (.int (nI (b / 19683))), some (.int (nI 0)), some (.int (nI ((b / 1) % 27)))] d_mo_writeLabel_70 (by decide) rfl ?_
          refine Z_goto (tgt := 38) d_mo_writeLabel_71 (by decide) ?_
          refine Z_iload_n d_mo_writeLabel_38 rfl ?_
          refine Zn_if_le (a := 0) (tgt := 74) d_mo_writeLabel_39 (by decide) (by decide) (fun _ => ?_) (fun h => absurd h (by decide))
          refine Z_vret d_mo_writeLabel_74 rfl ?_
          have e : lbC b = [48 + ((b / 19683) / 10), 48 + ((b / 19683) % 10), (65 + ((b / 729) % 27)) - 1, (65 + ((b / 1) % 27)) - 1] := by
            unfold lbC
            rw [if_pos (show 9 < b / 19683 by omega), if_pos (show 0 < b / 729 % 27 by omega), if_neg (show ¬ 0 < b / 27 % 27 by omega), if_pos (show 0 < b / 1 % 27 by omega)]
            rfl
          refine ⟨rfl, _, _, hF, ?_, hf⟩
          rw [show l0 ++ lbC b = ((((l0 ++ [48 + ((b / 19683) / 10)]) ++ [48 + ((b / 19683) % 10)]) ++ [(65 + ((b / 729) % 27)) - 1]) ++ [(65 + ((b / 1) % 27)) - 1]) from by rw [e] <;> simp]
          exact hw
      · skip
        skip
        refine Z_aload_n d_mo_writeLabel_55 rfl ?_
        refine Zn_bipush (nI 65) d_mo_writeLabel_56 (by decide) ?_
        refine Z_iload d_mo_writeLabel_58 rfl ?_
        refine Zn_iadd d_mo_writeLabel_60 ?_
        refine Zn_iconst (nI 1) d_mo_writeLabel_61 (by decide) ?_
        refine Zn_isub d_mo_writeLabel_62 (by omega) ?_
        refine zV (As := [.int (nI ((65 + ((b / 27) % 27)) - 1))]) (by omega) d_mo_writeLabel_63 lm_mo_322 hF.1 rfl rfl (Nat.le_of_ble_eq_true rfl) (mo_write_ok d hF (c := ((65 + ((b / 27) % 27)) - 1)) (by have h9 := hw.1; (try simp only [List.length_append, List.length_cons, List.length_nil] at h9); omega)) (fun M1 v hq hlen => ?_)
        obtain ⟨rfl, hF⟩ := hq
        replace hw := hw.put ((65 + ((b / 27) % 27)) - 1)
        replace hf := hf.tr (wF.pt ((65 + ((b / 27) % 27)) - 1))
        refine Z_iload_n d_mo_writeLabel_66 rfl ?_
        refine Zn_bipush (nI 27) d_mo_writeLabel_67 (by decide) ?_
        refine Zn_idiv d_mo_writeLabel_69 (by decide) (by decide) (by decide) ?_
        refine Zn_istore_n [some (.ref 123), some (.int (nI b)), some (.int (nI (b / 19683))), some (.int (nI 1)), some (.int (nI ((b / 27) % 27)))] d_mo_writeLabel_70 (by decide) rfl ?_
        refine Z_goto (tgt := 38) d_mo_writeLabel_71 (by decide) ?_
        refine Z_iload_n d_mo_writeLabel_38 rfl ?_
        refine Zn_if_le (a := 1) (tgt := 74) d_mo_writeLabel_39 (by decide) (by decide) (fun h => absurd h (by decide)) (fun _ => ?_)
        refine Z_iload_n d_mo_writeLabel_42 rfl ?_
        refine Z_iload_n d_mo_writeLabel_43 rfl ?_
        refine Zn_idiv d_mo_writeLabel_44 (by omega) (by omega) (by omega) ?_
        refine Zn_bipush (nI 27) d_mo_writeLabel_45 (by decide) ?_
        refine Zn_irem d_mo_writeLabel_47 (by omega) (by omega) (by omega) ?_
        refine Zn_istore [some (.ref 123), some (.int (nI b)), some (.int (nI (b / 19683))), some (.int (nI 1)), some (.int (nI ((b / 1) % 27)))] d_mo_writeLabel_48 (by decide) rfl ?_
        refine Z_iload d_mo_writeLabel_50 rfl ?_
        refine Zn_if_le (tgt := 66) d_mo_writeLabel_52 (by decide) (by omega) (fun h52 => ?_) (fun h52 => ?_)
        · skip
          skip
          refine Z_iload_n d_mo_writeLabel_66 rfl ?_
          refine Zn_bipush (nI 27) d_mo_writeLabel_67 (by decide) ?_
          refine Zn_idiv d_mo_writeLabel_69 (by decide) (by decide) (by decide) ?_
          refine Zn_istore_n [some (.ref 123), some (.int (nI b)), some (.int (nI (b / 19683))), some (.int (nI 0)), some (.int (nI ((b / 1) % 27)))] d_mo_writeLabel_70 (by decide) rfl ?_
          refine Z_goto (tgt := 38) d_mo_writeLabel_71 (by decide) ?_
          refine Z_iload_n d_mo_writeLabel_38 rfl ?_
          refine Zn_if_le (a := 0) (tgt := 74) d_mo_writeLabel_39 (by decide) (by decide) (fun _ => ?_) (fun h => absurd h (by decide))
          refine Z_vret d_mo_writeLabel_74 rfl ?_
          have e : lbC b = [48 + ((b / 19683) / 10), 48 + ((b / 19683) % 10), (65 + ((b / 729) % 27)) - 1, (65 + ((b / 27) % 27)) - 1] := by
            unfold lbC
            rw [if_pos (show 9 < b / 19683 by omega), if_pos (show 0 < b / 729 % 27 by omega), if_pos (show 0 < b / 27 % 27 by omega), if_neg (show ¬ 0 < b / 1 % 27 by omega)]
            rfl
          refine ⟨rfl, _, _, hF, ?_, hf⟩
          rw [show l0 ++ lbC b = ((((l0 ++ [48 + ((b / 19683) / 10)]) ++ [48 + ((b / 19683) % 10)]) ++ [(65 + ((b / 729) % 27)) - 1]) ++ [(65 + ((b / 27) % 27)) - 1]) from by rw [e] <;> simp]
          exact hw
        · skip
          skip
          refine Z_aload_n d_mo_writeLabel_55 rfl ?_
          refine Zn_bipush (nI 65) d_mo_writeLabel_56 (by decide) ?_
          refine Z_iload d_mo_writeLabel_58 rfl ?_
          refine Zn_iadd d_mo_writeLabel_60 ?_
          refine Zn_iconst (nI 1) d_mo_writeLabel_61 (by decide) ?_
          refine Zn_isub d_mo_writeLabel_62 (by omega) ?_
          refine zV (As := [.int (nI ((65 + ((b / 1) % 27)) - 1))]) (by omega) d_mo_writeLabel_63 lm_mo_322 hF.1 rfl rfl (Nat.le_of_ble_eq_true rfl) (mo_write_ok d hF (c := ((65 + ((b / 1) % 27)) - 1)) (by have h9 := hw.1; (try simp only [List.length_append, List.length_cons, List.length_nil] at h9); omega)) (fun M1 v hq hlen => ?_)
          obtain ⟨rfl, hF⟩ := hq
          replace hw := hw.put ((65 + ((b / 1) % 27)) - 1)
          replace hf := hf.tr (wF.pt ((65 + ((b / 1) % 27)) - 1))
          refine Z_iload_n d_mo_writeLabel_66 rfl ?_
          refine Zn_bipush (nI 27) d_mo_writeLabel_67 (by decide) ?_
          refine Zn_idiv d_mo_writeLabel_69 (by decide) (by decide) (by decide) ?_
          refine Zn_istore_n [some (.ref 123), some (.int (nI b)), some (.int (nI (b / 19683))), some (.int (nI 0)), some (.int (nI ((b / 1) % 27)))] d_mo_writeLabel_70 (by decide) rfl ?_
          refine Z_goto (tgt := 38) d_mo_writeLabel_71 (by decide) ?_
          refine Z_iload_n d_mo_writeLabel_38 rfl ?_
          refine Zn_if_le (a := 0) (tgt := 74) d_mo_writeLabel_39 (by decide) (by decide) (fun _ => ?_) (fun h => absurd h (by decide))
          refine Z_vret d_mo_writeLabel_74 rfl ?_
          have e : lbC b = [48 + ((b / 19683) / 10), 48 + ((b / 19683) % 10), (65 + ((b / 729) % 27)) - 1, (65 + ((b / 27) % 27)) - 1, (65 + ((b / 1) % 27)) - 1] := by
            unfold lbC
            rw [if_pos (show 9 < b / 19683 by omega), if_pos (show 0 < b / 729 % 27 by omega), if_pos (show 0 < b / 27 % 27 by omega), if_pos (show 0 < b / 1 % 27 by omega)]
            rfl
          refine ⟨rfl, _, _, hF, ?_, hf⟩
          rw [show l0 ++ lbC b = (((((l0 ++ [48 + ((b / 19683) / 10)]) ++ [48 + ((b / 19683) % 10)]) ++ [(65 + ((b / 729) % 27)) - 1]) ++ [(65 + ((b / 27) % 27)) - 1]) ++ [(65 + ((b / 1) % 27)) - 1]) from by rw [e] <;> simp]
          exact hw
set_option maxHeartbeats 4000000 in
theorem mo_writePath_ok {Γ : zCtx} (d : Nat) {M0 : List zE} {N : Nat} {K : Nat → Nat} : ∀ (f v : Nat) {M : List zE} {s : Nat → Nat} {G : Nat → Nat → Nat}, FW M0 M s G → nodes N G K → N ≤ 160 → v < N → G 17 v ≠ 0 → lev (K v) ≤ f → ZM Γ (d + f + 2) m_mo_writePath [.ref 123, .int (nI v)] M (fun M1 q => q = none ∧ ∃ s' G', FW M0 M1 s' G' ∧ wr s' G' (pC (K v)) ∧ wF s s' G G')
  | 0, v, M, s, G, hF, hN, h160, hv, hp, hl => by have := gk_lev (hN.1 v hv hp).1; omega
  | f + 1, v, M, s, G, hF, hN, h160, hv, hp, hl => by
    refine ZM.of mk_mo_writePath (Nat.le_of_ble_eq_true rfl) ?_
    refine Z_aload_n d_mo_writePath_0 rfl ?_
    refine Z_get (v := .ref 134) d_mo_writePath_1 lf_mo_40 hF.1 rfl ?_
    refine Z_iload_n d_mo_writePath_4 rfl ?_
    refine Zn_iald d_mo_writePath_5 hF.a10 (by omega) (by omega) ?_
    obtain ⟨d1, d2, d3, d4⟩ := hN.1 v hv hp
    have hlb := (gk_lab d1).r
    rw [← d3] at hlb
    have hpl := (pC_ok d1).2.1
    rcases d4 with ⟨q1, q2⟩ | ⟨u, q1, q2, q3, q4, q5⟩
    · skip
      rw [q1]
      refine Z_if_ge (tgt := 27) d_mo_writePath_6 (by decide) (fun h6 => ?_) (fun h6 => ?_)
      · skip
        exact absurd h6 (by decide) -- end
      · skip
        skip
        refine Z_aload_n d_mo_writePath_9 rfl ?_
        refine Zn_iconst (nI 0) d_mo_writePath_10 (by decide) ?_
        refine Z_puti d_mo_writePath_11 lf_mo_319 hF.1 rfl rfl (Nat.le_of_ble_eq_true rfl) ?_
        replace hF := hF.u9 0
        refine Z_aload_n d_mo_writePath_14 rfl ?_
        refine Z_aload_n d_mo_writePath_15 rfl ?_
        refine Z_get (v := .ref 136) d_mo_writePath_16 lf_mo_46 hF.1 rfl ?_
        refine Z_iload_n d_mo_writePath_19 rfl ?_
        refine Zn_iald d_mo_writePath_20 hF.a12 (by omega) (by omega) ?_
        have hw : wr (nup s 9 0) G [] := ⟨nup_s, fun j hj => absurd hj (Nat.not_lt_zero _)⟩
        have hf : wF s (nup s 9 0) G G := ⟨fun _ h => nup_n h, fun _ _ => rfl⟩
        refine zV (As := [.int (nI (G 12 v))]) (by omega) d_mo_writePath_21 lm_mo_325 hF.1 rfl rfl (Nat.le_of_ble_eq_true rfl) (mo_writeLabel_ok d hF hw (by simp) (b := G 12 v) (by omega)) (fun M1 v hq hlen => ?_)
        obtain ⟨rfl, s2, G2, hF, hw2, hf2⟩ := hq
        replace hf := hf.tr hf2
        refine Z_goto (tgt := 59) d_mo_writePath_24 (by decide) ?_
        refine Z_vret d_mo_writePath_59 rfl ?_
        refine ⟨rfl, s2, G2, hF, ?_, hf⟩
        rw [pC_1 q2, ← d3]
        exact hw2
    · skip
      rw [q1, mI_s]
      refine Z_if_ge (tgt := 27) d_mo_writePath_6 (by decide) (fun h6 => ?_) (fun h6 => ?_)
      · skip
        skip
        refine Z_aload_n d_mo_writePath_27 rfl ?_
        refine Z_aload_n d_mo_writePath_28 rfl ?_
        refine Z_get (v := .ref 134) d_mo_writePath_29 lf_mo_40 hF.1 rfl ?_
        refine Z_iload_n d_mo_writePath_32 rfl ?_
        refine Zn_iald d_mo_writePath_33 hF.a10 (by omega) (by omega) ?_
        rw [q1, mI_s]
        have hlu : lev (K u) ≤ f := by
          rcases gk_par d1 with t | t
          · omega
          · rw [q4]; omega
        have hpc := pC_s d1 q5
        rw [← q4, ← d3] at hpc
        refine zV (As := [.int (nI u)]) (by omega) d_mo_writePath_34 lm_mo_328 hF.1 rfl rfl (Nat.le_of_ble_eq_true rfl) (mo_writePath_ok d f u hF hN h160 q2 q3 hlu) (fun M1 v hq hlen => ?_)
        obtain ⟨rfl, s1, G1, hF, hw, hf⟩ := hq
        refine Z_aload_n d_mo_writePath_37 rfl ?_
        refine Zn_bipush (nI 40) d_mo_writePath_38 (by decide) ?_
        refine zV (As := [.int (nI 40)]) (by omega) d_mo_writePath_40 lm_mo_322 hF.1 rfl rfl (Nat.le_of_ble_eq_true rfl) (mo_write_ok d hF (c := 40) (by have h9 := hw.1; rw [hpc] at hpl; simp only [List.length_append, List.length_cons, List.length_nil] at h9 hpl; omega)) (fun M1 v hq hlen => ?_)
        obtain ⟨rfl, hF⟩ := hq
        replace hw := hw.put 40
        replace hf := hf.tr (wF.pt 40)
        refine Z_aload_n d_mo_writePath_43 rfl ?_
        refine Z_aload_n d_mo_writePath_44 rfl ?_
        refine Z_get (v := .ref 136) d_mo_writePath_45 lf_mo_46 hF.1 rfl ?_
        refine Z_iload_n d_mo_writePath_48 rfl ?_
        refine Zn_iald d_mo_writePath_49 hF.a12 (by omega) (by omega) ?_
        rw [hf.2 12 (by decide)]
        refine zV (As := [.int (nI (G 12 v))]) (by omega) d_mo_writePath_50 lm_mo_325 hF.1 rfl rfl (Nat.le_of_ble_eq_true rfl) (mo_writeLabel_ok d hF hw (by rw [hpc] at hpl; simp only [List.length_append, List.length_cons, List.length_nil] at hpl ⊢; omega) (b := G 12 v) (by omega)) (fun M1 v hq hlen => ?_)
        obtain ⟨rfl, s2, G2, hF, hw2, hf2⟩ := hq
        replace hf := hf.tr hf2
        refine Z_aload_n d_mo_writePath_53 rfl ?_
        refine Zn_bipush (nI 41) d_mo_writePath_54 (by decide) ?_
        refine zV (As := [.int (nI 41)]) (by omega) d_mo_writePath_56 lm_mo_322 hF.1 rfl rfl (Nat.le_of_ble_eq_true rfl) (mo_write_ok d hF (c := 41) (by have h9 := hw2.1; rw [hpc] at hpl; simp only [List.length_append, List.length_cons, List.length_nil] at h9 hpl; omega)) (fun M1 v hq hlen => ?_)
        obtain ⟨rfl, hF⟩ := hq
        replace hw2 := hw2.put 41
        replace hf := hf.tr (wF.pt 41)
        refine Z_vret d_mo_writePath_59 rfl ?_
        refine ⟨rfl, _, _, hF, ?_, hf⟩
        rw [hpc]
        exact hw2
      · skip
        exact absurd (nI_pos' (by omega)) h6 -- end
set_option maxHeartbeats 4000000 in
theorem mo_pathLengthAt_ok {Γ : zCtx} {M : List zE} (d : Nat) {M0 : List zE} {s : Nat → Nat} {G : Nat → Nat → Nat} (hF : FW M0 M s G) {m : Nat} {dy sz kd pt gl : Nat → Nat} {tx : Nat → Int32} {n : Nat} {e : Nat → zEnt} {K : Nat → Nat} {y : Nat} {S1 : vSt} (hV : vHy m dy sz kd pt gl tx s G n e K y S1) (z : Int32)  : ZM Γ (d + 9) m_mo_pathLengthAt [.ref 123, .int (mI y), .int z] M (fun M1 v => v = some (.int (if hasP S1.1 z = true then nI (plen (ek (S1.2.1 z.toNatClampNeg))) else -2)) ∧ ∃ s' G', FW M0 M1 s' G' ∧ pF s s' G G') := by
  refine ZM.of mk_mo_pathLengthAt (Nat.le_of_ble_eq_true rfl) ?_
  rw [show zEn [.ref 123, .int (mI y), .int z] = [some (.ref 123), some (.int (mI y)), some (.int z)] from rfl]
  refine zPad 1 ?_
  show Z _ _ _ _ _ _ _ [some (.ref 123), some (.int (mI y)), some (.int z), none] _ _
  refine Z_aload_n d_mo_pathLengthAt_0 rfl ?_
  refine Z_iload_n d_mo_pathLengthAt_1 rfl ?_
  refine Z_iload_n d_mo_pathLengthAt_2 rfl ?_
  refine zV (As := [.int (mI y), .int z]) (by omega) d_mo_pathLengthAt_3 lm_mo_316 hF.1 rfl rfl (Nat.le_of_ble_eq_true rfl) (mo_reach_ok d hF hV z) (fun M1 v hq hlen => ?_)
  obtain ⟨rfl, s1, G1, hF, hRO, hc⟩ := hq
  have hnn := hRO.nn
  rcases hz : hasP S1.1 z with _ | _
  · skip
    refine Zn_istore_n [some (.ref 123), some (.int (mI y)), some (.int z), some (.int (-2))] d_mo_pathLengthAt_6 (by decide) rfl ?_
    refine Z_iload_n d_mo_pathLengthAt_7 rfl ?_
    refine Z_if_ge (tgt := 13) d_mo_pathLengthAt_8 (by decide) (fun h8 => ?_) (fun h8 => ?_)
    · skip
      exact absurd h8 (by decide) -- end
    · skip
      skip
      refine Z_iload_n d_mo_pathLengthAt_11 rfl ?_
      refine Z_iret d_mo_pathLengthAt_12 rfl ?_
      exact ⟨rfl, s1, G1, hF, hc.p⟩
  · skip
    obtain ⟨j, hj1, hj2, rfl⟩ := hasP_t hz
    have hat := hRO.at hj1
    obtain ⟨K1, hVR, _, _, _, hod⟩ := hRO
    obtain ⟨o1, o2, o3⟩ := hod j hj1
    have hND := hVR.1.2.2.2.2.1
    have hgk := (hND.1 _ o1 o2).1
    refine Zn_istore_n [some (.ref 123), some (.int (mI y)), some (.int (nI j)), some (.int (nI 0))] d_mo_pathLengthAt_6 (by decide) rfl ?_
    refine Z_iload_n d_mo_pathLengthAt_7 rfl ?_
    refine Z_if_ge (tgt := 13) d_mo_pathLengthAt_8 (by decide) (fun h8 => ?_) (fun h8 => ?_)
    · skip
      skip
      refine Z_aload_n d_mo_pathLengthAt_13 rfl ?_
      refine Z_aload_n d_mo_pathLengthAt_14 rfl ?_
      refine Z_get (v := .ref 142) d_mo_pathLengthAt_15 lf_mo_65 hF.1 rfl ?_
      refine Z_iload_n d_mo_pathLengthAt_18 rfl ?_
      refine Zn_iald d_mo_pathLengthAt_19 hF.a18 (by omega) (by omega) ?_
      refine zV (As := [.int (nI (G1 18 j))]) (by omega) d_mo_pathLengthAt_20 lm_mo_328 hF.1 rfl rfl (Nat.le_of_ble_eq_true rfl) (mo_writePath_ok (d + 2) 3 (G1 18 j) hF hND hnn.2.2.2.1 o1 o2 (gk_lev hgk).2) (fun M1 v hq hlen => ?_)
      obtain ⟨rfl, s2, G2, hF, hw, hf⟩ := hq
      rw [o3] at hw hgk
      have hpk := pC_ok hgk
      refine Z_aload_n d_mo_pathLengthAt_23 rfl ?_
      refine Z_get (v := .int (nI (s2 9))) d_mo_pathLengthAt_24 lf_mo_319 hF.1 rfl ?_
      refine Z_iret d_mo_pathLengthAt_27 rfl ?_
      refine ⟨?_, s2, G2, hF, hc.p.tr hf.p⟩
      rw [if_pos rfl, zn_cl hj2, hw.1, hpk.1]
    · skip
      exact absurd (by decide) h8 -- end
set_option maxHeartbeats 4000000 in
theorem mo_pathLengthAt_no {Γ : zCtx} {M : List zE} (d : Nat) {M0 : List zE} {s : Nat → Nat} {G : Nat → Nat → Nat} (hF : FW M0 M s G) {x : Int32} (hno : dOk x = false) (z : Int32)  : ZM Γ (d + 9) m_mo_pathLengthAt [.ref 123, .int x, .int z] M (zEq M (some (.int (-4)))) := by
  refine ZM.of mk_mo_pathLengthAt (Nat.le_of_ble_eq_true rfl) ?_
  rw [show zEn [.ref 123, .int x, .int z] = [some (.ref 123), some (.int x), some (.int z)] from rfl]
  refine zPad 1 ?_
  show Z _ _ _ _ _ _ _ [some (.ref 123), some (.int x), some (.int z), none] _ _
  refine Z_aload_n d_mo_pathLengthAt_0 rfl ?_
  refine Z_iload_n d_mo_pathLengthAt_1 rfl ?_
  refine Z_iload_n d_mo_pathLengthAt_2 rfl ?_
  refine zVe (As := [.int x, .int z]) (by omega) d_mo_pathLengthAt_3 lm_mo_316 hF.1 rfl rfl (Nat.le_of_ble_eq_true rfl) (mo_reach_no d hF hno z) ?_
  refine Zn_istore_n [some (.ref 123), some (.int x), some (.int z), some (.int (-4))] d_mo_pathLengthAt_6 (by decide) rfl ?_
  refine Z_iload_n d_mo_pathLengthAt_7 rfl ?_
  refine Z_if_ge (tgt := 13) d_mo_pathLengthAt_8 (by decide) (fun h8 => ?_) (fun h8 => ?_)
  · skip
    exact absurd h8 (by decide) -- end
  · skip
    skip
    refine Z_iload_n d_mo_pathLengthAt_11 rfl ?_
    refine Z_iret d_mo_pathLengthAt_12 rfl ?_
    exact ⟨rfl, rfl⟩
set_option maxHeartbeats 4000000 in
theorem mo_pathCharacterAt_ok {Γ : zCtx} {M : List zE} (d : Nat) {M0 : List zE} {s : Nat → Nat} {G : Nat → Nat → Nat} (hF : FW M0 M s G) {m : Nat} {dy sz kd pt gl : Nat → Nat} {tx : Nat → Int32} {n : Nat} {e : Nat → zEnt} {K : Nat → Nat} {y : Nat} {S1 : vSt} (hV : vHy m dy sz kd pt gl tx s G n e K y S1) (z q : Int32)  : ZM Γ (d + 9) m_mo_pathCharacterAt [.ref 123, .int (mI y), .int z, .int q] M (fun M1 v => v = some (.int (if hasP S1.1 z = true then chX (ek (S1.2.1 z.toNatClampNeg)) q else -2)) ∧ ∃ s' G', FW M0 M1 s' G' ∧ pF s s' G G') := by
  refine ZM.of mk_mo_pathCharacterAt (Nat.le_of_ble_eq_true rfl) ?_
  rw [show zEn [.ref 123, .int (mI y), .int z, .int q] = [some (.ref 123), some (.int (mI y)), some (.int z), some (.int q)] from rfl]
  refine zPad 1 ?_
  show Z _ _ _ _ _ _ _ [some (.ref 123), some (.int (mI y)), some (.int z), some (.int q), none] _ _
  refine Z_aload_n d_mo_pathCharacterAt_0 rfl ?_
  refine Z_iload_n d_mo_pathCharacterAt_1 rfl ?_
  refine Z_iload_n d_mo_pathCharacterAt_2 rfl ?_
  refine zV (As := [.int (mI y), .int z]) (by omega) d_mo_pathCharacterAt_3 lm_mo_316 hF.1 rfl rfl (Nat.le_of_ble_eq_true rfl) (mo_reach_ok d hF hV z) (fun M1 v hq hlen => ?_)
  obtain ⟨rfl, s1, G1, hF, hRO, hc⟩ := hq
  have hnn := hRO.nn
  rcases hz : hasP S1.1 z with _ | _
  · skip
    refine Zn_istore [some (.ref 123), some (.int (mI y)), some (.int z), some (.int q), some (.int (-2))] d_mo_pathCharacterAt_6 (by decide) rfl ?_
    refine Z_iload d_mo_pathCharacterAt_8 rfl ?_
    refine Z_if_ge (tgt := 16) d_mo_pathCharacterAt_10 (by decide) (fun h10 => ?_) (fun h10 => ?_)
    · skip
      exact absurd h10 (by decide) -- end
    · skip
      skip
      refine Z_iload d_mo_pathCharacterAt_13 rfl ?_
      refine Z_iret d_mo_pathCharacterAt_15 rfl ?_
      exact ⟨rfl, s1, G1, hF, hc.p⟩
  · skip
    obtain ⟨j, hj1, hj2, rfl⟩ := hasP_t hz
    have hat := hRO.at hj1
    obtain ⟨K1, hVR, _, _, _, hod⟩ := hRO
    obtain ⟨o1, o2, o3⟩ := hod j hj1
    have hND := hVR.1.2.2.2.2.1
    have hgk := (hND.1 _ o1 o2).1
    refine Zn_istore [some (.ref 123), some (.int (mI y)), some (.int (nI j)), some (.int q), some (.int (nI 0))] d_mo_pathCharacterAt_6 (by decide) rfl ?_
    refine Z_iload d_mo_pathCharacterAt_8 rfl ?_
    refine Z_if_ge (tgt := 16) d_mo_pathCharacterAt_10 (by decide) (fun h10 => ?_) (fun h10 => ?_)
    · skip
      skip
      refine Z_aload_n d_mo_pathCharacterAt_16 rfl ?_
      refine Z_aload_n d_mo_pathCharacterAt_17 rfl ?_
      refine Z_get (v := .ref 142) d_mo_pathCharacterAt_18 lf_mo_65 hF.1 rfl ?_
      refine Z_iload_n d_mo_pathCharacterAt_21 rfl ?_
      refine Zn_iald d_mo_pathCharacterAt_22 hF.a18 (by omega) (by omega) ?_
      refine zV (As := [.int (nI (G1 18 j))]) (by omega) d_mo_pathCharacterAt_23 lm_mo_328 hF.1 rfl rfl (Nat.le_of_ble_eq_true rfl) (mo_writePath_ok (d + 2) 3 (G1 18 j) hF hND hnn.2.2.2.1 o1 o2 (gk_lev hgk).2) (fun M1 v hq hlen => ?_)
      obtain ⟨rfl, s2, G2, hF, hw, hf⟩ := hq
      rw [o3] at hw hgk
      have hpk := pC_ok hgk
      refine Z_iload_n d_mo_pathCharacterAt_26 rfl ?_
      refine Zn_iconst (nI 0) d_mo_pathCharacterAt_27 (by decide) ?_
      refine Z_aload_n d_mo_pathCharacterAt_28 rfl ?_
      refine Z_get (v := .int (nI (s2 9))) d_mo_pathCharacterAt_29 lf_mo_319 hF.1 rfl ?_
      refine Zn_iconst (nI 1) d_mo_pathCharacterAt_32 (by decide) ?_
      refine Z_isub d_mo_pathCharacterAt_33 ?_
      rw [hw.1]
      refine zTe (As := [.int q, .int (nI 0), .int (nI (pC (ek (S1.2.1 j))).length - nI 1)]) (by omega) d_mo_pathCharacterAt_34 lm_mo_189 rfl (Nat.le_of_ble_eq_true rfl) (mo_in_ok d _ _ _) ?_
      rw [inI_has (by omega)]
      rcases hq : hasP (pC (ek (S1.2.1 j))).length q with _ | _
      · skip
        refine Zn_if_eq (a := 0) (tgt := 49) d_mo_pathCharacterAt_37 (by decide) (by decide) (fun _ => ?_) (fun h => absurd h (by decide))
        refine Zn_bipush (-9) d_mo_pathCharacterAt_49 (by decide) ?_
        refine Z_iret d_mo_pathCharacterAt_51 rfl ?_
        refine ⟨?_, s2, G2, hF, hc.p.tr hf.p⟩
        rw [if_pos rfl, zn_cl hj2, chX_ok hgk, hq]
        rfl
      · skip
        obtain ⟨k, hk1, hk2, rfl⟩ := hasP_t hq
        refine Zn_if_eq (a := 1) (tgt := 49) d_mo_pathCharacterAt_37 (by decide) (by decide) (fun h => absurd h (by decide)) (fun _ => ?_)
        refine Z_aload_n d_mo_pathCharacterAt_40 rfl ?_
        refine Z_get (v := .ref 148) d_mo_pathCharacterAt_41 lf_mo_83 hF.1 rfl ?_
        refine Z_iload_n d_mo_pathCharacterAt_44 rfl ?_
        refine Zn_iald d_mo_pathCharacterAt_45 hF.a24 (by omega) (by omega) ?_
        rw [hw.2 k hk1]
        refine Z_goto (tgt := 51) d_mo_pathCharacterAt_46 (by decide) ?_
        refine Z_iret d_mo_pathCharacterAt_51 rfl ?_
        refine ⟨?_, s2, G2, hF, hc.p.tr hf.p⟩
        rw [if_pos rfl, zn_cl hj2, chX_ok hgk, hq]
        rw [if_pos rfl, zn_cl hk2]
    · skip
      exact absurd (by decide) h10 -- end
set_option maxHeartbeats 4000000 in
theorem mo_pathCharacterAt_no {Γ : zCtx} {M : List zE} (d : Nat) {M0 : List zE} {s : Nat → Nat} {G : Nat → Nat → Nat} (hF : FW M0 M s G) {x : Int32} (hno : dOk x = false) (z q : Int32)  : ZM Γ (d + 9) m_mo_pathCharacterAt [.ref 123, .int x, .int z, .int q] M (zEq M (some (.int (-4)))) := by
  refine ZM.of mk_mo_pathCharacterAt (Nat.le_of_ble_eq_true rfl) ?_
  rw [show zEn [.ref 123, .int x, .int z, .int q] = [some (.ref 123), some (.int x), some (.int z), some (.int q)] from rfl]
  refine zPad 1 ?_
  show Z _ _ _ _ _ _ _ [some (.ref 123), some (.int x), some (.int z), some (.int q), none] _ _
  refine Z_aload_n d_mo_pathCharacterAt_0 rfl ?_
  refine Z_iload_n d_mo_pathCharacterAt_1 rfl ?_
  refine Z_iload_n d_mo_pathCharacterAt_2 rfl ?_
  refine zVe (As := [.int x, .int z]) (by omega) d_mo_pathCharacterAt_3 lm_mo_316 hF.1 rfl rfl (Nat.le_of_ble_eq_true rfl) (mo_reach_no d hF hno z) ?_
  refine Zn_istore [some (.ref 123), some (.int x), some (.int z), some (.int q), some (.int (-4))] d_mo_pathCharacterAt_6 (by decide) rfl ?_
  refine Z_iload d_mo_pathCharacterAt_8 rfl ?_
  refine Z_if_ge (tgt := 16) d_mo_pathCharacterAt_10 (by decide) (fun h10 => ?_) (fun h10 => ?_)
  · skip
    exact absurd h10 (by decide) -- end
  · skip
    skip
    refine Z_iload d_mo_pathCharacterAt_13 rfl ?_
    refine Z_iret d_mo_pathCharacterAt_15 rfl ?_
    exact ⟨rfl, rfl⟩
