/-! String.length, String.charAt of the constants -/
set_option maxHeartbeats 4000000 in
theorem js_coder_ok {Γ : zCtx} {M : List zE} (d : Nat) {i : Nat} {q : String × Nat × String × List Int32} (hi : zStr[i]? = some q) : ZM Γ (d + 1) m_js_coder [.ref (1000001 + i)] M (zEq M (some (.int 0))) := by
  refine ZM.of mk_js_coder (Nat.le_of_ble_eq_true rfl) ?_
  have h12 := zStr_lt hi
  refine Z_getsZ d_js_coder_0 wf_js_38 ?_
  refine Z_if_eq (tgt := 13) d_js_coder_3 (by decide) (fun h3 => ?_) (fun h3 => ?_)
  · skip
    exact absurd h3 (by decide) -- end
  · skip
    refine Z_aload_n d_js_coder_6 rfl ?_
    refine Z_strC h12 d_js_coder_7 wf_js_15 ?_
    refine Z_goto (tgt := 14) d_js_coder_10 (by decide) ?_
    refine Z_zret d_js_coder_14 rfl rfl ?_
    exact ⟨rfl, rfl⟩
set_option maxHeartbeats 4000000 in
theorem js_isLatin1_ok {Γ : zCtx} {M : List zE} (d : Nat) {i : Nat} {q : String × Nat × String × List Int32} (hi : zStr[i]? = some q) : ZM Γ (d + 1) m_js_isLatin1 [.ref (1000001 + i)] M (zEq M (some (.int (nI 1)))) := by
  refine ZM.of mk_js_isLatin1 (Nat.le_of_ble_eq_true rfl) ?_
  have h12 := zStr_lt hi
  refine Z_getsZ d_js_isLatin1_0 wf_js_38 ?_
  refine Z_if_eq (tgt := 17) d_js_isLatin1_3 (by decide) (fun h3 => ?_) (fun h3 => ?_)
  · skip
    exact absurd h3 (by decide) -- end
  · skip
    refine Z_aload_n d_js_isLatin1_6 rfl ?_
    refine Z_strC h12 d_js_isLatin1_7 wf_js_15 ?_
    refine Z_if_ne (tgt := 17) d_js_isLatin1_10 (by decide) (fun h10 => ?_) (fun h10 => ?_)
    · skip
      exact absurd rfl h10 -- end
    · skip
      refine Zn_iconst (nI 1) d_js_isLatin1_13 (by decide) ?_
      refine Z_goto (tgt := 18) d_js_isLatin1_14 (by decide) ?_
      refine Z_zret d_js_isLatin1_18 rfl rfl ?_
      exact ⟨rfl, rfl⟩
theorem zStrE {Γ : zCtx} {μ μ' : zMe} {Φ : zPhi} {pc D d idx i : Nat} {ls : List (Option Value)} {st As : List Value} {M : List zE} {r : Option Value} (hD : d < D) (hi : i < 12) (hd : decode μ.2.2.1 pc = .ok (.invokevirtual idx, 3)) (hL : zLv μ.1 idx As.length μ') (hcl : μ'.2.1.cls = "java/lang/String") (h0 : μ'.2.2.2.2.2 = (0, 0)) (hst : (st.map fun v => v.category).sum ≤ 8) (hM : ZM Γ d μ' (.ref (1000001 + i) :: As) M (zEq M r))
    (kk : Z Γ (zRm D μ) μ Φ 0 0 (pc + 3) ls (r.toList ++ st) M) : Z Γ (zRm D μ) μ Φ 0 0 pc ls (As.reverse ++ .ref (1000001 + i) :: st) M := by
  have e1 : μ'.2.2.2.2.2.1 = 0 := by rw [h0]
  have e2 : μ'.2.2.2.2.2.2 = 0 := by rw [h0]
  refine Z_callStr hi hd hL hcl hM hst hD (Nat.mul_le_mul_left 64 hD) (by rw [e1]; exact Nat.zero_le _) (by rw [e2]; exact Nat.zero_le _) (fun M1 v hq hl => ?_)
  obtain ⟨rfl, rfl⟩ := hq
  rw [e1, e2]
  exact kk
set_option maxHeartbeats 4000000 in
theorem js_length_ok {Γ : zCtx} {M : List zE} (d : Nat) {i : Nat} {q : String × Nat × String × List Int32} (hi : zStr[i]? = some q) (hl : q.2.2.2.length < 2 ^ 31) : ZM Γ (d + 2) m_js_length [.ref (1000001 + i)] M (zEq M (some (.int (nI q.2.2.2.length)))) := by
  refine ZM.of mk_js_length (Nat.le_of_ble_eq_true rfl) ?_
  have h12 := zStr_lt hi
  refine Z_aload_n d_js_length_0 rfl ?_
  refine Z_strV h12 d_js_length_1 wf_js_9 ?_
  refine Z_strLen hi d_js_length_4 ?_
  refine Z_aload_n d_js_length_5 rfl ?_
  refine zStrE (As := []) (by omega) h12 d_js_length_6 lm_js_335 rfl rfl (Nat.le_of_ble_eq_true rfl) (js_coder_ok d hi) ?_
  refine Z_ishr d_js_length_9 ?_
  rw [show Int32.ofNat q.2.2.2.length >>> ((0 : Int32) &&& 31) = nI q.2.2.2.length from sc_shr0 hl]
  refine Z_iret d_js_length_10 rfl ?_
  exact ⟨rfl, rfl⟩
set_option maxHeartbeats 4000000 in
theorem jp_checkIndex_ok {Γ : zCtx} {M : List zE} (d : Nat) {j l : Nat} (hj : j < l) (hl : l < 2147483648) : ZM Γ (d + 1) m_jp_checkIndex [.int (nI j), .int (nI l), .ref 1000200] M (zEq M (some (.int (nI j)))) := by
  refine ZM.of mk_jp_checkIndex (Nat.le_of_ble_eq_true rfl) ?_
  refine Z_iload_n d_jp_checkIndex_0 rfl ?_
  refine Zn_if_lt (tgt := 9) d_jp_checkIndex_1 (by decide) (by omega) ?_
  refine Z_iload_n d_jp_checkIndex_4 rfl ?_
  refine Z_iload_n d_jp_checkIndex_5 rfl ?_
  refine Zn_icmp_lt (tgt := 16) d_jp_checkIndex_6 (by decide) (by omega) (by omega) (fun h6 => ?_) (fun h6 => ?_)
  · skip
    refine Z_iload_n d_jp_checkIndex_16 rfl ?_
    refine Z_iret d_jp_checkIndex_17 rfl ?_
    exact ⟨rfl, rfl⟩
  · skip
    exact absurd hj h6 -- end
set_option maxHeartbeats 4000000 in
theorem js_checkIndex_ok {Γ : zCtx} {M : List zE} (d : Nat) {j l : Nat} (hj : j < l) (hl : l < 2147483648) : ZM Γ (d + 2) m_js_checkIndex [.int (nI j), .int (nI l)] M (zEq M none) := by
  refine ZM.of mk_js_checkIndex (Nat.le_of_ble_eq_true rfl) ?_
  refine Z_iload_n d_js_checkIndex_0 rfl ?_
  refine Z_iload_n d_js_checkIndex_1 rfl ?_
  refine Z_getsF d_js_checkIndex_2 wf_js_1053 ?_
  refine zTe (As := [.int (nI j), .int (nI l), .ref 1000200]) (by omega) d_js_checkIndex_5 lm_js_1059 rfl (Nat.le_of_ble_eq_true rfl) (jp_checkIndex_ok d hj hl) ?_
  refine Z_pop d_js_checkIndex_8 rfl ?_
  refine Z_vret d_js_checkIndex_9 rfl ?_
  exact ⟨rfl, rfl⟩
set_option maxHeartbeats 4000000 in
theorem jl_charAt_ok {Γ : zCtx} {M : List zE} (d : Nat) {i : Nat} {q : String × Nat × String × List Int32} (hi : zStr[i]? = some q) {j : Nat} (hj : j < q.2.2.2.length) (hl : q.2.2.2.length < 2147483648) {c : Int32} (hc : ((q.2.2.2.getD j 0 &&& nI 255).toUInt32 % 65536).toInt32 = c) (hn : narrow .char (.int c) = .int c) : ZM Γ (d + 3) m_jl_charAt [.ref (1000101 + i), .int (nI j)] M (zEq M (some (.int c))) := by
  refine ZM.of mk_jl_charAt (Nat.le_of_ble_eq_true rfl) ?_
  refine Z_iload_n d_jl_charAt_0 rfl ?_
  refine Z_aload_n d_jl_charAt_1 rfl ?_
  refine Z_strLen hi d_jl_charAt_2 ?_
  refine zTe (As := [.int (nI j), .int (nI q.2.2.2.length)]) (by omega) d_jl_charAt_3 lm_jl_9 rfl (Nat.le_of_ble_eq_true rfl) (js_checkIndex_ok d hj hl) ?_
  refine Z_aload_n d_jl_charAt_6 rfl ?_
  refine Z_iload_n d_jl_charAt_7 rfl ?_
  refine Z_strLd hi (zn_in hj hl) d_jl_charAt_8 ?_
  rw [zn_cl (Nat.lt_trans hj hl)]
  refine Zn_sipush (nI 255) d_jl_charAt_9 (by decide) ?_
  refine Z_iand d_jl_charAt_12 ?_
  refine Z_i2c d_jl_charAt_13 ?_
  rw [hc]
  refine Z_zret d_jl_charAt_14 rfl hn ?_
  exact ⟨rfl, rfl⟩
set_option maxHeartbeats 4000000 in
theorem js_charAt_ok {Γ : zCtx} {M : List zE} (d : Nat) {i : Nat} {q : String × Nat × String × List Int32} (hi : zStr[i]? = some q) {j : Nat} (hj : j < q.2.2.2.length) (hl : q.2.2.2.length < 2147483648) {c : Int32} (hc : ((q.2.2.2.getD j 0 &&& nI 255).toUInt32 % 65536).toInt32 = c) (hn : narrow .char (.int c) = .int c) : ZM Γ (d + 4) m_js_charAt [.ref (1000001 + i), .int (nI j)] M (zEq M (some (.int c))) := by
  refine ZM.of mk_js_charAt (Nat.le_of_ble_eq_true rfl) ?_
  have h12 := zStr_lt hi
  refine Z_aload_n d_js_charAt_0 rfl ?_
  refine zStrE (As := []) (by omega) h12 d_js_charAt_1 lm_js_492 rfl rfl (Nat.le_of_ble_eq_true rfl) (js_isLatin1_ok (d + 2) hi) ?_
  refine Zn_if_eq (a := 1) (tgt := 16) d_js_charAt_4 (by decide) (by decide) (fun h => absurd h (by decide)) (fun _ => ?_)
  refine Z_aload_n d_js_charAt_7 rfl ?_
  refine Z_strV h12 d_js_charAt_8 wf_js_9 ?_
  refine Z_iload_n d_js_charAt_11 rfl ?_
  refine zTe (As := [.ref (1000101 + i), .int (nI j)]) (by omega) d_js_charAt_12 lm_js_495 rfl (Nat.le_of_ble_eq_true rfl) (jl_charAt_ok d hi hj hl hc hn) ?_
  refine Z_zret d_js_charAt_15 rfl hn ?_
  exact ⟨rfl, rfl⟩
