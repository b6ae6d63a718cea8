/-! Math.min, Math.max, copies: from a method that has made nothing -/
section ZM2
variable {Γ : zCtx} {μ : zMe} {Φ : zPhi} {pc D idx : Nat} {ls : List (Option Value)} {st : List Value} {M : List zE}
theorem zMin {x y : Int32} (hD : 0 < D) (hd : decode μ.2.2.1 pc = .ok (.invokestatic idx, 3)) (hw : Cond.methodLink μ.1 idx Lib.Math.min.name ∈ zG) (hst : (st.map fun v => v.category).sum ≤ 8) (kk : Z Γ (zRm D μ) μ Φ 0 0 (pc + 3) ls (.int (if y < x then y else x) :: st) M) : Z Γ (zRm D μ) μ Φ 0 0 pc ls (.int y :: .int x :: st) M :=
  Z_mmin hd hw wst_min win_math wco_min hst hD (by show 64 ≤ 64 * D; omega) (Nat.zero_le _) (Nat.zero_le _) kk
theorem zMax {x y : Int32} (hD : 0 < D) (hd : decode μ.2.2.1 pc = .ok (.invokestatic idx, 3)) (hw : Cond.methodLink μ.1 idx Lib.Math.max.name ∈ zG) (hst : (st.map fun v => v.category).sum ≤ 8) (kk : Z Γ (zRm D μ) μ Φ 0 0 (pc + 3) ls (.int (if x < y then y else x) :: st) M) : Z Γ (zRm D μ) μ Φ 0 0 pc ls (.int y :: .int x :: st) M :=
  Z_mmax hd hw wst_max win_math wco_max hst hD (by show 64 ≤ 64 * D; omega) (Nat.zero_le _) (Nat.zero_le _) kk
theorem zCpi {k0 k1 n0 n1 : Nat} {f g : Nat → Int32} {sp dp n : Nat} (hD : 0 < D) (hd : decode μ.2.2.1 pc = .ok (.invokestatic idx, 3)) (hw : zCpW μ.1 idx) (hM0 : M[k0]? = some (.inl (0, n0, .inl f))) (hM1 : M[k1]? = some (.inl (0, n1, .inl g))) (h4 : sp + n ≤ n0) (h5 : dp + n ≤ n1) (hn0 : n0 < 2147483648) (hn1 : n1 < 2147483648) (hst : (st.map fun v => v.category).sum ≤ 8)
    (kk : Z Γ (zRm D μ) μ Φ 0 0 (pc + 3) ls st (M.set k1 (.inl (0, n1, .inl (va_cpy f g sp dp n))))) : Z Γ (zRm D μ) μ Φ 0 0 pc ls (.int (nI n) :: .int (nI dp) :: .ref k1 :: .int (nI sp) :: .ref k0 :: st) M := by
  have e1 := zn_cl (a := sp) (by omega)
  have e2 := zn_cl (a := dp) (by omega)
  have e3 := zn_cl (a := n) (by omega)
  exact Z_copyi hd hw hM0 hM1 (nI_pos (by omega)) (nI_pos (by omega)) (nI_pos (by omega)) (by rw [e1, e3]; exact h4) (by rw [e2, e3]; exact h5) hst hD (by show 64 ≤ 64 * D; omega) (by rw [e1, e2, e3]; exact kk)
theorem zCpl {k0 k1 n0 n1 : Nat} {f g : Nat → Int64} {sp dp n : Nat} (hD : 0 < D) (hd : decode μ.2.2.1 pc = .ok (.invokestatic idx, 3)) (hw : zCpW μ.1 idx) (hM0 : M[k0]? = some (.inl (1, n0, .inr (.inl f)))) (hM1 : M[k1]? = some (.inl (1, n1, .inr (.inl g)))) (h4 : sp + n ≤ n0) (h5 : dp + n ≤ n1) (hn0 : n0 < 2147483648) (hn1 : n1 < 2147483648) (hst : (st.map fun v => v.category).sum ≤ 8)
    (kk : Z Γ (zRm D μ) μ Φ 0 0 (pc + 3) ls st (M.set k1 (.inl (1, n1, .inr (.inl (va_cpy f g sp dp n)))))) : Z Γ (zRm D μ) μ Φ 0 0 pc ls (.int (nI n) :: .int (nI dp) :: .ref k1 :: .int (nI sp) :: .ref k0 :: st) M := by
  have e1 := zn_cl (a := sp) (by omega)
  have e2 := zn_cl (a := dp) (by omega)
  have e3 := zn_cl (a := n) (by omega)
  exact Z_copyl hd hw hM0 hM1 (nI_pos (by omega)) (nI_pos (by omega)) (nI_pos (by omega)) (by rw [e1, e3]; exact h4) (by rw [e2, e3]; exact h5) hst hD (by show 64 ≤ 64 * D; omega) (by rw [e1, e2, e3]; exact kk)
end ZM2
