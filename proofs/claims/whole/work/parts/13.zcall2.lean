/-! calls of methods that make nothing, from methods that have made nothing -/
def zEq (M : List zE) (r : Option Value) : List zE → Option Value → Prop := fun M1 v => M1 = M ∧ v = r
theorem zn_dec {a n : Nat} (h : n ≤ a) : nI a + Int32.ofInt (-(n : Int)) = nI (a - n) := by
  have h1 : Int32.ofInt (-(n : Int)) = - nI n := by
    rw [show nI n = Int32.ofInt (n : Int) from rfl, ← Int32.ofInt_neg]
  rw [h1, ← Int32.sub_eq_add_neg, pk_sub h]
section ZC2
variable {Γ : zCtx} {μ μ' : zMe} {Φ : zPhi} {pc D d idx k : Nat} {ls : List (Option Value)} {st As : List Value} {M : List zE} {Q1 : List zE → Option Value → Prop} {r : Option Value}
theorem zT (hD : d < D) (hd : decode μ.2.2.1 pc = .ok (.invokestatic idx, 3)) (hL : zLt μ.1 idx As.length μ') (h0 : μ'.2.2.2.2.2 = (0, 0)) (hst : (st.map fun v => v.category).sum ≤ 8) (hM : ZM Γ d μ' As M Q1)
    (kk : ∀ (M1 : List zE) (v : Option Value), Q1 M1 v → M1.length = M.length → Z Γ (zRm D μ) μ Φ 0 0 (pc + 3) ls (v.toList ++ st) M1) : Z Γ (zRm D μ) μ Φ 0 0 pc ls (As.reverse ++ st) M := by
  have e1 : μ'.2.2.2.2.2.1 = 0 := by rw [h0]
  have e2 : μ'.2.2.2.2.2.2 = 0 := by rw [h0]
  refine Z_callT hd hL hM hst hD (Nat.mul_le_mul_left 64 hD) (by rw [e1]; exact Nat.zero_le _) (by rw [e2]; exact Nat.zero_le _) (fun M1 v hq hl => ?_)
  rw [e1] at hl ⊢
  rw [e2]
  exact kk M1 v hq hl
theorem zTe (hD : d < D) (hd : decode μ.2.2.1 pc = .ok (.invokestatic idx, 3)) (hL : zLt μ.1 idx As.length μ') (h0 : μ'.2.2.2.2.2 = (0, 0)) (hst : (st.map fun v => v.category).sum ≤ 8) (hM : ZM Γ d μ' As M (zEq M r))
    (kk : Z Γ (zRm D μ) μ Φ 0 0 (pc + 3) ls (r.toList ++ st) M) : Z Γ (zRm D μ) μ Φ 0 0 pc ls (As.reverse ++ st) M :=
  zT hD hd hL h0 hst hM (fun M1 v hq _ => by obtain ⟨rfl, rfl⟩ := hq; exact kk)
theorem zV {ci N : Nat} {T0 : u_T} {fs : List Value} (hD : d < D) (hd : decode μ.2.2.1 pc = .ok (.invokevirtual idx, 3)) (hL : zLv μ.1 idx As.length μ') (hMk : M[k]? = some (.inr (ci, fs))) (hcl : zCl[ci]? = some (μ'.2.1.cls, T0, N)) (h0 : μ'.2.2.2.2.2 = (0, 0)) (hst : (st.map fun v => v.category).sum ≤ 8) (hM : ZM Γ d μ' (.ref k :: As) M Q1)
    (kk : ∀ (M1 : List zE) (v : Option Value), Q1 M1 v → M1.length = M.length → Z Γ (zRm D μ) μ Φ 0 0 (pc + 3) ls (v.toList ++ st) M1) : Z Γ (zRm D μ) μ Φ 0 0 pc ls (As.reverse ++ .ref k :: st) M := by
  have e1 : μ'.2.2.2.2.2.1 = 0 := by rw [h0]
  have e2 : μ'.2.2.2.2.2.2 = 0 := by rw [h0]
  refine Z_callV hd hL hMk hcl hM hst hD (Nat.mul_le_mul_left 64 hD) (by rw [e1]; exact Nat.zero_le _) (by rw [e2]; exact Nat.zero_le _) (fun M1 v hq hl => ?_)
  rw [e1] at hl ⊢
  rw [e2]
  exact kk M1 v hq hl
theorem zVe {ci N : Nat} {T0 : u_T} {fs : List Value} (hD : d < D) (hd : decode μ.2.2.1 pc = .ok (.invokevirtual idx, 3)) (hL : zLv μ.1 idx As.length μ') (hMk : M[k]? = some (.inr (ci, fs))) (hcl : zCl[ci]? = some (μ'.2.1.cls, T0, N)) (h0 : μ'.2.2.2.2.2 = (0, 0)) (hst : (st.map fun v => v.category).sum ≤ 8) (hM : ZM Γ d μ' (.ref k :: As) M (zEq M r))
    (kk : Z Γ (zRm D μ) μ Φ 0 0 (pc + 3) ls (r.toList ++ st) M) : Z Γ (zRm D μ) μ Φ 0 0 pc ls (As.reverse ++ .ref k :: st) M :=
  zV hD hd hL hMk hcl h0 hst hM (fun M1 v hq _ => by obtain ⟨rfl, rfl⟩ := hq; exact kk)
end ZC2
