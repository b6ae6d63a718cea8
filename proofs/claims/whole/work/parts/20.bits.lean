/-! bits of longs (wb_ rows: the kit's text to paste) -/
theorem wb_tb (n : Nat) : (lN n).toBitVec = BitVec.ofNat 64 n := rfl
theorem wb_inj {a b : Int64} (h : a.toBitVec = b.toBitVec) : a = b := Int64.toBitVec_inj.mp h
theorem wb_tn {n : Nat} (h : n < 2 ^ 64) : (lN n).toBitVec.toNat = n := by rw [wb_tb, BitVec.toNat_ofNat, Nat.mod_eq_of_lt h]
theorem wb_c : ∀ k, k < 64 → ((nI k).toInt64 &&& 63) = lN k := by decide +kernel
theorem wb_sm : ∀ k, k < 64 → (BitVec.ofNat 64 k).smod 64 = BitVec.ofNat 64 k := by decide +kernel
theorem wb_pw {a b : Nat} (h : a ≤ b) : 2 ^ b = 2 ^ a * 2 ^ (b - a) := by rw [← Nat.pow_add]; congr 1; omega
theorem wb_lt2 {a b : Nat} (h : a < b) : 2 ^ a < 2 ^ b := Nat.pow_lt_pow_right (by decide) h
theorem wb_shl (n : Nat) {k : Nat} (hk : k < 64) : lN n <<< ((nI k).toInt64 &&& 63) = lN (n * 2 ^ k) := by
  rw [wb_c k hk]
  apply wb_inj
  rw [Int64.toBitVec_shiftLeft, wb_tb, wb_tb, wb_tb, wb_sm k hk]
  apply BitVec.eq_of_toNat_eq
  rw [BitVec.shiftLeft_eq', BitVec.toNat_shiftLeft, BitVec.toNat_ofNat, BitVec.toNat_ofNat, BitVec.toNat_ofNat, Nat.mod_eq_of_lt (show k < 2 ^ 64 by omega), Nat.shiftLeft_eq, Nat.mul_mod, Nat.mod_mod, ← Nat.mul_mod]
theorem wb_and {a b : Nat} (ha : a < 2 ^ 64) (hb : b < 2 ^ 64) : lN a &&& lN b = lN (a &&& b) := by
  apply wb_inj
  rw [Int64.toBitVec_and, wb_tb, wb_tb, wb_tb]
  apply BitVec.eq_of_toNat_eq
  rw [BitVec.toNat_and, BitVec.toNat_ofNat, BitVec.toNat_ofNat, BitVec.toNat_ofNat, Nat.mod_eq_of_lt ha, Nat.mod_eq_of_lt hb, Nat.mod_eq_of_lt (Nat.and_lt_two_pow _ hb)]
theorem wb_or {a b : Nat} (ha : a < 2 ^ 64) (hb : b < 2 ^ 64) : lN a ||| lN b = lN (a ||| b) := by
  apply wb_inj
  rw [Int64.toBitVec_or, wb_tb, wb_tb, wb_tb]
  apply BitVec.eq_of_toNat_eq
  rw [BitVec.toNat_or, BitVec.toNat_ofNat, BitVec.toNat_ofNat, BitVec.toNat_ofNat, Nat.mod_eq_of_lt ha, Nat.mod_eq_of_lt hb, Nat.mod_eq_of_lt (Nat.or_lt_two_pow ha hb)]
theorem wb_mask {n k : Nat} (hn : n < 2 ^ 64) (hk : k < 64) : lN n &&& lN (2 ^ k - 1) = lN (n % 2 ^ k) := by
  rw [wb_and hn (by have := wb_lt2 hk; omega), Nat.and_two_pow_sub_one_eq_mod]
theorem zb_shr {n k : Nat} (hn : n < 2 ^ 63) (hk : k < 64) : lN n >>> ((nI k).toInt64 &&& 63) = lN (n / 2 ^ k) := by
  rw [wb_c k hk]
  apply Int64.toInt_inj.mp
  have h2 : n / 2 ^ k ≤ n := Nat.div_le_self _ _
  have h3 : (lN n >>> lN k).toInt = (lN n).toInt >>> k := by
    show ((lN n).toBitVec.sshiftRight ((lN k).toBitVec.smod 64).toNat).toInt = _
    rw [wb_tb k, wb_sm k hk, BitVec.toNat_ofNat, Nat.mod_eq_of_lt (show k < 2 ^ 64 by omega), BitVec.toInt_sshiftRight]
    rfl
  rw [h3, pk_lT hn, pk_lT (by omega), Int.shiftRight_eq_div_pow]
  rfl
theorem zb_andN {n C s t : Nat} (hn : n < 2 ^ 64) (hst : s ≤ t) (hC : ∀ i, i < 64 → C.testBit i = (decide (i < s) || decide (t ≤ i))) : n &&& C = 2 ^ t * (n / 2 ^ t) + n % 2 ^ s := by
  apply Nat.eq_of_testBit_eq
  intro i
  have hlt : n % 2 ^ s < 2 ^ t := Nat.lt_of_lt_of_le (Nat.mod_lt _ (Nat.two_pow_pos s)) (Nat.pow_le_pow_right (by decide) hst)
  rw [Nat.testBit_and, Nat.testBit_two_pow_mul_add _ hlt, Nat.testBit_mod_two_pow, Nat.testBit_div_two_pow]
  by_cases h64 : i < 64
  · rw [hC i h64]
    by_cases h1 : i < t
    · simp only [h1, if_true, show ¬ t ≤ i by omega, decide_false, Bool.or_false]
      rw [Bool.and_comm]
    · simp only [h1, if_false, show t ≤ i by omega, decide_true, Bool.or_true, Bool.and_true]
      congr 1
      omega
  · have h0 : n.testBit i = false := Nat.testBit_lt_two_pow (Nat.lt_of_lt_of_le hn (Nat.pow_le_pow_right (by decide) (by omega)))
    rw [h0]
    by_cases h1 : i < t
    · simp [h1]
    · simp only [h1, if_false, Bool.false_and]
      rw [show i - t + t = i by omega]
      exact h0.symm
theorem zb_orN {a b lo s t : Nat} (hlo : lo < 2 ^ s) (hb : b * 2 ^ s + lo < 2 ^ t) : (2 ^ t * a + lo) ||| (b * 2 ^ s) = 2 ^ t * a + (b * 2 ^ s + lo) := by
  have h1 : lo < 2 ^ t := by omega
  rw [Nat.two_pow_add_eq_or_of_lt h1, Nat.or_assoc, Nat.or_comm lo, Nat.mul_comm b, ← Nat.two_pow_add_eq_or_of_lt hlo, ← Nat.two_pow_add_eq_or_of_lt (by rw [Nat.mul_comm]; exact hb)]
theorem zb_m21 : (2097151 : Int64) = lN (2 ^ 21 - 1) := by decide +kernel
theorem zb_m42 : (4398046511103 : Int64) = lN (2 ^ 42 - 1) := by decide +kernel
theorem zb_c21 : (-2097152 : Int64) = lN (2 ^ 64 - 2 ^ 21) := by decide +kernel
theorem zb_c42 : (-4398046511104 : Int64) = lN (2 ^ 64 - 2 ^ 42) := by decide +kernel
theorem zb_t21 : ∀ i, i < 64 → (2 ^ 64 - 2 ^ 21).testBit i = (decide (i < 0) || decide (21 ≤ i)) := by decide +kernel
theorem zb_t42 : ∀ i, i < 64 → (2 ^ 64 - 2 ^ 42).testBit i = (decide (i < 0) || decide (42 ≤ i)) := by decide +kernel
theorem zb_u0 : ∀ i, i < 64 → (2 ^ 64 - 1 - (2 ^ 21 - 1)).testBit i = (decide (i < 0) || decide (21 ≤ i)) := by decide +kernel
theorem zb_u21 : ∀ i, i < 64 → (2 ^ 64 - 1 - (2 ^ 21 - 1) * 2 ^ 21).testBit i = (decide (i < 21) || decide (42 ≤ i)) := by decide +kernel
theorem zb_u42 : ∀ i, i < 64 → (2 ^ 64 - 1 - (2 ^ 21 - 1) * 2 ^ 42).testBit i = (decide (i < 42) || decide (63 ≤ i)) := by decide +kernel
theorem zb_lo21 {n : Nat} (hn : n < 2 ^ 63) : lN n &&& 2097151 = lN (n % 2097152) := by
  rw [zb_m21, wb_mask (by omega) (by decide)]
theorem zb_lo42 {n : Nat} (hn : n < 2 ^ 63) : lN n &&& 4398046511103 = lN (n % 4398046511104) := by
  rw [zb_m42, wb_mask (by omega) (by decide)]
theorem zb_hi21 {n : Nat} (hn : n < 2 ^ 63) : lN n &&& (-2097152) = lN (n - n % 2097152) := by
  rw [zb_c21, wb_and (by omega) (by decide), zb_andN (s := 0) (t := 21) (by omega) (by decide) zb_t21]
  congr 1
  omega
theorem zb_hi42 {n : Nat} (hn : n < 2 ^ 63) : lN n &&& (-4398046511104) = lN (n - n % 4398046511104) := by
  rw [zb_c42, wb_and (by omega) (by decide), zb_andN (s := 0) (t := 42) (by omega) (by decide) zb_t42]
  congr 1
  omega
/-- a label put at its place -/
theorem zb_put {n b s : Nat} {C : Nat} (hn : n < 2 ^ 63) (hb : b < 2 ^ 21) (hs : s ≤ 42) (hCb : C < 2 ^ 64) (hC : ∀ i, i < 64 → C.testBit i = (decide (i < s) || decide (s + 21 ≤ i))) : (lN n &&& lN C) ||| lN (b * 2 ^ s) = lN (2 ^ (s + 21) * (n / 2 ^ (s + 21)) + (b * 2 ^ s + n % 2 ^ s)) := by
  have hlo : n % 2 ^ s < 2 ^ s := Nat.mod_lt _ (Nat.two_pow_pos s)
  have hm : b * 2 ^ s + n % 2 ^ s < 2 ^ (s + 21) := by
    rw [Nat.pow_add, Nat.mul_comm (2 ^ s)]
    have h1 : (b + 1) * 2 ^ s ≤ 2 ^ 21 * 2 ^ s := Nat.mul_le_mul_right _ (by omega)
    rw [Nat.add_mul, Nat.one_mul] at h1
    omega
  have hm2 : 2 ^ (s + 21) ≤ 2 ^ 63 := Nat.pow_le_pow_right (by decide) (by omega)
  have hN : 2 ^ (s + 21) * (n / 2 ^ (s + 21)) ≤ n := Nat.mul_div_le _ _
  rw [wb_and (by omega) hCb, zb_andN (by omega) (by omega) hC, wb_or (by omega) (by omega), zb_orN hlo hm]
