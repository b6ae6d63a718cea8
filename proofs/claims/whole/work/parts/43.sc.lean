/-! the calls of StatuteConsolidator -/
def ScO (M : List zE) (sv : Bool) : Prop := M[0]? = some (.inr (6, [.ref 1, .ref 47, .int (bI sv), .ref 93, .ref 95, .ref 103, .ref 113]))
theorem ScO.fr {M M1 : List zE} {sv : Bool} {lo w : Nat} (h : ScO M sv) (hf : zFr M M1 lo w) (hd : 1 ≤ lo) : ScO M1 sv := by unfold ScO; rw [hf.2 _ (by omega)]; exact h
theorem i32_nn {x : Int32} (h : ¬ x < 0) : x = nI x.toNatClampNeg ∧ x.toNatClampNeg < 2147483648 := by
  have h1 : 0 ≤ x.toInt := by
    rw [Int32.lt_iff_toInt_lt] at h
    have h0 : (0 : Int32).toInt = 0 := by decide
    omega
  have h2 : x.toInt < 2147483648 := by have := Int32.toInt_lt x; omega
  have h3 : x.toNatClampNeg = x.toInt.toNat := rfl
  refine ⟨?_, by omega⟩
  apply Int32.toInt_inj.mp
  rw [nI_toInt (by omega)]
  omega
def hasP (n : Nat) (x : Int32) : Bool := decide (¬ x < 0 ∧ x.toNatClampNeg < n)
theorem hasP_t {n : Nat} {x : Int32} (h : hasP n x = true) : ∃ j, j < n ∧ j < 2147483648 ∧ x = nI j := by
  have h := of_decide_eq_true h
  exact ⟨x.toNatClampNeg, h.2, (i32_nn h.1).2, (i32_nn h.1).1⟩
theorem hasP_neg {n : Nat} {x : Int32} (h : x < 0) : hasP n x = false := decide_eq_false (fun z => z.1 h)
theorem hasP_nI {n j : Nat} (h : j < 2147483648) : hasP n (nI j) = decide (j < n) := by
  unfold hasP
  rw [zn_cl h]
  have := nI_pos h
  simp [this]
theorem sta_has {Γ : zCtx} {M : List zE} (d : Nat) {b n m : Nat} {e : Nat → zEnt} {rc : Nat → Nat} {tg : Nat → Nat → Nat} {dy sz kd pt gl : Nat → Nat} {tx : Nat → Int32} (hS : StAt M b n e rc tg m dy sz kd pt gl tx) (hb : b ≤ 1000) (hn : n ≤ 30) (x : Int32) : ZM Γ (d + 1) m_sta_hasProvision [.ref b, .int x] M (zEq M (some (.int (nI (if hasP n x = true then 1 else 0))))) := by
  by_cases h : x < 0
  · rw [hasP_neg h, if_neg (by decide)]; exact sta_hasProvision_neg d h
  · obtain ⟨h1, h2⟩ := i32_nn h
    generalize x.toNatClampNeg = j at h1 h2
    subst h1
    rw [hasP_nI h2]
    have := sta_hasProvision_ok d hS hb hn h2 (Γ := Γ)
    by_cases hj : j < n
    · rw [if_pos hj] at this; rw [if_pos (decide_eq_true hj)]; exact this
    · rw [if_neg hj] at this; rw [if_neg (by simpa using hj)]; exact this
theorem am_hasX {Γ : zCtx} {M : List zE} (d : Nat) {b m : Nat} {dy sz kd pt gl : Nat → Nat} {tx : Nat → Int32} (hP : AmAt M b m dy sz kd pt gl tx) (hm : m ≤ 8) (x : Int32) : ZM Γ (d + 1) m_am_has [.ref b, .int x] M (zEq M (some (.int (nI (if hasP m x = true then 1 else 0))))) := by
  by_cases h : x < 0
  · rw [hasP_neg h, if_neg (by decide)]; exact am_has_neg d h
  · obtain ⟨h1, h2⟩ := i32_nn h
    generalize x.toNatClampNeg = j at h1 h2
    subst h1
    rw [hasP_nI h2]
    have := am_has_ok d hP hm h2 (Γ := Γ)
    by_cases hj : j < m
    · rw [if_pos hj] at this; rw [if_pos (decide_eq_true hj)]; exact this
    · rw [if_neg hj] at this; rw [if_neg (by simpa using hj)]; exact this
theorem pv_hasX {Γ : zCtx} {M : List zE} (d : Nat) {b n : Nat} {e : Nat → zEnt} (hP : PvAt M b n e) (hn : n ≤ 60) (x : Int32) : ZM Γ (d + 1) m_pv_has [.ref b, .int x] M (zEq M (some (.int (nI (if hasP n x = true then 1 else 0))))) := by
  by_cases h : x < 0
  · rw [hasP_neg h, if_neg (by decide)]; exact pv_has_neg d h
  · obtain ⟨h1, h2⟩ := i32_nn h
    generalize x.toNatClampNeg = j at h1 h2
    subst h1
    rw [hasP_nI h2]
    have := pv_has_ok d hP hn h2 (Γ := Γ)
    by_cases hj : j < n
    · rw [if_pos hj] at this; rw [if_pos (decide_eq_true hj)]; exact this
    · rw [if_neg hj] at this; rw [if_neg (by simpa using hj)]; exact this
theorem sta_rcX {Γ : zCtx} {M : List zE} (d : Nat) {b n m : Nat} {e : Nat → zEnt} {rc : Nat → Nat} {tg : Nat → Nat → Nat} {dy sz kd pt gl : Nat → Nat} {tx : Nat → Int32} (hS : StAt M b n e rc tg m dy sz kd pt gl tx) (hb : b ≤ 1000) (hn : n ≤ 30) (x : Int32) : ZM Γ (d + 2) m_sta_referenceCountOf [.ref b, .int x] M (zEq M (some (.int (nI (if hasP n x = true then rc x.toNatClampNeg else 0))))) := by
  by_cases h : x < 0
  · rw [hasP_neg h, if_neg (by decide)]; exact sta_referenceCountOf_neg d hS hb hn h
  · obtain ⟨h1, h2⟩ := i32_nn h
    generalize x.toNatClampNeg = j at h1 h2
    subst h1
    rw [hasP_nI h2]
    have := sta_referenceCountOf_ok d hS hb hn h2 (Γ := Γ)
    by_cases hj : j < n
    · rw [if_pos hj] at this; rw [if_pos (decide_eq_true hj)]; exact this
    · rw [if_neg hj] at this; rw [if_neg (by simpa using hj)]; exact this
def refX (f : Bool) (l : Nat) (x : Int32) : Int32 := if f = true then (if hasP l x = true then nI 0 else -12) else -11
theorem sh_refX {Γ : zCtx} {M : List zE} (d : Nat) {fl : Nat → Bool} {ty ln : Nat → Nat} {el : Nat → Nat → Int32} (hP : ShAt M fl ty ln el) {s : Nat} (hs : s < 3) (hl : ln s ≤ 10) (x : Int32) : ZM Γ (d + 1) m_sh_refusalOf [.ref 95, .int (nI s), .int x] M (zEq M (some (.int (refX (fl s) (ln s) x)))) := by
  unfold refX
  by_cases h : x < 0
  · rw [hasP_neg h, if_neg (show ¬ (false = true) by decide)]; exact sh_refusalOf_neg d hP hs h
  · obtain ⟨h1, h2⟩ := i32_nn h
    generalize x.toNatClampNeg = j at h1 h2
    subst h1
    rw [hasP_nI h2]
    have := sh_refusalOf_ok d hP hs hl h2 (Γ := Γ)
    unfold refu at this
    by_cases hj : j < ln s
    · rw [if_pos hj] at this; rw [if_pos (decide_eq_true hj)]; exact this
    · rw [if_neg hj] at this; rw [if_neg (show ¬ decide (j < ln s) = true by simpa using hj)]; exact this
def tOk (x : Int32) : Bool := decide (¬ x < 0 ∧ x ≤ 9999)
theorem tOk_t {x : Int32} (h : tOk x = true) : ∃ j, j ≤ 9999 ∧ x = nI j := by
  have h := of_decide_eq_true h
  obtain ⟨h1, h2⟩ := i32_nn h.1
  refine ⟨x.toNatClampNeg, ?_, h1⟩
  have h3 := h.2
  rw [Int32.le_iff_toInt_le] at h3
  have h4 : (9999 : Int32).toInt = 9999 := by decide
  have h5 : x.toInt = (x.toNatClampNeg : Int) := (congrArg Int32.toInt h1).trans (nI_toInt h2)
  omega
set_option maxHeartbeats 4000000 in
theorem sc_isText_ok {Γ : zCtx} {M : List zE} (d : Nat) (x : Int32) : ZM Γ (d + 1) m_sc_isText [.int x] M (zEq M (some (.int (nI (if tOk x = true then 1 else 0))))) := by
  refine ZM.of mk_sc_isText (Nat.le_of_ble_eq_true rfl) ?_
  refine Z_iload_n d_sc_isText_0 rfl ?_
  refine Z_if_lt (tgt := 15) d_sc_isText_1 (by decide) (fun h1 => ?_) (fun h1 => ?_)
  · skip
    refine Zn_iconst (nI 0) d_sc_isText_15 (by decide) ?_
    refine Z_zret d_sc_isText_16 rfl rfl ?_
    refine ⟨rfl, ?_⟩
    unfold tOk
    first | (rw [if_pos (decide_eq_true ⟨h1, Int32.not_lt.mp h8⟩)]; done) | (rw [if_neg (fun z => (of_decide_eq_true z).1 h1)]; done) | (rw [if_neg (fun z => absurd (of_decide_eq_true z).2 (Int32.not_le.mpr h8))]; done)
  · skip
    refine Z_iload_n d_sc_isText_4 rfl ?_
    refine Zn_sipush (nI 9999) d_sc_isText_5 (by decide) ?_
    refine Z_icmp_gt (tgt := 15) d_sc_isText_8 (by decide) (fun h8 => ?_) (fun h8 => ?_)
    · skip
      refine Zn_iconst (nI 0) d_sc_isText_15 (by decide) ?_
      refine Z_zret d_sc_isText_16 rfl rfl ?_
      refine ⟨rfl, ?_⟩
      unfold tOk
      first | (rw [if_pos (decide_eq_true ⟨h1, Int32.not_lt.mp h8⟩)]; done) | (rw [if_neg (fun z => (of_decide_eq_true z).1 h1)]; done) | (rw [if_neg (fun z => absurd (of_decide_eq_true z).2 (Int32.not_le.mpr h8))]; done)
    · skip
      refine Zn_iconst (nI 1) d_sc_isText_11 (by decide) ?_
      refine Z_goto (tgt := 16) d_sc_isText_12 (by decide) ?_
      refine Z_zret d_sc_isText_16 rfl rfl ?_
      refine ⟨rfl, ?_⟩
      unfold tOk
      first | (rw [if_pos (decide_eq_true ⟨h1, Int32.not_lt.mp h8⟩)]; done) | (rw [if_neg (fun z => (of_decide_eq_true z).1 h1)]; done) | (rw [if_neg (fun z => absurd (of_decide_eq_true z).2 (Int32.not_le.mpr h8))]; done)
set_option maxHeartbeats 4000000 in
theorem sc_isCommencementDay_ok {Γ : zCtx} {M : List zE} (d : Nat) (x : Int32) : ZM Γ (d + 1) m_sc_isCommencementDay [.int x] M (zEq M (some (.int (nI (if tOk x = true then 1 else 0))))) := by
  refine ZM.of mk_sc_isCommencementDay (Nat.le_of_ble_eq_true rfl) ?_
  refine Z_iload_n d_sc_isCommencementDay_0 rfl ?_
  refine Z_if_lt (tgt := 15) d_sc_isCommencementDay_1 (by decide) (fun h1 => ?_) (fun h1 => ?_)
  · skip
    refine Zn_iconst (nI 0) d_sc_isCommencementDay_15 (by decide) ?_
    refine Z_zret d_sc_isCommencementDay_16 rfl rfl ?_
    refine ⟨rfl, ?_⟩
    unfold tOk
    first | (rw [if_pos (decide_eq_true ⟨h1, Int32.not_lt.mp h8⟩)]; done) | (rw [if_neg (fun z => (of_decide_eq_true z).1 h1)]; done) | (rw [if_neg (fun z => absurd (of_decide_eq_true z).2 (Int32.not_le.mpr h8))]; done)
  · skip
    refine Z_iload_n d_sc_isCommencementDay_4 rfl ?_
    refine Zn_sipush (nI 9999) d_sc_isCommencementDay_5 (by decide) ?_
    refine Z_icmp_gt (tgt := 15) d_sc_isCommencementDay_8 (by decide) (fun h8 => ?_) (fun h8 => ?_)
    · skip
      refine Zn_iconst (nI 0) d_sc_isCommencementDay_15 (by decide) ?_
      refine Z_zret d_sc_isCommencementDay_16 rfl rfl ?_
      refine ⟨rfl, ?_⟩
      unfold tOk
      first | (rw [if_pos (decide_eq_true ⟨h1, Int32.not_lt.mp h8⟩)]; done) | (rw [if_neg (fun z => (of_decide_eq_true z).1 h1)]; done) | (rw [if_neg (fun z => absurd (of_decide_eq_true z).2 (Int32.not_le.mpr h8))]; done)
    · skip
      refine Zn_iconst (nI 1) d_sc_isCommencementDay_11 (by decide) ?_
      refine Z_goto (tgt := 16) d_sc_isCommencementDay_12 (by decide) ?_
      refine Z_zret d_sc_isCommencementDay_16 rfl rfl ?_
      refine ⟨rfl, ?_⟩
      unfold tOk
      first | (rw [if_pos (decide_eq_true ⟨h1, Int32.not_lt.mp h8⟩)]; done) | (rw [if_neg (fun z => (of_decide_eq_true z).1 h1)]; done) | (rw [if_neg (fun z => absurd (of_decide_eq_true z).2 (Int32.not_le.mpr h8))]; done)
theorem lt_nI {x : Int32} {n : Nat} (hx : ¬ x < 0) (hn : n < 2147483648) : x < nI n ↔ x.toNatClampNeg < n := by
  obtain ⟨h1, h2⟩ := i32_nn hx
  generalize x.toNatClampNeg = j at h1 h2
  subst h1
  exact zn_lt h2 hn
set_option maxHeartbeats 4000000 in
theorem sc_isShelf_ok {Γ : zCtx} {M : List zE} (d : Nat) (x : Int32) : ZM Γ (d + 1) m_sc_isShelf [.int x] M (zEq M (some (.int (nI (if hasP 3 x = true then 1 else 0))))) := by
  refine ZM.of mk_sc_isShelf (Nat.le_of_ble_eq_true rfl) ?_
  refine Z_iload_n d_sc_isShelf_0 rfl ?_
  refine Z_if_lt (tgt := 13) d_sc_isShelf_1 (by decide) (fun h1 => ?_) (fun h1 => ?_)
  · skip
    refine Zn_iconst (nI 0) d_sc_isShelf_13 (by decide) ?_
    refine Z_zret d_sc_isShelf_14 rfl rfl ?_
    refine ⟨rfl, ?_⟩
    unfold hasP
    first | (rw [if_pos (decide_eq_true ⟨h1, (lt_nI h1 (by decide)).mp (Int32.not_le.mp h6)⟩)]; done) | (rw [if_neg (fun z => (of_decide_eq_true z).1 h1)]; done) | (rw [if_neg (fun z => absurd ((lt_nI (n := 3) h1 (by decide)).mpr (of_decide_eq_true z).2) (Int32.not_lt.mpr h6))]; done)
  · skip
    refine Z_iload_n d_sc_isShelf_4 rfl ?_
    refine Zn_iconst (nI 3) d_sc_isShelf_5 (by decide) ?_
    refine Z_icmp_ge (tgt := 13) d_sc_isShelf_6 (by decide) (fun h6 => ?_) (fun h6 => ?_)
    · skip
      refine Zn_iconst (nI 0) d_sc_isShelf_13 (by decide) ?_
      refine Z_zret d_sc_isShelf_14 rfl rfl ?_
      refine ⟨rfl, ?_⟩
      unfold hasP
      first | (rw [if_pos (decide_eq_true ⟨h1, (lt_nI h1 (by decide)).mp (Int32.not_le.mp h6)⟩)]; done) | (rw [if_neg (fun z => (of_decide_eq_true z).1 h1)]; done) | (rw [if_neg (fun z => absurd ((lt_nI (n := 3) h1 (by decide)).mpr (of_decide_eq_true z).2) (Int32.not_lt.mpr h6))]; done)
    · skip
      refine Zn_iconst (nI 1) d_sc_isShelf_9 (by decide) ?_
      refine Z_goto (tgt := 14) d_sc_isShelf_10 (by decide) ?_
      refine Z_zret d_sc_isShelf_14 rfl rfl ?_
      refine ⟨rfl, ?_⟩
      unfold hasP
      first | (rw [if_pos (decide_eq_true ⟨h1, (lt_nI h1 (by decide)).mp (Int32.not_le.mp h6)⟩)]; done) | (rw [if_neg (fun z => (of_decide_eq_true z).1 h1)]; done) | (rw [if_neg (fun z => absurd ((lt_nI (n := 3) h1 (by decide)).mpr (of_decide_eq_true z).2) (Int32.not_lt.mpr h6))]; done)
