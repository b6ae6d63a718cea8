/-! keywords -/
def mtl (len : Nat) (ch : Nat → Nat) : Nat → List Nat → Nat
  | _, [] => 0
  | p, c :: t => if tk len ch p c = true then 1 + mtl len ch (p + 1) t else 0
theorem mtl_le {len : Nat} {ch : Nat → Nat} : ∀ (w : List Nat) (p : Nat), mtl len ch p w ≤ w.length ∧ (p ≤ len → p + mtl len ch p w ≤ len)
  | [], p => by simp [mtl]
  | c :: t, p => by
    have ih := mtl_le (len := len) (ch := ch) t (p + 1)
    unfold mtl
    by_cases h : tk len ch p c = true
    · have g := tk_iff.mp h
      rw [if_pos h]
      refine ⟨by simp; omega, fun _ => by have := ih.2 (by omega); omega⟩
    · rw [if_neg h]; simp
theorem mtl_stop {len : Nat} {ch : Nat → Nat} : ∀ (w : List Nat) (p t : Nat), (∀ j, j < t → tk len ch (p + j) (w.getD j 0) = true) → t ≤ w.length → (t < w.length → tk len ch (p + t) (w.getD t 0) = false) → mtl len ch p w = t
  | [], p, t, h, ht, hs => by simp at ht; simp [mtl, ht]
  | c :: w, p, 0, h, ht, hs => by
    have := hs (by simp)
    simp at this
    simp [mtl, this]
  | c :: w, p, t + 1, h, ht, hs => by
    have h0 := h 0 (by omega)
    simp at h0
    unfold mtl
    rw [if_pos h0, mtl_stop w (p + 1) t (fun j hj => ?_) (by simpa using ht) (fun hl => ?_)]
    · omega
    · have := h (j + 1) (by omega)
      rw [show p + 1 + j = p + (j + 1) by omega]; simpa using this
    · have := hs (by simpa using hl)
      rw [show p + 1 + t = p + (t + 1) by omega]; simpa using this
/-- the constant i spells w -/
def zWd (i : Nat) (w : List Nat) : Prop := ∃ q, zStr[i]? = some q ∧ q.2.2.2.length = w.length ∧ w.length ≤ 9 ∧ ∀ j, j < w.length → ((q.2.2.2.getD j 0 &&& nI 255).toUInt32 % 65536).toInt32 = nI (w.getD j 0) ∧ narrow .char (.int (nI (w.getD j 0))) = .int (nI (w.getD j 0)) ∧ w.getD j 0 < 127
def kw0 : List Nat := [105, 110, 115, 101, 114, 116]
def ks0 : List Nat := [105, 110, 115, 101, 114, 116, 32]
def kw1 : List Nat := [97, 100, 100]
def ks1 : List Nat := [97, 100, 100, 32]
def kw2 : List Nat := [114, 101, 112, 108, 97, 99, 101]
def ks2 : List Nat := [114, 101, 112, 108, 97, 99, 101, 32]
def kw3 : List Nat := [114, 101, 112, 101, 97, 108]
def ks3 : List Nat := [114, 101, 112, 101, 97, 108, 32]
def kw4 : List Nat := [109, 111, 118, 101]
def ks4 : List Nat := [109, 111, 118, 101, 32]
def kw5 : List Nat := [114, 101, 110, 117, 109, 98, 101, 114]
def ks5 : List Nat := [114, 101, 110, 117, 109, 98, 101, 114, 32]
theorem wd_0 : zWd 0 kw0 := ⟨_, rfl, rfl, by decide, by decide +kernel⟩
theorem wd_6 : zWd 6 ks0 := ⟨_, rfl, rfl, by decide, by decide +kernel⟩
theorem wd_1 : zWd 1 kw1 := ⟨_, rfl, rfl, by decide, by decide +kernel⟩
theorem wd_7 : zWd 7 ks1 := ⟨_, rfl, rfl, by decide, by decide +kernel⟩
theorem wd_2 : zWd 2 kw2 := ⟨_, rfl, rfl, by decide, by decide +kernel⟩
theorem wd_8 : zWd 8 ks2 := ⟨_, rfl, rfl, by decide, by decide +kernel⟩
theorem wd_3 : zWd 3 kw3 := ⟨_, rfl, rfl, by decide, by decide +kernel⟩
theorem wd_9 : zWd 9 ks3 := ⟨_, rfl, rfl, by decide, by decide +kernel⟩
theorem wd_4 : zWd 4 kw4 := ⟨_, rfl, rfl, by decide, by decide +kernel⟩
theorem wd_10 : zWd 10 ks4 := ⟨_, rfl, rfl, by decide, by decide +kernel⟩
theorem wd_5 : zWd 5 kw5 := ⟨_, rfl, rfl, by decide, by decide +kernel⟩
theorem wd_11 : zWd 11 ks5 := ⟨_, rfl, rfl, by decide, by decide +kernel⟩
set_option maxHeartbeats 4000000 in
theorem wd_len {Γ : zCtx} {M : List zE} (d : Nat) {i : Nat} {w : List Nat} (h : zWd i w) : ZM Γ (d + 2) m_js_length [.ref (1000001 + i)] M (zEq M (some (.int (nI w.length)))) := by
  obtain ⟨q, h1, h2, h3, h4⟩ := h
  rw [← h2]
  exact js_length_ok d h1 (by omega)
theorem wd_at {Γ : zCtx} {M : List zE} (d : Nat) {i j : Nat} {w : List Nat} (h : zWd i w) (hj : j < w.length) : ZM Γ (d + 4) m_js_charAt [.ref (1000001 + i), .int (nI j)] M (zEq M (some (.int (nI (w.getD j 0))))) := by
  obtain ⟨q, h1, h2, h3, h4⟩ := h
  exact js_charAt_ok d h1 (by omega) (by omega) (h4 j hj).1 (h4 j hj).2.1
theorem wd_12 {i : Nat} {w : List Nat} (h : zWd i w) : i < 12 := by obtain ⟨q, h1, _⟩ := h; exact zStr_lt h1
theorem wd_c {i : Nat} {w : List Nat} (h : zWd i w) : w.length ≤ 9 ∧ ∀ j, j < w.length → w.getD j 0 < 127 := by obtain ⟨q, h1, h2, h3, h4⟩ := h; exact ⟨h3, fun j hj => (h4 j hj).2.2⟩
set_option maxHeartbeats 4000000 in
theorem in_wordOf_0 {Γ : zCtx} {M : List zE} (d : Nat)  : ZM Γ (d + 1) m_inp_wordOf [.int (nI 0)] M (zEq M (some (.ref (1000001 + 0)))) := by
  refine ZM.of mk_inp_wordOf (Nat.le_of_ble_eq_true rfl) ?_
  refine Z_iload_n d_inp_wordOf_0 rfl ?_
  refine Z_tableIn (tgt := 36) (off := 35) d_inp_wordOf_1 (by decide) (by decide) (by decide) (by decide) ?_
  refine Z_ldcS (i := 0) rfl d_inp_wordOf_36 ?_
  refine Z_aret d_inp_wordOf_38 rfl (Or.inl ⟨_, rfl⟩) ?_
  exact ⟨rfl, rfl⟩
set_option maxHeartbeats 4000000 in
theorem in_wordOf_1 {Γ : zCtx} {M : List zE} (d : Nat)  : ZM Γ (d + 1) m_inp_wordOf [.int (nI 1)] M (zEq M (some (.ref (1000001 + 1)))) := by
  refine ZM.of mk_inp_wordOf (Nat.le_of_ble_eq_true rfl) ?_
  refine Z_iload_n d_inp_wordOf_0 rfl ?_
  refine Z_tableIn (tgt := 39) (off := 38) d_inp_wordOf_1 (by decide) (by decide) (by decide) (by decide) ?_
  refine Z_ldcS (i := 1) rfl d_inp_wordOf_39 ?_
  refine Z_aret d_inp_wordOf_41 rfl (Or.inl ⟨_, rfl⟩) ?_
  exact ⟨rfl, rfl⟩
set_option maxHeartbeats 4000000 in
theorem in_wordOf_2 {Γ : zCtx} {M : List zE} (d : Nat)  : ZM Γ (d + 1) m_inp_wordOf [.int (nI 2)] M (zEq M (some (.ref (1000001 + 2)))) := by
  refine ZM.of mk_inp_wordOf (Nat.le_of_ble_eq_true rfl) ?_
  refine Z_iload_n d_inp_wordOf_0 rfl ?_
  refine Z_tableIn (tgt := 42) (off := 41) d_inp_wordOf_1 (by decide) (by decide) (by decide) (by decide) ?_
  refine Z_ldcS (i := 2) rfl d_inp_wordOf_42 ?_
  refine Z_aret d_inp_wordOf_44 rfl (Or.inl ⟨_, rfl⟩) ?_
  exact ⟨rfl, rfl⟩
set_option maxHeartbeats 4000000 in
theorem in_wordOf_3 {Γ : zCtx} {M : List zE} (d : Nat)  : ZM Γ (d + 1) m_inp_wordOf [.int (nI 3)] M (zEq M (some (.ref (1000001 + 3)))) := by
  refine ZM.of mk_inp_wordOf (Nat.le_of_ble_eq_true rfl) ?_
  refine Z_iload_n d_inp_wordOf_0 rfl ?_
  refine Z_tableIn (tgt := 45) (off := 44) d_inp_wordOf_1 (by decide) (by decide) (by decide) (by decide) ?_
  refine Z_ldcS (i := 3) rfl d_inp_wordOf_45 ?_
  refine Z_aret d_inp_wordOf_47 rfl (Or.inl ⟨_, rfl⟩) ?_
  exact ⟨rfl, rfl⟩
set_option maxHeartbeats 4000000 in
theorem in_wordOf_4 {Γ : zCtx} {M : List zE} (d : Nat)  : ZM Γ (d + 1) m_inp_wordOf [.int (nI 4)] M (zEq M (some (.ref (1000001 + 4)))) := by
  refine ZM.of mk_inp_wordOf (Nat.le_of_ble_eq_true rfl) ?_
  refine Z_iload_n d_inp_wordOf_0 rfl ?_
  refine Z_tableIn (tgt := 48) (off := 47) d_inp_wordOf_1 (by decide) (by decide) (by decide) (by decide) ?_
  refine Z_ldcS (i := 4) rfl d_inp_wordOf_48 ?_
  refine Z_aret d_inp_wordOf_50 rfl (Or.inl ⟨_, rfl⟩) ?_
  exact ⟨rfl, rfl⟩
set_option maxHeartbeats 4000000 in
theorem in_wordOf_5 {Γ : zCtx} {M : List zE} (d : Nat)  : ZM Γ (d + 1) m_inp_wordOf [.int (nI 5)] M (zEq M (some (.ref (1000001 + 5)))) := by
  refine ZM.of mk_inp_wordOf (Nat.le_of_ble_eq_true rfl) ?_
  refine Z_iload_n d_inp_wordOf_0 rfl ?_
  refine Z_tableOut (tgt := 51) d_inp_wordOf_1 (by decide) (by decide) ?_
  refine Z_ldcS (i := 5) rfl d_inp_wordOf_51 ?_
  refine Z_aret d_inp_wordOf_53 rfl (Or.inl ⟨_, rfl⟩) ?_
  exact ⟨rfl, rfl⟩
set_option maxHeartbeats 4000000 in
theorem in_mtl_loop {Γ : zCtx} {M : List zE} (d : Nat) {len p : Nat} {ch : Nat → Nat} (hP : InAt M len p ch) (hO : inOk len p ch) {i : Nat} {w : List Nat} (hw : zWd i w) : ∀ (f t : Nat), t ≤ min w.length (len - p) → min w.length (len - p) < t + f → (∀ j, j < t → tk len ch (p + j) (w.getD j 0) = true) → ∀ Q : List zE → Option Value → Prop, Q M (some (.int (nI (mtl len ch p w)))) → Z Γ (zRm (d + 5) m_inp_matchingLength) m_inp_matchingLength (zPh Γ m_inp_matchingLength Q) 0 0 19 [some (.ref 93), some (.ref (1000001 + i)), some (.int (nI (min w.length (len - p)))), some (.int (nI t))] [] M := by
  intro f
  induction f with
  | zero => intro t h1 h2; exact absurd h2 (by omega)
  | succ f ih =>
    intro t h1 hf ht Q hQ
    obtain ⟨hO1, hO2, hO3⟩ := id hO
    have hwl := (wd_c hw).1
    refine Z_iload_n d_inp_matchingLength_19 rfl ?_
    refine Z_iload_n d_inp_matchingLength_20 rfl ?_
    refine Zn_icmp_ge (tgt := 49) d_inp_matchingLength_21 (by decide) (by omega) (by omega) (fun h21 => ?_) (fun h21 => ?_)
    · skip
      have hs : mtl len ch p w = t := mtl_stop w p t ht (by omega) (fun hl => by
        cases hh : tk len ch (p + t) (w.getD t 0) with
        | false => rfl
        | true => exact absurd (tk_iff.mp hh).1 (by omega))
      refine Z_iload_n d_inp_matchingLength_49 rfl ?_
      refine Z_iret d_inp_matchingLength_50 rfl ?_
      rw [hs] at hQ
      exact hQ
    · skip
      refine Z_aload_n d_inp_matchingLength_24 rfl ?_
      refine Z_get d_inp_matchingLength_25 lf_inp_9 hP.1 rfl ?_
      refine Z_aload_n d_inp_matchingLength_28 rfl ?_
      refine Z_get d_inp_matchingLength_29 lf_inp_15 hP.1 rfl ?_
      refine Z_iload_n d_inp_matchingLength_32 rfl ?_
      refine Zn_iadd d_inp_matchingLength_33 ?_
      have hcc := hO3 (p + t)
      refine Zn_iald d_inp_matchingLength_34 hP.2 (by omega) (by omega) ?_
      refine Z_aload_n d_inp_matchingLength_35 rfl ?_
      refine Z_iload_n d_inp_matchingLength_36 rfl ?_
      refine zStrE (As := [.int (nI t)]) (by omega) (wd_12 hw) d_inp_matchingLength_37 lm_inp_94 rfl rfl (Nat.le_of_ble_eq_true rfl) (wd_at d hw (by omega)) ?_
      have hcw := (wd_c hw).2 t (by omega)
      refine Zn_icmp_ne (tgt := 49) d_inp_matchingLength_40 (by decide) (by omega) (by omega) (fun h40 => ?_) (fun h40 => ?_)
      · skip
        have hs : mtl len ch p w = t := mtl_stop w p t ht (by omega) (fun hl => by
          cases hh : tk len ch (p + t) (w.getD t 0) with
          | false => rfl
          | true => exact absurd (tk_iff.mp hh).2 h40)
        refine Z_iload_n d_inp_matchingLength_49 rfl ?_
        refine Z_iret d_inp_matchingLength_50 rfl ?_
        rw [hs] at hQ
        exact hQ
      · skip
        refine Zn_iinc [some (.ref 93), some (.ref (1000001 + i)), some (.int (nI (min w.length (len - p)))), some (.int (nI (t + 1)))] (nI (t + 1)) d_inp_matchingLength_43 rfl (by decide) (nI_add t 1) rfl ?_
        refine Z_goto (tgt := 19) d_inp_matchingLength_46 (by decide) ?_
        exact ih (t + 1) (by omega) (by omega) (fun j hj => by
          by_cases hjt : j < t
          · exact ht j hjt
          · rw [show j = t by omega]; exact tk_iff.mpr ⟨by omega, h40⟩) Q hQ
set_option maxHeartbeats 4000000 in
theorem in_matchingLength_ok {Γ : zCtx} {M : List zE} (d : Nat) {len p : Nat} {ch : Nat → Nat} (hP : InAt M len p ch) (hO : inOk len p ch) {i : Nat} {w : List Nat} (hw : zWd i w) : ZM Γ (d + 5) m_inp_matchingLength [.ref 93, .ref (1000001 + i)] M (zEq M (some (.int (nI (mtl len ch p w))))) := by
  refine ZM.of mk_inp_matchingLength (Nat.le_of_ble_eq_true rfl) ?_
  have hF : zFr M M 93 2 := zFr.rf
  obtain ⟨hO1, hO2, hO3⟩ := hO
  have hwl := (wd_c hw).1
  rw [show zEn [.ref 93, .ref (1000001 + i)] = [some (.ref 93), some (.ref (1000001 + i))] from rfl]
  refine zPad 2 ?_
  show Z _ _ _ _ _ _ _ [some (.ref 93), some (.ref (1000001 + i)), none, none] _ _
  refine Z_aload_n d_inp_matchingLength_0 rfl ?_
  refine zStrE (As := []) (by omega) (wd_12 hw) d_inp_matchingLength_1 lm_inp_69 rfl rfl (Nat.le_of_ble_eq_true rfl) (wd_len (d + 2) hw) ?_
  refine Z_aload_n d_inp_matchingLength_4 rfl ?_
  refine Z_get d_inp_matchingLength_5 lf_inp_58 hP.1 rfl ?_
  refine Z_aload_n d_inp_matchingLength_8 rfl ?_
  refine Z_get d_inp_matchingLength_9 lf_inp_15 hP.1 rfl ?_
  refine Zn_isub d_inp_matchingLength_12 (by omega) ?_
  refine zMin (by omega) d_inp_matchingLength_13 lmm_inp_91 (Nat.le_of_ble_eq_true rfl) ?_
  rw [zn_min (by omega) (by omega)]
  refine Zn_istore_n [some (.ref 93), some (.ref (1000001 + i)), some (.int (nI (min w.length (len - p)))), none] d_inp_matchingLength_16 (by decide) rfl ?_
  refine Zn_iconst (nI 0) d_inp_matchingLength_17 (by decide) ?_
  refine Zn_istore_n [some (.ref 93), some (.ref (1000001 + i)), some (.int (nI (min w.length (len - p)))), some (.int (nI 0))] d_inp_matchingLength_18 (by decide) rfl ?_
  exact in_mtl_loop d hP ⟨hO1, hO2, hO3⟩ hw (min w.length (len - p) + 1) 0 (by omega) (by omega) (fun j hj => absurd hj (by omega)) _ ⟨rfl, rfl⟩
def kGo (len : Nat) (ch : Nat → Nat) (p : Nat) : List (List Nat) → Nat → Nat → Option Nat × Nat
  | [], _, L => (none, p + L)
  | w :: t, k, L => if mtl len ch p w = w.length then (some k, p + w.length) else kGo len ch p t (k + 1) (max L (mtl len ch p w))
def kdR (len : Nat) (ch : Nat → Nat) (p : Nat) : Option Nat × Nat := kGo len ch p [kw0, kw1, kw2, kw3, kw4, kw5] 0 0
theorem kGo_ok {len : Nat} {ch : Nat → Nat} {p : Nat} (hp : p ≤ len) : ∀ (l : List (List Nat)) (k L : Nat), p + L ≤ len → p ≤ (kGo len ch p l k L).2 ∧ (kGo len ch p l k L).2 ≤ len ∧ ∀ i, (kGo len ch p l k L).1 = some i → i < k + l.length
  | [], k, L, h => by simp [kGo]; exact h
  | w :: t, k, L, h => by
    unfold kGo
    have g := mtl_le (len := len) (ch := ch) w p
    have g2 := g.2 hp
    by_cases c : mtl len ch p w = w.length
    · rw [if_pos c]
      refine ⟨by dsimp only; omega, by dsimp only; omega, fun i hi => by cases hi; simp⟩
    · rw [if_neg c]
      have ih := kGo_ok (ch := ch) hp t (k + 1) (max L (mtl len ch p w)) (by omega)
      exact ⟨ih.1, ih.2.1, fun i hi => by have := ih.2.2 i hi; simp; omega⟩
theorem kdR_ok {len : Nat} {ch : Nat → Nat} {p : Nat} (hp : p ≤ len) : p ≤ (kdR len ch p).2 ∧ (kdR len ch p).2 ≤ len ∧ ∀ i, (kdR len ch p).1 = some i → i < 6 := by
  have := kGo_ok (ch := ch) hp [kw0, kw1, kw2, kw3, kw4, kw5] 0 0 (by omega)
  exact ⟨this.1, this.2.1, fun i hi => by have := this.2.2 i hi; simpa using this⟩
set_option maxHeartbeats 4000000 in
theorem in_readKind_ok {Γ : zCtx} {M : List zE} (d : Nat) {len p : Nat} {ch : Nat → Nat} (hP : InAt M len p ch) (hO : inOk len p ch) : ZM Γ (d + 6) m_inp_readKind [.ref 93] M (fun M1 v => v = some (.int (oI (kdR len ch p).1 (-1))) ∧ InAt M1 len (kdR len ch p).2 ch ∧ zFr M M1 93 2) := by
  refine ZM.of mk_inp_readKind (Nat.le_of_ble_eq_true rfl) ?_
  have hF : zFr M M 93 2 := zFr.rf
  obtain ⟨hO1, hO2, hO3⟩ := hO
  rw [show zEn [.ref 93] = [some (.ref 93)] from rfl]
  refine zPad 4 ?_
  show Z _ _ _ _ _ _ _ [some (.ref 93), none, none, none, none] _ _
  refine Zn_iconst (nI 0) d_inp_readKind_0 (by decide) ?_
  refine Zn_istore_n [some (.ref 93), some (.int (nI 0)), none, none, none] d_inp_readKind_1 (by decide) rfl ?_
  refine Zn_iconst (nI 0) d_inp_readKind_2 (by decide) ?_
  refine Zn_istore_n [some (.ref 93), some (.int (nI 0)), some (.int (nI 0)), none, none] d_inp_readKind_3 (by decide) rfl ?_
  refine Z_iload_n d_inp_readKind_4 rfl ?_
  refine Zn_bipush (nI 6) d_inp_readKind_5 (by decide) ?_
  refine Zn_icmp_ge (a := 0) (b := 6) (tgt := 57) d_inp_readKind_7 (by decide) (by decide) (by decide) (fun h => absurd h (by decide)) (fun _ => ?_)
  refine Z_iload_n d_inp_readKind_10 rfl ?_
  refine zTe (As := [.int (nI 0)]) (by omega) d_inp_readKind_11 lm_inp_61 rfl (Nat.le_of_ble_eq_true rfl) (in_wordOf_0 (d + 4)) ?_
  refine Zn_astore_n [some (.ref 93), some (.int (nI 0)), some (.int (nI 0)), some (.ref (1000001 + 0)), none] d_inp_readKind_14 (by decide) rfl ?_
  refine Z_aload_n d_inp_readKind_15 rfl ?_
  refine Z_aload_n d_inp_readKind_16 rfl ?_
  refine zVe (As := [.ref (1000001 + 0)]) (by omega) d_inp_readKind_17 lm_inp_65 hP.1 rfl rfl (Nat.le_of_ble_eq_true rfl) (in_matchingLength_ok d hP ⟨hO1, by omega, hO3⟩ wd_0) ?_
  have g0 := mtl_le (len := len) (ch := ch) kw0 p
  have g02 := g0.2 hO2
  have g01 : mtl len ch p kw0 ≤ 6 := g0.1
  refine Zn_istore [some (.ref 93), some (.int (nI 0)), some (.int (nI 0)), some (.ref (1000001 + 0)), some (.int (nI (mtl len ch p kw0)))] d_inp_readKind_20 (by decide) rfl ?_
  refine Z_iload d_inp_readKind_22 rfl ?_
  refine Z_aload_n d_inp_readKind_24 rfl ?_
  refine zStrE (As := []) (by omega) (by decide) d_inp_readKind_25 lm_inp_69 rfl rfl (Nat.le_of_ble_eq_true rfl) (wd_len (d + 3) wd_0) ?_
  rw [show kw0.length = 6 from rfl]
  refine Zn_icmp_ne (tgt := 44) d_inp_readKind_28 (by decide) (by omega) (by omega) (fun h28 => ?_) (fun h28 => ?_)
  · skip
    have r_0 : ¬ mtl len ch p kw0 = kw0.length := h28
    refine Z_iload_n d_inp_readKind_44 rfl ?_
    refine Z_iload d_inp_readKind_45 rfl ?_
    refine zMax (by omega) d_inp_readKind_47 lmm_inp_73 (Nat.le_of_ble_eq_true rfl) ?_
    rw [zn_max (a := 0) (b := mtl len ch p kw0) (by omega) (by omega)]
    refine Zn_istore_n [some (.ref 93), some (.int (nI (max 0 (mtl len ch p kw0)))), some (.int (nI 0)), some (.ref (1000001 + 0)), some (.int (nI (mtl len ch p kw0)))] d_inp_readKind_50 (by decide) rfl ?_
    refine Zn_iinc [some (.ref 93), some (.int (nI (max 0 (mtl len ch p kw0)))), some (.int (nI 1)), some (.ref (1000001 + 0)), some (.int (nI (mtl len ch p kw0)))] (nI 1) d_inp_readKind_51 rfl (by decide) (nI_add 0 1) rfl ?_
    refine Z_goto (tgt := 4) d_inp_readKind_54 (by decide) ?_
    refine Z_iload_n d_inp_readKind_4 rfl ?_
    refine Zn_bipush (nI 6) d_inp_readKind_5 (by decide) ?_
    refine Zn_icmp_ge (a := 1) (b := 6) (tgt := 57) d_inp_readKind_7 (by decide) (by decide) (by decide) (fun h => absurd h (by decide)) (fun _ => ?_)
    refine Z_iload_n d_inp_readKind_10 rfl ?_
    refine zTe (As := [.int (nI 1)]) (by omega) d_inp_readKind_11 lm_inp_61 rfl (Nat.le_of_ble_eq_true rfl) (in_wordOf_1 (d + 4)) ?_
    refine Zn_astore_n [some (.ref 93), some (.int (nI (max 0 (mtl len ch p kw0)))), some (.int (nI 1)), some (.ref (1000001 + 1)), some (.int (nI (mtl len ch p kw0)))] d_inp_readKind_14 (by decide) rfl ?_
    refine Z_aload_n d_inp_readKind_15 rfl ?_
    refine Z_aload_n d_inp_readKind_16 rfl ?_
    refine zVe (As := [.ref (1000001 + 1)]) (by omega) d_inp_readKind_17 lm_inp_65 hP.1 rfl rfl (Nat.le_of_ble_eq_true rfl) (in_matchingLength_ok d hP ⟨hO1, by omega, hO3⟩ wd_1) ?_
    have g1 := mtl_le (len := len) (ch := ch) kw1 p
    have g12 := g1.2 hO2
    have g11 : mtl len ch p kw1 ≤ 3 := g1.1
    refine Zn_istore [some (.ref 93), some (.int (nI (max 0 (mtl len ch p kw0)))), some (.int (nI 1)), some (.ref (1000001 + 1)), some (.int (nI (mtl len ch p kw1)))] d_inp_readKind_20 (by decide) rfl ?_
    refine Z_iload d_inp_readKind_22 rfl ?_
    refine Z_aload_n d_inp_readKind_24 rfl ?_
    refine zStrE (As := []) (by omega) (by decide) d_inp_readKind_25 lm_inp_69 rfl rfl (Nat.le_of_ble_eq_true rfl) (wd_len (d + 3) wd_1) ?_
    rw [show kw1.length = 3 from rfl]
    refine Zn_icmp_ne (tgt := 44) d_inp_readKind_28 (by decide) (by omega) (by omega) (fun h28 => ?_) (fun h28 => ?_)
    · skip
      have r_1 : ¬ mtl len ch p kw1 = kw1.length := h28
      refine Z_iload_n d_inp_readKind_44 rfl ?_
      refine Z_iload d_inp_readKind_45 rfl ?_
      refine zMax (by omega) d_inp_readKind_47 lmm_inp_73 (Nat.le_of_ble_eq_true rfl) ?_
      rw [zn_max (a := max 0 (mtl len ch p kw0)) (b := mtl len ch p kw1) (by omega) (by omega)]
      refine Zn_istore_n [some (.ref 93), some (.int (nI (max (max 0 (mtl len ch p kw0)) (mtl len ch p kw1)))), some (.int (nI 1)), some (.ref (1000001 + 1)), some (.int (nI (mtl len ch p kw1)))] d_inp_readKind_50 (by decide) rfl ?_
      refine Zn_iinc [some (.ref 93), some (.int (nI (max (max 0 (mtl len ch p kw0)) (mtl len ch p kw1)))), some (.int (nI 2)), some (.ref (1000001 + 1)), some (.int (nI (mtl len ch p kw1)))] (nI 2) d_inp_readKind_51 rfl (by decide) (nI_add 1 1) rfl ?_
      refine Z_goto (tgt := 4) d_inp_readKind_54 (by decide) ?_
      refine Z_iload_n d_inp_readKind_4 rfl ?_
      refine Zn_bipush (nI 6) d_inp_readKind_5 (by decide) ?_
      refine Zn_icmp_ge (a := 2) (b := 6) (tgt := 57) d_inp_readKind_7 (by decide) (by decide) (by decide) (fun h => absurd h (by decide)) (fun _ => ?_)
      refine Z_iload_n d_inp_readKind_10 rfl ?_
      refine zTe (As := [.int (nI 2)]) (by omega) d_inp_readKind_11 lm_inp_61 rfl (Nat.le_of_ble_eq_true rfl) (in_wordOf_2 (d + 4)) ?_
      refine Zn_astore_n [some (.ref 93), some (.int (nI (max (max 0 (mtl len ch p kw0)) (mtl len ch p kw1)))), some (.int (nI 2)), some (.ref (1000001 + 2)), some (.int (nI (mtl len ch p kw1)))] d_inp_readKind_14 (by decide) rfl ?_
      refine Z_aload_n d_inp_readKind_15 rfl ?_
      refine Z_aload_n d_inp_readKind_16 rfl ?_
      refine zVe (As := [.ref (1000001 + 2)]) (by omega) d_inp_readKind_17 lm_inp_65 hP.1 rfl rfl (Nat.le_of_ble_eq_true rfl) (in_matchingLength_ok d hP ⟨hO1, by omega, hO3⟩ wd_2) ?_
      have g2 := mtl_le (len := len) (ch := ch) kw2 p
      have g22 := g2.2 hO2
      have g21 : mtl len ch p kw2 ≤ 7 := g2.1
      refine Zn_istore [some (.ref 93), some (.int (nI (max (max 0 (mtl len ch p kw0)) (mtl len ch p kw1)))), some (.int (nI 2)), some (.ref (1000001 + 2)), some (.int (nI (mtl len ch p kw2)))] d_inp_readKind_20 (by decide) rfl ?_
      refine Z_iload d_inp_readKind_22 rfl ?_
      refine Z_aload_n d_inp_readKind_24 rfl ?_
      refine zStrE (As := []) (by omega) (by decide) d_inp_readKind_25 lm_inp_69 rfl rfl (Nat.le_of_ble_eq_true rfl) (wd_len (d + 3) wd_2) ?_
      rw [show kw2.length = 7 from rfl]
      refine Zn_icmp_ne (tgt := 44) d_inp_readKind_28 (by decide) (by omega) (by omega) (fun h28 => ?_) (fun h28 => ?_)
      · skip
        have r_2 : ¬ mtl len ch p kw2 = kw2.length := h28
        refine Z_iload_n d_inp_readKind_44 rfl ?_
        refine Z_iload d_inp_readKind_45 rfl ?_
        refine zMax (by omega) d_inp_readKind_47 lmm_inp_73 (Nat.le_of_ble_eq_true rfl) ?_
        rw [zn_max (a := max (max 0 (mtl len ch p kw0)) (mtl len ch p kw1)) (b := mtl len ch p kw2) (by omega) (by omega)]
        refine Zn_istore_n [some (.ref 93), some (.int (nI (max (max (max 0 (mtl len ch p kw0)) (mtl len ch p kw1)) (mtl len ch p kw2)))), some (.int (nI 2)), some (.ref (1000001 + 2)), some (.int (nI (mtl len ch p kw2)))] d_inp_readKind_50 (by decide) rfl ?_
        refine Zn_iinc [some (.ref 93), some (.int (nI (max (max (max 0 (mtl len ch p kw0)) (mtl len ch p kw1)) (mtl len ch p kw2)))), some (.int (nI 3)), some (.ref (1000001 + 2)), some (.int (nI (mtl len ch p kw2)))] (nI 3) d_inp_readKind_51 rfl (by decide) (nI_add 2 1) rfl ?_
        refine Z_goto (tgt := 4) d_inp_readKind_54 (by decide) ?_
        refine Z_iload_n d_inp_readKind_4 rfl ?_
        refine Zn_bipush (nI 6) d_inp_readKind_5 (by decide) ?_
        refine Zn_icmp_ge (a := 3) (b := 6) (tgt := 57) d_inp_readKind_7 (by decide) (by decide) (by decide) (fun h => absurd h (by decide)) (fun _ => ?_)
        refine Z_iload_n d_inp_readKind_10 rfl ?_
        refine zTe (As := [.int (nI 3)]) (by omega) d_inp_readKind_11 lm_inp_61 rfl (Nat.le_of_ble_eq_true rfl) (in_wordOf_3 (d + 4)) ?_
        refine Zn_astore_n [some (.ref 93), some (.int (nI (max (max (max 0 (mtl len ch p kw0)) (mtl len ch p kw1)) (mtl len ch p kw2)))), some (.int (nI 3)), some (.ref (1000001 + 3)), some (.int (nI (mtl len ch p kw2)))] d_inp_readKind_14 (by decide) rfl ?_
        refine Z_aload_n d_inp_readKind_15 rfl ?_
        refine Z_aload_n d_inp_readKind_16 rfl ?_
        refine zVe (As := [.ref (1000001 + 3)]) (by omega) d_inp_readKind_17 lm_inp_65 hP.1 rfl rfl (Nat.le_of_ble_eq_true rfl) (in_matchingLength_ok d hP ⟨hO1, by omega, hO3⟩ wd_3) ?_
        have g3 := mtl_le (len := len) (ch := ch) kw3 p
        have g32 := g3.2 hO2
        have g31 : mtl len ch p kw3 ≤ 6 := g3.1
        refine Zn_istore [some (.ref 93), some (.int (nI (max (max (max 0 (mtl len ch p kw0)) (mtl len ch p kw1)) (mtl len ch p kw2)))), some (.int (nI 3)), some (.ref (1000001 + 3)), some (.int (nI (mtl len ch p kw3)))] d_inp_readKind_20 (by decide) rfl ?_
        refine Z_iload d_inp_readKind_22 rfl ?_
        refine Z_aload_n d_inp_readKind_24 rfl ?_
        refine zStrE (As := []) (by omega) (by decide) d_inp_readKind_25 lm_inp_69 rfl rfl (Nat.le_of_ble_eq_true rfl) (wd_len (d + 3) wd_3) ?_
        rw [show kw3.length = 6 from rfl]
        refine Zn_icmp_ne (tgt := 44) d_inp_readKind_28 (by decide) (by omega) (by omega) (fun h28 => ?_) (fun h28 => ?_)
        · skip
          have r_3 : ¬ mtl len ch p kw3 = kw3.length := h28
          refine Z_iload_n d_inp_readKind_44 rfl ?_
          refine Z_iload d_inp_readKind_45 rfl ?_
          refine zMax (by omega) d_inp_readKind_47 lmm_inp_73 (Nat.le_of_ble_eq_true rfl) ?_
          rw [zn_max (a := max (max (max 0 (mtl len ch p kw0)) (mtl len ch p kw1)) (mtl len ch p kw2)) (b := mtl len ch p kw3) (by omega) (by omega)]
          refine Zn_istore_n [some (.ref 93), some (.int (nI (max (max (max (max 0 (mtl len ch p kw0)) (mtl len ch p kw1)) (mtl len ch p kw2)) (mtl len ch p kw3)))), some (.int (nI 3)), some (.ref (1000001 + 3)), some (.int (nI (mtl len ch p kw3)))] d_inp_readKind_50 (by decide) rfl ?_
          refine Zn_iinc [some (.ref 93), some (.int (nI (max (max (max (max 0 (mtl len ch p kw0)) (mtl len ch p kw1)) (mtl len ch p kw2)) (mtl len ch p kw3)))), some (.int (nI 4)), some (.ref (1000001 + 3)), some (.int (nI (mtl len ch p kw3)))] (nI 4) d_inp_readKind_51 rfl (by decide) (nI_add 3 1) rfl ?_
          refine Z_goto (tgt := 4) d_inp_readKind_54 (by decide) ?_
          refine Z_iload_n d_inp_readKind_4 rfl ?_
          refine Zn_bipush (nI 6) d_inp_readKind_5 (by decide) ?_
          refine Zn_icmp_ge (a := 4) (b := 6) (tgt := 57) d_inp_readKind_7 (by decide) (by decide) (by decide) (fun h => absurd h (by decide)) (fun _ => ?_)
          refine Z_iload_n d_inp_readKind_10 rfl ?_
          refine zTe (As := [.int (nI 4)]) (by omega) d_inp_readKind_11 lm_inp_61 rfl (Nat.le_of_ble_eq_true rfl) (in_wordOf_4 (d + 4)) ?_
          refine Zn_astore_n [some (.ref 93), some (.int (nI (max (max (max (max 0 (mtl len ch p kw0)) (mtl len ch p kw1)) (mtl len ch p kw2)) (mtl len ch p kw3)))), some (.int (nI 4)), some (.ref (1000001 + 4)), some (.int (nI (mtl len ch p kw3)))] d_inp_readKind_14 (by decide) rfl ?_
          refine Z_aload_n d_inp_readKind_15 rfl ?_
          refine Z_aload_n d_inp_readKind_16 rfl ?_
          refine zVe (As := [.ref (1000001 + 4)]) (by omega) d_inp_readKind_17 lm_inp_65 hP.1 rfl rfl (Nat.le_of_ble_eq_true rfl) (in_matchingLength_ok d hP ⟨hO1, by omega, hO3⟩ wd_4) ?_
          have g4 := mtl_le (len := len) (ch := ch) kw4 p
          have g42 := g4.2 hO2
          have g41 : mtl len ch p kw4 ≤ 4 := g4.1
          refine Zn_istore [some (.ref 93), some (.int (nI (max (max (max (max 0 (mtl len ch p kw0)) (mtl len ch p kw1)) (mtl len ch p kw2)) (mtl len ch p kw3)))), some (.int (nI 4)), some (.ref (1000001 + 4)), some (.int (nI (mtl len ch p kw4)))] d_inp_readKind_20 (by decide) rfl ?_
          refine Z_iload d_inp_readKind_22 rfl ?_
          refine Z_aload_n d_inp_readKind_24 rfl ?_
          refine zStrE (As := []) (by omega) (by decide) d_inp_readKind_25 lm_inp_69 rfl rfl (Nat.le_of_ble_eq_true rfl) (wd_len (d + 3) wd_4) ?_
          rw [show kw4.length = 4 from rfl]
          refine Zn_icmp_ne (tgt := 44) d_inp_readKind_28 (by decide) (by omega) (by omega) (fun h28 => ?_) (fun h28 => ?_)
          · skip
            have r_4 : ¬ mtl len ch p kw4 = kw4.length := h28
            refine Z_iload_n d_inp_readKind_44 rfl ?_
            refine Z_iload d_inp_readKind_45 rfl ?_
            refine zMax (by omega) d_inp_readKind_47 lmm_inp_73 (Nat.le_of_ble_eq_true rfl) ?_
            rw [zn_max (a := max (max (max (max 0 (mtl len ch p kw0)) (mtl len ch p kw1)) (mtl len ch p kw2)) (mtl len ch p kw3)) (b := mtl len ch p kw4) (by omega) (by omega)]
            refine Zn_istore_n [some (.ref 93), some (.int (nI (max (max (max (max (max 0 (mtl len ch p kw0)) (mtl len ch p kw1)) (mtl len ch p kw2)) (mtl len ch p kw3)) (mtl len ch p kw4)))), some (.int (nI 4)), some (.ref (1000001 + 4)), some (.int (nI (mtl len ch p kw4)))] d_inp_readKind_50 (by decide) rfl ?_
            refine Zn_iinc [some (.ref 93), some (.int (nI (max (max (max (max (max 0 (mtl len ch p kw0)) (mtl len ch p kw1)) (mtl len ch p kw2)) (mtl len ch p kw3)) (mtl len ch p kw4)))), some (.int (nI 5)), some (.ref (1000001 + 4)), some (.int (nI (mtl len ch p kw4)))] (nI 5) d_inp_readKind_51 rfl (by decide) (nI_add 4 1) rfl ?_
            refine Z_goto (tgt := 4) d_inp_readKind_54 (by decide) ?_
            refine Z_iload_n d_inp_readKind_4 rfl ?_
            refine Zn_bipush (nI 6) d_inp_readKind_5 (by decide) ?_
            refine Zn_icmp_ge (a := 5) (b := 6) (tgt := 57) d_inp_readKind_7 (by decide) (by decide) (by decide) (fun h => absurd h (by decide)) (fun _ => ?_)
            refine Z_iload_n d_inp_readKind_10 rfl ?_
            refine zTe (As := [.int (nI 5)]) (by omega) d_inp_readKind_11 lm_inp_61 rfl (Nat.le_of_ble_eq_true rfl) (in_wordOf_5 (d + 4)) ?_
            refine Zn_astore_n [some (.ref 93), some (.int (nI (max (max (max (max (max 0 (mtl len ch p kw0)) (mtl len ch p kw1)) (mtl len ch p kw2)) (mtl len ch p kw3)) (mtl len ch p kw4)))), some (.int (nI 5)), some (.ref (1000001 + 5)), some (.int (nI (mtl len ch p kw4)))] d_inp_readKind_14 (by decide) rfl ?_
            refine Z_aload_n d_inp_readKind_15 rfl ?_
            refine Z_aload_n d_inp_readKind_16 rfl ?_
            refine zVe (As := [.ref (1000001 + 5)]) (by omega) d_inp_readKind_17 lm_inp_65 hP.1 rfl rfl (Nat.le_of_ble_eq_true rfl) (in_matchingLength_ok d hP ⟨hO1, by omega, hO3⟩ wd_5) ?_
            have g5 := mtl_le (len := len) (ch := ch) kw5 p
            have g52 := g5.2 hO2
            have g51 : mtl len ch p kw5 ≤ 8 := g5.1
            refine Zn_istore [some (.ref 93), some (.int (nI (max (max (max (max (max 0 (mtl len ch p kw0)) (mtl len ch p kw1)) (mtl len ch p kw2)) (mtl len ch p kw3)) (mtl len ch p kw4)))), some (.int (nI 5)), some (.ref (1000001 + 5)), some (.int (nI (mtl len ch p kw5)))] d_inp_readKind_20 (by decide) rfl ?_
            refine Z_iload d_inp_readKind_22 rfl ?_
            refine Z_aload_n d_inp_readKind_24 rfl ?_
            refine zStrE (As := []) (by omega) (by decide) d_inp_readKind_25 lm_inp_69 rfl rfl (Nat.le_of_ble_eq_true rfl) (wd_len (d + 3) wd_5) ?_
            rw [show kw5.length = 8 from rfl]
            refine Zn_icmp_ne (tgt := 44) d_inp_readKind_28 (by decide) (by omega) (by omega) (fun h28 => ?_) (fun h28 => ?_)
            · skip
              have r_5 : ¬ mtl len ch p kw5 = kw5.length := h28
              refine Z_iload_n d_inp_readKind_44 rfl ?_
              refine Z_iload d_inp_readKind_45 rfl ?_
              refine zMax (by omega) d_inp_readKind_47 lmm_inp_73 (Nat.le_of_ble_eq_true rfl) ?_
              rw [zn_max (a := max (max (max (max (max 0 (mtl len ch p kw0)) (mtl len ch p kw1)) (mtl len ch p kw2)) (mtl len ch p kw3)) (mtl len ch p kw4)) (b := mtl len ch p kw5) (by omega) (by omega)]
              refine Zn_istore_n [some (.ref 93), some (.int (nI (max (max (max (max (max (max 0 (mtl len ch p kw0)) (mtl len ch p kw1)) (mtl len ch p kw2)) (mtl len ch p kw3)) (mtl len ch p kw4)) (mtl len ch p kw5)))), some (.int (nI 5)), some (.ref (1000001 + 5)), some (.int (nI (mtl len ch p kw5)))] d_inp_readKind_50 (by decide) rfl ?_
              refine Zn_iinc [some (.ref 93), some (.int (nI (max (max (max (max (max (max 0 (mtl len ch p kw0)) (mtl len ch p kw1)) (mtl len ch p kw2)) (mtl len ch p kw3)) (mtl len ch p kw4)) (mtl len ch p kw5)))), some (.int (nI 6)), some (.ref (1000001 + 5)), some (.int (nI (mtl len ch p kw5)))] (nI 6) d_inp_readKind_51 rfl (by decide) (nI_add 5 1) rfl ?_
              refine Z_goto (tgt := 4) d_inp_readKind_54 (by decide) ?_
              refine Z_iload_n d_inp_readKind_4 rfl ?_
              refine Zn_bipush (nI 6) d_inp_readKind_5 (by decide) ?_
              refine Zn_icmp_ge (a := 6) (b := 6) (tgt := 57) d_inp_readKind_7 (by decide) (by decide) (by decide) (fun _ => ?_) (fun h => absurd h (by decide))
              refine Z_aload_n d_inp_readKind_57 rfl ?_
              refine Z_dup d_inp_readKind_58 rfl ?_
              refine Z_get d_inp_readKind_59 lf_inp_15 hP.1 rfl ?_
              refine Z_iload_n d_inp_readKind_62 rfl ?_
              refine Zn_iadd d_inp_readKind_63 ?_
              refine Z_puti d_inp_readKind_64 lf_inp_15 hP.1 rfl rfl (Nat.le_of_ble_eq_true rfl) ?_
              have hP := hP.pos (p' := p + (max (max (max (max (max (max 0 (mtl len ch p kw0)) (mtl len ch p kw1)) (mtl len ch p kw2)) (mtl len ch p kw3)) (mtl len ch p kw4)) (mtl len ch p kw5)))
              have hF := hF.set (c := 93) (x := .inr (1, [.ref 94, .int (nI len), .int (nI (p + (max (max (max (max (max (max 0 (mtl len ch p kw0)) (mtl len ch p kw1)) (mtl len ch p kw2)) (mtl len ch p kw3)) (mtl len ch p kw4)) (mtl len ch p kw5))))])) (by omega) (by omega)
              refine Zn_iconst (-1) d_inp_readKind_67 (by decide) ?_
              refine Z_iret d_inp_readKind_68 rfl ?_
              have hz : kdR len ch p = (none, p + (max (max (max (max (max (max 0 (mtl len ch p kw0)) (mtl len ch p kw1)) (mtl len ch p kw2)) (mtl len ch p kw3)) (mtl len ch p kw4)) (mtl len ch p kw5))) := by rw [kdR, kGo, if_neg r_0, kGo, if_neg r_1, kGo, if_neg r_2, kGo, if_neg r_3, kGo, if_neg r_4, kGo, if_neg r_5, kGo]
              exact ⟨by rw [hz]; rfl, by rw [hz]; exact hP, hF⟩
            · skip
              have r_5 :  mtl len ch p kw5 = kw5.length := h28
              refine Z_aload_n d_inp_readKind_31 rfl ?_
              refine Z_dup d_inp_readKind_32 rfl ?_
              refine Z_get d_inp_readKind_33 lf_inp_15 hP.1 rfl ?_
              refine Z_iload d_inp_readKind_36 rfl ?_
              refine Zn_iadd d_inp_readKind_38 ?_
              refine Z_puti d_inp_readKind_39 lf_inp_15 hP.1 rfl rfl (Nat.le_of_ble_eq_true rfl) ?_
              have hP := hP.pos (p' := p + (mtl len ch p kw5))
              have hF := hF.set (c := 93) (x := .inr (1, [.ref 94, .int (nI len), .int (nI (p + (mtl len ch p kw5)))])) (by omega) (by omega)
              refine Z_iload_n d_inp_readKind_42 rfl ?_
              refine Z_iret d_inp_readKind_43 rfl ?_
              have hz : kdR len ch p = (some 5, p + mtl len ch p kw5) := by rw [kdR, kGo, if_neg r_0, kGo, if_neg r_1, kGo, if_neg r_2, kGo, if_neg r_3, kGo, if_neg r_4, kGo, if_pos r_5, r_5]
              exact ⟨by rw [hz]; rfl, by rw [hz]; exact hP, hF⟩
          · skip
            have r_4 :  mtl len ch p kw4 = kw4.length := h28
            refine Z_aload_n d_inp_readKind_31 rfl ?_
            refine Z_dup d_inp_readKind_32 rfl ?_
            refine Z_get d_inp_readKind_33 lf_inp_15 hP.1 rfl ?_
            refine Z_iload d_inp_readKind_36 rfl ?_
            refine Zn_iadd d_inp_readKind_38 ?_
            refine Z_puti d_inp_readKind_39 lf_inp_15 hP.1 rfl rfl (Nat.le_of_ble_eq_true rfl) ?_
            have hP := hP.pos (p' := p + (mtl len ch p kw4))
            have hF := hF.set (c := 93) (x := .inr (1, [.ref 94, .int (nI len), .int (nI (p + (mtl len ch p kw4)))])) (by omega) (by omega)
            refine Z_iload_n d_inp_readKind_42 rfl ?_
            refine Z_iret d_inp_readKind_43 rfl ?_
            have hz : kdR len ch p = (some 4, p + mtl len ch p kw4) := by rw [kdR, kGo, if_neg r_0, kGo, if_neg r_1, kGo, if_neg r_2, kGo, if_neg r_3, kGo, if_pos r_4, r_4]
            exact ⟨by rw [hz]; rfl, by rw [hz]; exact hP, hF⟩
        · skip
          have r_3 :  mtl len ch p kw3 = kw3.length := h28
          refine Z_aload_n d_inp_readKind_31 rfl ?_
          refine Z_dup d_inp_readKind_32 rfl ?_
          refine Z_get d_inp_readKind_33 lf_inp_15 hP.1 rfl ?_
          refine Z_iload d_inp_readKind_36 rfl ?_
          refine Zn_iadd d_inp_readKind_38 ?_
          refine Z_puti d_inp_readKind_39 lf_inp_15 hP.1 rfl rfl (Nat.le_of_ble_eq_true rfl) ?_
          have hP := hP.pos (p' := p + (mtl len ch p kw3))
          have hF := hF.set (c := 93) (x := .inr (1, [.ref 94, .int (nI len), .int (nI (p + (mtl len ch p kw3)))])) (by omega) (by omega)
          refine Z_iload_n d_inp_readKind_42 rfl ?_
          refine Z_iret d_inp_readKind_43 rfl ?_
          have hz : kdR len ch p = (some 3, p + mtl len ch p kw3) := by rw [kdR, kGo, if_neg r_0, kGo, if_neg r_1, kGo, if_neg r_2, kGo, if_pos r_3, r_3]
          exact ⟨by rw [hz]; rfl, by rw [hz]; exact hP, hF⟩
      · skip
        have r_2 :  mtl len ch p kw2 = kw2.length := h28
        refine Z_aload_n d_inp_readKind_31 rfl ?_
        refine Z_dup d_inp_readKind_32 rfl ?_
        refine Z_get d_inp_readKind_33 lf_inp_15 hP.1 rfl ?_
        refine Z_iload d_inp_readKind_36 rfl ?_
        refine Zn_iadd d_inp_readKind_38 ?_
        refine Z_puti d_inp_readKind_39 lf_inp_15 hP.1 rfl rfl (Nat.le_of_ble_eq_true rfl) ?_
        have hP := hP.pos (p' := p + (mtl len ch p kw2))
        have hF := hF.set (c := 93) (x := .inr (1, [.ref 94, .int (nI len), .int (nI (p + (mtl len ch p kw2)))])) (by omega) (by omega)
        refine Z_iload_n d_inp_readKind_42 rfl ?_
        refine Z_iret d_inp_readKind_43 rfl ?_
        have hz : kdR len ch p = (some 2, p + mtl len ch p kw2) := by rw [kdR, kGo, if_neg r_0, kGo, if_neg r_1, kGo, if_pos r_2, r_2]
        exact ⟨by rw [hz]; rfl, by rw [hz]; exact hP, hF⟩
    · skip
      have r_1 :  mtl len ch p kw1 = kw1.length := h28
      refine Z_aload_n d_inp_readKind_31 rfl ?_
      refine Z_dup d_inp_readKind_32 rfl ?_
      refine Z_get d_inp_readKind_33 lf_inp_15 hP.1 rfl ?_
      refine Z_iload d_inp_readKind_36 rfl ?_
      refine Zn_iadd d_inp_readKind_38 ?_
      refine Z_puti d_inp_readKind_39 lf_inp_15 hP.1 rfl rfl (Nat.le_of_ble_eq_true rfl) ?_
      have hP := hP.pos (p' := p + (mtl len ch p kw1))
      have hF := hF.set (c := 93) (x := .inr (1, [.ref 94, .int (nI len), .int (nI (p + (mtl len ch p kw1)))])) (by omega) (by omega)
      refine Z_iload_n d_inp_readKind_42 rfl ?_
      refine Z_iret d_inp_readKind_43 rfl ?_
      have hz : kdR len ch p = (some 1, p + mtl len ch p kw1) := by rw [kdR, kGo, if_neg r_0, kGo, if_pos r_1, r_1]
      exact ⟨by rw [hz]; rfl, by rw [hz]; exact hP, hF⟩
  · skip
    have r_0 :  mtl len ch p kw0 = kw0.length := h28
    refine Z_aload_n d_inp_readKind_31 rfl ?_
    refine Z_dup d_inp_readKind_32 rfl ?_
    refine Z_get d_inp_readKind_33 lf_inp_15 hP.1 rfl ?_
    refine Z_iload d_inp_readKind_36 rfl ?_
    refine Zn_iadd d_inp_readKind_38 ?_
    refine Z_puti d_inp_readKind_39 lf_inp_15 hP.1 rfl rfl (Nat.le_of_ble_eq_true rfl) ?_
    have hP := hP.pos (p' := p + (mtl len ch p kw0))
    have hF := hF.set (c := 93) (x := .inr (1, [.ref 94, .int (nI len), .int (nI (p + (mtl len ch p kw0)))])) (by omega) (by omega)
    refine Z_iload_n d_inp_readKind_42 rfl ?_
    refine Z_iret d_inp_readKind_43 rfl ?_
    have hz : kdR len ch p = (some 0, p + mtl len ch p kw0) := by rw [kdR, kGo, if_pos r_0, r_0]
    exact ⟨by rw [hz]; rfl, by rw [hz]; exact hP, hF⟩
