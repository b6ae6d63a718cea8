/-! texts, statics, raw bits -/
section ZS
variable {Γ : zCtx} {R : Room} {μ : zMe} {Φ : zPhi} {kc ks pc : Nat} {ls : List (Option Value)} {st : List Value} {M : List zE}
theorem zStr_lt {i : Nat} {q : String × Nat × String × List Int32} (h : zStr[i]? = some q) : i < 12 := (List.getElem?_eq_some_iff.mp h).1
theorem z_spk {i : Nat} (hi : i < 12) {s : State} (hkb : zKB Γ s) : zv Γ (.ref (1000001 + i)) = .ref (zKs Γ i) ∧ zv Γ (.ref (1000101 + i)) = .ref (zVs Γ i) := by
  have h := hkb.2.2.2.2.2.2.2.2.2.2.1.1 i hi
  refine ⟨?_, ?_⟩
  · show (if 1000001 + i < 1000000 then Value.ref (zSz Γ + (1000001 + i)) else zSp Γ (1000001 + i - 1000000)) = _
    rw [if_neg (by omega), show 1000001 + i - 1000000 = 1 + i by omega]
    exact h.1
  · show (if 1000101 + i < 1000000 then Value.ref (zSz Γ + (1000101 + i)) else zSp Γ (1000101 + i - 1000000)) = _
    rw [if_neg (by omega), show 1000101 + i - 1000000 = 101 + i by omega]
    exact h.2
theorem Z_ldcS {i idx : Nat} {tx : String} {bs : List Int32} (hi : zStr[i]? = some (μ.1, idx, tx, bs)) (hd : decode μ.2.2.1 pc = .ok (.ldc idx, 2)) (kk : Z Γ R μ Φ kc ks (pc + 2) ls (.ref (1000001 + i) :: st) M) : Z Γ R μ Φ kc ks pc ls st M := by
  intro p e s m args below meth c d0 H locs la hc hd0 hP hS hz hn hl
  have k1 := kk p e s m args below meth c d0 H locs la hc hd0 hP hS hz hn hl
  obtain ⟨hx, hb, hrt, hml, hown, hts, hlk, hnm, hkb⟩ := hc
  rw [List.map_cons, (z_spk (zStr_lt hi) hkb).1] at k1
  exact va_ldcS (s := s.setDrawn d0) hx hb hown (vk_R.same (u := s) rfl (hkb.2.2.1 i _ hi)) hd k1
theorem Z_strV {i idx : Nat} (hi : i < 12) (hd : decode μ.2.2.1 pc = .ok (.getfield idx, 3)) (hw : Cond.fieldLink μ.1 idx "java/lang/String" "value" "[B" ∈ zG) (kk : Z Γ R μ Φ kc ks (pc + 3) ls (.ref (1000101 + i) :: st) M) : Z Γ R μ Φ kc ks pc ls (.ref (1000001 + i) :: st) M := by
  intro p e s m args below meth c d0 H locs la hc hd0 hP hS hz hn hl
  have k1 := kk p e s m args below meth c d0 H locs la hc hd0 hP hS hz hn hl
  obtain ⟨hx, hb, hrt, hml, hown, hts, hlk, hnm, hkb⟩ := hc
  rw [List.map_cons, (z_spk hi hkb).2] at k1
  rw [List.map_cons, (z_spk hi hkb).1]
  exact vk_getf (s := s.setDrawn d0) hx hb (hkb.2.2.2.1.1 i hi).2.2.1 hS hown (dr_words hts d0 _ hw) (fun _ h => h) hd k1
theorem Z_strC {i idx : Nat} (hi : i < 12) (hd : decode μ.2.2.1 pc = .ok (.getfield idx, 3)) (hw : Cond.fieldLink μ.1 idx "java/lang/String" "coder" "B" ∈ zG) (kk : Z Γ R μ Φ kc ks (pc + 3) ls (.int 0 :: st) M) : Z Γ R μ Φ kc ks pc ls (.ref (1000001 + i) :: st) M := by
  intro p e s m args below meth c d0 H locs la hc hd0 hP hS hz hn hl
  have k1 := kk p e s m args below meth c d0 H locs la hc hd0 hP hS hz hn hl
  obtain ⟨hx, hb, hrt, hml, hown, hts, hlk, hnm, hkb⟩ := hc
  rw [List.map_cons, (z_spk hi hkb).1]
  exact vk_getf (s := s.setDrawn d0) hx hb (hkb.2.2.2.1.1 i hi).2.1 hS hown (dr_words hts d0 _ hw) (fun _ h => h) hd k1
theorem Z_strLd {i : Nat} {q : String × Nat × String × List Int32} {j : Int32} (hi : zStr[i]? = some q) (hj : vp_in j q.2.2.2.length) (hd : decode μ.2.2.1 pc = .ok (.baload, 1)) (kk : Z Γ R μ Φ kc ks (pc + 1) ls (.int (q.2.2.2.getD j.toNatClampNeg 0) :: st) M) : Z Γ R μ Φ kc ks pc ls (.int j :: .ref (1000101 + i) :: st) M := by
  intro p e s m args below meth c d0 H locs la hc hd0 hP hS hz hn hl
  have k1 := kk p e s m args below meth c d0 H locs la hc hd0 hP hS hz hn hl
  obtain ⟨hx, hb, hrt, hml, hown, hts, hlk, hnm, hkb⟩ := hc
  have hi9 := zStr_lt hi
  have hT := (hkb.2.2.2.1.1 i hi9).2.2.2
  have e1 : (zStr.map (fun q => q.2.2.2.length)).getD i 0 = q.2.2.2.length := by simp [List.getD, hi]
  have e2 : (zStr.map (fun q => q.2.2.2)).getD i [] = q.2.2.2 := by simp [List.getD, hi]
  rw [e1, e2] at hT
  rw [List.map_cons, List.map_cons, (z_spk hi9 hkb).2]
  exact va_tb (s := s.setDrawn d0) hx hb hT hS hj rfl hd k1
theorem Z_strLen {i : Nat} {q : String × Nat × String × List Int32} (hi : zStr[i]? = some q) (hd : decode μ.2.2.1 pc = .ok (.arraylength, 1)) (kk : Z Γ R μ Φ kc ks (pc + 1) ls (.int (Int32.ofNat q.2.2.2.length) :: st) M) : Z Γ R μ Φ kc ks pc ls (.ref (1000101 + i) :: st) M := by
  intro p e s m args below meth c d0 H locs la hc hd0 hP hS hz hn hl
  have k1 := kk p e s m args below meth c d0 H locs la hc hd0 hP hS hz hn hl
  obtain ⟨hx, hb, hrt, hml, hown, hts, hlk, hnm, hkb⟩ := hc
  have hi9 := zStr_lt hi
  have hT := (hkb.2.2.2.1.1 i hi9).2.2.2
  have e1 : (zStr.map (fun q => q.2.2.2.length)).getD i 0 = q.2.2.2.length := by simp [List.getD, hi]
  rw [e1] at hT
  rw [List.map_cons, (z_spk hi9 hkb).2]
  exact va_tlen (s := s.setDrawn d0) hx hb hT hS rfl hd k1
theorem Z_getsZ {idx : Nat} (hd : decode μ.2.2.1 pc = .ok (.getstatic idx, 3)) (hw : Cond.fieldLink μ.1 idx "java/lang/String" "COMPACT_STRINGS" "Z" ∈ zG) (kk : Z Γ R μ Φ kc ks (pc + 3) ls (.int 1 :: st) M) : Z Γ R μ Φ kc ks pc ls st M := by
  intro p e s m args below meth c d0 H locs la hc hd0 hP hS hz hn hl
  have k1 := kk p e s m args below meth c d0 H locs la hc hd0 hP hS hz hn hl
  obtain ⟨hx, hb, hrt, hml, hown, hts, hlk, hnm, hkb⟩ := hc
  exact va_gets (s := s.setDrawn d0) hx hb hkb.2.2.2.2.2.1 hS hown (dr_words hts d0 _ hw) (fun _ h => h) hd k1
theorem Z_getsF {idx : Nat} (hd : decode μ.2.2.1 pc = .ok (.getstatic idx, 3)) (hw : Cond.fieldLink μ.1 idx "jdk/internal/util/Preconditions" "SIOOBE_FORMATTER" "Ljava/util/function/BiFunction;" ∈ zG) (kk : Z Γ R μ Φ kc ks (pc + 3) ls (.ref 1000200 :: st) M) : Z Γ R μ Φ kc ks pc ls st M := by
  intro p e s m args below meth c d0 H locs la hc hd0 hP hS hz hn hl
  have k1 := kk p e s m args below meth c d0 H locs la hc hd0 hP hS hz hn hl
  obtain ⟨hx, hb, hrt, hml, hown, hts, hlk, hnm, hkb⟩ := hc
  exact va_gets (s := s.setDrawn d0) hx hb hkb.2.2.2.2.2.2.1 hS hown (dr_words hts d0 _ hw) (fun _ h => h) hd k1
/-- a call on a text -/
theorem Z_callStr {μ' : zMe} {d idx i : Nat} {As : List Value} {Q1 : List zE → Option Value → Prop} (hi : i < 12) (hd : decode μ.2.2.1 pc = .ok (.invokevirtual idx, 3)) (hL : zLv μ.1 idx As.length μ') (hcl : μ'.2.1.cls = "java/lang/String") (hM : ZM Γ d μ' (.ref (1000001 + i) :: As) M Q1)
    (hst : (st.map fun v => v.category).sum ≤ 8) (hfr : d + 1 ≤ R.frames) (hlo : 64 * (d + 1) ≤ R.locals) (hce : kc + μ'.2.2.2.2.2.1 ≤ R.cells) (hsl : ks + μ'.2.2.2.2.2.2 ≤ R.slots)
    (kk : ∀ (M1 : List zE) (v : Option Value), Q1 M1 v → M1.length = M.length + μ'.2.2.2.2.2.1 → Z Γ R μ Φ (kc + μ'.2.2.2.2.2.1) (ks + μ'.2.2.2.2.2.2) (pc + 3) ls (v.toList ++ st) M1) : Z Γ R μ Φ kc ks pc ls (As.reverse ++ .ref (1000001 + i) :: st) M := by
  intro p e s m args below meth c d0 H locs la hc hd0 hP hS hz hn hl
  exact z_callVr hd hL (z_spk hi hc.2.2.2.2.2.2.2.2).1 (fun s H locs hkb hP hS => by rw [hcl]; exact vk_recv hkb.2.2.2.1 hi hS) hM hst hfr hlo hce hsl kk p e s m args below meth c d0 H locs la hc hd0 hP hS hz hn hl
def zRaw (own : String) (idx : Nat) (y : MethodName) : Prop := Cond.methodLink own idx y ∈ zG ∧ Cond.native y ∈ zG ∧ Cond.static y ∈ zG ∧ Cond.initialized y.cls ∈ zG
theorem Z_f2i {idx : Nat} {b : UInt32} (hd : decode μ.2.2.1 pc = .ok (.invokestatic idx, 3)) (hw : zRaw μ.1 idx ⟨"java/lang/Float", "floatToRawIntBits", "(F)I"⟩) (hst : (st.map fun v => v.category).sum ≤ 8) (hfr : 1 ≤ R.frames) (hlo : 64 ≤ R.locals) (kk : Z Γ R μ Φ kc ks (pc + 3) ls (.int b.toInt32 :: st) M) : Z Γ R μ Φ kc ks pc ls (.float b :: st) M := by
  intro p e s m args below meth c d0 H locs la hc hd0 hP hS hz hn hl
  have k1 := kk p e s m args below meth c d0 H locs la hc hd0 hP hS hz hn hl
  obtain ⟨hx, hb, hrt, hml, hown, hts, hlk, hnm, hkb⟩ := hc
  obtain ⟨w1, w2, w3, w4⟩ := hw
  have h8 := z_rest hkb.2.2.2.2.2.2.2.2.2.2.2 hst
  exact vn_f2i (s := s.setDrawn d0) hx hb (hml.trans hl.1.symm) hown (dr_words hts d0 _ w1) (dr_words hts d0 _ w2) (dr_words hts d0 _ w3) (dr_words hts d0 _ w4) hfr (by omega) hd k1
theorem Z_d2l {idx : Nat} {b : UInt64} (hd : decode μ.2.2.1 pc = .ok (.invokestatic idx, 3)) (hw : zRaw μ.1 idx ⟨"java/lang/Double", "doubleToRawLongBits", "(D)J"⟩) (hst : (st.map fun v => v.category).sum ≤ 8) (hfr : 1 ≤ R.frames) (hlo : 64 ≤ R.locals) (kk : Z Γ R μ Φ kc ks (pc + 3) ls (.long b.toInt64 :: st) M) : Z Γ R μ Φ kc ks pc ls (.double b :: st) M := by
  intro p e s m args below meth c d0 H locs la hc hd0 hP hS hz hn hl
  have k1 := kk p e s m args below meth c d0 H locs la hc hd0 hP hS hz hn hl
  obtain ⟨hx, hb, hrt, hml, hown, hts, hlk, hnm, hkb⟩ := hc
  obtain ⟨w1, w2, w3, w4⟩ := hw
  have h8 := z_rest hkb.2.2.2.2.2.2.2.2.2.2.2 hst
  exact vn_d2l (s := s.setDrawn d0) hx hb (hml.trans hl.1.symm) hown (dr_words hts d0 _ w1) (dr_words hts d0 _ w2) (dr_words hts d0 _ w3) (dr_words hts d0 _ w4) hfr (by omega) hd k1
/-- a contract says less -/
theorem ZM.weaken {d : Nat} {args : List Value} {Q Q1 : List zE → Option Value → Prop} (h : ZM Γ d μ args M Q) (hq : ∀ M1 v, Q M1 v → Q1 M1 v) : ZM Γ d μ args M Q1 := by
  intro p e ha hc hk s m av below hf happ hP hK
  obtain ⟨n, o, h1, h2, h3, dd, h4, ⟨⟨v, M1, e1, e2, e3, e4, e5⟩, hF⟩, h6⟩ := h p e ha hc hk s m av below hf happ hP hK
  exact ⟨n, o, h1, h2, h3, dd, h4, ⟨⟨v, M1, e1, hq M1 v e2, e3, e4, e5⟩, hF⟩, h6⟩
end ZS
