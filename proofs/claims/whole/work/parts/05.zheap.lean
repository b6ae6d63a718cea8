/-! rules over cells -/
/-- what the tables say of a class of the world: its words, its fields' types, its fields' names -/
def zCk (ci : Nat) : Prop := ∀ (C : String) (T : u_T) (N : Nat), zCl[ci]? = some (C, T, N) → (∀ w ∈ u_ws C T N, w ∈ zG) ∧ (∀ k, k < N → parseFieldDescriptor (T k).2.2.1 = some (zTt ci k)) ∧ (∀ a, a < N → ∀ b, b < N → a ≠ b → (T a).2.1 ≠ (T b).2.1) ∧ (∀ k, k < N → (T k).1 = C) ∧ Cond.instantiable C N ∈ zG ∧ Cond.initialized C ∈ zG
/-- a field's link: from class own, entry idx, to field j of class ci -/
def zFl (own : String) (idx ci j : Nat) : Prop := zCk ci ∧ ∃ (C : String) (T : u_T) (N : Nat), zCl[ci]? = some (C, T, N) ∧ j < N ∧ (Cond.fieldLink own idx C (T j).2.1 (T j).2.2.1 ∈ zG ∨ ∃ host, Cond.fieldLinkNest own idx C (T j).2.1 (T j).2.2.1 host ∈ zN)
def zFn (ci j : Nat) : Bool := match zCl[ci]? with
  | some q => (q.2.1 j).2.2.2
  | none => true
section ZH
variable {Γ : zCtx} {R : Room} {μ : zMe} {Φ : zPhi} {kc ks pc : Nat} {ls : List (Option Value)} {st : List Value} {M : List zE}
theorem Z_get {idx ci j k : Nat} {fs : List Value} {v : Value} (hd : decode μ.2.2.1 pc = .ok (.getfield idx, 3)) (hf : zFl μ.1 idx ci j) (hM : M[k]? = some (.inr (ci, fs))) (hv : fs[j]? = some v) (kk : Z Γ R μ Φ kc ks (pc + 3) ls (v :: st) M) : Z Γ R μ Φ kc ks pc ls (.ref k :: st) M := by
  intro p e s m args below meth c d0 H locs la hc hd0 hP hS hz hn hl
  have hk : k < 1000000 := Nat.lt_of_lt_of_le (z_lt hM) hn
  have k1 := kk p e s m args below meth c d0 H locs la hc hd0 hP hS hz hn hl
  obtain ⟨hx, hb, hr, hml, hown, hts, hlk, hnm, hkb⟩ := hc
  obtain ⟨hck, C, T, N, hcl, hj, hlink⟩ := hf
  obtain ⟨c1, c2, c3, c4, c5, c6⟩ := hck C T N hcl
  rw [List.map_cons, zv_ref hk]
  have hP1 := hP
  have hv2 : (fs.map (zv Γ))[j]? = some (zv Γ v) := by rw [List.getElem?_map, hv]; rfl
  rcases hlink with h | ⟨host, h⟩
  · exact va_get (s := s.setDrawn d0) (own := μ.1) hx hb (dr_words hts d0) c1 hown hkb.1 hP k (zw_get hM) hcl j hj (dr_words hts d0 _ h) (fun x q => by rw [c4 j hj] at q; exact q) hv2 hd k1
  · exact va_getN (s := s.setDrawn d0) (own := μ.1) hx hb (dr_words hts d0) c1 hown hkb.1 hP k (zw_get hM) hcl j hj ((Cond.before_setDrawn args s d0 _).trans (va_Nw.use rfl (hkb.2.1 _ h))) (fun x q => by rw [c4 j hj] at q; exact q) hv2 hd k1
theorem Z_put {idx ci j k : Nat} {fs : List Value} {v : Value} (hd : decode μ.2.2.1 pc = .ok (.putfield idx, 3)) (hf : zFl μ.1 idx ci j) (hM : M[k]? = some (.inr (ci, fs))) (hfin : zFn ci j = false) (hvv : zv Γ v = v) (hnr : narrow (zTt ci j) v = v) (hft : fits (zTt ci j) v = true) (hj : j < fs.length) (kk : Z Γ R μ Φ kc ks (pc + 3) ls st (M.set k (.inr (ci, fs.set j v)))) : Z Γ R μ Φ kc ks pc ls (v :: .ref k :: st) M := by
  intro p e s m args below meth c d0 H locs la hc hd0 hP hS hz hn hl
  have hk : k < 1000000 := Nat.lt_of_lt_of_le (z_lt hM) hn
  have k1 := fun H1 locs1 hP1 hS1 => kk p e s m args below meth c d0 H1 locs1 la hc hd0 hP1 hS1 (by rw [List.length_set]; exact hz) (by rw [List.length_set]; exact hn) hl
  obtain ⟨hx, hb, hr, hml, hown, hts, hlk, hnm, hkb⟩ := hc
  obtain ⟨hck, C, T, N, hcl, hjN, hlink⟩ := hf
  obtain ⟨c1, c2, c3, c4, c5, c6⟩ := hck C T N hcl
  have hfin2 : (T j).2.2.2 = false := by
    have h := hfin
    unfold zFn at h
    rw [hcl] at h
    exact h
  rw [List.map_cons, List.map_cons, zv_ref hk, hvv]
  have e1 : zw Γ (M.set k (.inr (ci, fs.set j v))) = (zw Γ M).set k (zSz Γ + k, .inr (ci, (fs.map (zv Γ)).set j v)) := by
    rw [zw_set]
    show (zw Γ M).set k (zSz Γ + k, .inr (ci, (fs.set j v).map (zv Γ))) = _
    rw [List.map_set, hvv]
  rcases hlink with h | ⟨host, h⟩
  · exact va_put (s := s.setDrawn d0) (own := μ.1) (ref := C) hx hb (dr_words hts d0) c1 (zTt ci) c2 c3 hown hkb.1 hP (zw_D Γ M) hS k (zw_get hM) hcl j hjN (dr_words hts d0 _ h) (fun x q => by rw [c4 j hjN] at q; exact q) hfin2 (c2 j hjN) hnr hft (by rw [List.length_map]; exact hj) hd (fun H1 locs1 hP1 hD1 hS1 => k1 H1 locs1 (by rw [e1]; exact hP1) hS1)
  · exact va_putN (s := s.setDrawn d0) (own := μ.1) (ref := C) hx hb (dr_words hts d0) c1 (zTt ci) c2 c3 hown hkb.1 hP (zw_D Γ M) hS k (zw_get hM) hcl j hjN ((Cond.before_setDrawn args s d0 _).trans (va_Nw.use rfl (hkb.2.1 _ h))) (fun x q => by rw [c4 j hjN] at q; exact q) hfin2 (c2 j hjN) hnr hft (by rw [List.length_map]; exact hj) hd (fun H1 locs1 hP1 hD1 hS1 => k1 H1 locs1 (by rw [e1]; exact hP1) hS1)
theorem Z_puti {idx ci j k : Nat} {fs : List Value} {x : Int32} (hd : decode μ.2.2.1 pc = .ok (.putfield idx, 3)) (hf : zFl μ.1 idx ci j) (hM : M[k]? = some (.inr (ci, fs))) (hfin : zFn ci j = false) (hty : zTt ci j = .int) (hj : j < fs.length) (kk : Z Γ R μ Φ kc ks (pc + 3) ls st (M.set k (.inr (ci, fs.set j (.int x))))) : Z Γ R μ Φ kc ks pc ls (.int x :: .ref k :: st) M :=
  Z_put hd hf hM hfin rfl (by rw [hty]; rfl) (by rw [hty]; rfl) hj kk
theorem Z_putz {idx ci j k : Nat} {fs : List Value} {x : Int32} (hd : decode μ.2.2.1 pc = .ok (.putfield idx, 3)) (hf : zFl μ.1 idx ci j) (hM : M[k]? = some (.inr (ci, fs))) (hfin : zFn ci j = false) (hty : zTt ci j = .boolean) (hx : x = 0 ∨ x = 1) (hj : j < fs.length) (kk : Z Γ R μ Φ kc ks (pc + 3) ls st (M.set k (.inr (ci, fs.set j (.int x))))) : Z Γ R μ Φ kc ks pc ls (.int x :: .ref k :: st) M :=
  Z_put hd hf hM hfin rfl (by rw [hty]; rcases hx with rfl | rfl <;> rfl) (by rw [hty]; rcases hx with rfl | rfl <;> rfl) hj kk
/-- a final field, in a constructor: a reference -/
theorem Z_putF {idx ci j k r : Nat} {fs : List Value} (hd : decode μ.2.2.1 pc = .ok (.putfield idx, 3)) (hf : zFl μ.1 idx ci j) (hM : M[k]? = some (.inr (ci, fs))) (hfin : zFn ci j = true) (hin : μ.2.1.name = "<init>") (hown0 : ∀ C T N, zCl[ci]? = some (C, T, N) → C = μ.1) (hty : (∃ t, zTt ci j = .object t) ∨ ∃ t, zTt ci j = .array t) (hpl : ∀ C T N, zCl[ci]? = some (C, T, N) → Cond.fieldLink μ.1 idx C (T j).2.1 (T j).2.2.1 ∈ zG) (hr : r < 1000000) (hj : j < fs.length) (kk : Z Γ R μ Φ kc ks (pc + 3) ls st (M.set k (.inr (ci, fs.set j (.ref r))))) : Z Γ R μ Φ kc ks pc ls (.ref r :: .ref k :: st) M := by
  intro p e s m args below meth c d0 H locs la hc hd0 hP hS hz hn hl
  have hk : k < 1000000 := Nat.lt_of_lt_of_le (z_lt hM) hn
  have k1 := fun H1 locs1 hP1 hS1 => kk p e s m args below meth c d0 H1 locs1 la hc hd0 hP1 hS1 (by rw [List.length_set]; exact hz) (by rw [List.length_set]; exact hn) hl
  obtain ⟨hx, hb, hrt, hml, hown, hts, hlk, hnm, hkb⟩ := hc
  obtain ⟨hck, C, T, N, hcl, hjN, -⟩ := hf
  obtain ⟨c1, c2, c3, c4, c5, c6⟩ := hck C T N hcl
  have hfin2 : (T j).2.2.2 = true := by
    have h := hfin
    unfold zFn at h
    rw [hcl] at h
    exact h
  rw [List.map_cons, List.map_cons, zv_ref hk, zv_ref hr]
  have e1 : zw Γ (M.set k (.inr (ci, fs.set j (.ref r)))) = (zw Γ M).set k (zSz Γ + k, .inr (ci, (fs.map (zv Γ)).set j (.ref (zSz Γ + r)))) := by
    rw [zw_set]
    show (zw Γ M).set k (zSz Γ + k, .inr (ci, (fs.set j (.ref r)).map (zv Γ))) = _
    rw [List.map_set, zv_ref hr]
  exact va_putF (s := s.setDrawn d0) (own := μ.1) (ref := C) hx hb (dr_words hts d0) c1 (zTt ci) c2 c3 hown hkb.1 hP (zw_D Γ M) hS k (zw_get hM) hcl j hjN (dr_words hts d0 _ (hpl C T N hcl)) (fun x q => by rw [c4 j hjN] at q; exact q) hfin2 (by rw [hnm]; exact hin) (by rw [c4 j hjN]; exact hown0 C T N hcl) (c2 j hjN) (by rcases hty with ⟨t, h⟩ | ⟨t, h⟩ <;> rw [h] <;> rfl) (by rcases hty with ⟨t, h⟩ | ⟨t, h⟩ <;> rw [h] <;> rfl) (by rw [List.length_map]; exact hj) hd (fun H1 locs1 hP1 hD1 hS1 => k1 H1 locs1 (by rw [e1]; exact hP1) hS1)
theorem Z_iald {k n : Nat} {f : Nat → Int32} {i : Int32} (hd : decode μ.2.2.1 pc = .ok (.iaload, 1)) (hM : M[k]? = some (.inl (0, n, .inl f))) (hin : vp_in i n) (kk : Z Γ R μ Φ kc ks (pc + 1) ls (.int (f i.toNatClampNeg) :: st) M) : Z Γ R μ Φ kc ks pc ls (.int i :: .ref k :: st) M := by
  intro p e s m args below meth c d0 H locs la hc hd0 hP hS hz hn hl
  have hk : k < 1000000 := Nat.lt_of_lt_of_le (z_lt hM) hn
  rw [List.map_cons, List.map_cons, zv_ref hk]
  exact va_iald (s := s.setDrawn d0) hc.1 hc.2.1 hc.2.2.2.2.2.2.2.2.1 hP k 0 (zw_get hM) rfl hin hd (kk p e s m args below meth c d0 H locs la hc hd0 hP hS hz hn hl)
theorem Z_lald {k n : Nat} {f : Nat → Int64} {i : Int32} (hd : decode μ.2.2.1 pc = .ok (.laload, 1)) (hM : M[k]? = some (.inl (1, n, .inr (.inl f)))) (hin : vp_in i n) (kk : Z Γ R μ Φ kc ks (pc + 1) ls (.long (f i.toNatClampNeg) :: st) M) : Z Γ R μ Φ kc ks pc ls (.int i :: .ref k :: st) M := by
  intro p e s m args below meth c d0 H locs la hc hd0 hP hS hz hn hl
  have hk : k < 1000000 := Nat.lt_of_lt_of_le (z_lt hM) hn
  rw [List.map_cons, List.map_cons, zv_ref hk]
  exact va_lald (s := s.setDrawn d0) hc.1 hc.2.1 hc.2.2.2.2.2.2.2.2.1 hP k 1 (zw_get hM) rfl hin hd (kk p e s m args below meth c d0 H locs la hc hd0 hP hS hz hn hl)
theorem Z_zald {k n : Nat} {f : Nat → Int32} {i : Int32} (hd : decode μ.2.2.1 pc = .ok (.baload, 1)) (hM : M[k]? = some (.inl (2, n, .inl f))) (hin : vp_in i n) (kk : Z Γ R μ Φ kc ks (pc + 1) ls (.int (f i.toNatClampNeg) :: st) M) : Z Γ R μ Φ kc ks pc ls (.int i :: .ref k :: st) M := by
  intro p e s m args below meth c d0 H locs la hc hd0 hP hS hz hn hl
  have hk : k < 1000000 := Nat.lt_of_lt_of_le (z_lt hM) hn
  rw [List.map_cons, List.map_cons, zv_ref hk]
  exact va_zald (s := s.setDrawn d0) hc.1 hc.2.1 hc.2.2.2.2.2.2.2.2.1 hP k 2 (zw_get hM) rfl hin hd (kk p e s m args below meth c d0 H locs la hc hd0 hP hS hz hn hl)
theorem Z_aald {k n r : Nat} {f : Nat → Option Nat} {i : Int32} (hd : decode μ.2.2.1 pc = .ok (.aaload, 1)) (hM : M[k]? = some (.inl (3, n, .inr (.inr (.inr (.inr f)))))) (hin : vp_in i n) (hr : f i.toNatClampNeg = some r) (hr2 : r < 1000000) (kk : Z Γ R μ Φ kc ks (pc + 1) ls (.ref r :: st) M) : Z Γ R μ Φ kc ks pc ls (.int i :: .ref k :: st) M := by
  intro p e s m args below meth c d0 H locs la hc hd0 hP hS hz hn hl
  have hk : k < 1000000 := Nat.lt_of_lt_of_le (z_lt hM) hn
  have k1 := kk p e s m args below meth c d0 H locs la hc hd0 hP hS hz hn hl
  rw [List.map_cons, zv_ref hr2] at k1
  rw [List.map_cons, List.map_cons, zv_ref hk]
  have hlt : i.toNatClampNeg < n := Nat.not_le.mp fun q => hin (Or.inr q)
  have hK := hc.2.2.2.2.2.2.2.2.1
  have hcell : H[zSz Γ + k]? = some (arrV (zAr Γ 3) n (fun j => va_rf ((f j).map (fun k => zSz Γ + k)))) := hP k _ (zw_get hM)
  have harr : (s.setDrawn d0).isArrayOf (arrV (zAr Γ 3) n (fun j => va_rf ((f j).map (fun k => zSz Γ + k)))) (.array .int) := (hK.2 3 _ rfl).1 n _
  have hval : (arrV (zAr Γ 3) n (fun j => va_rf ((f j).map (fun k => zSz Γ + k)))).slots[i.toNatClampNeg]? = some (.ref (zSz Γ + r)) := by rw [arrV_read _ _ hlt, hr]; rfl
  exact W.aald (s := s.setDrawn d0) (g := F0 m pc la (.int i :: .ref (zSz Γ + k) :: st.map (zv Γ))) hc.1 hc.2.1 hcell harr rfl (fun q => by cases q) (by rw [arrV_size]; exact hin) hval rfl rfl hd k1
theorem Z_alen {k t : Nat} {x : vp_A} (hd : decode μ.2.2.1 pc = .ok (.arraylength, 1)) (hM : M[k]? = some (.inl (t, x))) (ht : t < 3) (hx : ∀ f, x.2 ≠ .inr (.inr (.inr (.inr f)))) (kk : Z Γ R μ Φ kc ks (pc + 1) ls (.int (Int32.ofNat x.1) :: st) M) : Z Γ R μ Φ kc ks pc ls (.ref k :: st) M := by
  intro p e s m args below meth c d0 H locs la hc hd0 hP hS hz hn hl
  have hk : k < 1000000 := Nat.lt_of_lt_of_le (z_lt hM) hn
  rw [List.map_cons, zv_ref hk]
  have h1 : zc Γ (.inl (t, x)) = .inl (zAr Γ t, x) := by
    obtain ⟨n, f | f | f | f | f⟩ := x
    · rfl
    · rfl
    · rfl
    · rfl
    · exact absurd rfl (hx f)
  have h2 : (zTys Γ)[t]? = some (zAr Γ t, zTy t) := by
    match t, ht with
    | 0, _ => rfl
    | 1, _ => rfl
    | 2, _ => rfl
  exact va_alen (s := s.setDrawn d0) hc.1 hc.2.1 hc.2.2.2.2.2.2.2.2.1 hP k t (x := x) (by rw [zw_get hM, h1]) h2 rfl hd (kk p e s m args below meth c d0 H locs la hc hd0 hP hS hz hn hl)
theorem Z_iast {k n : Nat} {f : Nat → Int32} {i x : Int32} (hd : decode μ.2.2.1 pc = .ok (.iastore, 1)) (hM : M[k]? = some (.inl (0, n, .inl f))) (hin : vp_in i n) (kk : Z Γ R μ Φ kc ks (pc + 1) ls st (M.set k (.inl (0, n, .inl (upd f i.toNatClampNeg x))))) : Z Γ R μ Φ kc ks pc ls (.int x :: .int i :: .ref k :: st) M := by
  intro p e s m args below meth c d0 H locs la hc hd0 hP hS hz hn hl
  have hk : k < 1000000 := Nat.lt_of_lt_of_le (z_lt hM) hn
  rw [List.map_cons, List.map_cons, List.map_cons, zv_ref hk]
  exact va_iast (s := s.setDrawn d0) hc.1 hc.2.1 hc.2.2.2.2.2.2.2.2.1 hP (zw_D Γ M) hS k 0 (zw_get hM) rfl hin hd (fun H1 locs1 hP1 hD1 hS1 => kk p e s m args below meth c d0 H1 locs1 la hc hd0 (by rw [zw_set]; exact hP1) hS1 (by rw [List.length_set]; exact hz) (by rw [List.length_set]; exact hn) hl)
theorem Z_last {k n : Nat} {f : Nat → Int64} {i : Int32} {x : Int64} (hd : decode μ.2.2.1 pc = .ok (.lastore, 1)) (hM : M[k]? = some (.inl (1, n, .inr (.inl f)))) (hin : vp_in i n) (kk : Z Γ R μ Φ kc ks (pc + 1) ls st (M.set k (.inl (1, n, .inr (.inl (vp_updL f i.toNatClampNeg x)))))) : Z Γ R μ Φ kc ks pc ls (.long x :: .int i :: .ref k :: st) M := by
  intro p e s m args below meth c d0 H locs la hc hd0 hP hS hz hn hl
  have hk : k < 1000000 := Nat.lt_of_lt_of_le (z_lt hM) hn
  rw [List.map_cons, List.map_cons, List.map_cons, zv_ref hk]
  exact va_last (s := s.setDrawn d0) hc.1 hc.2.1 hc.2.2.2.2.2.2.2.2.1 hP (zw_D Γ M) hS k 1 (zw_get hM) rfl hin hd (fun H1 locs1 hP1 hD1 hS1 => kk p e s m args below meth c d0 H1 locs1 la hc hd0 (by rw [zw_set]; exact hP1) hS1 (by rw [List.length_set]; exact hz) (by rw [List.length_set]; exact hn) hl)
theorem Z_zast {k n : Nat} {f : Nat → Int32} {i x : Int32} (hd : decode μ.2.2.1 pc = .ok (.bastore, 1)) (hM : M[k]? = some (.inl (2, n, .inl f))) (hin : vp_in i n) (hx : x = 0 ∨ x = 1) (kk : Z Γ R μ Φ kc ks (pc + 1) ls st (M.set k (.inl (2, n, .inl (upd f i.toNatClampNeg x))))) : Z Γ R μ Φ kc ks pc ls (.int x :: .int i :: .ref k :: st) M := by
  intro p e s m args below meth c d0 H locs la hc hd0 hP hS hz hn hl
  have hk : k < 1000000 := Nat.lt_of_lt_of_le (z_lt hM) hn
  rw [List.map_cons, List.map_cons, List.map_cons, zv_ref hk]
  have hnar : vp_nar .boolean x = x := by rcases hx with rfl | rfl <;> rfl
  exact va_zast (s := s.setDrawn d0) hc.1 hc.2.1 hc.2.2.2.2.2.2.2.2.1 hP (zw_D Γ M) hS k 2 (zw_get hM) rfl hin hd (fun H1 locs1 hP1 hD1 hS1 => kk p e s m args below meth c d0 H1 locs1 la hc hd0 (by rw [zw_set]; rw [hnar] at hP1; exact hP1) hS1 (by rw [List.length_set]; exact hz) (by rw [List.length_set]; exact hn) hl)
/-- the script -/
theorem Z_sld {L : Nat} {xs : Nat → Int32} {i : Int32} (hd : decode μ.2.2.1 pc = .ok (.iaload, 1)) (hs : (zScr Γ).2 = (L, xs)) (hin : vp_in i L) (kk : Z Γ R μ Φ kc ks (pc + 1) ls (.int (xs i.toNatClampNeg) :: st) M) : Z Γ R μ Φ kc ks pc ls (.int i :: .ref 1000000 :: st) M := by
  intro p e s m args below meth c d0 H locs la hc hd0 hP hS hz hn hl
  have k1 := kk p e s m args below meth c d0 H locs la hc hd0 hP hS hz hn hl
  obtain ⟨hx, hb, hr, hml, hown, hts, hlk, hnm, h1, h2, h3, h4, h5, h6, h7, h8, h9, h10, h11⟩ := hc
  have e0 : zv Γ (.ref 1000000) = .ref (zScr Γ).1 := h10
  rw [List.map_cons, List.map_cons, e0]
  rw [hs] at h5
  exact va_sld (s := s.setDrawn d0) hx hb h5 (Nat.lt_of_lt_of_le h8 h9) (Nat.not_le.mpr h8) hS hin hd k1
theorem Z_slen {L : Nat} {xs : Nat → Int32} (hd : decode μ.2.2.1 pc = .ok (.arraylength, 1)) (hs : (zScr Γ).2 = (L, xs)) (kk : Z Γ R μ Φ kc ks (pc + 1) ls (.int (Int32.ofNat L) :: st) M) : Z Γ R μ Φ kc ks pc ls (.ref 1000000 :: st) M := by
  intro p e s m args below meth c d0 H locs la hc hd0 hP hS hz hn hl
  have k1 := kk p e s m args below meth c d0 H locs la hc hd0 hP hS hz hn hl
  obtain ⟨hx, hb, hr, hml, hown, hts, hlk, hnm, h1, h2, h3, h4, h5, h6, h7, h8, h9, h10, h11⟩ := hc
  have e0 : zv Γ (.ref 1000000) = .ref (zScr Γ).1 := h10
  rw [List.map_cons, e0]
  rw [hs] at h5
  exact va_slen (s := s.setDrawn d0) hx hb h5 (Nat.lt_of_lt_of_le h8 h9) (Nat.not_le.mpr h8) hS hd k1
end ZH
