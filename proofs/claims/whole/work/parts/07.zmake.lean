/-! making cells; the library's members -/
section ZA
variable {Γ : zCtx} {R : Room} {μ : zMe} {Φ : zPhi} {kc ks pc : Nat} {ls : List (Option Value)} {st : List Value} {M : List zE}
theorem z_push {p : Program} {e : Env} {s : State} {m : MethodId} {args : Array Value} {below : List Frame} {meth : Method} {c : Code} {d0 : Drawn} {H H1 : Heap} {locs : List Loc} {x : zE} (hkb : zKB Γ s) (hP : va_P (zD Γ) zCl (zw Γ M) H) (hS : va_S (zA Γ) s.heap H locs) (hsz : H.size = zSz Γ + M.length) (hz1 : H1.size = H.size + 1) (ho : ∀ q, q < H.size → H1[q]? = H[q]?) (hx : va_at (zD Γ) zCl (zSz Γ + M.length, zc Γ x) H1) : va_P (zD Γ) zCl (zw Γ (M ++ [x])) H1 ∧ va_S (zA Γ) s.heap H1 locs := by
  have hk : ∀ (k : Nat) (q : Nat × va_E), (zw Γ M)[k]? = some q → H1[q.1]? = H[q.1]? := fun k q hq => ho q.1 ((hP k q hq).lt)
  refine ⟨?_, ⟨Nat.le_trans hS.1 (by omega), fun q h1 h2 => (ho q (Nat.lt_of_lt_of_le h1 hS.1)).trans (hS.2.1 q h1 h2), hS.2.2⟩⟩
  rw [zw_app]
  refine (hP.kept hk).app (fun k q hq => ?_)
  have hz : k < 1 := (List.getElem?_eq_some_iff.mp hq).1
  rw [show k = 0 by omega] at hq
  cases hq
  exact hx
theorem Z_new {idx ci N : Nat} {C : String} {T0 : u_T} {fs : List Value} (hd : decode μ.2.2.1 pc = .ok (.new idx, 3)) (hcl : zCl[ci]? = some (C, T0, N)) (hck : zCk ci) (hw : Cond.classLink μ.1 idx C ∈ zG) (hfs : ∀ j, j < N → defaultValue (zTt ci j) = vp_V fs j) (hfv : fs.map (zv Γ) = fs) (hce : kc + 1 ≤ R.cells) (hsl : ks + N ≤ R.slots) (hlen : M.length < 1000000)
    (kk : Z Γ R μ Φ (kc + 1) (ks + N) (pc + 3) ls (.ref M.length :: st) (M ++ [.inr (ci, fs)])) : Z Γ R μ Φ kc ks pc ls st M := by
  intro p e s m args below meth c d0 H locs la hc hd0 hP hS hz hn hl T hT X
  have hc0 := hc
  obtain ⟨hx, hb, hrt, hml, hown, hts, hlk, hnm, hkb⟩ := hc
  have hsz := z_size hkb hP hS hz hT X
  obtain ⟨c1, c2, c3, c4, c5, c6⟩ := hck C T0 N hcl
  have hKn := hkb.1.1 ci _ hcl
  refine W.newcK (s := s.setDrawn d0) (g := F0 m pc la (st.map (zv Γ))) hx hb hown (dr_words hts d0 _ hw) (dr_words hts d0 _ c5) (dr_words hts d0 _ c6) rfl hd hce hsl hKn.2.1 hsz (fun H1 kC hkC e1 z1 o1 => ?_) T hT X
  have hat : va_at (zD Γ) zCl (zSz Γ + M.length, zc Γ (.inr (ci, fs))) H1 := by
    show va_at (zD Γ) zCl (zSz Γ + M.length, .inr (ci, fs.map (zv Γ))) H1
    rw [hfv]
    exact ⟨_, hcl, (u_born (s := s.setDrawn d0) (zTt ci) (dr_words hts d0) c1 hKn hkC e1 c2).to hfs⟩
  obtain ⟨hP1, hS1⟩ := z_push (p := p) (e := e) (m := m) (args := args) (below := below) (meth := meth) (c := c) (d0 := d0) hkb hP hS hsz (by omega) (fun q hq => o1 q (by omega)) hat
  have w := kk p e s m args below meth c d0 H1 locs la hc0 hd0 hP1 hS1 (by rw [List.length_append]; simp only [List.length_cons, List.length_nil]; omega) (by rw [List.length_append]; simp only [List.length_cons, List.length_nil]; omega) hl
  rw [List.map_cons, zv_ref hlen] at w
  exact w
/-- an array of ints, longs or booleans -/
def zZero (t : Nat) (n : Nat) : vp_A := match t with
  | 1 => (n, .inr (.inl (fun _ => 0)))
  | _ => (n, .inl (fun _ => 0))
def zAt0 (t : Nat) : ArrayType := match t with
  | 0 => .int
  | 1 => .long
  | _ => .boolean
theorem Z_newa {t N : Nat} {n : Int32} (ht : t < 3) (hd : decode μ.2.2.1 pc = .ok (.newarray (zAt0 t), 2)) (hw : Cond.arrayClass (zTy t) ∈ zG) (hn0 : ¬ n < 0) (hN : n.toNatClampNeg = N) (hb8 : N * 8 ≤ 536870912) (hce : kc + 1 ≤ R.cells) (hsl : ks + N ≤ R.slots) (hlen : M.length < 1000000)
    (kk : Z Γ R μ Φ (kc + 1) (ks + N) (pc + 2) ls (.ref M.length :: st) (M ++ [.inl (t, zZero t N)])) : Z Γ R μ Φ kc ks pc ls (.int n :: st) M := by
  intro p e s m args below meth c d0 H locs la hc hd0 hP hS hz hn hl T hT X
  have hc0 := hc
  obtain ⟨hx, hb, hrt, hml, hown, hts, hlk, hnm, hkb⟩ := hc
  have hsz := z_size hkb hP hS hz hT X
  have hty : newarray.typeOf (zAt0 t) = zTy t := by
    match t, ht with
    | 0, _ => rfl
    | 1, _ => rfl
    | 2, _ => rfl
  have hby : N * componentBytes (newarray.typeOf (zAt0 t)) ≤ 536870912 := by
    rw [hty]
    have h8 : componentBytes (zTy t) ≤ 8 := by
      match t, ht with
      | 0, _ => decide
      | 1, _ => decide
      | 2, _ => decide
    exact Nat.le_trans (Nat.mul_le_mul_left N h8) hb8
  refine va_newaK (s := s.setDrawn d0) (atype := zAt0 t) (g := F0 m pc la (.int n :: st.map (zv Γ))) hx hb (by rw [hty]; exact dr_words hts d0 _ hw) rfl hd rfl hn0 hN hby hce hsl hsz (fun H1 cA e1 z1 o1 hAr hfc => ?_) T hT X
  have hcA : cA = zAr Γ t := by
    rw [hty] at hfc
    have h2 : s.vm.findClass ("[" ++ (zTy t).toString) = some (zAr Γ t) := by
      match t, ht with
      | 0, _ => exact (hkb.1.2 0 _ rfl).2
      | 1, _ => exact (hkb.1.2 1 _ rfl).2
      | 2, _ => exact (hkb.1.2 2 _ rfl).2
    exact Option.some.inj (hfc.symm.trans h2)
  subst hcA
  have hat : va_at (zD Γ) zCl (zSz Γ + M.length, zc Γ (.inl (t, zZero t N))) H1 := by
    rw [hty] at e1
    match t, ht, e1 with
    | 0, _, e1 => exact e1
    | 1, _, e1 => exact e1
    | 2, _, e1 => exact e1
  obtain ⟨hP1, hS1⟩ := z_push (p := p) (e := e) (m := m) (args := args) (below := below) (meth := meth) (c := c) (d0 := d0) hkb hP hS hsz (by omega) (fun q hq => o1 q (by omega)) hat
  have w := kk p e s m args below meth c d0 H1 locs la hc0 hd0 hP1 hS1 (by rw [List.length_append]; simp only [List.length_cons, List.length_nil]; omega) (by rw [List.length_append]; simp only [List.length_cons, List.length_nil]; omega) hl
  rw [List.map_cons, zv_ref hlen] at w
  exact w
theorem z_rows {x : zE} : ∀ (n : Nat) (M : List zE) (H1 : Heap), va_P (zD Γ) zCl (zw Γ M) H1 → (∀ j, j < n → va_at (zD Γ) zCl (zSz Γ + M.length + j, zc Γ x) H1) → va_P (zD Γ) zCl (zw Γ (M ++ List.replicate n x)) H1
  | 0, M, H1, h, _ => by rw [List.replicate_zero, List.append_nil]; exact h
  | n + 1, M, H1, h, hr => by
    have h1 : va_P (zD Γ) zCl (zw Γ (M ++ [x])) H1 := by
      rw [zw_app]
      refine h.app (fun k q hq => ?_)
      have hz : k < 1 := (List.getElem?_eq_some_iff.mp hq).1
      rw [show k = 0 by omega] at hq
      cases hq
      exact hr 0 (by omega)
    have h2 := z_rows n (M ++ [x]) H1 h1 (fun j hj => by
      have h3 := hr (j + 1) (by omega)
      rw [List.length_append, show ([x] : List zE).length = 1 from rfl, show zSz Γ + (M.length + 1) + j = zSz Γ + M.length + (j + 1) by omega]
      exact h3)
    rw [List.append_assoc] at h2
    exact h2
/-- new int[n][k] -/
theorem Z_mna {idx N K : Nat} {n k : Int32} (hd : decode μ.2.2.1 pc = .ok (.multianewarray idx 2, 4)) (hw : Cond.classLink μ.1 idx "[[I" ∈ zG) (hw2 : Cond.arrayClass .int ∈ zG) (hn0 : ¬ n < 0) (hk0 : ¬ k < 0) (hN : n.toNatClampNeg = N) (hK : k.toNatClampNeg = K) (hN9 : N ≤ 1000) (hK9 : K ≤ 1000) (hce : kc + (1 + N) ≤ R.cells) (hsl : ks + (N + N * K) ≤ R.slots) (hlen : M.length + 1 + N ≤ 1000000)
    (kk : Z Γ R μ Φ (kc + 1 + N) (ks + N + N * K) (pc + 4) ls (.ref M.length :: st) ((M ++ [.inl (3, N, .inr (.inr (.inr (.inr (fun i => if i < N then some (M.length + 1 + i) else none)))))]) ++ List.replicate N (.inl (0, K, .inl (fun _ => 0))))) : Z Γ R μ Φ kc ks pc ls (.int k :: .int n :: st) M := by
  subst hN
  subst hK
  intro p e s m args below meth c d0 H locs la hc hd0 hP hS hz hn hl T hT X
  have hc0 := hc
  obtain ⟨hx, hb, hrt, hml, hown, hts, hlk, hnm, hkb⟩ := hc
  have hsz := z_size hkb hP hS hz hT X
  obtain ⟨vm₁, cA, cB, locs1, fA, fB, hl1, X1, step⟩ := zo_multi (g := F0 m pc la (.int k :: .int n :: st.map (zv Γ))) X hx hown (dr_words hts d0 _ hw) hkb.2.2.2.2.2.2.2.2.2.2.1.2 (dr_words hts d0 _ hw2) rfl (by rw [hb]; exact hd) rfl hn0 hN9 hk0 hK9 hce hsl
  have e1 : cA = zAr Γ 3 := by
    have h2 : s.vm.findClass ("[" ++ (FieldType.array .int).toString) = some (zAr Γ 3) := (hkb.1.2 3 _ rfl).2
    exact Option.some.inj (fA.symm.trans h2)
  have e2 : cB = zAr Γ 0 := by
    have h2 : s.vm.findClass ("[" ++ (FieldType.int).toString) = some (zAr Γ 0) := (hkb.1.2 0 _ rfl).2
    exact Option.some.inj (fB.symm.trans h2)
  subst e1
  subst e2
  obtain ⟨f1, f2, f3, f4, -⟩ := zoF_facts (zAr Γ 3) (zAr Γ 0) n.toNatClampNeg k.toNatClampNeg (T.setVm vm₁) n.toNatClampNeg
  have hTh : (T.setVm vm₁).heap = H := hT
  have hTz : T.heap.size = H.size := by rw [hT]
  rw [hTh] at f1 f2 f3 f4
  rw [hTz] at X1 step hl1
  generalize zoF (zAr Γ 3) (zAr Γ 0) n.toNatClampNeg k.toNatClampNeg H.size (T.setVm vm₁) n.toNatClampNeg = F at X1 step f1 f2 f3 f4
  have hP0 : va_P (zD Γ) zCl (zw Γ M) F.heap := hP.kept (fun k9 x hx => f3 x.1 ((hP k9 x hx).lt))
  have hP1 : va_P (zD Γ) zCl (zw Γ (M ++ [.inl (3, n.toNatClampNeg, .inr (.inr (.inr (.inr (fun i => if i < n.toNatClampNeg then some (M.length + 1 + i) else none)))))])) F.heap := by
    rw [zw_app]
    refine hP0.app (fun k9 q hq => ?_)
    have hz9 : k9 < 1 := (List.getElem?_eq_some_iff.mp hq).1
    rw [show k9 = 0 by omega] at hq
    cases hq
    show F.heap[zSz Γ + M.length]? = some (arrV (zAr Γ 3) n.toNatClampNeg (fun j => va_rf ((if j < n.toNatClampNeg then some (M.length + 1 + j) else none).map (fun k => zSz Γ + k))))
    rw [← hsz, f2]
    refine congrArg (fun u => some (arrV (zAr Γ 3) n.toNatClampNeg u)) (funext fun j => ?_)
    by_cases hj : j < n.toNatClampNeg
    · rw [if_pos hj, if_pos hj]
      show Value.ref (H.size + 1 + j) = .ref (zSz Γ + (M.length + 1 + j))
      rw [show H.size + 1 + j = zSz Γ + (M.length + 1 + j) by omega]
    · rw [if_neg hj, if_neg hj]
      rfl
  have hP2 := z_rows (x := .inl (0, k.toNatClampNeg, .inl (fun _ => 0))) n.toNatClampNeg _ F.heap hP1 (fun j hj => by
    show F.heap[zSz Γ + _ + j]? = some (arrV (zAr Γ 0) k.toNatClampNeg (fun _ => .int 0))
    rw [List.length_append, ← f4 j hj, hsz]
    simp only [List.length_cons, List.length_nil]
    congr 1
    )
  have hS2 : va_S (zA Γ) s.heap F.heap locs1 := by
    refine ⟨by rw [f1]; have := hS.1; omega, fun x h1 h2 => (f3 x (Nat.lt_of_lt_of_le h1 hS.1)).trans (hS.2.1 x h1 h2), fun q hq => ?_⟩
    rcases hl1 q hq with h | h
    · exact hS.2.2 q h
    · show zSz Γ ≤ q.base
      rw [h]
      omega
  have hll : ∀ (x : zE) (y : zE), ((M ++ [x]) ++ List.replicate n.toNatClampNeg y).length = M.length + 1 + n.toNatClampNeg := fun x y => by
    rw [List.length_append, List.length_append, List.length_replicate]; rfl
  have w := kk p e s m args below meth c d0 F.heap locs1 la hc0 hd0 hP2 hS2 (by rw [hll]; omega) (by rw [hll]; exact hlen) hl
  rw [List.map_cons, zv_ref (by omega), ← hsz] at w
  obtain ⟨t, a1, b1⟩ := w F rfl X1
  exact ⟨t, step t a1, b1⟩
theorem Z_objInit {idx k : Nat} (hd : decode μ.2.2.1 pc = .ok (.invokespecial idx, 3)) (hw : Cond.methodLink μ.1 idx Lib.objectInit ∈ zG) (hw1 : Cond.instanceMethod Lib.objectInit ∈ zG) (hw2 : Cond.code Lib.objectInit ⟨#[0xb1]⟩ 1 none ∈ zG) (hk : k < 1000000) (hst : (st.map fun v => v.category).sum ≤ 8) (hfr : 1 ≤ R.frames) (hlo : 64 ≤ R.locals) (kk : Z Γ R μ Φ kc ks (pc + 3) ls st M) : Z Γ R μ Φ kc ks pc ls (.ref k :: st) M := by
  intro p e s m args below meth c d0 H locs la hc hd0 hP hS hz hn hl
  have k1 := kk p e s m args below meth c d0 H locs la hc hd0 hP hS hz hn hl
  obtain ⟨hx, hb, hrt, hml, hown, hts, hlk, hnm, hkb⟩ := hc
  have h8 := z_rest hkb.2.2.2.2.2.2.2.2.2.2.2 hst
  rw [List.map_cons, zv_ref hk]
  refine W.objInit (s := s.setDrawn d0) (g := F0 m pc la (.ref (zSz Γ + k) :: st.map (zv Γ))) hx hb hown (dr_words hts d0 _ hw) (dr_words hts d0 _ hw1) (dr_words hts d0 _ hw2) rfl (hl.1.trans hml.symm) rfl hd hfr ?_ k1
  show 2 * 0 + _ + 12 ≤ R.locals
  omega
theorem Z_mmin {idx : Nat} {x y : Int32} (hd : decode μ.2.2.1 pc = .ok (.invokestatic idx, 3)) (hw : Cond.methodLink μ.1 idx Lib.Math.min.name ∈ zG) (hw1 : Cond.static Lib.Math.min.name ∈ zG) (hw2 : Cond.initialized "java/lang/Math" ∈ zG) (hw3 : Cond.code Lib.Math.min.name Lib.Math.min.code 2 (some .int) ∈ zG) (hst : (st.map fun v => v.category).sum ≤ 8) (hfr : 1 ≤ R.frames) (hlo : 64 ≤ R.locals) (hce : kc ≤ R.cells) (hsl : ks ≤ R.slots) (kk : Z Γ R μ Φ kc ks (pc + 3) ls (.int (if y < x then y else x) :: st) M) : Z Γ R μ Φ kc ks pc ls (.int y :: .int x :: st) M := by
  intro p e s m args below meth c d0 H locs la hc hd0 hP hS hz hn hl
  have k1 := kk p e s m args below meth c d0 H locs la hc hd0 hP hS hz hn hl
  obtain ⟨hx, hb, hrt, hml, hown, hts, hlk, hnm, hkb⟩ := hc
  have h8 := z_rest hkb.2.2.2.2.2.2.2.2.2.2.2 hst
  exact va_mmin (s := s.setDrawn d0) hx hb (hml.trans hl.1.symm) hown (dr_words hts d0 _ hw) (dr_words hts d0 _ hw1) (dr_words hts d0 _ hw2) (dr_words hts d0 _ hw3) hfr (by omega) hce hsl hd k1
theorem Z_mmax {idx : Nat} {x y : Int32} (hd : decode μ.2.2.1 pc = .ok (.invokestatic idx, 3)) (hw : Cond.methodLink μ.1 idx Lib.Math.max.name ∈ zG) (hw1 : Cond.static Lib.Math.max.name ∈ zG) (hw2 : Cond.initialized "java/lang/Math" ∈ zG) (hw3 : Cond.code Lib.Math.max.name Lib.Math.max.code 2 (some .int) ∈ zG) (hst : (st.map fun v => v.category).sum ≤ 8) (hfr : 1 ≤ R.frames) (hlo : 64 ≤ R.locals) (hce : kc ≤ R.cells) (hsl : ks ≤ R.slots) (kk : Z Γ R μ Φ kc ks (pc + 3) ls (.int (if x < y then y else x) :: st) M) : Z Γ R μ Φ kc ks pc ls (.int y :: .int x :: st) M := by
  intro p e s m args below meth c d0 H locs la hc hd0 hP hS hz hn hl
  have k1 := kk p e s m args below meth c d0 H locs la hc hd0 hP hS hz hn hl
  obtain ⟨hx, hb, hrt, hml, hown, hts, hlk, hnm, hkb⟩ := hc
  have h8 := z_rest hkb.2.2.2.2.2.2.2.2.2.2.2 hst
  exact va_mmax (s := s.setDrawn d0) hx hb (hml.trans hl.1.symm) hown (dr_words hts d0 _ hw) (dr_words hts d0 _ hw1) (dr_words hts d0 _ hw2) (dr_words hts d0 _ hw3) hfr (by omega) hce hsl hd k1
def zCpW (own : String) (idx : Nat) : Prop := Cond.methodLink own idx arraycopyName ∈ zG ∧ Cond.native arraycopyName ∈ zG ∧ Cond.static arraycopyName ∈ zG ∧ Cond.initialized "java/lang/System" ∈ zG
theorem Z_copyi {idx k0 k1 n0 n1 : Nat} {f g : Nat → Int32} {sp dp n : Int32} (hd : decode μ.2.2.1 pc = .ok (.invokestatic idx, 3)) (hw : zCpW μ.1 idx) (hM0 : M[k0]? = some (.inl (0, n0, .inl f))) (hM1 : M[k1]? = some (.inl (0, n1, .inl g))) (h1 : ¬ sp < 0) (h2 : ¬ dp < 0) (h3 : ¬ n < 0) (h4 : sp.toNatClampNeg + n.toNatClampNeg ≤ n0) (h5 : dp.toNatClampNeg + n.toNatClampNeg ≤ n1) (hst : (st.map fun v => v.category).sum ≤ 8) (hfr : 1 ≤ R.frames) (hlo : 64 ≤ R.locals)
    (kk : Z Γ R μ Φ kc ks (pc + 3) ls st (M.set k1 (.inl (0, n1, .inl (va_cpy f g sp.toNatClampNeg dp.toNatClampNeg n.toNatClampNeg))))) : Z Γ R μ Φ kc ks pc ls (.int n :: .int dp :: .ref k1 :: .int sp :: .ref k0 :: st) M := by
  intro p e s m args below meth c d0 H locs la hc hd0 hP hS hz hn hl
  have hk0 : k0 < 1000000 := Nat.lt_of_lt_of_le (z_lt hM0) hn
  have hk1 : k1 < 1000000 := Nat.lt_of_lt_of_le (z_lt hM1) hn
  have hc0 := hc
  obtain ⟨hx, hb, hrt, hml, hown, hts, hlk, hnm, hkb⟩ := hc
  obtain ⟨w1, w2, w3, w4⟩ := hw
  have h8 := z_rest hkb.2.2.2.2.2.2.2.2.2.2.2 hst
  have hnf : nativeFrameWords "java/lang/System" "arraycopy" 5 = 7 := by decide
  simp only [List.map_cons, zv_ref hk0, zv_ref hk1]
  exact va_copyi (s := s.setDrawn d0) hx hb (hml.trans hl.1.symm) hown (dr_words hts d0 _ w1) (dr_words hts d0 _ w2) (dr_words hts d0 _ w3) (dr_words hts d0 _ w4) hkb.1 hP (zw_D Γ M) hS k0 k1 0 0 (zw_get hM0) (zw_get hM1) rfl rfl rfl h1 h2 h3 h4 h5 (fun i _ => rfl) hfr (by rw [hnf]; omega) hd (fun H1 locs1 hP1 hD1 hS1 => kk p e s m args below meth c d0 H1 locs1 la hc0 hd0 (by rw [zw_set]; exact hP1) hS1 (by rw [List.length_set]; exact hz) (by rw [List.length_set]; exact hn) hl)
theorem Z_copyl {idx k0 k1 n0 n1 : Nat} {f g : Nat → Int64} {sp dp n : Int32} (hd : decode μ.2.2.1 pc = .ok (.invokestatic idx, 3)) (hw : zCpW μ.1 idx) (hM0 : M[k0]? = some (.inl (1, n0, .inr (.inl f)))) (hM1 : M[k1]? = some (.inl (1, n1, .inr (.inl g)))) (h1 : ¬ sp < 0) (h2 : ¬ dp < 0) (h3 : ¬ n < 0) (h4 : sp.toNatClampNeg + n.toNatClampNeg ≤ n0) (h5 : dp.toNatClampNeg + n.toNatClampNeg ≤ n1) (hst : (st.map fun v => v.category).sum ≤ 8) (hfr : 1 ≤ R.frames) (hlo : 64 ≤ R.locals)
    (kk : Z Γ R μ Φ kc ks (pc + 3) ls st (M.set k1 (.inl (1, n1, .inr (.inl (va_cpy f g sp.toNatClampNeg dp.toNatClampNeg n.toNatClampNeg)))))) : Z Γ R μ Φ kc ks pc ls (.int n :: .int dp :: .ref k1 :: .int sp :: .ref k0 :: st) M := by
  intro p e s m args below meth c d0 H locs la hc hd0 hP hS hz hn hl
  have hk0 : k0 < 1000000 := Nat.lt_of_lt_of_le (z_lt hM0) hn
  have hk1 : k1 < 1000000 := Nat.lt_of_lt_of_le (z_lt hM1) hn
  have hc0 := hc
  obtain ⟨hx, hb, hrt, hml, hown, hts, hlk, hnm, hkb⟩ := hc
  obtain ⟨w1, w2, w3, w4⟩ := hw
  have h8 := z_rest hkb.2.2.2.2.2.2.2.2.2.2.2 hst
  have hnf : nativeFrameWords "java/lang/System" "arraycopy" 5 = 7 := by decide
  simp only [List.map_cons, zv_ref hk0, zv_ref hk1]
  exact va_copyl (s := s.setDrawn d0) hx hb (hml.trans hl.1.symm) hown (dr_words hts d0 _ w1) (dr_words hts d0 _ w2) (dr_words hts d0 _ w3) (dr_words hts d0 _ w4) hkb.1 hP (zw_D Γ M) hS k0 k1 1 1 (zw_get hM0) (zw_get hM1) rfl rfl rfl h1 h2 h3 h4 h5 (fun i _ => rfl) hfr (by rw [hnf]; omega) hd (fun H1 locs1 hP1 hD1 hS1 => kk p e s m args below meth c d0 H1 locs1 la hc0 hd0 (by rw [zw_set]; exact hP1) hS1 (by rw [List.length_set]; exact hz) (by rw [List.length_set]; exact hn) hl)
end ZA
