theorem zv_refs {Γ : zCtx} (hs : ∀ k, zSp Γ k = .null ∨ ∃ a, zSp Γ k = .ref a) (x : Nat) : zv Γ (.ref x) = .null ∨ ∃ a, zv Γ (.ref x) = .ref a := by
  unfold zv
  by_cases h : x < 1000000
  · simp only [h, if_true]; exact Or.inr ⟨_, rfl⟩
  · simp only [h, if_false]; exact hs _
/-- the known locals as a list of places and values -/
def zPr (Γ : zCtx) (ls : List (Option Value)) : List (Nat × Value) := (ls.mapIdx (fun i o => o.map (fun v => (i, zv Γ v)))).filterMap id
theorem zPr_mem {Γ : zCtx} {ls : List (Option Value)} {i : Nat} {v : Value} (h : ls[i]? = some (some v)) : (i, zv Γ v) ∈ zPr Γ ls := by
  refine List.mem_filterMap.mpr ⟨some (i, zv Γ v), List.mem_of_getElem? (i := i) ?_, rfl⟩
  simp [List.getElem?_mapIdx, h]
theorem zPr_of {Γ : zCtx} {ls : List (Option Value)} {q : Nat × Value} (h : q ∈ zPr Γ ls) : ∃ v, ls[q.1]? = some (some v) ∧ q.2 = zv Γ v := by
  obtain ⟨o, h1, h2⟩ := List.mem_filterMap.mp h
  obtain ⟨j, hj⟩ := List.getElem?_of_mem h1
  simp only [List.getElem?_mapIdx, Option.map_eq_some_iff] at hj
  obtain ⟨w, hw, rfl⟩ := hj
  cases w with
  | none => simp at h2
  | some v =>
    simp only [Option.map_some, id_eq, Option.some.injEq] at h2
    subst h2
    exact ⟨v, hw, rfl⟩
theorem zLs_has {Γ : zCtx} {la : Array Slot} {nL : Nat} {ls : List (Option Value)} (h : zLs Γ la nL ls) : lv_has la nL (zPr Γ ls) := by
  refine ⟨h.1, h.2.1, fun q hq => ?_⟩
  obtain ⟨v, h1, h2⟩ := zPr_of hq
  rw [h2]
  exact h.2.2 _ _ h1
/-- a wide value just below the place that is written is lost -/
def zClr (ls : List (Option Value)) (i : Nat) : List (Option Value) := match i with
  | 0 => ls
  | j + 1 => match ls[j]? with
    | some (some (.long _)) => ls.set j none
    | some (some (.double _)) => ls.set j none
    | _ => ls
def zSt1 (ls : List (Option Value)) (i : Nat) (v : Value) : List (Option Value) := (zClr ls i).set i (some v)
def zSt2 (ls : List (Option Value)) (i : Nat) (v : Value) : List (Option Value) := ((zClr ls i).set i (some v)).set (i + 1) none
theorem zClr_of {ls : List (Option Value)} {i j : Nat} {v : Value} (h : (zClr ls i)[j]? = some (some v)) : ls[j]? = some (some v) ∧ ¬ (j + 1 = i ∧ v.category = 2) := by
  cases i with
  | zero => exact ⟨h, fun q => absurd q.1 (by omega)⟩
  | succ i =>
    simp only [zClr] at h
    have set_case : (ls.set i none)[j]? = some (some v) → ls[j]? = some (some v) ∧ ¬ (j + 1 = i + 1 ∧ v.category = 2) := by
      intro h
      by_cases hij : i = j
      · subst hij
        rw [List.getElem?_set] at h
        simp only [if_true] at h
        split at h <;> simp at h
      · rw [List.getElem?_set_ne hij] at h
        exact ⟨h, fun q => hij (by omega)⟩
    split at h
    · exact set_case h
    · exact set_case h
    · rename_i n1 n2
      refine ⟨h, fun q => ?_⟩
      obtain ⟨q1, q2⟩ := q
      have : j = i := by omega
      subst this
      cases v with
      | long x => exact n1 x h
      | double x => exact n2 x h
      | _ => cases q2
theorem zSt1_ok {Γ : zCtx} (hs : ∀ k, zSp Γ k = .null ∨ ∃ a, zSp Γ k = .ref a) {la1 : Array Slot} {nL i : Nat} {ls : List (Option Value)} {v w : Value} (hv : zv Γ v = w) (h : lv_has la1 nL ((i, w) :: (zPr Γ ls).filter (fun q => !(q.1 == i) && !(q.1 + 1 == i && q.2.category == 2)))) : zLs Γ la1 nL (zSt1 ls i v) := by
  refine ⟨h.1, h.2.1, fun j u hj => ?_⟩
  unfold zSt1 at hj
  by_cases hij : i = j
  · subst hij
    rw [List.getElem?_set] at hj
    simp only [if_true] at hj
    split at hj
    · cases hj
      rw [hv]
      exact h.2.2 (i, w) List.mem_cons_self
    · cases hj
  · rw [List.getElem?_set_ne hij] at hj
    obtain ⟨h1, h2⟩ := zClr_of hj
    refine h.2.2 (j, zv Γ u) (List.mem_cons_of_mem _ (List.mem_filter.mpr ⟨zPr_mem h1, ?_⟩))
    have hne : ¬ j = i := fun q => hij q.symm
    by_cases hj1 : j + 1 = i
    · have hc : ¬ u.category = 2 := fun q => h2 ⟨hj1, q⟩
      simp [hne, hj1, zv_cat hs, hc]
    · simp [hne, hj1]
theorem zSt2_ok {Γ : zCtx} (hs : ∀ k, zSp Γ k = .null ∨ ∃ a, zSp Γ k = .ref a) {la1 : Array Slot} {nL i : Nat} {ls : List (Option Value)} {v w : Value} (hv : zv Γ v = w) (h : lv_has la1 nL ((i, w) :: (zPr Γ ls).filter (fun q => !(q.1 == i) && (!(q.1 == i + 1) && !(q.1 + 1 == i && q.2.category == 2))))) : zLs Γ la1 nL (zSt2 ls i v) := by
  refine ⟨h.1, h.2.1, fun j u hj => ?_⟩
  unfold zSt2 at hj
  by_cases hij2 : i + 1 = j
  · subst hij2
    rw [List.getElem?_set] at hj
    simp only [if_true] at hj
    split at hj <;> simp at hj
  rw [List.getElem?_set_ne hij2] at hj
  by_cases hij : i = j
  · subst hij
    rw [List.getElem?_set] at hj
    simp only [if_true] at hj
    split at hj
    · cases hj
      rw [hv]
      exact h.2.2 (i, w) List.mem_cons_self
    · cases hj
  · rw [List.getElem?_set_ne hij] at hj
    obtain ⟨h1, h2⟩ := zClr_of hj
    refine h.2.2 (j, zv Γ u) (List.mem_cons_of_mem _ (List.mem_filter.mpr ⟨zPr_mem h1, ?_⟩))
    have hne : ¬ j = i := fun q => hij q.symm
    have hne2 : ¬ j = i + 1 := fun q => hij2 q.symm
    by_cases hj1 : j + 1 = i
    · have hc : ¬ u.category = 2 := fun q => h2 ⟨hj1, q⟩
      simp [hne, hj1, hne2, zv_cat hs, hc]
    · simp [hne, hj1, hne2]
section ZR
variable {Γ : zCtx} {R : Room} {μ : zMe} {Φ : zPhi} {kc ks pc : Nat} {ls : List (Option Value)} {st : List Value} {M : List zE}
theorem Z_iadd {x y : Int32} (hd : decode μ.2.2.1 pc = .ok (.iadd, 1)) (k : Z Γ R μ Φ kc ks (pc + 1) ls (.int (x + y) :: st) M) : Z Γ R μ Φ kc ks pc ls (.int y :: .int x :: st) M := by
  intro p e s m args below meth c d0 H locs la hc hd0 hP hS hz hn hl
  exact lv_iadd hc.1 hc.2.1 hd (k p e s m args below meth c d0 H locs la hc hd0 hP hS hz hn hl)
theorem Z_isub {x y : Int32} (hd : decode μ.2.2.1 pc = .ok (.isub, 1)) (k : Z Γ R μ Φ kc ks (pc + 1) ls (.int (x - y) :: st) M) : Z Γ R μ Φ kc ks pc ls (.int y :: .int x :: st) M := by
  intro p e s m args below meth c d0 H locs la hc hd0 hP hS hz hn hl
  exact lv_isub hc.1 hc.2.1 hd (k p e s m args below meth c d0 H locs la hc hd0 hP hS hz hn hl)
theorem Z_imul {x y : Int32} (hd : decode μ.2.2.1 pc = .ok (.imul, 1)) (k : Z Γ R μ Φ kc ks (pc + 1) ls (.int (x * y) :: st) M) : Z Γ R μ Φ kc ks pc ls (.int y :: .int x :: st) M := by
  intro p e s m args below meth c d0 H locs la hc hd0 hP hS hz hn hl
  exact lv_imul hc.1 hc.2.1 hd (k p e s m args below meth c d0 H locs la hc hd0 hP hS hz hn hl)
theorem Z_iand {x y : Int32} (hd : decode μ.2.2.1 pc = .ok (.iand, 1)) (k : Z Γ R μ Φ kc ks (pc + 1) ls (.int (x &&& y) :: st) M) : Z Γ R μ Φ kc ks pc ls (.int y :: .int x :: st) M := by
  intro p e s m args below meth c d0 H locs la hc hd0 hP hS hz hn hl
  exact lv_iand hc.1 hc.2.1 hd (k p e s m args below meth c d0 H locs la hc hd0 hP hS hz hn hl)
theorem Z_ior {x y : Int32} (hd : decode μ.2.2.1 pc = .ok (.ior, 1)) (k : Z Γ R μ Φ kc ks (pc + 1) ls (.int (x ||| y) :: st) M) : Z Γ R μ Φ kc ks pc ls (.int y :: .int x :: st) M := by
  intro p e s m args below meth c d0 H locs la hc hd0 hP hS hz hn hl
  exact lv_ior hc.1 hc.2.1 hd (k p e s m args below meth c d0 H locs la hc hd0 hP hS hz hn hl)
theorem Z_ishl {x y : Int32} (hd : decode μ.2.2.1 pc = .ok (.ishl, 1)) (k : Z Γ R μ Φ kc ks (pc + 1) ls (.int (x <<< (y &&& 31)) :: st) M) : Z Γ R μ Φ kc ks pc ls (.int y :: .int x :: st) M := by
  intro p e s m args below meth c d0 H locs la hc hd0 hP hS hz hn hl
  exact lv_ishl hc.1 hc.2.1 hd (k p e s m args below meth c d0 H locs la hc hd0 hP hS hz hn hl)
theorem Z_ishr {x y : Int32} (hd : decode μ.2.2.1 pc = .ok (.ishr, 1)) (k : Z Γ R μ Φ kc ks (pc + 1) ls (.int (x >>> (y &&& 31)) :: st) M) : Z Γ R μ Φ kc ks pc ls (.int y :: .int x :: st) M := by
  intro p e s m args below meth c d0 H locs la hc hd0 hP hS hz hn hl
  exact lv_ishr hc.1 hc.2.1 hd (k p e s m args below meth c d0 H locs la hc hd0 hP hS hz hn hl)
theorem Z_ladd {x y : Int64} (hd : decode μ.2.2.1 pc = .ok (.ladd, 1)) (k : Z Γ R μ Φ kc ks (pc + 1) ls (.long (x + y) :: st) M) : Z Γ R μ Φ kc ks pc ls (.long y :: .long x :: st) M := by
  intro p e s m args below meth c d0 H locs la hc hd0 hP hS hz hn hl
  exact lv_ladd hc.1 hc.2.1 hd (k p e s m args below meth c d0 H locs la hc hd0 hP hS hz hn hl)
theorem Z_lsub {x y : Int64} (hd : decode μ.2.2.1 pc = .ok (.lsub, 1)) (k : Z Γ R μ Φ kc ks (pc + 1) ls (.long (x - y) :: st) M) : Z Γ R μ Φ kc ks pc ls (.long y :: .long x :: st) M := by
  intro p e s m args below meth c d0 H locs la hc hd0 hP hS hz hn hl
  exact lv_lsub hc.1 hc.2.1 hd (k p e s m args below meth c d0 H locs la hc hd0 hP hS hz hn hl)
theorem Z_lmul {x y : Int64} (hd : decode μ.2.2.1 pc = .ok (.lmul, 1)) (k : Z Γ R μ Φ kc ks (pc + 1) ls (.long (x * y) :: st) M) : Z Γ R μ Φ kc ks pc ls (.long y :: .long x :: st) M := by
  intro p e s m args below meth c d0 H locs la hc hd0 hP hS hz hn hl
  exact lv_lmul hc.1 hc.2.1 hd (k p e s m args below meth c d0 H locs la hc hd0 hP hS hz hn hl)
theorem Z_land {x y : Int64} (hd : decode μ.2.2.1 pc = .ok (.land, 1)) (k : Z Γ R μ Φ kc ks (pc + 1) ls (.long (x &&& y) :: st) M) : Z Γ R μ Φ kc ks pc ls (.long y :: .long x :: st) M := by
  intro p e s m args below meth c d0 H locs la hc hd0 hP hS hz hn hl
  exact lv_land hc.1 hc.2.1 hd (k p e s m args below meth c d0 H locs la hc hd0 hP hS hz hn hl)
theorem Z_lor {x y : Int64} (hd : decode μ.2.2.1 pc = .ok (.lor, 1)) (k : Z Γ R μ Φ kc ks (pc + 1) ls (.long (x ||| y) :: st) M) : Z Γ R μ Φ kc ks pc ls (.long y :: .long x :: st) M := by
  intro p e s m args below meth c d0 H locs la hc hd0 hP hS hz hn hl
  exact lv_lor hc.1 hc.2.1 hd (k p e s m args below meth c d0 H locs la hc hd0 hP hS hz hn hl)
theorem Z_lxor {x y : Int64} (hd : decode μ.2.2.1 pc = .ok (.lxor, 1)) (k : Z Γ R μ Φ kc ks (pc + 1) ls (.long (x ^^^ y) :: st) M) : Z Γ R μ Φ kc ks pc ls (.long y :: .long x :: st) M := by
  intro p e s m args below meth c d0 H locs la hc hd0 hP hS hz hn hl
  exact lv_lxor hc.1 hc.2.1 hd (k p e s m args below meth c d0 H locs la hc hd0 hP hS hz hn hl)
theorem Z_idiv {x y : Int32} (hd : decode μ.2.2.1 pc = .ok (.idiv, 1)) (hne : ¬ y = 0) (k : Z Γ R μ Φ kc ks (pc + 1) ls (.int (x / y) :: st) M) : Z Γ R μ Φ kc ks pc ls (.int y :: .int x :: st) M := by
  intro p e s m args below meth c d0 H locs la hc hd0 hP hS hz hn hl
  exact lv_idiv hc.1 hc.2.1 hd hne (k p e s m args below meth c d0 H locs la hc hd0 hP hS hz hn hl)
theorem Z_irem {x y : Int32} (hd : decode μ.2.2.1 pc = .ok (.irem, 1)) (hne : ¬ y = 0) (k : Z Γ R μ Φ kc ks (pc + 1) ls (.int (x - x / y * y) :: st) M) : Z Γ R μ Φ kc ks pc ls (.int y :: .int x :: st) M := by
  intro p e s m args below meth c d0 H locs la hc hd0 hP hS hz hn hl
  exact lv_irem hc.1 hc.2.1 hd hne (k p e s m args below meth c d0 H locs la hc hd0 hP hS hz hn hl)
theorem Z_ldiv {x y : Int64} (hd : decode μ.2.2.1 pc = .ok (.ldiv, 1)) (hne : ¬ y = 0) (k : Z Γ R μ Φ kc ks (pc + 1) ls (.long (x / y) :: st) M) : Z Γ R μ Φ kc ks pc ls (.long y :: .long x :: st) M := by
  intro p e s m args below meth c d0 H locs la hc hd0 hP hS hz hn hl
  exact lv_ldiv hc.1 hc.2.1 hd hne (k p e s m args below meth c d0 H locs la hc hd0 hP hS hz hn hl)
theorem Z_lrem {x y : Int64} (hd : decode μ.2.2.1 pc = .ok (.lrem, 1)) (hne : ¬ y = 0) (k : Z Γ R μ Φ kc ks (pc + 1) ls (.long (x - x / y * y) :: st) M) : Z Γ R μ Φ kc ks pc ls (.long y :: .long x :: st) M := by
  intro p e s m args below meth c d0 H locs la hc hd0 hP hS hz hn hl
  exact lv_lrem hc.1 hc.2.1 hd hne (k p e s m args below meth c d0 H locs la hc hd0 hP hS hz hn hl)
theorem Z_lshl {x : Int64} {y : Int32} (hd : decode μ.2.2.1 pc = .ok (.lshl, 1)) (k : Z Γ R μ Φ kc ks (pc + 1) ls (.long (x <<< (y.toInt64 &&& 63)) :: st) M) : Z Γ R μ Φ kc ks pc ls (.int y :: .long x :: st) M := by
  intro p e s m args below meth c d0 H locs la hc hd0 hP hS hz hn hl
  exact lv_lshl hc.1 hc.2.1 hd rfl (k p e s m args below meth c d0 H locs la hc hd0 hP hS hz hn hl)
theorem Z_lshr {x : Int64} {y : Int32} (hd : decode μ.2.2.1 pc = .ok (.lshr, 1)) (k : Z Γ R μ Φ kc ks (pc + 1) ls (.long (x >>> (y.toInt64 &&& 63)) :: st) M) : Z Γ R μ Φ kc ks pc ls (.int y :: .long x :: st) M := by
  intro p e s m args below meth c d0 H locs la hc hd0 hP hS hz hn hl
  exact lv_lshr hc.1 hc.2.1 hd rfl (k p e s m args below meth c d0 H locs la hc hd0 hP hS hz hn hl)
theorem Z_lcmp {x y : Int64} (hd : decode μ.2.2.1 pc = .ok (.lcmp, 1)) (k : Z Γ R μ Φ kc ks (pc + 1) ls (.int (lg_cmp x y) :: st) M) : Z Γ R μ Φ kc ks pc ls (.long y :: .long x :: st) M := by
  intro p e s m args below meth c d0 H locs la hc hd0 hP hS hz hn hl
  exact W.lcmp hc.1 hc.2.1 hd (k p e s m args below meth c d0 H locs la hc hd0 hP hS hz hn hl)
theorem Z_i2l {x : Int32} (hd : decode μ.2.2.1 pc = .ok (.i2l, 1)) (k : Z Γ R μ Φ kc ks (pc + 1) ls (.long x.toInt64 :: st) M) : Z Γ R μ Φ kc ks pc ls (.int x :: st) M := by
  intro p e s m args below meth c d0 H locs la hc hd0 hP hS hz hn hl
  exact lv_i2l hc.1 hc.2.1 hd rfl (k p e s m args below meth c d0 H locs la hc hd0 hP hS hz hn hl)
theorem Z_l2i {x : Int64} (hd : decode μ.2.2.1 pc = .ok (.l2i, 1)) (k : Z Γ R μ Φ kc ks (pc + 1) ls (.int x.toInt32 :: st) M) : Z Γ R μ Φ kc ks pc ls (.long x :: st) M := by
  intro p e s m args below meth c d0 H locs la hc hd0 hP hS hz hn hl
  exact lv_l2i hc.1 hc.2.1 hd rfl (k p e s m args below meth c d0 H locs la hc hd0 hP hS hz hn hl)
theorem Z_i2c {x : Int32} (hd : decode μ.2.2.1 pc = .ok (.i2c, 1)) (k : Z Γ R μ Φ kc ks (pc + 1) ls (.int (x.toUInt32 % 65536).toInt32 :: st) M) : Z Γ R μ Φ kc ks pc ls (.int x :: st) M := by
  intro p e s m args below meth c d0 H locs la hc hd0 hP hS hz hn hl
  exact lv_i2c hc.1 hc.2.1 hd rfl (k p e s m args below meth c d0 H locs la hc hd0 hP hS hz hn hl)
theorem Z_i2f {x : Int32} (hd : decode μ.2.2.1 pc = .ok (.i2f, 1)) (k : Z Γ R μ Φ kc ks (pc + 1) ls (.float (FP.i2f x) :: st) M) : Z Γ R μ Φ kc ks pc ls (.int x :: st) M := by
  intro p e s m args below meth c d0 H locs la hc hd0 hP hS hz hn hl
  exact lv_i2f hc.1 hc.2.1 hd (k p e s m args below meth c d0 H locs la hc hd0 hP hS hz hn hl)
theorem Z_i2d {x : Int32} (hd : decode μ.2.2.1 pc = .ok (.i2d, 1)) (k : Z Γ R μ Φ kc ks (pc + 1) ls (.double (FP.i2d x) :: st) M) : Z Γ R μ Φ kc ks pc ls (.int x :: st) M := by
  intro p e s m args below meth c d0 H locs la hc hd0 hP hS hz hn hl
  exact lv_i2d hc.1 hc.2.1 hd (k p e s m args below meth c d0 H locs la hc hd0 hP hS hz hn hl)
theorem Z_fcmp {x y : UInt32} {op : CmpOp} (hd : decode μ.2.2.1 pc = .ok (.fcmp op, 1)) (k : Z Γ R μ Φ kc ks (pc + 1) ls (.int (Op.cmpValue (FP.fcmp x y) op) :: st) M) : Z Γ R μ Φ kc ks pc ls (.float y :: .float x :: st) M := by
  intro p e s m args below meth c d0 H locs la hc hd0 hP hS hz hn hl
  exact lv_fcmp hc.1 hc.2.1 hd (k p e s m args below meth c d0 H locs la hc hd0 hP hS hz hn hl)
theorem Z_dcmp {x y : UInt64} {op : CmpOp} (hd : decode μ.2.2.1 pc = .ok (.dcmp op, 1)) (k : Z Γ R μ Φ kc ks (pc + 1) ls (.int (Op.cmpValue (FP.dcmp x y) op) :: st) M) : Z Γ R μ Φ kc ks pc ls (.double y :: .double x :: st) M := by
  intro p e s m args below meth c d0 H locs la hc hd0 hP hS hz hn hl
  exact lv_dcmp hc.1 hc.2.1 hd (k p e s m args below meth c d0 H locs la hc hd0 hP hS hz hn hl)
theorem Z_iconst {n : Int} (hd : decode μ.2.2.1 pc = .ok (.iconst n, 1)) (k : Z Γ R μ Φ kc ks (pc + 1) ls (.int (Int32.ofInt n) :: st) M) : Z Γ R μ Φ kc ks pc ls (st) M := by
  intro p e s m args below meth c d0 H locs la hc hd0 hP hS hz hn hl
  exact lv_iconst hc.1 hc.2.1 hd rfl (k p e s m args below meth c d0 H locs la hc hd0 hP hS hz hn hl)
theorem Z_bipush {n : Int} (hd : decode μ.2.2.1 pc = .ok (.bipush n, 2)) (k : Z Γ R μ Φ kc ks (pc + 2) ls (.int (Int8.ofInt n).toInt32 :: st) M) : Z Γ R μ Φ kc ks pc ls (st) M := by
  intro p e s m args below meth c d0 H locs la hc hd0 hP hS hz hn hl
  exact lv_bipush hc.1 hc.2.1 hd rfl (k p e s m args below meth c d0 H locs la hc hd0 hP hS hz hn hl)
theorem Z_sipush {n : Int} (hd : decode μ.2.2.1 pc = .ok (.sipush n, 3)) (k : Z Γ R μ Φ kc ks (pc + 3) ls (.int (Int16.ofInt n).toInt32 :: st) M) : Z Γ R μ Φ kc ks pc ls (st) M := by
  intro p e s m args below meth c d0 H locs la hc hd0 hP hS hz hn hl
  exact lv_sipush hc.1 hc.2.1 hd rfl (k p e s m args below meth c d0 H locs la hc hd0 hP hS hz hn hl)
theorem Z_lconst {n : Fin 2} (hd : decode μ.2.2.1 pc = .ok (.lconst n, 1)) (k : Z Γ R μ Φ kc ks (pc + 1) ls (.long (Int64.ofNat (n : Nat)) :: st) M) : Z Γ R μ Φ kc ks pc ls (st) M := by
  intro p e s m args below meth c d0 H locs la hc hd0 hP hS hz hn hl
  exact lv_lconst hc.1 hc.2.1 hd rfl (k p e s m args below meth c d0 H locs la hc hd0 hP hS hz hn hl)
theorem Z_dup {v : Value} (hd : decode μ.2.2.1 pc = .ok (.dup, 1)) (hv : v.category = 1) (k : Z Γ R μ Φ kc ks (pc + 1) ls (v :: v :: st) M) : Z Γ R μ Φ kc ks pc ls (v :: st) M := by
  intro p e s m args below meth c d0 H locs la hc hd0 hP hS hz hn hl
  have hcat := zv_cat hc.2.2.2.2.2.2.2.2.2.2.2.2.2.2.2.2.2.2.2
  exact lv_dup hc.1 hc.2.1 hd ((hcat v).trans hv) (k p e s m args below meth c d0 H locs la hc hd0 hP hS hz hn hl)
theorem Z_pop {v : Value} (hd : decode μ.2.2.1 pc = .ok (.pop, 1)) (hv : v.category = 1) (k : Z Γ R μ Φ kc ks (pc + 1) ls (st) M) : Z Γ R μ Φ kc ks pc ls (v :: st) M := by
  intro p e s m args below meth c d0 H locs la hc hd0 hP hS hz hn hl
  have hcat := zv_cat hc.2.2.2.2.2.2.2.2.2.2.2.2.2.2.2.2.2.2.2
  exact lv_pop hc.1 hc.2.1 hd ((hcat v).trans hv) (k p e s m args below meth c d0 H locs la hc hd0 hP hS hz hn hl)
theorem Z_dup2 {v w : Value} (hd : decode μ.2.2.1 pc = .ok (.dup2, 1)) (hv : v.category = 1) (hw : w.category = 1) (k : Z Γ R μ Φ kc ks (pc + 1) ls (v :: w :: v :: w :: st) M) : Z Γ R μ Φ kc ks pc ls (v :: w :: st) M := by
  intro p e s m args below meth c d0 H locs la hc hd0 hP hS hz hn hl
  have hcat := zv_cat hc.2.2.2.2.2.2.2.2.2.2.2.2.2.2.2.2.2.2.2
  exact lv_dup2_11 hc.1 hc.2.1 hd ((hcat v).trans hv) ((hcat w).trans hw) (k p e s m args below meth c d0 H locs la hc hd0 hP hS hz hn hl)
theorem Z_fdiv {x y : UInt32} (hd : decode μ.2.2.1 pc = .ok (.fdiv, 1)) (k : ∀ r : UInt32, alike32 r (FP.fdiv x y) = true → Z Γ R μ Φ kc ks (pc + 1) ls (.float r :: st) M) : Z Γ R μ Φ kc ks pc ls (.float y :: .float x :: st) M := by
  intro p e s m args below meth c d0 H locs la hc hd0 hP hS hz hn hl
  exact lv_fdiv_any hd0 lw_bits hc.1 hc.2.1 hd (fun r d1 hal hd1 => k r hal p e s m args below meth c d1 H locs la hc hd1 hP hS hz hn hl)
theorem Z_ddiv {x y : UInt64} (hd : decode μ.2.2.1 pc = .ok (.ddiv, 1)) (k : ∀ r : UInt64, alike64 r (FP.ddiv x y) = true → Z Γ R μ Φ kc ks (pc + 1) ls (.double r :: st) M) : Z Γ R μ Φ kc ks pc ls (.double y :: .double x :: st) M := by
  intro p e s m args below meth c d0 H locs la hc hd0 hP hS hz hn hl
  exact lv_ddiv_any hd0 lw_bits hc.1 hc.2.1 hd (fun r d1 hal hd1 => k r hal p e s m args below meth c d1 H locs la hc hd1 hP hS hz hn hl)
theorem Z_if_eq {x : Int32} {off : Int} {tgt : Nat} (hd : decode μ.2.2.1 pc = .ok (.ifCond .eq off, 3)) (ht : (pc : Int) + off = (tgt : Int)) (kt : x = 0 → Z Γ R μ Φ kc ks tgt ls st M) (kf : ¬ x = 0 → Z Γ R μ Φ kc ks (pc + 3) ls st M) : Z Γ R μ Φ kc ks pc ls (.int x :: st) M := by
  intro p e s m args below meth c d0 H locs la hc hd0 hP hS hz hn hl
  exact lv_if_eq hc.1 hc.2.1 hd ht (fun q => kt q p e s m args below meth c d0 H locs la hc hd0 hP hS hz hn hl) (fun q => kf q p e s m args below meth c d0 H locs la hc hd0 hP hS hz hn hl)
theorem Z_icmp_eq {x y : Int32} {off : Int} {tgt : Nat} (hd : decode μ.2.2.1 pc = .ok (.if_icmp .eq off, 3)) (ht : (pc : Int) + off = (tgt : Int)) (kt : x = y → Z Γ R μ Φ kc ks tgt ls st M) (kf : ¬ x = y → Z Γ R μ Φ kc ks (pc + 3) ls st M) : Z Γ R μ Φ kc ks pc ls (.int y :: .int x :: st) M := by
  intro p e s m args below meth c d0 H locs la hc hd0 hP hS hz hn hl
  exact lv_icmp_eq hc.1 hc.2.1 hd ht (fun q => kt q p e s m args below meth c d0 H locs la hc hd0 hP hS hz hn hl) (fun q => kf q p e s m args below meth c d0 H locs la hc hd0 hP hS hz hn hl)
theorem Z_if_ne {x : Int32} {off : Int} {tgt : Nat} (hd : decode μ.2.2.1 pc = .ok (.ifCond .ne off, 3)) (ht : (pc : Int) + off = (tgt : Int)) (kt : ¬ x = 0 → Z Γ R μ Φ kc ks tgt ls st M) (kf : x = 0 → Z Γ R μ Φ kc ks (pc + 3) ls st M) : Z Γ R μ Φ kc ks pc ls (.int x :: st) M := by
  intro p e s m args below meth c d0 H locs la hc hd0 hP hS hz hn hl
  exact lv_if_ne hc.1 hc.2.1 hd ht (fun q => kt q p e s m args below meth c d0 H locs la hc hd0 hP hS hz hn hl) (fun q => kf q p e s m args below meth c d0 H locs la hc hd0 hP hS hz hn hl)
theorem Z_icmp_ne {x y : Int32} {off : Int} {tgt : Nat} (hd : decode μ.2.2.1 pc = .ok (.if_icmp .ne off, 3)) (ht : (pc : Int) + off = (tgt : Int)) (kt : ¬ x = y → Z Γ R μ Φ kc ks tgt ls st M) (kf : x = y → Z Γ R μ Φ kc ks (pc + 3) ls st M) : Z Γ R μ Φ kc ks pc ls (.int y :: .int x :: st) M := by
  intro p e s m args below meth c d0 H locs la hc hd0 hP hS hz hn hl
  exact lv_icmp_ne hc.1 hc.2.1 hd ht (fun q => kt q p e s m args below meth c d0 H locs la hc hd0 hP hS hz hn hl) (fun q => kf q p e s m args below meth c d0 H locs la hc hd0 hP hS hz hn hl)
theorem Z_if_lt {x : Int32} {off : Int} {tgt : Nat} (hd : decode μ.2.2.1 pc = .ok (.ifCond .lt off, 3)) (ht : (pc : Int) + off = (tgt : Int)) (kt : x < 0 → Z Γ R μ Φ kc ks tgt ls st M) (kf : ¬ x < 0 → Z Γ R μ Φ kc ks (pc + 3) ls st M) : Z Γ R μ Φ kc ks pc ls (.int x :: st) M := by
  intro p e s m args below meth c d0 H locs la hc hd0 hP hS hz hn hl
  exact lv_if_lt hc.1 hc.2.1 hd ht (fun q => kt q p e s m args below meth c d0 H locs la hc hd0 hP hS hz hn hl) (fun q => kf q p e s m args below meth c d0 H locs la hc hd0 hP hS hz hn hl)
theorem Z_icmp_lt {x y : Int32} {off : Int} {tgt : Nat} (hd : decode μ.2.2.1 pc = .ok (.if_icmp .lt off, 3)) (ht : (pc : Int) + off = (tgt : Int)) (kt : x < y → Z Γ R μ Φ kc ks tgt ls st M) (kf : ¬ x < y → Z Γ R μ Φ kc ks (pc + 3) ls st M) : Z Γ R μ Φ kc ks pc ls (.int y :: .int x :: st) M := by
  intro p e s m args below meth c d0 H locs la hc hd0 hP hS hz hn hl
  exact lv_icmp_lt hc.1 hc.2.1 hd ht (fun q => kt q p e s m args below meth c d0 H locs la hc hd0 hP hS hz hn hl) (fun q => kf q p e s m args below meth c d0 H locs la hc hd0 hP hS hz hn hl)
theorem Z_if_ge {x : Int32} {off : Int} {tgt : Nat} (hd : decode μ.2.2.1 pc = .ok (.ifCond .ge off, 3)) (ht : (pc : Int) + off = (tgt : Int)) (kt : 0 ≤ x → Z Γ R μ Φ kc ks tgt ls st M) (kf : ¬ 0 ≤ x → Z Γ R μ Φ kc ks (pc + 3) ls st M) : Z Γ R μ Φ kc ks pc ls (.int x :: st) M := by
  intro p e s m args below meth c d0 H locs la hc hd0 hP hS hz hn hl
  exact lv_if_ge hc.1 hc.2.1 hd ht (fun q => kt q p e s m args below meth c d0 H locs la hc hd0 hP hS hz hn hl) (fun q => kf q p e s m args below meth c d0 H locs la hc hd0 hP hS hz hn hl)
theorem Z_icmp_ge {x y : Int32} {off : Int} {tgt : Nat} (hd : decode μ.2.2.1 pc = .ok (.if_icmp .ge off, 3)) (ht : (pc : Int) + off = (tgt : Int)) (kt : y ≤ x → Z Γ R μ Φ kc ks tgt ls st M) (kf : ¬ y ≤ x → Z Γ R μ Φ kc ks (pc + 3) ls st M) : Z Γ R μ Φ kc ks pc ls (.int y :: .int x :: st) M := by
  intro p e s m args below meth c d0 H locs la hc hd0 hP hS hz hn hl
  exact lv_icmp_ge hc.1 hc.2.1 hd ht (fun q => kt q p e s m args below meth c d0 H locs la hc hd0 hP hS hz hn hl) (fun q => kf q p e s m args below meth c d0 H locs la hc hd0 hP hS hz hn hl)
theorem Z_if_gt {x : Int32} {off : Int} {tgt : Nat} (hd : decode μ.2.2.1 pc = .ok (.ifCond .gt off, 3)) (ht : (pc : Int) + off = (tgt : Int)) (kt : 0 < x → Z Γ R μ Φ kc ks tgt ls st M) (kf : ¬ 0 < x → Z Γ R μ Φ kc ks (pc + 3) ls st M) : Z Γ R μ Φ kc ks pc ls (.int x :: st) M := by
  intro p e s m args below meth c d0 H locs la hc hd0 hP hS hz hn hl
  exact lv_if_gt hc.1 hc.2.1 hd ht (fun q => kt q p e s m args below meth c d0 H locs la hc hd0 hP hS hz hn hl) (fun q => kf q p e s m args below meth c d0 H locs la hc hd0 hP hS hz hn hl)
theorem Z_icmp_gt {x y : Int32} {off : Int} {tgt : Nat} (hd : decode μ.2.2.1 pc = .ok (.if_icmp .gt off, 3)) (ht : (pc : Int) + off = (tgt : Int)) (kt : y < x → Z Γ R μ Φ kc ks tgt ls st M) (kf : ¬ y < x → Z Γ R μ Φ kc ks (pc + 3) ls st M) : Z Γ R μ Φ kc ks pc ls (.int y :: .int x :: st) M := by
  intro p e s m args below meth c d0 H locs la hc hd0 hP hS hz hn hl
  exact lv_icmp_gt hc.1 hc.2.1 hd ht (fun q => kt q p e s m args below meth c d0 H locs la hc hd0 hP hS hz hn hl) (fun q => kf q p e s m args below meth c d0 H locs la hc hd0 hP hS hz hn hl)
theorem Z_if_le {x : Int32} {off : Int} {tgt : Nat} (hd : decode μ.2.2.1 pc = .ok (.ifCond .le off, 3)) (ht : (pc : Int) + off = (tgt : Int)) (kt : x ≤ 0 → Z Γ R μ Φ kc ks tgt ls st M) (kf : ¬ x ≤ 0 → Z Γ R μ Φ kc ks (pc + 3) ls st M) : Z Γ R μ Φ kc ks pc ls (.int x :: st) M := by
  intro p e s m args below meth c d0 H locs la hc hd0 hP hS hz hn hl
  exact lv_if_le hc.1 hc.2.1 hd ht (fun q => kt q p e s m args below meth c d0 H locs la hc hd0 hP hS hz hn hl) (fun q => kf q p e s m args below meth c d0 H locs la hc hd0 hP hS hz hn hl)
theorem Z_icmp_le {x y : Int32} {off : Int} {tgt : Nat} (hd : decode μ.2.2.1 pc = .ok (.if_icmp .le off, 3)) (ht : (pc : Int) + off = (tgt : Int)) (kt : x ≤ y → Z Γ R μ Φ kc ks tgt ls st M) (kf : ¬ x ≤ y → Z Γ R μ Φ kc ks (pc + 3) ls st M) : Z Γ R μ Φ kc ks pc ls (.int y :: .int x :: st) M := by
  intro p e s m args below meth c d0 H locs la hc hd0 hP hS hz hn hl
  exact lv_icmp_le hc.1 hc.2.1 hd ht (fun q => kt q p e s m args below meth c d0 H locs la hc hd0 hP hS hz hn hl) (fun q => kf q p e s m args below meth c d0 H locs la hc hd0 hP hS hz hn hl)
theorem Z_goto {off : Int} {tgt : Nat} (hd : decode μ.2.2.1 pc = .ok (.goto off, 3)) (ht : (pc : Int) + off = (tgt : Int)) (k : Z Γ R μ Φ kc ks tgt ls st M) : Z Γ R μ Φ kc ks pc ls st M := by
  intro p e s m args below meth c d0 H locs la hc hd0 hP hS hz hn hl
  exact lv_goto hc.1 hc.2.1 hd ht (k p e s m args below meth c d0 H locs la hc hd0 hP hS hz hn hl)
theorem Z_tableIn {dflt lo hi : Int} {offs : Array Int} {len : Nat} {x : Int32} {off : Int} {tgt : Nat} (hd : decode μ.2.2.1 pc = .ok (.tableswitch dflt lo hi offs, len)) (h1 : ¬ x.toInt < lo) (h2 : ¬ hi < x.toInt) (ho : offs[(x.toInt - lo).toNat]? = some off) (ht : (pc : Int) + off = (tgt : Int)) (k : Z Γ R μ Φ kc ks tgt ls st M) : Z Γ R μ Φ kc ks pc ls (.int x :: st) M := by
  intro p e s m args below meth c d0 H locs la hc hd0 hP hS hz hn hl
  exact lv_tableIn hc.1 hc.2.1 hd h1 h2 ho ht (k p e s m args below meth c d0 H locs la hc hd0 hP hS hz hn hl)
theorem Z_tableOut {dflt lo hi : Int} {offs : Array Int} {len : Nat} {x : Int32} {tgt : Nat} (hd : decode μ.2.2.1 pc = .ok (.tableswitch dflt lo hi offs, len)) (h : x.toInt < lo ∨ hi < x.toInt) (ht : (pc : Int) + dflt = (tgt : Int)) (k : Z Γ R μ Φ kc ks tgt ls st M) : Z Γ R μ Φ kc ks pc ls (.int x :: st) M := by
  intro p e s m args below meth c d0 H locs la hc hd0 hP hS hz hn hl
  exact lv_tableOut hc.1 hc.2.1 hd h ht (k p e s m args below meth c d0 H locs la hc hd0 hP hS hz hn hl)
theorem Z_ldc {index : Nat} {v : Int32} (hw : Cond.constant μ.1 index v ∈ zG) (hd : decode μ.2.2.1 pc = .ok (.ldc index, 2)) (k : Z Γ R μ Φ kc ks (pc + 2) ls (.int v :: st) M) : Z Γ R μ Φ kc ks pc ls st M := by
  intro p e s m args below meth c d0 H locs la hc hd0 hP hS hz hn hl
  exact lv_ldc hc.1 hc.2.1 hc.2.2.2.2.1 (dr_words hc.2.2.2.2.2.1 d0 _ hw) hd (k p e s m args below meth c d0 H locs la hc hd0 hP hS hz hn hl)
theorem Z_ldc2 {index : Nat} {v : Int64} (hw : Cond.constantLong μ.1 index v ∈ zG) (hd : decode μ.2.2.1 pc = .ok (.ldc2_w index, 3)) (k : Z Γ R μ Φ kc ks (pc + 3) ls (.long v :: st) M) : Z Γ R μ Φ kc ks pc ls st M := by
  intro p e s m args below meth c d0 H locs la hc hd0 hP hS hz hn hl
  exact lv_ldc2 hc.1 hc.2.1 hc.2.2.2.2.1 (dr_words hc.2.2.2.2.2.1 d0 _ hw) hd (k p e s m args below meth c d0 H locs la hc hd0 hP hS hz hn hl)
theorem Z_iload_n {i : Fin 4} {x : Int32} (hd : decode μ.2.2.1 pc = .ok (.iload_n i, 1)) (h : ls[(i : Nat)]? = some (some (.int x))) (k : Z Γ R μ Φ kc ks (pc + 1) ls (.int x :: st) M) : Z Γ R μ Φ kc ks pc ls st M := by
  intro p e s m args below meth c d0 H locs la hc hd0 hP hS hz hn hl
  exact lv_iload_n hc.1 hc.2.1 hd rfl (hl.2.2 _ _ h) (k p e s m args below meth c d0 H locs la hc hd0 hP hS hz hn hl)
theorem Z_iload {i : Nat} {x : Int32} (hd : decode μ.2.2.1 pc = .ok (.iload i, 2)) (h : ls[i]? = some (some (.int x))) (k : Z Γ R μ Φ kc ks (pc + 2) ls (.int x :: st) M) : Z Γ R μ Φ kc ks pc ls st M := by
  intro p e s m args below meth c d0 H locs la hc hd0 hP hS hz hn hl
  exact lv_iload hc.1 hc.2.1 hd (hl.2.2 _ _ h) (k p e s m args below meth c d0 H locs la hc hd0 hP hS hz hn hl)
theorem Z_lload_n {i : Fin 4} {x : Int64} (hd : decode μ.2.2.1 pc = .ok (.lload_n i, 1)) (h : ls[(i : Nat)]? = some (some (.long x))) (k : Z Γ R μ Φ kc ks (pc + 1) ls (.long x :: st) M) : Z Γ R μ Φ kc ks pc ls st M := by
  intro p e s m args below meth c d0 H locs la hc hd0 hP hS hz hn hl
  exact lv_lload_n hc.1 hc.2.1 hd rfl (hl.2.2 _ _ h) (k p e s m args below meth c d0 H locs la hc hd0 hP hS hz hn hl)
theorem Z_lload {i : Nat} {x : Int64} (hd : decode μ.2.2.1 pc = .ok (.lload i, 2)) (h : ls[i]? = some (some (.long x))) (k : Z Γ R μ Φ kc ks (pc + 2) ls (.long x :: st) M) : Z Γ R μ Φ kc ks pc ls st M := by
  intro p e s m args below meth c d0 H locs la hc hd0 hP hS hz hn hl
  exact lv_lload hc.1 hc.2.1 hd (hl.2.2 _ _ h) (k p e s m args below meth c d0 H locs la hc hd0 hP hS hz hn hl)
theorem Z_fload_n {i : Fin 4} {x : UInt32} (hd : decode μ.2.2.1 pc = .ok (.fload_n i, 1)) (h : ls[(i : Nat)]? = some (some (.float x))) (k : Z Γ R μ Φ kc ks (pc + 1) ls (.float x :: st) M) : Z Γ R μ Φ kc ks pc ls st M := by
  intro p e s m args below meth c d0 H locs la hc hd0 hP hS hz hn hl
  exact lv_fload_n hc.1 hc.2.1 hd rfl (hl.2.2 _ _ h) (k p e s m args below meth c d0 H locs la hc hd0 hP hS hz hn hl)
theorem Z_fload {i : Nat} {x : UInt32} (hd : decode μ.2.2.1 pc = .ok (.fload i, 2)) (h : ls[i]? = some (some (.float x))) (k : Z Γ R μ Φ kc ks (pc + 2) ls (.float x :: st) M) : Z Γ R μ Φ kc ks pc ls st M := by
  intro p e s m args below meth c d0 H locs la hc hd0 hP hS hz hn hl
  exact lv_fload hc.1 hc.2.1 hd (hl.2.2 _ _ h) (k p e s m args below meth c d0 H locs la hc hd0 hP hS hz hn hl)
theorem Z_dload_n {i : Fin 4} {x : UInt64} (hd : decode μ.2.2.1 pc = .ok (.dload_n i, 1)) (h : ls[(i : Nat)]? = some (some (.double x))) (k : Z Γ R μ Φ kc ks (pc + 1) ls (.double x :: st) M) : Z Γ R μ Φ kc ks pc ls st M := by
  intro p e s m args below meth c d0 H locs la hc hd0 hP hS hz hn hl
  exact lv_dload_n hc.1 hc.2.1 hd rfl (hl.2.2 _ _ h) (k p e s m args below meth c d0 H locs la hc hd0 hP hS hz hn hl)
theorem Z_dload {i : Nat} {x : UInt64} (hd : decode μ.2.2.1 pc = .ok (.dload i, 2)) (h : ls[i]? = some (some (.double x))) (k : Z Γ R μ Φ kc ks (pc + 2) ls (.double x :: st) M) : Z Γ R μ Φ kc ks pc ls st M := by
  intro p e s m args below meth c d0 H locs la hc hd0 hP hS hz hn hl
  exact lv_dload hc.1 hc.2.1 hd (hl.2.2 _ _ h) (k p e s m args below meth c d0 H locs la hc hd0 hP hS hz hn hl)
theorem Z_aload_n {i : Fin 4} {x : Nat} (hd : decode μ.2.2.1 pc = .ok (.aload_n i, 1)) (h : ls[(i : Nat)]? = some (some (.ref x))) (k : Z Γ R μ Φ kc ks (pc + 1) ls (.ref x :: st) M) : Z Γ R μ Φ kc ks pc ls st M := by
  intro p e s m args below meth c d0 H locs la hc hd0 hP hS hz hn hl
  have h1 := hl.2.2 _ _ h
  have k1 := k p e s m args below meth c d0 H locs la hc hd0 hP hS hz hn hl
  rw [List.map_cons] at k1
  rcases zv_refs hc.2.2.2.2.2.2.2.2.2.2.2.2.2.2.2.2.2.2.2 x with h2 | ⟨a, h2⟩ <;> rw [h2] at h1 k1
  · exact lv_aload_nN hc.1 hc.2.1 hd rfl h1 k1
  · exact lv_aload_n hc.1 hc.2.1 hd rfl h1 k1
theorem Z_aload {i : Nat} {x : Nat} (hd : decode μ.2.2.1 pc = .ok (.aload i, 2)) (h : ls[i]? = some (some (.ref x))) (k : Z Γ R μ Φ kc ks (pc + 2) ls (.ref x :: st) M) : Z Γ R μ Φ kc ks pc ls st M := by
  intro p e s m args below meth c d0 H locs la hc hd0 hP hS hz hn hl
  have h1 := hl.2.2 _ _ h
  have k1 := k p e s m args below meth c d0 H locs la hc hd0 hP hS hz hn hl
  rw [List.map_cons] at k1
  rcases zv_refs hc.2.2.2.2.2.2.2.2.2.2.2.2.2.2.2.2.2.2.2 x with h2 | ⟨a, h2⟩ <;> rw [h2] at h1 k1
  · exact lv_aloadN hc.1 hc.2.1 hd h1 k1
  · exact lv_aload hc.1 hc.2.1 hd h1 k1
theorem Z_istore_n {i : Fin 4} {x : Int32} (hd : decode μ.2.2.1 pc = .ok (.istore_n i, 1)) (hi : (i : Nat) < μ.2.2.2.1) (k : Z Γ R μ Φ kc ks (pc + 1) (zSt1 ls (i : Nat) (.int x)) st M) : Z Γ R μ Φ kc ks pc ls (.int x :: st) M := by
  intro p e s m args below meth c d0 H locs la hc hd0 hP hS hz hn hl
  exact lv_istore_n hc.1 hc.2.1 hd rfl (zLs_has hl) hi rfl (fun la1 hl1 => k p e s m args below meth c d0 H locs la1 hc hd0 hP hS hz hn (zSt1_ok hc.2.2.2.2.2.2.2.2.2.2.2.2.2.2.2.2.2.2.2 (by rfl) hl1))
theorem Z_istore {i : Nat} {x : Int32} (hd : decode μ.2.2.1 pc = .ok (.istore i, 2)) (hi : i < μ.2.2.2.1) (k : Z Γ R μ Φ kc ks (pc + 2) (zSt1 ls i (.int x)) st M) : Z Γ R μ Φ kc ks pc ls (.int x :: st) M := by
  intro p e s m args below meth c d0 H locs la hc hd0 hP hS hz hn hl
  exact lv_istore hc.1 hc.2.1 hd (zLs_has hl) hi rfl (fun la1 hl1 => k p e s m args below meth c d0 H locs la1 hc hd0 hP hS hz hn (zSt1_ok hc.2.2.2.2.2.2.2.2.2.2.2.2.2.2.2.2.2.2.2 (by rfl) hl1))
theorem Z_lstore_n {i : Fin 4} {x : Int64} (hd : decode μ.2.2.1 pc = .ok (.lstore_n i, 1)) (hi : (i : Nat) + 1 < μ.2.2.2.1) (k : Z Γ R μ Φ kc ks (pc + 1) (zSt2 ls (i : Nat) (.long x)) st M) : Z Γ R μ Φ kc ks pc ls (.long x :: st) M := by
  intro p e s m args below meth c d0 H locs la hc hd0 hP hS hz hn hl
  exact lv_lstore_n hc.1 hc.2.1 hd rfl (zLs_has hl) hi rfl (fun la1 hl1 => k p e s m args below meth c d0 H locs la1 hc hd0 hP hS hz hn (zSt2_ok hc.2.2.2.2.2.2.2.2.2.2.2.2.2.2.2.2.2.2.2 (by rfl) hl1))
theorem Z_lstore {i : Nat} {x : Int64} (hd : decode μ.2.2.1 pc = .ok (.lstore i, 2)) (hi : i + 1 < μ.2.2.2.1) (k : Z Γ R μ Φ kc ks (pc + 2) (zSt2 ls i (.long x)) st M) : Z Γ R μ Φ kc ks pc ls (.long x :: st) M := by
  intro p e s m args below meth c d0 H locs la hc hd0 hP hS hz hn hl
  exact lv_lstore hc.1 hc.2.1 hd (zLs_has hl) hi rfl (fun la1 hl1 => k p e s m args below meth c d0 H locs la1 hc hd0 hP hS hz hn (zSt2_ok hc.2.2.2.2.2.2.2.2.2.2.2.2.2.2.2.2.2.2.2 (by rfl) hl1))
theorem Z_astore_n {i : Fin 4} {x : Nat} (hd : decode μ.2.2.1 pc = .ok (.astore_n i, 1)) (hi : (i : Nat) < μ.2.2.2.1) (k : Z Γ R μ Φ kc ks (pc + 1) (zSt1 ls (i : Nat) (.ref x)) st M) : Z Γ R μ Φ kc ks pc ls (.ref x :: st) M := by
  intro p e s m args below meth c d0 H locs la hc hd0 hP hS hz hn hl
  have hs := hc.2.2.2.2.2.2.2.2.2.2.2.2.2.2.2.2.2.2.2
  rw [List.map_cons]
  rcases zv_refs hs x with h2 | ⟨a, h2⟩ <;> rw [h2]
  · exact lv_astore_nN hc.1 hc.2.1 hd rfl (zLs_has hl) hi rfl (fun la1 hl1 => k p e s m args below meth c d0 H locs la1 hc hd0 hP hS hz hn (zSt1_ok hs (v := .ref x) h2 hl1))
  · exact lv_astore_n hc.1 hc.2.1 hd rfl (zLs_has hl) hi rfl (fun la1 hl1 => k p e s m args below meth c d0 H locs la1 hc hd0 hP hS hz hn (zSt1_ok hs (v := .ref x) h2 hl1))
theorem Z_astore {i : Nat} {x : Nat} (hd : decode μ.2.2.1 pc = .ok (.astore i, 2)) (hi : i < μ.2.2.2.1) (k : Z Γ R μ Φ kc ks (pc + 2) (zSt1 ls i (.ref x)) st M) : Z Γ R μ Φ kc ks pc ls (.ref x :: st) M := by
  intro p e s m args below meth c d0 H locs la hc hd0 hP hS hz hn hl
  have hs := hc.2.2.2.2.2.2.2.2.2.2.2.2.2.2.2.2.2.2.2
  rw [List.map_cons]
  rcases zv_refs hs x with h2 | ⟨a, h2⟩ <;> rw [h2]
  · exact lv_astoreN hc.1 hc.2.1 hd (zLs_has hl) hi rfl (fun la1 hl1 => k p e s m args below meth c d0 H locs la1 hc hd0 hP hS hz hn (zSt1_ok hs (v := .ref x) h2 hl1))
  · exact lv_astore hc.1 hc.2.1 hd (zLs_has hl) hi rfl (fun la1 hl1 => k p e s m args below meth c d0 H locs la1 hc hd0 hP hS hz hn (zSt1_ok hs (v := .ref x) h2 hl1))
theorem Z_iinc {i : Nat} {n : Int} {x : Int32} (hd : decode μ.2.2.1 pc = .ok (.iinc i n, 3)) (h : ls[i]? = some (some (.int x))) (hi : i < μ.2.2.2.1) (k : Z Γ R μ Φ kc ks (pc + 3) (zSt1 ls i (.int (x + Int32.ofInt n))) st M) : Z Γ R μ Φ kc ks pc ls st M := by
  intro p e s m args below meth c d0 H locs la hc hd0 hP hS hz hn hl
  obtain ⟨j, hj⟩ := List.getElem?_of_mem (zPr_mem (Γ := Γ) h)
  exact lv_iinc hc.1 hc.2.1 hd (zLs_has hl) hj rfl hi rfl (fun la1 hl1 => k p e s m args below meth c d0 H locs la1 hc hd0 hP hS hz hn (zSt1_ok hc.2.2.2.2.2.2.2.2.2.2.2.2.2.2.2.2.2.2.2 (by rfl) hl1))
end ZR
