/-! THE SMALL MACHINE'S JUDGEMENT: a walk over a list of cells at fixed places. Z says: from this place of this method, with these locals, this stack and these cells, the machine comes to the end that Φ names. -/
/-- launch, heap size at the law's entry, classes and slots, array classes, special references, the script, the texts' cells and byte rows -/
abbrev zCtx : Type := Launch × Nat × va_G × (Nat → ClassId) × (Nat → Value) × (Nat × Nat × (Nat → Int32)) × (Nat → Nat) × (Nat → Nat)
def zL (Γ : zCtx) : Launch := Γ.1
def zSz (Γ : zCtx) : Nat := Γ.2.1
def zD (Γ : zCtx) : va_G := Γ.2.2.1
def zAr (Γ : zCtx) : Nat → ClassId := Γ.2.2.2.1
def zSp (Γ : zCtx) : Nat → Value := Γ.2.2.2.2.1
def zScr (Γ : zCtx) : Nat × Nat × (Nat → Int32) := Γ.2.2.2.2.2.1
def zKs (Γ : zCtx) : Nat → Nat := Γ.2.2.2.2.2.2.1
def zVs (Γ : zCtx) : Nat → Nat := Γ.2.2.2.2.2.2.2
def zA (Γ : zCtx) : Nat → Prop := fun q => zSz Γ ≤ q
/-- the words that every method is given -/
def zG : List Cond := lw_tbl.filter goodWord
def zNestB : Cond → Bool
  | .fieldLinkNest .. => true
  | .methodLinkNest .. => true
  | _ => false
def zN : List Cond := tables_1.filter zNestB
theorem zG_good {w : Cond} (h : w ∈ zG) : goodWord w = true := (List.mem_filter.mp h).2
theorem zG_of {w : Cond} (i : Nat) (h : tables_1[i]? = some w) (hg : goodWord w = true) : w ∈ zG := List.mem_filter.mpr ⟨List.mem_append_right _ (List.mem_of_getElem? h), hg⟩
theorem zG_sel {w : Cond} (i : Nat) (h : (k2_sels lw_privs)[i]? = some w) (hg : goodWord w = true) : w ∈ zG := List.mem_filter.mpr ⟨List.mem_append_left _ (List.mem_of_getElem? h), hg⟩
theorem zN_of {w : Cond} (i : Nat) (h : tables_1[i]? = some w) (hg : zNestB w = true) : w ∈ zN := List.mem_filter.mpr ⟨List.mem_of_getElem? h, hg⟩
theorem zG_in (c : Cond) (hc : c ∈ zG) (big : List Cond) (hb : ∀ w ∈ zG, w ∈ big) : GoodIn big (c :: zG) := by
  intro w hw
  rcases List.mem_cons.mp hw with rfl | hw
  · exact ⟨hb _ hc, good_of_word (zG_good hc)⟩
  · exact ⟨hb _ hw, good_of_word (zG_good hw)⟩
/-- array kinds -/
def zTy : Nat → FieldType := fun t => match t with
  | 0 => .int
  | 1 => .long
  | 2 => .boolean
  | _ => .array .int
def zTys (Γ : zCtx) : List (ClassId × FieldType) := [(zAr Γ 0, .int), (zAr Γ 1, .long), (zAr Γ 2, .boolean), (zAr Γ 3, .array .int)]
/-- a value as the machine has it -/
def zv (Γ : zCtx) (v : Value) : Value := match v with
  | .ref k => if k < 1000000 then .ref (zSz Γ + k) else zSp Γ (k - 1000000)
  | v => v
abbrev zE : Type := (Nat × vp_A) ⊕ (Nat × List Value)
def zc (Γ : zCtx) : zE → va_E
  | .inl (t, n, .inr (.inr (.inr (.inr f)))) => .inl (zAr Γ t, n, .inr (.inr (.inr (.inr (fun i => (f i).map (fun k => zSz Γ + k))))))
  | .inl (t, a) => .inl (zAr Γ t, a)
  | .inr (c, fs) => .inr (c, fs.map (zv Γ))
def zw (Γ : zCtx) (M : List zE) : va_W := M.mapIdx (fun k c => (zSz Γ + k, zc Γ c))
theorem zv_ref {Γ : zCtx} {k : Nat} (h : k < 1000000) : zv Γ (.ref k) = .ref (zSz Γ + k) := if_pos h
theorem zw_get {Γ : zCtx} {M : List zE} {k : Nat} {c : zE} (h : M[k]? = some c) : (zw Γ M)[k]? = some (zSz Γ + k, zc Γ c) := by
  simp [zw, List.getElem?_mapIdx, h]
theorem zw_set {Γ : zCtx} {M : List zE} {k : Nat} {c : zE} : zw Γ (M.set k c) = (zw Γ M).set k (zSz Γ + k, zc Γ c) := by
  apply List.ext_getElem?
  intro i
  simp only [zw, List.getElem?_mapIdx, List.getElem?_set, List.length_mapIdx]
  by_cases h : k = i
  · subst h
    by_cases h2 : k < M.length
    · simp [h2]
    · simp [h2]
  · simp [h]
theorem zw_app {Γ : zCtx} {M : List zE} {c : zE} : zw Γ (M ++ [c]) = zw Γ M ++ [(zSz Γ + M.length, zc Γ c)] := by
  simp [zw, List.mapIdx_append]
theorem zw_at {Γ : zCtx} {M : List zE} {k : Nat} {q : Nat × va_E} (h : (zw Γ M)[k]? = some q) : k < M.length ∧ q.1 = zSz Γ + k := by
  simp only [zw, List.getElem?_mapIdx, Option.map_eq_some_iff] at h
  obtain ⟨c, h1, h2⟩ := h
  exact ⟨(List.getElem?_eq_some_iff.mp h1).1, by rw [← h2]⟩
theorem zw_D (Γ : zCtx) (M : List zE) : va_D (zA Γ) (zw Γ M) := by
  refine ⟨fun i j x y hi hj hxy => ?_, fun k q hk => ?_⟩
  · have h1 := (zw_at hi).2
    have h2 := (zw_at hj).2
    omega
  · have h1 := (zw_at hk).2
    show zSz Γ ≤ q.1
    omega
theorem z_lt {M : List zE} {k : Nat} {c : zE} (h : M[k]? = some c) : k < M.length := (List.getElem?_eq_some_iff.mp h).1
/-- locals: what is known of each place -/
def zLs (Γ : zCtx) (la : Array Slot) (nL : Nat) (ls : List (Option Value)) : Prop := la.size = nL ∧ lv_wf la ∧ ∀ (i : Nat) (v : Value), ls[i]? = some (some v) → la[i]? = some (.val (zv Γ v))
/-- the texts: owner class, entry, text, bytes -/
def zStr : List (String × Nat × String × List Int32) := [("StatuteConsolidator$Input", 79, "insert", [105, 110, 115, 101, 114, 116]), ("StatuteConsolidator$Input", 81, "add", [97, 100, 100]), ("StatuteConsolidator$Input", 83, "replace", [114, 101, 112, 108, 97, 99, 101]), ("StatuteConsolidator$Input", 85, "repeal", [114, 101, 112, 101, 97, 108]), ("StatuteConsolidator$Input", 87, "move", [109, 111, 118, 101]), ("StatuteConsolidator$Input", 89, "renumber", [114, 101, 110, 117, 109, 98, 101, 114]), ("StatuteConsolidatorModel", 239, "insert ", [105, 110, 115, 101, 114, 116, 32]), ("StatuteConsolidatorModel", 241, "add ", [97, 100, 100, 32]), ("StatuteConsolidatorModel", 243, "replace ", [114, 101, 112, 108, 97, 99, 101, 32]), ("StatuteConsolidatorModel", 245, "repeal ", [114, 101, 112, 101, 97, 108, 32]), ("StatuteConsolidatorModel", 247, "move ", [109, 111, 118, 101, 32]), ("StatuteConsolidatorModel", 249, "renumber ", [114, 101, 110, 117, 109, 98, 101, 114, 32])]
/-- what holds of the tables, and of the cells that no method writes -/
def zKB (Γ : zCtx) (U : State) : Prop :=
  va_K (zD Γ) zCl (zTys Γ) U ∧ (∀ w ∈ zN, va_Nw w U) ∧ (∀ (i : Nat) (q : String × Nat × String × List Int32), zStr[i]? = some q → vk_R q.1 q.2.1 q.2.2.1 (zKs Γ i) U) ∧
  vk_S 12 (zStr.map (fun q => q.2.2.2.length)) (zStr.map (fun q => q.2.2.2)) (zKs Γ) (zVs Γ) (zA Γ) U U.heap ∧
  va_X (zScr Γ).1 (zScr Γ).2.1 (zScr Γ).2.2 U U.heap ∧ va_Z "java/lang/String" "COMPACT_STRINGS" "Z" (.int 1) (zA Γ) U U.heap ∧ va_Z "jdk/internal/util/Preconditions" "SIOOBE_FORMATTER" "Ljava/util/function/BiFunction;" (zSp Γ 200) (zA Γ) U U.heap ∧
  (zScr Γ).1 < zSz Γ ∧ zSz Γ ≤ U.heap.size ∧ zSp Γ 0 = .ref (zScr Γ).1 ∧ ((∀ i, i < 12 → zSp Γ (1 + i) = .ref (zKs Γ i) ∧ zSp Γ (101 + i) = .ref (zVs Γ i)) ∧ zoT U.vm) ∧ (∀ k, zSp Γ k = .null ∨ ∃ a, zSp Γ k = .ref a)
theorem zN_warm {w : Cond} (hw : w ∈ zN) {s U : State} (hW : s.WarmedH U.vm) (h : va_Nw w s) : va_Nw w U := by
  have h1 := (List.mem_filter.mp hw).2
  cases w <;> first | exact va_Nw.warmF hW h | exact va_Nw.warmM hW h | (simp [zNestB] at h1)
theorem zKB.to {Γ : zCtx} {u U : State} (hW : u.WarmedH U.vm) (hH : ∀ q : Nat, q < u.heap.size → ¬ zA Γ q → U.heap[q]? = u.heap[q]?) (hz : zSz Γ ≤ U.heap.size) (h : zKB Γ u) : zKB Γ U := by
  obtain ⟨h1, h2, h3, h4, h5, h6, h7, h8, h9, h10, ⟨h11, hao⟩, h12⟩ := h
  have hb : ¬ zA Γ (zScr Γ).1 := Nat.not_le.mpr h8
  exact ⟨h1.moved hW.alike, fun w hw => zN_warm hw hW (h2 w hw), fun i q hq => (h3 i q hq).warm hW, (h4.moved hW.alike).kept hH, (h5.moved hW.alike).kept (hH _ (Nat.lt_of_lt_of_le h8 h9) hb), (h6.moved hW.alike).kept hH, (h7.moved hW.alike).kept hH, h8, hz, h10, ⟨h11, hao.to hW.alike⟩, h12⟩
/-- a method: its class, its name, its bytes, its locals, its answer's type, the cells and slots that it makes -/
abbrev zMe : Type := String × MethodName × ByteArray × Nat × Option FieldType × Nat × Nat
def zAt (Γ : zCtx) (μ : zMe) (p : Program) (s : State) (m : MethodId) (args : Array Value) (meth : Method) (c : Code) : Prop :=
  p.tables.exec = Jvm.exec ∧ c.code = μ.2.2.1 ∧ meth.sig.returnType = μ.2.2.2.2.1 ∧ c.maxLocals = μ.2.2.2.1 ∧ s.vm.findClass μ.1 = some m.cls ∧ (∀ w ∈ zG, w.before args s = true) ∧ meth.locks = false ∧ meth.name = μ.2.1.name ∧ zKB Γ s
abbrev zPhi : Type := List Frame → Array Value → State → State → Prop
def Z (Γ : zCtx) (R : Room) (μ : zMe) (Φ : zPhi) (kc ks pc : Nat) (ls : List (Option Value)) (st : List Value) (M : List zE) : Prop :=
  ∀ (p : Program) (e : Env) (s : State) (m : MethodId) (args : Array Value) (below : List Frame) (meth : Method) (c : Code) (d0 : Drawn) (H : Heap) (locs : List Loc) (la : Array Slot),
    zAt Γ μ p s m args meth c → s.drawn.sameBut d0 lw_cs → va_P (zD Γ) zCl (zw Γ M) H → va_S (zA Γ) s.heap H locs → s.heap.size + kc = zSz Γ + M.length → M.length ≤ 1000000 → zLs Γ la μ.2.2.2.1 ls →
    W p (zL Γ) e R (s.setDrawn d0) m args below meth c H locs kc ks (Φ below args s) (F0 m pc la (st.map (zv Γ)))
def zRm (d : Nat) (μ : zMe) : Room := { frames := d, cells := μ.2.2.2.2.2.1, slots := μ.2.2.2.2.2.2, locals := 64 * d }
def zQc (Γ : zCtx) (mc : Nat) (Q : List zE → Option Value → Prop) : Array Value → State → Outcome → State → Prop := fun _ st oc t =>
  (∃ (v : Option Value) (M : List zE), oc = .returned (v.map (zv Γ)) ∧ Q M v ∧ st.heap.size + mc = zSz Γ + M.length ∧ M.length ≤ 1000000 ∧ va_P (zD Γ) zCl (zw Γ M) t.heap) ∧ va_F (zA Γ) st t
def zWs (μ : zMe) : List Cond := .code μ.2.1 μ.2.2.1 μ.2.2.2.1 μ.2.2.2.2.1 :: zG
def zPc (Γ : zCtx) (args : List Value) (M : List zE) : Array Value → State → Prop := va_Pc (args.map (zv Γ)) (fun U => zKB Γ U ∧ va_P (zD Γ) zCl (zw Γ M) U.heap ∧ U.heap.size = zSz Γ + M.length ∧ M.length ≤ 1000000)
/-- a method's contract: from these cells it comes back with an answer and cells that Q names -/
def ZM (Γ : zCtx) (d : Nat) (μ : zMe) (args : List Value) (M : List zE) (Q : List zE → Option Value → Prop) : Prop :=
  MetD lw_cs (zL Γ) μ.2.1 (zWs μ) (zRm d μ) (zPc Γ args M) (zQc Γ μ.2.2.2.2.2.1 Q) μ.2.2.2.2.2.1 μ.2.2.2.2.2.2 (zA Γ)
def zPh (Γ : zCtx) (μ : zMe) (Q : List zE → Option Value → Prop) : zPhi := fun below args s => MQD lw_cs below (zQc Γ μ.2.2.2.2.2.1 Q) args s μ.2.2.2.2.2.1 μ.2.2.2.2.2.2 (zA Γ)
/-- the locals at the entry -/
def zEn : List Value → List (Option Value)
  | [] => []
  | v :: l => if v.category = 2 then some v :: none :: zEn l else some v :: zEn l
theorem zv_cat {Γ : zCtx} (hs : ∀ k, zSp Γ k = .null ∨ ∃ a, zSp Γ k = .ref a) (v : Value) : (zv Γ v).category = v.category := by
  cases v with
  | ref k =>
    unfold zv
    by_cases h : k < 1000000
    · simp only [h, if_true]; rfl
    · simp only [h, if_false]
      rcases hs (k - 1000000) with h | ⟨a, h⟩ <;> rw [h] <;> rfl
  | _ => rfl
theorem zEn_args {Γ : zCtx} (hs : ∀ k, zSp Γ k = .null ∨ ∃ a, zSp Γ k = .ref a) : ∀ (l : List Value) (n i : Nat) (v : Value), (zEn l)[i]? = some (some v) → (n + i, zv Γ v) ∈ lv_args n (l.map (zv Γ))
  | [], n, i, v, h => by simp [zEn] at h
  | w :: l, n, i, v, h => by
    have hc := zv_cat hs w
    unfold zEn at h
    by_cases h2 : w.category = 2
    · rw [if_pos h2] at h
      match i, h with
      | 0, h =>
        simp only [List.getElem?_cons_zero, Option.some.injEq] at h
        subst h
        simp [lv_args]
      | 1, h => simp at h
      | i + 2, h =>
        simp only [List.getElem?_cons_succ] at h
        have := zEn_args hs l (n + 2) i v h
        simp only [List.map_cons, lv_args, hc, h2]
        refine List.mem_cons_of_mem _ ?_
        rw [show n + (i + 2) = n + 2 + i by omega]
        exact this
    · rw [if_neg h2] at h
      have h1 : w.category = 1 := by rcases lv_cat w with q | q; exact q; exact absurd q h2
      match i, h with
      | 0, h =>
        simp only [List.getElem?_cons_zero, Option.some.injEq] at h
        subst h
        simp [lv_args]
      | i + 1, h =>
        simp only [List.getElem?_cons_succ] at h
        have := zEn_args hs l (n + 1) i v h
        simp only [List.map_cons, lv_args, hc, h1]
        refine List.mem_cons_of_mem _ ?_
        rw [show n + (i + 1) = n + 1 + i by omega]
        exact this
theorem zEn_len {Γ : zCtx} (hs : ∀ k, zSp Γ k = .null ∨ ∃ a, zSp Γ k = .ref a) : ∀ l : List Value, (lg_sl (l.map (zv Γ))).length = (zEn l).length
  | [] => rfl
  | w :: l => by
    have ih := zEn_len hs l
    have hc := zv_cat hs w
    unfold lg_sl at ih ⊢
    unfold zEn
    simp only [List.map_cons, List.flatMap_cons, List.length_append, ih, hc]
    by_cases h2 : w.category = 2
    · simp only [h2, if_true, List.length_cons, List.length_nil]; omega
    · simp only [h2, if_false, List.length_cons, List.length_nil]; omega
