/-! OF MY OWN, so that nothing of the library's shelf of single laws is needed: a number compared with itself; the word on arrays of arrays; an array of arrays of ints is made -/
section ZOwn
theorem zo_nan32 (r : UInt32) : FP.Core.decode FP.Core.b32 r.toNat = .nan ↔ isNaN32 r = true := by
  have h1 : (r &&& 0x7fffffff).toNat = r.toNat % 2147483648 := by
    rw [UInt32.toNat_and]
    exact Nat.and_two_pow_sub_one_eq_mod r.toNat 31
  have h2 : isNaN32 r = true ↔ 2139095040 < r.toNat % 2147483648 := by
    unfold isNaN32
    rw [decide_eq_true_iff, ← h1]
    exact UInt32.lt_iff_toNat_lt
  have hE : FP.Core.fieldE FP.Core.b32 r.toNat = r.toNat / 8388608 % 256 := rfl
  have hT : FP.Core.fieldT FP.Core.b32 r.toNat = r.toNat % 8388608 := rfl
  have hX : FP.Core.b32.exps - 1 = 255 := rfl
  rw [h2]
  unfold FP.Core.decode
  rw [hE, hT, hX]
  by_cases a : r.toNat / 8388608 % 256 = 255
  · rw [if_pos a]
    by_cases b : r.toNat % 8388608 = 0
    · rw [if_pos b]
      exact ⟨fun h => (by cases h), fun h => (by omega)⟩
    · rw [if_neg b]
      exact ⟨fun _ => by omega, fun _ => rfl⟩
  · rw [if_neg a]
    refine ⟨fun h => ?_, fun h => by omega⟩
    split at h <;> cases h
theorem zo_nan64 (r : UInt64) : FP.Core.decode FP.Core.b64 r.toNat = .nan ↔ isNaN64 r = true := by
  have h1 : (r &&& 0x7fffffffffffffff).toNat = r.toNat % 9223372036854775808 := by
    rw [UInt64.toNat_and]
    exact Nat.and_two_pow_sub_one_eq_mod r.toNat 63
  have h2 : isNaN64 r = true ↔ 9218868437227405312 < r.toNat % 9223372036854775808 := by
    unfold isNaN64
    rw [decide_eq_true_iff, ← h1]
    exact UInt64.lt_iff_toNat_lt
  have hE : FP.Core.fieldE FP.Core.b64 r.toNat = r.toNat / 4503599627370496 % 2048 := rfl
  have hT : FP.Core.fieldT FP.Core.b64 r.toNat = r.toNat % 4503599627370496 := rfl
  have hX : FP.Core.b64.exps - 1 = 2047 := rfl
  rw [h2]
  unfold FP.Core.decode
  rw [hE, hT, hX]
  by_cases a : r.toNat / 4503599627370496 % 2048 = 2047
  · rw [if_pos a]
    by_cases b : r.toNat % 4503599627370496 = 0
    · rw [if_pos b]
      exact ⟨fun h => (by cases h), fun h => (by omega)⟩
    · rw [if_neg b]
      exact ⟨fun _ => by omega, fun _ => rfl⟩
  · rw [if_neg a]
    refine ⟨fun h => ?_, fun h => by omega⟩
    split at h <;> cases h
theorem zo_cmp (a : Int) : compare a a = .eq := by
  show compareOfLessAndEq a a = .eq
  unfold compareOfLessAndEq
  rw [if_neg (Int.lt_irrefl a), if_pos rfl]
theorem zo_self : ∀ D : FP.Core.Datum, FP.Core.order D D = some .eq ∨ (D = .nan ∧ FP.Core.order D D = none)
  | .nan => Or.inr ⟨rfl, rfl⟩
  | .inf s => Or.inl (congrArg some (zo_cmp _))
  | .fin s c q => Or.inl (congrArg some (zo_cmp _))
theorem nan_f {r : UInt32} : Op.cmpValue (FP.fcmp r r) .l = 0 ↔ isNaN32 r = false := by
  have h := zo_nan32 r
  have e : FP.fcmp r r = FP.Core.order (FP.Core.decode FP.Core.b32 r.toNat) (FP.Core.decode FP.Core.b32 r.toNat) := rfl
  rcases zo_self (FP.Core.decode FP.Core.b32 r.toNat) with a | ⟨b, a⟩
  · rw [e, a]
    refine ⟨fun _ => ?_, fun _ => rfl⟩
    cases hb : isNaN32 r with
    | false => rfl
    | true => rw [h.mpr hb] at a; cases a
  · rw [e, a, h.mp b]
    exact ⟨fun z => absurd z (by decide), fun z => by cases z⟩
theorem nan_d {r : UInt64} : Op.cmpValue (FP.dcmp r r) .l = 0 ↔ isNaN64 r = false := by
  have h := zo_nan64 r
  have e : FP.dcmp r r = FP.Core.order (FP.Core.decode FP.Core.b64 r.toNat) (FP.Core.decode FP.Core.b64 r.toNat) := rfl
  rcases zo_self (FP.Core.decode FP.Core.b64 r.toNat) with a | ⟨b, a⟩
  · rw [e, a]
    refine ⟨fun _ => ?_, fun _ => rfl⟩
    cases hb : isNaN64 r with
    | false => rfl
    | true => rw [h.mpr hb] at a; cases a
  · rw [e, a, h.mp b]
    exact ⟨fun z => absurd z (by decide), fun z => by cases z⟩
/-- what the word on arrays of int arrays says of the tables -/
def zoT (vm : Vm) : Prop := ∃ (cB cA : ClassId) (kA : Class), vm.findClass (FieldType.array .int).toString = some cB ∧ vm.classes[cA]? = some kA ∧ kA.kind = .array cB (.array .int) ∧ vm.findClass ("[" ++ (FieldType.array .int).toString) = some cA
theorem zoT_of {args : Array Value} {s : State} (h : (Cond.arrayOver (.array .int)).before args s = true) : zoT s.vm := by
  unfold Cond.before at h
  simp only [Cond.holds, Cond.value, beq_iff_eq, Option.bind_eq_some_iff, Option.map_eq_some_iff] at h
  obtain ⟨cB, hB, cA, hi, kA, hA, hk⟩ := h
  obtain ⟨hl, hp, -⟩ := Array.findIdx?_eq_some_iff_getElem.mp hi
  have hg : s.vm.classes[cA] = kA := (Array.getElem?_eq_some_iff.mp hA).2
  rw [hg] at hp
  refine ⟨cB, cA, kA, hB, hA, ?_, ?_⟩
  · cases hq : kA.kind with
    | array x ty =>
      rw [hq] at hk hp
      simp only [Bool.and_eq_true, decide_eq_true_eq] at hk
      simp only [beq_iff_eq] at hp
      rw [hp, hk.1]
    | _ => rw [hq] at hk; cases hk
  · cases hq : kA.kind with
    | array x ty =>
      rw [hq] at hk
      simp only [Bool.and_eq_true, decide_eq_true_eq] at hk
      exact hk.2
    | _ => rw [hq] at hk; cases hk
theorem zoT.to {vm vm' : Vm} (ha : vm.Alike vm') (h : zoT vm) : zoT vm' := by
  obtain ⟨cB, cA, kA, h1, h2, h3, h4⟩ := h
  obtain ⟨k', hk', he⟩ := ha.2.2 _ _ h2
  exact ⟨cB, cA, k', by rw [ha.findClass]; exact h1, hk', by rw [he]; exact h3, by rw [ha.findClass]; exact h4⟩
/-- the outer array with its first i places filled; the rows stand right behind it -/
def zoO (cA : ClassId) (N h i : Nat) : Cell := arrV cA N (fun j => if j < i then .ref (h + 1 + j) else .null)
/-- the state with the outer array and i rows of K ints -/
def zoF (cA cB : ClassId) (N K h : Nat) (U : State) : Nat → State
  | 0 => U.pushCell (zoO cA N h 0)
  | i + 1 => ((zoF cA cB N K h U i).pushCell (arrV cB K (fun _ => .int 0))).setCell h (zoO cA N h (i + 1))
theorem zoO_size (cA : ClassId) (N h i : Nat) : (zoO cA N h i).slots.size = N := by simp [zoO, arrV]
theorem zoO_step (cA : ClassId) (N h i : Nat) : (zoO cA N h i).setSlot i (.ref (h + 1 + i)) = zoO cA N h (i + 1) := by
  unfold zoO
  rw [arrV_store]
  refine congrArg (arrV cA N) (funext fun j => ?_)
  show (if j = i then Value.ref (h + 1 + i) else if j < i then .ref (h + 1 + j) else .null) = if j < i + 1 then .ref (h + 1 + j) else .null
  by_cases e : j = i
  · subst e
    rw [if_pos rfl, if_pos (Nat.lt_succ_self j)]
  · rw [if_neg e]
    by_cases q : j < i
    · rw [if_pos q, if_pos (Nat.lt_succ_of_lt q)]
    · rw [if_neg q, if_neg (by omega)]
theorem zoO_new (cA : ClassId) (N h : Nat) : ({ cls := cA, slots := Array.replicate N .null, vm := .none } : Cell) = zoO cA N h 0 := by
  rw [arrV_new]
  refine congrArg (arrV cA N) (funext fun j => ?_)
  rw [if_neg (Nat.not_lt_zero j)]
theorem zoF_facts (cA cB : ClassId) (N K : Nat) (U : State) : ∀ i : Nat, (zoF cA cB N K U.heap.size U i).heap.size = U.heap.size + 1 + i ∧ (zoF cA cB N K U.heap.size U i).heap[U.heap.size]? = some (zoO cA N U.heap.size i) ∧
    (∀ x : Nat, x < U.heap.size → (zoF cA cB N K U.heap.size U i).heap[x]? = U.heap[x]?) ∧ (∀ j : Nat, j < i → (zoF cA cB N K U.heap.size U i).heap[U.heap.size + 1 + j]? = some (arrV cB K (fun _ => .int 0))) ∧
    (zoF cA cB N K U.heap.size U i).slotsUsed = U.slotsUsed + N + i * K
  | 0 => by
    refine ⟨?_, ?_, fun x hx => ?_, fun j hj => absurd hj (Nat.not_lt_zero j), ?_⟩
    · show (U.heap.push _).size = _
      rw [Array.size_push]
    · show (U.heap.push _)[U.heap.size]? = _
      simp
    · show (U.heap.push _)[x]? = _
      rw [Array.getElem?_push, if_neg (by omega)]
    · show U.slotsUsed + (zoO cA N U.heap.size 0).slots.size = _
      rw [zoO_size]
      omega
  | i + 1 => by
    obtain ⟨h1, h2, h3, h4, h5⟩ := zoF_facts cA cB N K U i
    have hs : ∀ x : Nat, (zoF cA cB N K U.heap.size U (i + 1)).heap[x]? = if U.heap.size = x then some (zoO cA N U.heap.size (i + 1)) else if x = U.heap.size + 1 + i then some (arrV cB K (fun _ => .int 0)) else (zoF cA cB N K U.heap.size U i).heap[x]? := fun x => by
      show (((zoF cA cB N K U.heap.size U i).heap.push _).setIfInBounds U.heap.size _)[x]? = _
      rw [Array.getElem?_setIfInBounds, Array.size_push, h1, Array.getElem?_push, h1]
      by_cases e : U.heap.size = x
      · rw [if_pos e, if_pos e, if_pos (by omega)]
      · rw [if_neg e, if_neg e]
    refine ⟨?_, ?_, fun x hx => ?_, fun j hj => ?_, ?_⟩
    · show (((zoF cA cB N K U.heap.size U i).heap.push _).setIfInBounds U.heap.size _).size = _
      rw [Array.size_setIfInBounds, Array.size_push, h1]
      omega
    · rw [hs, if_pos rfl]
    · rw [hs, if_neg (by omega), if_neg (by omega)]
      exact h3 x hx
    · rw [hs, if_neg (by omega)]
      by_cases e : j = i
      · subst e
        rw [if_pos rfl]
      · rw [if_neg (by omega)]
        exact h4 j (by omega)
    · show (zoF cA cB N K U.heap.size U i).slotsUsed + (arrV cB K (fun _ => Value.int 0)).slots.size = _
      rw [h5, show (arrV cB K (fun _ => Value.int 0)).slots.size = K by simp [arrV], Nat.succ_mul]
      omega
theorem zoF_top (cA cB : ClassId) (N K h : Nat) (U : State) (f : JFrame) : ∀ i : Nat, zoF cA cB N K h (U.setTop f) i = (zoF cA cB N K h U i).setTop f
  | 0 => rfl
  | i + 1 => by
    show ((zoF cA cB N K h (U.setTop f) i).pushCell _).setCell h _ = _
    rw [zoF_top cA cB N K h U f i]
    rfl
theorem zoF_vm (cA cB : ClassId) (N K h : Nat) (U : State) : ∀ i : Nat, (zoF cA cB N K h U i).vm = U.vm ∧ (zoF cA cB N K h U i).topJava? = U.topJava?
  | 0 => ⟨rfl, rfl⟩
  | i + 1 => zoF_vm cA cB N K h U i
section
variable {p : Program} {l : Launch} {e : Env} {R : Room} {s : State} {m : MethodId} {args : Array Value} {below : List Frame} {meth : Method} {c : Code} {T : State} {locs : List Loc} {cells slots : Nat}
theorem zoF_stand (X : Stand p l e R s m args below meth c T locs cells slots) (cA cB : ClassId) (N K : Nat) : ∀ i : Nat, ∃ locs' : List Loc, (∀ q ∈ locs', q ∈ locs ∨ q.base = T.heap.size) ∧ Stand p l e R s m args below meth c (zoF cA cB N K T.heap.size T i) locs' (cells + 1 + i) (slots + N + i * K)
  | 0 => by
    refine ⟨locs, fun q hq => Or.inl hq, ?_⟩
    have h := X.pushed (zoO cA N T.heap.size 0)
    rw [zoO_size] at h
    rw [Nat.zero_mul]
    exact h
  | i + 1 => by
    obtain ⟨locs', hl, h⟩ := zoF_stand X cA cB N K i
    obtain ⟨f1, f2, -, -, -⟩ := zoF_facts cA cB N K T i
    have h1 := h.pushed (arrV cB K (fun _ => .int 0))
    rw [show (arrV cB K (fun _ => Value.int 0)).slots.size = K by simp [arrV]] at h1
    have hc : ((zoF cA cB N K T.heap.size T i).pushCell (arrV cB K (fun _ => .int 0))).heap[T.heap.size]? = some (zoO cA N T.heap.size i) := by
      show ((zoF cA cB N K T.heap.size T i).heap.push _)[T.heap.size]? = _
      rw [Array.getElem?_push, if_neg (by omega)]
      exact f2
    have h2 := h1.stored hc i (.ref (T.heap.size + 1 + i))
    rw [zoO_step] at h2
    refine ⟨locs' ++ [⟨T.heap.size, i⟩], fun q hq => ?_, ?_⟩
    rotate_left
    · rw [show cells + 1 + (i + 1) = cells + 1 + i + 1 by omega, show slots + N + (i + 1) * K = slots + N + i * K + K by rw [Nat.succ_mul]; omega]
      exact h2
    · rcases List.mem_append.mp hq with hq | hq
      · exact hl q hq
      · rw [List.mem_singleton] at hq
        subst hq
        exact Or.inr rfl
end
section
variable {E : CtlPost} {e : Env} {d : Bool} {acts : List Action} {s : State}
/-- a row -/
theorem zo_row {cB x : ClassId} {kB : Class} {k : Int32} {Q : Addr → Pre} (hkB : s.vm.classes[cB]? = some kB) (hB : kB.kind = .array x .int) (hk : ¬ k < 0) (hK : k.toNatClampNeg ≤ 1000) (hl : e.platform.arrayLengthLimit = 2147483645) (hm : e.platform.maxHeapBytes = 536870912)
    (hc : s.heap.size < e.platform.maxCells) (hs : s.slotsUsed + k.toNatClampNeg ≤ e.platform.maxSlots) (hq : ∀ acts', Q s.heap.size d acts' (s.pushCell (arrV cB k.toNatClampNeg (fun _ => .int 0)))) : wp (multianewarray.make cB [k]) Q E e d acts s := by
  unfold multianewarray.make
  simp only [wp_bind', W.ite, hk, if_false, wp_pure', W.theClass, hkB, Option.some.injEq, exists_eq_left', hB]
  refine W.newArray_of hkB hB (by rw [hl]; omega) (by rw [hm]; show ¬ k.toNatClampNeg * 4 > 536870912; omega) hc hs rfl (fun acts' => ?_)
  have h := hq acts'
  rw [← arrV_new] at h
  exact h
/-- the loop over the rows, from the i-th on -/
theorem zo_rows {cA cB x : ClassId} {kA kB : Class} {k : Int32} {N : Nat} {U : State} (hkA : U.vm.classes[cA]? = some kA) (hA : kA.kind = .array cB (.array .int)) (hkB : U.vm.classes[cB]? = some kB) (hB : kB.kind = .array x .int) (hk : ¬ k < 0) (hK : k.toNatClampNeg ≤ 1000) (hl : e.platform.arrayLengthLimit = 2147483645) (hm : e.platform.maxHeapBytes = 536870912)
    (hc : U.heap.size + 1 + N ≤ e.platform.maxCells) (hs : U.slotsUsed + N + N * k.toNatClampNeg ≤ e.platform.maxSlots) {Q : PUnit → Pre} (hq : ∀ d' acts', Q PUnit.unit d' acts' (zoF cA cB N k.toNatClampNeg U.heap.size U N)) :
    ∀ (n i : Nat) (d : Bool) (acts : List Action), i + n = N → wp (forIn (List.range' i n) PUnit.unit (fun j _ => do
      let a ← multianewarray.make cB [k]
      writeLoc U.heap.size j (.ref a)
      Pure.pure (ForInStep.yield PUnit.unit))) Q E e d acts (zoF cA cB N k.toNatClampNeg U.heap.size U i)
  | 0, i, d, acts, h => by
    rw [show i = N by omega]
    simp only [List.range'_zero, List.forIn_nil, wp_pure']
    exact hq d acts
  | n + 1, i, d, acts, h => by
    obtain ⟨f1, f2, -, -, f5⟩ := zoF_facts cA cB N k.toNatClampNeg U i
    obtain ⟨v1, -⟩ := zoF_vm cA cB N k.toNatClampNeg U.heap.size U i
    have hmul : i * k.toNatClampNeg + k.toNatClampNeg ≤ N * k.toNatClampNeg := by
      rw [← Nat.succ_mul]
      exact Nat.mul_le_mul_right _ (by omega)
    rw [List.range'_succ]
    simp only [List.forIn_cons, wp_bind']
    refine zo_row (by rw [v1]; exact hkB) hB hk hK hl hm (by omega) (by omega) (fun acts1 => ?_)
    have hcell : ((zoF cA cB N k.toNatClampNeg U.heap.size U i).pushCell (arrV cB k.toNatClampNeg (fun _ => .int 0))).heap[U.heap.size]? = some (zoO cA N U.heap.size i) := by
      show ((zoF cA cB N k.toNatClampNeg U.heap.size U i).heap.push _)[U.heap.size]? = _
      rw [Array.getElem?_push, if_neg (by omega)]
      exact f2
    simp only [wp_bind', W.writeLoc, wp_pure']
    refine ⟨zoO cA N U.heap.size i, hcell, (by intro z; cases z), (by rw [zoO_size]; omega), ?_, ?_⟩
    · have hv : ((zoF cA cB N k.toNatClampNeg U.heap.size U i).pushCell (arrV cB k.toNatClampNeg (fun _ => .int 0))).vm = U.vm := v1
      have hty : ((zoF cA cB N k.toNatClampNeg U.heap.size U i).pushCell (arrV cB k.toNatClampNeg (fun _ => .int 0))).slotType? cA .none i = some (.array .int) := by
        unfold State.slotType?
        rw [hv, hkA]
        simp [hA]
      show State.fitsSlot _ cA .none i _ = true
      unfold State.fitsSlot
      rw [hty]
      rfl
    · rw [f1, zoO_step]
      exact zo_rows hkA hA hkB hB hk hK hl hm hc hs hq n (i + 1) _ _ (by omega)
theorem zo_make {cA cB x : ClassId} {kA kB : Class} {n k : Int32} (hkA : s.vm.classes[cA]? = some kA) (hA : kA.kind = .array cB (.array .int)) (hkB : s.vm.classes[cB]? = some kB) (hB : kB.kind = .array x .int) (hn : ¬ n < 0) (hN : n.toNatClampNeg ≤ 1000) (hk : ¬ k < 0) (hK : k.toNatClampNeg ≤ 1000) (hl : e.platform.arrayLengthLimit = 2147483645) (hm : e.platform.maxHeapBytes = 536870912)
    (hc : s.heap.size + 1 + n.toNatClampNeg ≤ e.platform.maxCells) (hs : s.slotsUsed + n.toNatClampNeg + n.toNatClampNeg * k.toNatClampNeg ≤ e.platform.maxSlots) {Q : Addr → Pre} (hq : ∀ d' acts', Q s.heap.size d' acts' (zoF cA cB n.toNatClampNeg k.toNatClampNeg s.heap.size s n.toNatClampNeg)) :
    wp (multianewarray.make cA [n, k]) Q E e d acts s := by
  unfold multianewarray.make
  simp only [wp_bind', W.ite, hn, if_false, wp_pure', W.theClass, hkA, Option.some.injEq, exists_eq_left', hA]
  refine W.newArray_of hkA hA (by rw [hl]; omega) (by rw [hm]; show ¬ n.toNatClampNeg * 4 > 536870912; omega) (by omega) (by omega) rfl (fun acts' => ?_)
  have hf : ([k].find? (fun z => decide (z < 0))) = none := by simp [hk]
  rw [zoO_new cA n.toNatClampNeg s.heap.size, hf, ite_self, wp_bind', Std.Legacy.Range.forIn_eq_forIn_range', show ([:n.toNatClampNeg] : Std.Legacy.Range).size = n.toNatClampNeg by simp [Std.Legacy.Range.size]]
  exact zo_rows hkA hA hkB hB hk hK hl hm hc hs (fun d' acts' => hq d' acts') n.toNatClampNeg 0 d acts' (Nat.zero_add _)
theorem zo_sem {f : JFrame} {idx : Nat} {rest : List Value} {cA cB x : ClassId} {kA kB : Class} {n k : Int32} (ht : s.topJava?.isSome) (hr : s.vm.classReady f.method.cls idx cA) (hst : f.stack = .int k :: .int n :: rest)
    (hkA : s.vm.classes[cA]? = some kA) (hA : kA.kind = .array cB (.array .int)) (hkB : s.vm.classes[cB]? = some kB) (hB : kB.kind = .array x .int) (hn : ¬ n < 0) (hN : n.toNatClampNeg ≤ 1000) (hk : ¬ k < 0) (hK : k.toNatClampNeg ≤ 1000) (hl : e.platform.arrayLengthLimit = 2147483645) (hm : e.platform.maxHeapBytes = 536870912)
    (hc : s.heap.size + 1 + n.toNatClampNeg ≤ e.platform.maxCells) (hs : s.slotsUsed + n.toNatClampNeg + n.toNatClampNeg * k.toNatClampNeg ≤ e.platform.maxSlots) {Q : Unit → Pre} (hq : ∀ d' acts', Q () d' acts' ((zoF cA cB n.toNatClampNeg k.toNatClampNeg s.heap.size s n.toNatClampNeg).setTop { f with stack := .ref s.heap.size :: rest })) :
    wp (multianewarray.sem idx 2) Q E e d acts (s.setTop f) := by
  have hp : f.stack = [Value.int n, Value.int k].reverse ++ rest := hst
  unfold multianewarray.sem
  rw [wp_bind', W.resolveClassAt_ready (State.method?_setTop f ht) hr, wp_bind', show Jvm.popN 2 = Jvm.popN [Value.int n, Value.int k].length from rfl, popN_top ht hp]
  simp only [List.mapM_cons, List.mapM_nil, wp_bind', wp_pure']
  refine zo_make (s := s.setTop { f with stack := rest }) hkA hA hkB hB hn hN hk hK hl hm hc hs (fun d' acts' => ?_)
  rw [zoF_top]
  have htop : (zoF cA cB n.toNatClampNeg k.toNatClampNeg s.heap.size s n.toNatClampNeg).topJava?.isSome := by
    rw [(zoF_vm cA cB n.toNatClampNeg k.toNatClampNeg s.heap.size s n.toNatClampNeg).2]
    exact ht
  simp only [wp_bind', W.mark, W.pushRef, State.heap_setTop, State.topJava?_setTop' _ htop, Option.some.injEq, exists_eq_left', State.setTop_setTop]
  exact hq _ _
end
section
variable {p : Program} {l : Launch} {e : Env} {R : Room} {s : State} {m : MethodId} {args : Array Value} {below : List Frame} {meth : Method} {c : Code} {T : State} {locs : List Loc} {cells slots : Nat}
/-- new int[n][k], over the machine -/
theorem zo_multi (X : Stand p l e R s m args below meth c T locs cells slots) (hx : p.tables.exec = Jvm.exec) {own : String} {idx : Nat} (hown : s.vm.findClass own = some m.cls) (hw : (Cond.classLink own idx ("[" ++ (FieldType.array .int).toString)).before args s = true) (ho : zoT s.vm) (hi : (Cond.arrayClass .int).before args s = true)
    {g : JFrame} (hg : g.method = m) (hd : decode c.code g.pc = .ok (.multianewarray idx 2, 4)) {n k : Int32} {rest : List Value} (hst : g.stack = .int k :: .int n :: rest) (hn : ¬ n < 0) (hN : n.toNatClampNeg ≤ 1000) (hk : ¬ k < 0) (hK : k.toNatClampNeg ≤ 1000)
    (hce : cells + (1 + n.toNatClampNeg) ≤ R.cells) (hsl : slots + (n.toNatClampNeg + n.toNatClampNeg * k.toNatClampNeg) ≤ R.slots) :
    ∃ (vm₁ : Vm) (cA cB : ClassId) (locs' : List Loc), s.vm.findClass ("[" ++ (FieldType.array .int).toString) = some cA ∧ s.vm.findClass (FieldType.array .int).toString = some cB ∧ (∀ q ∈ locs', q ∈ locs ∨ q.base = T.heap.size) ∧
      Stand p l e R s m args below meth c (zoF cA cB n.toNatClampNeg k.toNatClampNeg T.heap.size (T.setVm vm₁) n.toNatClampNeg) locs' (cells + 1 + n.toNatClampNeg) (slots + n.toNatClampNeg + n.toNatClampNeg * k.toNatClampNeg) ∧
      ∀ t, Steps p.tables e below ((zoF cA cB n.toNatClampNeg k.toNatClampNeg T.heap.size (T.setVm vm₁) n.toNatClampNeg).setTop { g with pc := g.pc + 4, stack := .ref T.heap.size :: rest }) t → Steps p.tables e below (T.setTop g) t := by
  subst hg
  obtain ⟨cB, cA, kA, h1, h2, h3, h4⟩ := ho
  obtain ⟨cI, kI, x, i1, i2, i3⟩ := Cond.arrayClass_spec hi
  have hI : cI = cB := Option.some.inj (i1.symm.trans h1)
  subst hI
  obtain ⟨cc, hcc, hcl⟩ := Cond.classLink_spec hown hw e.platform (by rw [X.admits.platform])
  have hA : cc = cA := Option.some.inj (hcc.symm.trans h4)
  subst hA
  obtain ⟨g1, w1, r1⟩ := State.classEntry (e := e) X.warmed hcl
  have hz : (T.vm.noted g.method.cls idx (.cls cc)).classes.size ≤ T.vm.classes.size := by no_record
  generalize T.vm.noted g.method.cls idx (.cls cc) = vm₁ at g1 w1 r1 hz
  obtain ⟨kA1, a1, a2⟩ := w1.alike.2.2 _ _ h2
  obtain ⟨kI1, b1, b2⟩ := w1.alike.2.2 _ _ i2
  have kA2 : kA1.kind = .array cI (.array .int) := by rw [a2]; exact h3
  have kI2 : kI1.kind = .array x .int := by rw [b2]; exact i3
  obtain ⟨q1, q2⟩ := X.roomAbove hce hsl
  obtain ⟨locs', hl, X1⟩ := zoF_stand (X.noted w1) cc cI n.toNatClampNeg k.toNatClampNeg n.toNatClampNeg
  refine ⟨vm₁, cc, cI, locs', h4, h1, hl, X1, fun t hrest => ?_⟩
  refine Steps.instr (c := c) X.here ?_
  rw [hd]
  show wpRun (p.tables.exec (.multianewarray idx 2)) _ _ e (T.setTop g)
  rw [hx]
  show wp (multianewarray.sem idx 2) _ _ e false [] (T.setTop g)
  have htr : ∀ (Q : Unit → Pre) (E : CtlPost) (d : Bool) (acts : List Action), wp (multianewarray.sem idx 2) Q E e d acts (T.setTop g) ↔ wp (multianewarray.sem idx 2) Q E e d acts ((T.setVm vm₁).setTop g) := fun Q E d acts => by
    unfold multianewarray.sem
    rw [wp_bind', wp_bind']
    exact W.resolveClassAt_transfer (s := T.setTop g) (State.method?_setTop g X.here.top) g1 r1 hz
  rw [htr]
  refine zo_sem (s := T.setVm vm₁) X.here.top r1 hst a1 kA2 b1 kI2 hn hN hk hK (Launch.admits_arrayLengthLimit X.admits) (Launch.admits_maxHeapBytes X.admits) ?_ ?_ (fun d' acts' acts9 => ?_)
  · show T.heap.size + 1 + n.toNatClampNeg ≤ _
    omega
  · show T.slotsUsed + n.toNatClampNeg + n.toNatClampNeg * k.toNatClampNeg ≤ _
    omega
  · rw [afterInstr_ok]
    exact hrest
end
end ZOwn
