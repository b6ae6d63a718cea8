/-! the entry -/
theorem zarr {s : State} {args : Array Value} {ty : FieldType} (h : (Cond.arrayClass ty).before args s = true) : ∃ cA, ArrOfT s cA ty ∧ s.vm.findClass ("[" ++ ty.toString) = some cA := by
  obtain ⟨c, k, comp, h1, h2, h3⟩ := Cond.arrayClass_spec h
  exact ⟨c, fun N z => ⟨(fun k h => by cases h), k, h2, comp, h3⟩, h1⟩
theorem zarr2 {s : State} {args : Array Value} (h : (Cond.arrayOver (.array .int)).before args s = true) : ∃ cA, ArrOfT s cA (.array .int) ∧ s.vm.findClass ("[" ++ (FieldType.array .int).toString) = some cA := by
  obtain ⟨comp, c, k, h1, h2, h3, h4⟩ := zoT_of h
  exact ⟨c, fun N z => ⟨(fun k h => by cases h), k, h2, comp, h3⟩, h4⟩
def zTm (i : Nat) : Term := match zStr[i]? with
  | some q => .string q.1 q.2.1
  | none => .string "" 0
theorem zTm_of {i : Nat} {q : String × Nat × String × List Int32} (h : zStr[i]? = some q) : zTm i = .string q.1 q.2.1 := by unfold zTm; rw [h]
theorem zTx : ∀ q ∈ zStr, Cond.stringRef q.1 q.2.1 q.2.2.1 ∈ tables_1 := by decide +kernel
theorem zNw {s : State} {args : Array Value} (h : ∀ w ∈ lw_tbl, w.before args s = true) : ∀ w ∈ zN, va_Nw w s := by
  intro w hw
  obtain ⟨h0, h1⟩ := List.mem_filter.mp hw
  have hb := h w (List.mem_append_right _ h0)
  cases w <;> first | exact va_Nw.of rfl hb | (simp [zNestB] at h1)
