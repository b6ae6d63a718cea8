/-! the texts at the entry -/
theorem zs_ex : ∀ i, i < 12 → Cond.exactly (zTm i) "java/lang/String" ∈ flatC (Jvm.Cond.and given_1 narrow_1) := by decide +kernel
theorem zs_co : ∀ i, i < 12 → Cond.eq (.field (zTm i) "java/lang/String" "coder" "B") (.int 0) ∈ flatC (Jvm.Cond.and given_1 narrow_1) := by decide +kernel
theorem zs_ar : ∀ i, i < 12 → Cond.arrayOf (.field (zTm i) "java/lang/String" "value" "[B") .byte ∈ flatC (Jvm.Cond.and given_1 narrow_1) := by decide +kernel
theorem zs_le : ∀ i, i < 12 → Cond.eq (.length (.field (zTm i) "java/lang/String" "value" "[B")) (.int (Int32.ofNat ((zStr.map (fun q => q.2.2.2.length)).getD i 0))) ∈ flatC (Jvm.Cond.and given_1 narrow_1) := by decide +kernel
theorem zs_el : ∀ i, i < 12 → ∀ j, j < (zStr.map (fun q => q.2.2.2.length)).getD i 0 → Cond.eq (.elem (.field (zTm i) "java/lang/String" "value" "[B") (.int (Int32.ofNat j))) (.int (((zStr.map (fun q => q.2.2.2)).getD i []).getD j 0)) ∈ flatC (Jvm.Cond.and given_1 narrow_1) := by decide +kernel
theorem zs_ne : ∀ i, i < 12 → ∀ j, j < 12 → i ≠ j → Cond.not (Cond.eq (zTm i) (zTm j)) ∈ flatC (Jvm.Cond.and given_1 narrow_1) ∨ Cond.not (Cond.eq (zTm j) (zTm i)) ∈ flatC (Jvm.Cond.and given_1 narrow_1) := by decide +kernel
theorem zs_all {s : State} {args : Array Value} (h : (Jvm.Cond.and given_1 narrow_1).before args s = true) : ∃ adK adV : Nat → Nat, vk_S 12 (zStr.map (fun q => q.2.2.2.length)) (zStr.map (fun q => q.2.2.2)) adK adV (fun q => s.heap.size ≤ q) s s.heap ∧ ∀ i : Nat, i < 12 → (zTm i).eval args s none [] s = some (.ref (adK i)) := by
  have hq := flat_of_before _ h
  exact vk_Sof (tm := zTm) (by decide) (fun i hi => hq _ (zs_ex i hi)) (fun i hi => hq _ (zs_co i hi)) (fun i hi => hq _ (zs_ar i hi)) (fun i hi => hq _ (zs_le i hi)) (fun i hi j hj => hq _ (zs_el i hi j hj)) (fun i j hi hj hij => (zs_ne i hi j hj hij).imp (hq _) (hq _)) (fun a ha => Nat.not_le.mpr ha)
