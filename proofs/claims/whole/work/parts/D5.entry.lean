/-! the entry, whole -/
theorem zck_all : ∀ ci, ci < 8 → zCk ci := fun ci h => match ci, h with
  | 0, _ => ck_am
  | 1, _ => ck_inp
  | 2, _ => ck_pv
  | 3, _ => ck_sh
  | 4, _ => ck_sta
  | 5, _ => ck_ver
  | 6, _ => ck_sc
  | 7, _ => ck_mo
  | n + 8, h => absurd h (by omega)
theorem zG_tbl {w : Cond} (h : w ∈ zG) : w ∈ lw_tbl := (List.mem_filter.mp h).1
theorem zkn {s : State} {args : Array Value} (hts : ∀ w ∈ lw_tbl, w.before args s = true) : ∃ D : va_G, ∀ (c : Nat) (q : vw_C), zCl[c]? = some q → u_Kn s q.1 q.2.1 q.2.2 (D.1 c) (D.2 c) := by
  have H : ∀ c : Nat, ∃ d : ClassId × (Nat → Nat), ∀ q : vw_C, zCl[c]? = some q → u_Kn s q.1 q.2.1 q.2.2 d.1 d.2 := by
    intro c
    by_cases hc : c < 8
    · cases hz : zCl[c]? with
      | none => exact ⟨(0, fun _ => 0), fun q hq => by cases hq⟩
      | some q =>
        obtain ⟨c1, -, -, -, c5, -⟩ := zck_all c hc q.1 q.2.1 q.2.2 hz
        obtain ⟨cC, iS, hk⟩ := u_known (C := q.1) (T := q.2.1) (N := q.2.2) (n := q.2.2) hts (fun w hw => zG_tbl (c1 w hw)) (hts _ (zG_tbl c5))
        exact ⟨(cC, iS), fun q' hq' => by cases hq'; exact hk⟩
    · exact ⟨(0, fun _ => 0), fun q hq => absurd (List.getElem?_eq_some_iff.mp hq).1 (by show ¬ c < 8; exact hc)⟩
  exact ⟨(fun c => (Classical.choose (H c)).1, fun c => (Classical.choose (H c)).2), fun c q hq => Classical.choose_spec (H c) q hq⟩
def zSpOf (b : Nat) (v : Value) (adK adV : Nat → Nat) : Nat → Value := fun k => if k = 0 then .ref b else if k = 200 then v else if k < 13 then .ref (adK (k - 1)) else if 101 ≤ k ∧ k < 113 then .ref (adV (k - 101)) else .null
theorem zkb_entry {p : Program} {s : State} {m : MethodId} {meth : Method} {c : Code} {b L : Nat} {xs : Nat → Int32} (l : Launch) (C0 : lw_At p s m meth c b L xs) : ∃ Γ : zCtx, zL Γ = l ∧ zSz Γ = s.heap.size ∧ zScr Γ = (b, L, xs) ∧ zKB Γ s := by
  obtain ⟨hx, hb, hr, hml, hown, hts, hX, hbl, hlocks, hgv⟩ := C0
  have hq := flat_of_before _ hgv
  have hA : ∀ a : Nat, a < s.heap.size → ¬ s.heap.size ≤ a := fun a ha => Nat.not_le.mpr ha
  obtain ⟨D, hD⟩ := zkn hts
  obtain ⟨a0, r0, f0⟩ := zarr (hts _ (zG_tbl war_int))
  obtain ⟨a1, r1, f1⟩ := zarr (hts _ (zG_tbl war_long))
  obtain ⟨a2, r2, f2⟩ := zarr (hts _ (zG_tbl war_boolean))
  have hov : (Cond.arrayOver (.array .int)).before #[Value.ref b] s = true := hts _ (List.mem_append_right _ (by decide +kernel))
  obtain ⟨a3, r3, f3⟩ := zarr2 hov
  obtain ⟨adK, adV, hvS, hvE⟩ := zs_all hgv
  have hz1 : va_Z "java/lang/String" "COMPACT_STRINGS" "Z" (.int 1) (fun q => s.heap.size ≤ q) s s.heap := va_Zof (hts _ (List.mem_append_right _ (by decide +kernel))) (hts _ (List.mem_append_right _ (by decide +kernel))) (va_eqi (hq _ (by decide +kernel))) hA
  have hz2 : va_Zq "jdk/internal/util/Preconditions" "SIOOBE_FORMATTER" "Ljava/util/function/BiFunction;" (fun q => s.heap.size ≤ q) s s.heap := va_Zqof (hts _ (List.mem_append_right _ (by decide +kernel))) (hts _ (List.mem_append_right _ (by decide +kernel))) (hq _ (by decide +kernel)) hA
  obtain ⟨v, hv, hv2⟩ : ∃ v : Value, va_Z "jdk/internal/util/Preconditions" "SIOOBE_FORMATTER" "Ljava/util/function/BiFunction;" v (fun q => s.heap.size ≤ q) s s.heap ∧ (v = .null ∨ ∃ a, v = .ref a) := by
    rcases hz2 with h | ⟨t, h⟩
    · exact ⟨_, h, Or.inl rfl⟩
    · exact ⟨_, h, Or.inr ⟨t, rfl⟩⟩
  refine ⟨(l, s.heap.size, D, fun t => if t = 0 then a0 else if t = 1 then a1 else if t = 2 then a2 else a3, zSpOf b v adK adV, (b, L, xs), adK, adV), rfl, rfl, rfl, ⟨hD, fun k q hk => ?_⟩, zNw hts, fun i q hi => ?_, hvS, hX, hz1, hv, hbl, Nat.le_refl _, rfl, ⟨fun i hi => ⟨?_, ?_⟩, zoT_of hov⟩, fun k => ?_⟩
  · match k, hk with
    | 0, hk => cases hk; exact ⟨r0, f0⟩
    | 1, hk => cases hk; exact ⟨r1, f1⟩
    | 2, hk => cases hk; exact ⟨r2, f2⟩
    | 3, hk => cases hk; exact ⟨r3, f3⟩
    | n + 4, hk => cases hk
  · have h12 : i < 12 := (List.getElem?_eq_some_iff.mp hi).1
    have he := hvE i h12
    rw [zTm_of hi] at he
    exact vk_R.of (hts _ (List.mem_append_right _ (zTx q (List.mem_of_getElem? hi)))) he
  · show zSpOf b v adK adV (1 + i) = .ref (adK i)
    unfold zSpOf
    rw [if_neg (by omega), if_neg (by omega), if_pos (by omega), Nat.add_sub_cancel_left]
  · show zSpOf b v adK adV (101 + i) = .ref (adV i)
    unfold zSpOf
    rw [if_neg (by omega), if_neg (by omega), if_neg (by omega), if_pos (by omega), Nat.add_sub_cancel_left]
  · show zSpOf b v adK adV k = .null ∨ ∃ a, zSpOf b v adK adV k = .ref a
    unfold zSpOf
    split
    · exact Or.inr ⟨_, rfl⟩
    · split
      · exact hv2
      · split
        · exact Or.inr ⟨_, rfl⟩
        · split
          · exact Or.inr ⟨_, rfl⟩
          · exact Or.inl rfl
