/-! the memory after both constructors -/
def memS : List zE := ([.inr (6, [.null, .null, .int 0, .null, .null, .null, .null])] : List zE).set 0 (.inr (6, [.ref (0 + 1 + 0), .ref (0 + 1 + 46), .int 0, .ref (0 + 1 + 92), .ref (0 + 1 + 94), .ref (0 + 1 + 102), .ref (0 + 1 + 112)])) ++ ([.inr (4, (staF (0 + 1 + 0)))] ++ (staC (0 + 1 + 0)) ++ [.inr (4, (staF (0 + 1 + 46)))] ++ (staC (0 + 1 + 46)) ++ [.inr (1, (inpF (0 + 1 + 92)))] ++ (inpC (0 + 1 + 92)) ++ [.inr (3, (shF (0 + 1 + 94)))] ++ (shC (0 + 1 + 94)) ++ [.inr (5, (verF (0 + 1 + 102)))] ++ (verC (0 + 1 + 102)) ++ [.inr (5, (verF (0 + 1 + 112)))] ++ (verC (0 + 1 + 112)))
def moI : List Value := [.null, .null, .null, .null, .null, .int 0, .null, .null, .null, .null, .null, .int 0, .null, .null, .null, .null, .null, .null, .null, .null, .int 0, .int 0, .null, .null, .null, .null, .int 0, .null, .int 0, .int 0, .int 0, .int 0, .null, .null, .int 0, .null, .null, .null, .null, .null, .int 0, .null, .null, .null, .null, .null, .null, .null, .null, .null, .null, .null, .null, .null, .int 0, .int 0, .int 0]
def moJ : List Value := [.ref (123 + 1 + 0), .ref (123 + 1 + 1), .ref (123 + 1 + 2), .ref (123 + 1 + 3), .ref (123 + 1 + 4), .int 0, .ref (123 + 1 + 5), .ref (123 + 1 + 6), .ref (123 + 1 + 7), .ref (123 + 1 + 8), .ref (123 + 1 + 9), .int 0, .ref (123 + 1 + 10), .ref (123 + 1 + 11), .ref (123 + 1 + 12), .ref (123 + 1 + 13), .ref (123 + 1 + 14), .ref (123 + 1 + 15), .ref (123 + 1 + 16), .ref (123 + 1 + 17), .int 0, .int 0, .ref (123 + 1 + 18), .ref (123 + 1 + 19), .ref (123 + 1 + 20), .ref (123 + 1 + 21), .int 0, .ref (123 + 1 + 22), .int 0, .int 0, .int 0, .int 0, .ref (123 + 1 + 23), .ref (123 + 1 + 24), .int 0, .ref (123 + 1 + 25), .ref (123 + 1 + 26), .ref (123 + 1 + 27), .ref (123 + 1 + 28), .ref (123 + 1 + 29), .int 0, .ref (123 + 1 + 30), .ref (123 + 1 + 31), .ref (123 + 1 + 32), .ref (123 + 1 + 33), .ref (123 + 1 + 34), .ref (123 + 1 + 35), .ref (123 + 1 + 36), .ref (123 + 1 + 37), .ref (123 + 1 + 38), .ref (123 + 1 + 39), .ref (123 + 1 + 40), .ref (123 + 1 + 41), .ref (123 + 1 + 42), .int 0, .int 0, .int 0]
def memM : List zE := (memS ++ ([.inr (7, moI)] : List zE)).set 123 (.inr (7, moJ) : zE) ++ (([.inl (0, zZero 0 30), .inl (0, zZero 0 30), .inl (0, zZero 0 30), .inl (0, zZero 0 30), .inl (0, zZero 0 120), .inl (0, zZero 0 8), .inl (0, zZero 0 8), .inl (0, zZero 0 128), .inl (0, zZero 0 128), .inl (0, zZero 0 768), .inl (0, zZero 0 160), .inl (0, zZero 0 160), .inl (0, zZero 0 160), .inl (0, zZero 0 160), .inl (0, zZero 0 160), .inl (0, zZero 0 160), .inl (2, zZero 2 160), .inl (2, zZero 2 160), .inl (0, zZero 0 60), .inl (0, zZero 0 128), .inl (0, zZero 0 128), .inl (0, zZero 0 128), .inl (0, zZero 0 120), .inl (0, zZero 0 160), .inl (0, zZero 0 24), .inl (0, zZero 0 3), .inl (0, zZero 0 180), .inl (0, zZero 0 60), .inl (0, zZero 0 60), .inl (2, zZero 2 60), .inl (0, 3, .inl (emF 3)), .inl (0, zZero 0 3), .inl (0, 30, .inl (emF 30)), .inl (0, zZero 0 30), .inl (0, zZero 0 30), .inl (0, zZero 0 30), .inl (0, zZero 0 30), .inl (0, zZero 0 120), .inl (0, zZero 0 8), .inl (0, zZero 0 8), .inl (0, zZero 0 128), .inl (0, zZero 0 128), .inl (0, zZero 0 768)]) : List zE)
theorem memS_len : memS.length = 123 := rfl
def G0 : Nat → Nat → Nat
  | 0 => fun _ => 1
  | 7 => fun _ => 1
  | 10 => fun _ => 1
  | 14 => fun _ => 1
  | 15 => fun _ => 1
  | 28 => fun _ => 1
  | 30 => fun i => if i < 3 then 0 else 1
  | 32 => fun i => if i < 30 then 0 else 1
  | 33 => fun _ => 1
  | 40 => fun _ => 1
  | _ => fun _ => 0
theorem emF_m {n : Nat} : (fun i => mI (if i < n then 0 else 1)) = emF n := by
  funext i
  unfold emF
  by_cases h : i < n
  · rw [if_pos h, if_pos h]; rfl
  · rw [if_neg h, if_neg h]; rfl
theorem start_row : ∀ k, k < 43 → memM[124 + k]? = some (.inl (moT k, moN k, .inl (fun i => moD k (G0 k i)))) := fun k hk => match k, hk with
  | 0, _ => rfl
  | 1, _ => rfl
  | 2, _ => rfl
  | 3, _ => rfl
  | 4, _ => rfl
  | 5, _ => rfl
  | 6, _ => rfl
  | 7, _ => rfl
  | 8, _ => rfl
  | 9, _ => rfl
  | 10, _ => rfl
  | 11, _ => rfl
  | 12, _ => rfl
  | 13, _ => rfl
  | 14, _ => rfl
  | 15, _ => rfl
  | 16, _ => rfl
  | 17, _ => rfl
  | 18, _ => rfl
  | 19, _ => rfl
  | 20, _ => rfl
  | 21, _ => rfl
  | 22, _ => rfl
  | 23, _ => rfl
  | 24, _ => rfl
  | 25, _ => rfl
  | 26, _ => rfl
  | 27, _ => rfl
  | 28, _ => rfl
  | 29, _ => rfl
  | 30, _ => by
    show memM[154]? = some (.inl (0, 3, .inl (fun i => mI (if i < 3 then 0 else 1))))
    rw [emF_m]; rfl
  | 31, _ => rfl
  | 32, _ => by
    show memM[156]? = some (.inl (0, 30, .inl (fun i => mI (if i < 30 then 0 else 1))))
    rw [emF_m]; rfl
  | 33, _ => rfl
  | 34, _ => rfl
  | 35, _ => rfl
  | 36, _ => rfl
  | 37, _ => rfl
  | 38, _ => rfl
  | 39, _ => rfl
  | 40, _ => rfl
  | 41, _ => rfl
  | 42, _ => rfl
  | n + 43, h => absurd h (by omega)
theorem start_FW : FW memM memM (fun _ => 0) G0 := ⟨rfl, start_row, zFr.rf⟩
def e0 : Nat → zEnt := fun _ => (0, 0, false, 0, 0)
def z0 : Nat → Nat := fun _ => 0
theorem start_tg1 : ∀ i, i < 30 → memM[1 + 9 + i]? = some (.inl (0, 4, .inl (fun j => nI ((fun _ => z0) i j)))) := fun i hi => match i, hi with
  | 0, _ => rfl
  | 1, _ => rfl
  | 2, _ => rfl
  | 3, _ => rfl
  | 4, _ => rfl
  | 5, _ => rfl
  | 6, _ => rfl
  | 7, _ => rfl
  | 8, _ => rfl
  | 9, _ => rfl
  | 10, _ => rfl
  | 11, _ => rfl
  | 12, _ => rfl
  | 13, _ => rfl
  | 14, _ => rfl
  | 15, _ => rfl
  | 16, _ => rfl
  | 17, _ => rfl
  | 18, _ => rfl
  | 19, _ => rfl
  | 20, _ => rfl
  | 21, _ => rfl
  | 22, _ => rfl
  | 23, _ => rfl
  | 24, _ => rfl
  | 25, _ => rfl
  | 26, _ => rfl
  | 27, _ => rfl
  | 28, _ => rfl
  | 29, _ => rfl
  | n + 30, h => absurd h (by omega)
theorem start_st1 : StAt memM 1 0 e0 z0 (fun _ => z0) 0 z0 z0 z0 z0 z0 (fun _ => 0) := ⟨rfl, ⟨rfl, rfl, rfl, rfl, rfl, rfl⟩, rfl, rfl, start_tg1, ⟨rfl, rfl, rfl, rfl, rfl, rfl, rfl⟩⟩
theorem start_tg47 : ∀ i, i < 30 → memM[47 + 9 + i]? = some (.inl (0, 4, .inl (fun j => nI ((fun _ => z0) i j)))) := fun i hi => match i, hi with
  | 0, _ => rfl
  | 1, _ => rfl
  | 2, _ => rfl
  | 3, _ => rfl
  | 4, _ => rfl
  | 5, _ => rfl
  | 6, _ => rfl
  | 7, _ => rfl
  | 8, _ => rfl
  | 9, _ => rfl
  | 10, _ => rfl
  | 11, _ => rfl
  | 12, _ => rfl
  | 13, _ => rfl
  | 14, _ => rfl
  | 15, _ => rfl
  | 16, _ => rfl
  | 17, _ => rfl
  | 18, _ => rfl
  | 19, _ => rfl
  | 20, _ => rfl
  | 21, _ => rfl
  | 22, _ => rfl
  | 23, _ => rfl
  | 24, _ => rfl
  | 25, _ => rfl
  | 26, _ => rfl
  | 27, _ => rfl
  | 28, _ => rfl
  | 29, _ => rfl
  | n + 30, h => absurd h (by omega)
theorem start_st47 : StAt memM 47 0 e0 z0 (fun _ => z0) 0 z0 z0 z0 z0 z0 (fun _ => 0) := ⟨rfl, ⟨rfl, rfl, rfl, rfl, rfl, rfl⟩, rfl, rfl, start_tg47, ⟨rfl, rfl, rfl, rfl, rfl, rfl, rfl⟩⟩
theorem start_sh : ShAt memM (fun _ => false) z0 z0 (fun _ _ => 0) := ⟨rfl, rfl, rfl, rfl, rfl, fun i hi => match i, hi with
  | 0, _ => rfl
  | 1, _ => rfl
  | 2, _ => rfl
  | n + 3, h => absurd h (by omega)⟩
theorem start_ve103 : VeS memM 103 (0, e0, 0, z0, z0, z0) := ⟨rfl, ⟨rfl, rfl, rfl, rfl, rfl, rfl⟩, rfl, rfl, rfl⟩
theorem start_ve113 : VeS memM 113 (0, e0, 0, z0, z0, z0) := ⟨rfl, ⟨rfl, rfl, rfl, rfl, rfl, rfl⟩, rfl, rfl, rfl⟩
theorem start_out : stOut z0 (fun _ => z0) ∧ amOut z0 z0 z0 z0 z0 (fun _ => 0) := ⟨⟨fun _ _ => rfl, fun _ _ _ => rfl⟩, fun _ _ => ⟨rfl, rfl⟩, fun _ _ => ⟨rfl, rfl, rfl, rfl⟩⟩
theorem start_INV : INV memM := by
  refine ⟨false, fun _ => 0, G0, start_FW, rfl, ⟨_, _, _, _, _, _, _, _, _, _, _, start_st1, SR.nil rfl rfl (fun j => by show 0 < 2097152; decide) start_out.1 start_out.2⟩, ⟨⟨_, _, _, _, _, _, _, _, _, _, _, start_st47, by omega, by omega, start_out.1, start_out.2⟩, (fun z => by cases z), rfl, fun j => by show 0 < 2097152; decide⟩, ⟨⟨0, rfl, rfl⟩, by show 0 ≤ 120; decide, fun i => by show 0 ≤ 126; decide⟩, ⟨_, _, _, _, start_sh, fun j hj => ?_, fun i => ?_⟩, ⟨_, start_ve103⟩, _, start_ve113⟩
  · have e : G0 30 j = 0 := if_pos hj
    rw [e]
    exact ⟨rfl, fun z => absurd rfl z, by show 0 ≤ 3; decide, by show 0 ≤ 10; decide, by decide, by show 0 ≤ 10; decide⟩
  · show (if i < 30 then 0 else 1) ≤ 100
    split <;> decide
