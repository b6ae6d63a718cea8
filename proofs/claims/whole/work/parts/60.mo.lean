/-! the reference's object and its rows -/
def mI (x : Nat) : Int32 := if x = 0 then -1 else nI (x - 1)
def kI (x : Nat) : Int32 := if x = 0 then -9 else nI (x - 1)
theorem mI_0 : mI 0 = -1 := rfl
theorem mI_s (x : Nat) : mI (x + 1) = nI x := rfl
theorem kI_0 : kI 0 = -9 := rfl
theorem kI_s (x : Nat) : kI (x + 1) = nI x := rfl
def moT : Nat → Nat
  | 16 => 2
  | 17 => 2
  | 29 => 2
  | _ => 0
def moN : Nat → Nat
  | 0 => 30
  | 1 => 30
  | 2 => 30
  | 3 => 30
  | 4 => 120
  | 5 => 8
  | 6 => 8
  | 7 => 128
  | 8 => 128
  | 9 => 768
  | 10 => 160
  | 11 => 160
  | 12 => 160
  | 13 => 160
  | 14 => 160
  | 15 => 160
  | 16 => 160
  | 17 => 160
  | 18 => 60
  | 19 => 128
  | 20 => 128
  | 21 => 128
  | 22 => 120
  | 23 => 160
  | 24 => 24
  | 25 => 3
  | 26 => 180
  | 27 => 60
  | 28 => 60
  | 29 => 60
  | 30 => 3
  | 31 => 3
  | 32 => 30
  | 33 => 30
  | 34 => 30
  | 35 => 30
  | 36 => 30
  | 37 => 120
  | 38 => 8
  | 39 => 8
  | 40 => 128
  | 41 => 128
  | 42 => 768
  | _ => 0
def moD : Nat → Nat → Int32
  | 0 => mI
  | 7 => mI
  | 10 => mI
  | 14 => kI
  | 15 => kI
  | 28 => kI
  | 30 => mI
  | 32 => mI
  | 33 => mI
  | 40 => mI
  | _ => nI
def moF (s : Nat → Nat) : List Value := [.ref 124, .ref 125, .ref 126, .ref 127, .ref 128, .int (nI (s 0)), .ref 129, .ref 130, .ref 131, .ref 132, .ref 133, .int (nI (s 1)), .ref 134, .ref 135, .ref 136, .ref 137, .ref 138, .ref 139, .ref 140, .ref 141, .int (nI (s 2)), .int (nI (s 3)), .ref 142, .ref 143, .ref 144, .ref 145, .int (nI (s 4)), .ref 146, .int (nI (s 5)), .int (nI (s 6)), .int (nI (s 7)), .int (nI (s 8)), .ref 147, .ref 148, .int (nI (s 9)), .ref 149, .ref 150, .ref 151, .ref 152, .ref 153, .int (nI (s 10)), .ref 154, .ref 155, .ref 156, .ref 157, .ref 158, .ref 159, .ref 160, .ref 161, .ref 162, .ref 163, .ref 164, .ref 165, .ref 166, .int (nI (s 11)), .int (nI (s 12)), .int (nI (s 13))]
def FW (M0 M : List zE) (s : Nat → Nat) (G : Nat → Nat → Nat) : Prop := M[123]? = some (.inr (7, moF s)) ∧ (∀ k, k < 43 → M[124 + k]? = some (.inl (moT k, moN k, .inl (fun i => moD k (G k i))))) ∧ zFr M0 M 123 44
def gup (G : Nat → Nat → Nat) (a k v : Nat) : Nat → Nat → Nat := fun b => if b = a then nup (G b) k v else G b
theorem gup_s {G : Nat → Nat → Nat} {a k v : Nat} : gup G a k v a = nup (G a) k v := if_pos rfl
theorem gup_n {G : Nat → Nat → Nat} {a b k v : Nat} (h : b ≠ a) : gup G a k v b = G b := if_neg h
theorem FW.put {M0 M : List zE} {s : Nat → Nat} {G : Nat → Nat → Nat} (h : FW M0 M s G) (a : Nat) (ha : a < 43) (k v : Nat) : FW M0 (M.set (124 + a) (.inl (moT a, moN a, .inl (upd (fun i => moD a (G a i)) k (moD a v))))) s (gup G a k v) := by
  obtain ⟨h1, h2, h3⟩ := h
  refine ⟨(st_ne (by omega)).trans h1, fun b hb => ?_, h3.set (by omega) (by omega)⟩
  by_cases hab : b = a
  · subst hab
    have e : upd (fun i => moD b (G b i)) k (moD b v) = fun i => moD b (nup (G b) k v i) := by
      funext i
      unfold upd nup
      split <;> rfl
    rw [st_eq (h2 b hb), gup_s, e]
  · rw [st_ne (by omega), h2 b hb, gup_n hab]
theorem FW.fr {M0 M M1 : List zE} {s : Nat → Nat} {G : Nat → Nat → Nat} {lo w : Nat} (h : FW M0 M s G) (hf : zFr M M1 lo w) (hd : 167 ≤ lo ∨ lo + w ≤ 123) : FW M1 M1 s G := ⟨by rw [hf.2 _ (by omega)]; exact h.1, fun k hk => by rw [hf.2 _ (by omega)]; exact h.2.1 k hk, zFr.rf⟩
theorem FW.new {M0 M : List zE} {s : Nat → Nat} {G : Nat → Nat → Nat} (h : FW M0 M s G) : FW M M s G := ⟨h.1, h.2.1, zFr.rf⟩
theorem FW.tr {M0 M M1 : List zE} {s s' : Nat → Nat} {G G' : Nat → Nat → Nat} (h : FW M0 M s G) (h' : FW M M1 s' G') : FW M0 M1 s' G' := ⟨h'.1, h'.2.1, h.2.2.trans h'.2.2⟩
theorem FW.a0 {M0 M : List zE} {s : Nat → Nat} {G : Nat → Nat → Nat} (h : FW M0 M s G) : M[124]? = some (.inl (0, 30, .inl (fun i => mI (G 0 i)))) := h.2.1 0 (by decide)
theorem FW.p0 {M0 M : List zE} {s : Nat → Nat} {G : Nat → Nat → Nat} (h : FW M0 M s G) (k v : Nat) : FW M0 (M.set 124 (.inl (0, 30, .inl (upd (fun i => mI (G 0 i)) k (mI v))))) s (gup G 0 k v) := h.put 0 (by decide) k v
theorem FW.a1 {M0 M : List zE} {s : Nat → Nat} {G : Nat → Nat → Nat} (h : FW M0 M s G) : M[125]? = some (.inl (0, 30, .inl (fun i => nI (G 1 i)))) := h.2.1 1 (by decide)
theorem FW.p1 {M0 M : List zE} {s : Nat → Nat} {G : Nat → Nat → Nat} (h : FW M0 M s G) (k v : Nat) : FW M0 (M.set 125 (.inl (0, 30, .inl (upd (fun i => nI (G 1 i)) k (nI v))))) s (gup G 1 k v) := h.put 1 (by decide) k v
theorem FW.a2 {M0 M : List zE} {s : Nat → Nat} {G : Nat → Nat → Nat} (h : FW M0 M s G) : M[126]? = some (.inl (0, 30, .inl (fun i => nI (G 2 i)))) := h.2.1 2 (by decide)
theorem FW.p2 {M0 M : List zE} {s : Nat → Nat} {G : Nat → Nat → Nat} (h : FW M0 M s G) (k v : Nat) : FW M0 (M.set 126 (.inl (0, 30, .inl (upd (fun i => nI (G 2 i)) k (nI v))))) s (gup G 2 k v) := h.put 2 (by decide) k v
theorem FW.a3 {M0 M : List zE} {s : Nat → Nat} {G : Nat → Nat → Nat} (h : FW M0 M s G) : M[127]? = some (.inl (0, 30, .inl (fun i => nI (G 3 i)))) := h.2.1 3 (by decide)
theorem FW.p3 {M0 M : List zE} {s : Nat → Nat} {G : Nat → Nat → Nat} (h : FW M0 M s G) (k v : Nat) : FW M0 (M.set 127 (.inl (0, 30, .inl (upd (fun i => nI (G 3 i)) k (nI v))))) s (gup G 3 k v) := h.put 3 (by decide) k v
theorem FW.a4 {M0 M : List zE} {s : Nat → Nat} {G : Nat → Nat → Nat} (h : FW M0 M s G) : M[128]? = some (.inl (0, 120, .inl (fun i => nI (G 4 i)))) := h.2.1 4 (by decide)
theorem FW.p4 {M0 M : List zE} {s : Nat → Nat} {G : Nat → Nat → Nat} (h : FW M0 M s G) (k v : Nat) : FW M0 (M.set 128 (.inl (0, 120, .inl (upd (fun i => nI (G 4 i)) k (nI v))))) s (gup G 4 k v) := h.put 4 (by decide) k v
theorem FW.a5 {M0 M : List zE} {s : Nat → Nat} {G : Nat → Nat → Nat} (h : FW M0 M s G) : M[129]? = some (.inl (0, 8, .inl (fun i => nI (G 5 i)))) := h.2.1 5 (by decide)
theorem FW.p5 {M0 M : List zE} {s : Nat → Nat} {G : Nat → Nat → Nat} (h : FW M0 M s G) (k v : Nat) : FW M0 (M.set 129 (.inl (0, 8, .inl (upd (fun i => nI (G 5 i)) k (nI v))))) s (gup G 5 k v) := h.put 5 (by decide) k v
theorem FW.a6 {M0 M : List zE} {s : Nat → Nat} {G : Nat → Nat → Nat} (h : FW M0 M s G) : M[130]? = some (.inl (0, 8, .inl (fun i => nI (G 6 i)))) := h.2.1 6 (by decide)
theorem FW.p6 {M0 M : List zE} {s : Nat → Nat} {G : Nat → Nat → Nat} (h : FW M0 M s G) (k v : Nat) : FW M0 (M.set 130 (.inl (0, 8, .inl (upd (fun i => nI (G 6 i)) k (nI v))))) s (gup G 6 k v) := h.put 6 (by decide) k v
theorem FW.a7 {M0 M : List zE} {s : Nat → Nat} {G : Nat → Nat → Nat} (h : FW M0 M s G) : M[131]? = some (.inl (0, 128, .inl (fun i => mI (G 7 i)))) := h.2.1 7 (by decide)
theorem FW.p7 {M0 M : List zE} {s : Nat → Nat} {G : Nat → Nat → Nat} (h : FW M0 M s G) (k v : Nat) : FW M0 (M.set 131 (.inl (0, 128, .inl (upd (fun i => mI (G 7 i)) k (mI v))))) s (gup G 7 k v) := h.put 7 (by decide) k v
theorem FW.a8 {M0 M : List zE} {s : Nat → Nat} {G : Nat → Nat → Nat} (h : FW M0 M s G) : M[132]? = some (.inl (0, 128, .inl (fun i => nI (G 8 i)))) := h.2.1 8 (by decide)
theorem FW.p8 {M0 M : List zE} {s : Nat → Nat} {G : Nat → Nat → Nat} (h : FW M0 M s G) (k v : Nat) : FW M0 (M.set 132 (.inl (0, 128, .inl (upd (fun i => nI (G 8 i)) k (nI v))))) s (gup G 8 k v) := h.put 8 (by decide) k v
theorem FW.a9 {M0 M : List zE} {s : Nat → Nat} {G : Nat → Nat → Nat} (h : FW M0 M s G) : M[133]? = some (.inl (0, 768, .inl (fun i => nI (G 9 i)))) := h.2.1 9 (by decide)
theorem FW.p9 {M0 M : List zE} {s : Nat → Nat} {G : Nat → Nat → Nat} (h : FW M0 M s G) (k v : Nat) : FW M0 (M.set 133 (.inl (0, 768, .inl (upd (fun i => nI (G 9 i)) k (nI v))))) s (gup G 9 k v) := h.put 9 (by decide) k v
theorem FW.a10 {M0 M : List zE} {s : Nat → Nat} {G : Nat → Nat → Nat} (h : FW M0 M s G) : M[134]? = some (.inl (0, 160, .inl (fun i => mI (G 10 i)))) := h.2.1 10 (by decide)
theorem FW.p10 {M0 M : List zE} {s : Nat → Nat} {G : Nat → Nat → Nat} (h : FW M0 M s G) (k v : Nat) : FW M0 (M.set 134 (.inl (0, 160, .inl (upd (fun i => mI (G 10 i)) k (mI v))))) s (gup G 10 k v) := h.put 10 (by decide) k v
theorem FW.a11 {M0 M : List zE} {s : Nat → Nat} {G : Nat → Nat → Nat} (h : FW M0 M s G) : M[135]? = some (.inl (0, 160, .inl (fun i => nI (G 11 i)))) := h.2.1 11 (by decide)
theorem FW.p11 {M0 M : List zE} {s : Nat → Nat} {G : Nat → Nat → Nat} (h : FW M0 M s G) (k v : Nat) : FW M0 (M.set 135 (.inl (0, 160, .inl (upd (fun i => nI (G 11 i)) k (nI v))))) s (gup G 11 k v) := h.put 11 (by decide) k v
theorem FW.a12 {M0 M : List zE} {s : Nat → Nat} {G : Nat → Nat → Nat} (h : FW M0 M s G) : M[136]? = some (.inl (0, 160, .inl (fun i => nI (G 12 i)))) := h.2.1 12 (by decide)
theorem FW.p12 {M0 M : List zE} {s : Nat → Nat} {G : Nat → Nat → Nat} (h : FW M0 M s G) (k v : Nat) : FW M0 (M.set 136 (.inl (0, 160, .inl (upd (fun i => nI (G 12 i)) k (nI v))))) s (gup G 12 k v) := h.put 12 (by decide) k v
theorem FW.a13 {M0 M : List zE} {s : Nat → Nat} {G : Nat → Nat → Nat} (h : FW M0 M s G) : M[137]? = some (.inl (0, 160, .inl (fun i => nI (G 13 i)))) := h.2.1 13 (by decide)
theorem FW.p13 {M0 M : List zE} {s : Nat → Nat} {G : Nat → Nat → Nat} (h : FW M0 M s G) (k v : Nat) : FW M0 (M.set 137 (.inl (0, 160, .inl (upd (fun i => nI (G 13 i)) k (nI v))))) s (gup G 13 k v) := h.put 13 (by decide) k v
theorem FW.a14 {M0 M : List zE} {s : Nat → Nat} {G : Nat → Nat → Nat} (h : FW M0 M s G) : M[138]? = some (.inl (0, 160, .inl (fun i => kI (G 14 i)))) := h.2.1 14 (by decide)
theorem FW.p14 {M0 M : List zE} {s : Nat → Nat} {G : Nat → Nat → Nat} (h : FW M0 M s G) (k v : Nat) : FW M0 (M.set 138 (.inl (0, 160, .inl (upd (fun i => kI (G 14 i)) k (kI v))))) s (gup G 14 k v) := h.put 14 (by decide) k v
theorem FW.a15 {M0 M : List zE} {s : Nat → Nat} {G : Nat → Nat → Nat} (h : FW M0 M s G) : M[139]? = some (.inl (0, 160, .inl (fun i => kI (G 15 i)))) := h.2.1 15 (by decide)
theorem FW.p15 {M0 M : List zE} {s : Nat → Nat} {G : Nat → Nat → Nat} (h : FW M0 M s G) (k v : Nat) : FW M0 (M.set 139 (.inl (0, 160, .inl (upd (fun i => kI (G 15 i)) k (kI v))))) s (gup G 15 k v) := h.put 15 (by decide) k v
theorem FW.a16 {M0 M : List zE} {s : Nat → Nat} {G : Nat → Nat → Nat} (h : FW M0 M s G) : M[140]? = some (.inl (2, 160, .inl (fun i => nI (G 16 i)))) := h.2.1 16 (by decide)
theorem FW.p16 {M0 M : List zE} {s : Nat → Nat} {G : Nat → Nat → Nat} (h : FW M0 M s G) (k v : Nat) : FW M0 (M.set 140 (.inl (2, 160, .inl (upd (fun i => nI (G 16 i)) k (nI v))))) s (gup G 16 k v) := h.put 16 (by decide) k v
theorem FW.a17 {M0 M : List zE} {s : Nat → Nat} {G : Nat → Nat → Nat} (h : FW M0 M s G) : M[141]? = some (.inl (2, 160, .inl (fun i => nI (G 17 i)))) := h.2.1 17 (by decide)
theorem FW.p17 {M0 M : List zE} {s : Nat → Nat} {G : Nat → Nat → Nat} (h : FW M0 M s G) (k v : Nat) : FW M0 (M.set 141 (.inl (2, 160, .inl (upd (fun i => nI (G 17 i)) k (nI v))))) s (gup G 17 k v) := h.put 17 (by decide) k v
theorem FW.a18 {M0 M : List zE} {s : Nat → Nat} {G : Nat → Nat → Nat} (h : FW M0 M s G) : M[142]? = some (.inl (0, 60, .inl (fun i => nI (G 18 i)))) := h.2.1 18 (by decide)
theorem FW.p18 {M0 M : List zE} {s : Nat → Nat} {G : Nat → Nat → Nat} (h : FW M0 M s G) (k v : Nat) : FW M0 (M.set 142 (.inl (0, 60, .inl (upd (fun i => nI (G 18 i)) k (nI v))))) s (gup G 18 k v) := h.put 18 (by decide) k v
theorem FW.a19 {M0 M : List zE} {s : Nat → Nat} {G : Nat → Nat → Nat} (h : FW M0 M s G) : M[143]? = some (.inl (0, 128, .inl (fun i => nI (G 19 i)))) := h.2.1 19 (by decide)
theorem FW.p19 {M0 M : List zE} {s : Nat → Nat} {G : Nat → Nat → Nat} (h : FW M0 M s G) (k v : Nat) : FW M0 (M.set 143 (.inl (0, 128, .inl (upd (fun i => nI (G 19 i)) k (nI v))))) s (gup G 19 k v) := h.put 19 (by decide) k v
theorem FW.a20 {M0 M : List zE} {s : Nat → Nat} {G : Nat → Nat → Nat} (h : FW M0 M s G) : M[144]? = some (.inl (0, 128, .inl (fun i => nI (G 20 i)))) := h.2.1 20 (by decide)
theorem FW.p20 {M0 M : List zE} {s : Nat → Nat} {G : Nat → Nat → Nat} (h : FW M0 M s G) (k v : Nat) : FW M0 (M.set 144 (.inl (0, 128, .inl (upd (fun i => nI (G 20 i)) k (nI v))))) s (gup G 20 k v) := h.put 20 (by decide) k v
theorem FW.a21 {M0 M : List zE} {s : Nat → Nat} {G : Nat → Nat → Nat} (h : FW M0 M s G) : M[145]? = some (.inl (0, 128, .inl (fun i => nI (G 21 i)))) := h.2.1 21 (by decide)
theorem FW.p21 {M0 M : List zE} {s : Nat → Nat} {G : Nat → Nat → Nat} (h : FW M0 M s G) (k v : Nat) : FW M0 (M.set 145 (.inl (0, 128, .inl (upd (fun i => nI (G 21 i)) k (nI v))))) s (gup G 21 k v) := h.put 21 (by decide) k v
theorem FW.a22 {M0 M : List zE} {s : Nat → Nat} {G : Nat → Nat → Nat} (h : FW M0 M s G) : M[146]? = some (.inl (0, 120, .inl (fun i => nI (G 22 i)))) := h.2.1 22 (by decide)
theorem FW.p22 {M0 M : List zE} {s : Nat → Nat} {G : Nat → Nat → Nat} (h : FW M0 M s G) (k v : Nat) : FW M0 (M.set 146 (.inl (0, 120, .inl (upd (fun i => nI (G 22 i)) k (nI v))))) s (gup G 22 k v) := h.put 22 (by decide) k v
theorem FW.a23 {M0 M : List zE} {s : Nat → Nat} {G : Nat → Nat → Nat} (h : FW M0 M s G) : M[147]? = some (.inl (0, 160, .inl (fun i => nI (G 23 i)))) := h.2.1 23 (by decide)
theorem FW.p23 {M0 M : List zE} {s : Nat → Nat} {G : Nat → Nat → Nat} (h : FW M0 M s G) (k v : Nat) : FW M0 (M.set 147 (.inl (0, 160, .inl (upd (fun i => nI (G 23 i)) k (nI v))))) s (gup G 23 k v) := h.put 23 (by decide) k v
theorem FW.a24 {M0 M : List zE} {s : Nat → Nat} {G : Nat → Nat → Nat} (h : FW M0 M s G) : M[148]? = some (.inl (0, 24, .inl (fun i => nI (G 24 i)))) := h.2.1 24 (by decide)
theorem FW.p24 {M0 M : List zE} {s : Nat → Nat} {G : Nat → Nat → Nat} (h : FW M0 M s G) (k v : Nat) : FW M0 (M.set 148 (.inl (0, 24, .inl (upd (fun i => nI (G 24 i)) k (nI v))))) s (gup G 24 k v) := h.put 24 (by decide) k v
theorem FW.a25 {M0 M : List zE} {s : Nat → Nat} {G : Nat → Nat → Nat} (h : FW M0 M s G) : M[149]? = some (.inl (0, 3, .inl (fun i => nI (G 25 i)))) := h.2.1 25 (by decide)
theorem FW.p25 {M0 M : List zE} {s : Nat → Nat} {G : Nat → Nat → Nat} (h : FW M0 M s G) (k v : Nat) : FW M0 (M.set 149 (.inl (0, 3, .inl (upd (fun i => nI (G 25 i)) k (nI v))))) s (gup G 25 k v) := h.put 25 (by decide) k v
theorem FW.a26 {M0 M : List zE} {s : Nat → Nat} {G : Nat → Nat → Nat} (h : FW M0 M s G) : M[150]? = some (.inl (0, 180, .inl (fun i => nI (G 26 i)))) := h.2.1 26 (by decide)
theorem FW.p26 {M0 M : List zE} {s : Nat → Nat} {G : Nat → Nat → Nat} (h : FW M0 M s G) (k v : Nat) : FW M0 (M.set 150 (.inl (0, 180, .inl (upd (fun i => nI (G 26 i)) k (nI v))))) s (gup G 26 k v) := h.put 26 (by decide) k v
theorem FW.a27 {M0 M : List zE} {s : Nat → Nat} {G : Nat → Nat → Nat} (h : FW M0 M s G) : M[151]? = some (.inl (0, 60, .inl (fun i => nI (G 27 i)))) := h.2.1 27 (by decide)
theorem FW.p27 {M0 M : List zE} {s : Nat → Nat} {G : Nat → Nat → Nat} (h : FW M0 M s G) (k v : Nat) : FW M0 (M.set 151 (.inl (0, 60, .inl (upd (fun i => nI (G 27 i)) k (nI v))))) s (gup G 27 k v) := h.put 27 (by decide) k v
theorem FW.a28 {M0 M : List zE} {s : Nat → Nat} {G : Nat → Nat → Nat} (h : FW M0 M s G) : M[152]? = some (.inl (0, 60, .inl (fun i => kI (G 28 i)))) := h.2.1 28 (by decide)
theorem FW.p28 {M0 M : List zE} {s : Nat → Nat} {G : Nat → Nat → Nat} (h : FW M0 M s G) (k v : Nat) : FW M0 (M.set 152 (.inl (0, 60, .inl (upd (fun i => kI (G 28 i)) k (kI v))))) s (gup G 28 k v) := h.put 28 (by decide) k v
theorem FW.a29 {M0 M : List zE} {s : Nat → Nat} {G : Nat → Nat → Nat} (h : FW M0 M s G) : M[153]? = some (.inl (2, 60, .inl (fun i => nI (G 29 i)))) := h.2.1 29 (by decide)
theorem FW.p29 {M0 M : List zE} {s : Nat → Nat} {G : Nat → Nat → Nat} (h : FW M0 M s G) (k v : Nat) : FW M0 (M.set 153 (.inl (2, 60, .inl (upd (fun i => nI (G 29 i)) k (nI v))))) s (gup G 29 k v) := h.put 29 (by decide) k v
theorem FW.a30 {M0 M : List zE} {s : Nat → Nat} {G : Nat → Nat → Nat} (h : FW M0 M s G) : M[154]? = some (.inl (0, 3, .inl (fun i => mI (G 30 i)))) := h.2.1 30 (by decide)
theorem FW.p30 {M0 M : List zE} {s : Nat → Nat} {G : Nat → Nat → Nat} (h : FW M0 M s G) (k v : Nat) : FW M0 (M.set 154 (.inl (0, 3, .inl (upd (fun i => mI (G 30 i)) k (mI v))))) s (gup G 30 k v) := h.put 30 (by decide) k v
theorem FW.a31 {M0 M : List zE} {s : Nat → Nat} {G : Nat → Nat → Nat} (h : FW M0 M s G) : M[155]? = some (.inl (0, 3, .inl (fun i => nI (G 31 i)))) := h.2.1 31 (by decide)
theorem FW.p31 {M0 M : List zE} {s : Nat → Nat} {G : Nat → Nat → Nat} (h : FW M0 M s G) (k v : Nat) : FW M0 (M.set 155 (.inl (0, 3, .inl (upd (fun i => nI (G 31 i)) k (nI v))))) s (gup G 31 k v) := h.put 31 (by decide) k v
theorem FW.a32 {M0 M : List zE} {s : Nat → Nat} {G : Nat → Nat → Nat} (h : FW M0 M s G) : M[156]? = some (.inl (0, 30, .inl (fun i => mI (G 32 i)))) := h.2.1 32 (by decide)
theorem FW.p32 {M0 M : List zE} {s : Nat → Nat} {G : Nat → Nat → Nat} (h : FW M0 M s G) (k v : Nat) : FW M0 (M.set 156 (.inl (0, 30, .inl (upd (fun i => mI (G 32 i)) k (mI v))))) s (gup G 32 k v) := h.put 32 (by decide) k v
theorem FW.a33 {M0 M : List zE} {s : Nat → Nat} {G : Nat → Nat → Nat} (h : FW M0 M s G) : M[157]? = some (.inl (0, 30, .inl (fun i => mI (G 33 i)))) := h.2.1 33 (by decide)
theorem FW.p33 {M0 M : List zE} {s : Nat → Nat} {G : Nat → Nat → Nat} (h : FW M0 M s G) (k v : Nat) : FW M0 (M.set 157 (.inl (0, 30, .inl (upd (fun i => mI (G 33 i)) k (mI v))))) s (gup G 33 k v) := h.put 33 (by decide) k v
theorem FW.a34 {M0 M : List zE} {s : Nat → Nat} {G : Nat → Nat → Nat} (h : FW M0 M s G) : M[158]? = some (.inl (0, 30, .inl (fun i => nI (G 34 i)))) := h.2.1 34 (by decide)
theorem FW.p34 {M0 M : List zE} {s : Nat → Nat} {G : Nat → Nat → Nat} (h : FW M0 M s G) (k v : Nat) : FW M0 (M.set 158 (.inl (0, 30, .inl (upd (fun i => nI (G 34 i)) k (nI v))))) s (gup G 34 k v) := h.put 34 (by decide) k v
theorem FW.a35 {M0 M : List zE} {s : Nat → Nat} {G : Nat → Nat → Nat} (h : FW M0 M s G) : M[159]? = some (.inl (0, 30, .inl (fun i => nI (G 35 i)))) := h.2.1 35 (by decide)
theorem FW.p35 {M0 M : List zE} {s : Nat → Nat} {G : Nat → Nat → Nat} (h : FW M0 M s G) (k v : Nat) : FW M0 (M.set 159 (.inl (0, 30, .inl (upd (fun i => nI (G 35 i)) k (nI v))))) s (gup G 35 k v) := h.put 35 (by decide) k v
theorem FW.a36 {M0 M : List zE} {s : Nat → Nat} {G : Nat → Nat → Nat} (h : FW M0 M s G) : M[160]? = some (.inl (0, 30, .inl (fun i => nI (G 36 i)))) := h.2.1 36 (by decide)
theorem FW.p36 {M0 M : List zE} {s : Nat → Nat} {G : Nat → Nat → Nat} (h : FW M0 M s G) (k v : Nat) : FW M0 (M.set 160 (.inl (0, 30, .inl (upd (fun i => nI (G 36 i)) k (nI v))))) s (gup G 36 k v) := h.put 36 (by decide) k v
theorem FW.a37 {M0 M : List zE} {s : Nat → Nat} {G : Nat → Nat → Nat} (h : FW M0 M s G) : M[161]? = some (.inl (0, 120, .inl (fun i => nI (G 37 i)))) := h.2.1 37 (by decide)
theorem FW.p37 {M0 M : List zE} {s : Nat → Nat} {G : Nat → Nat → Nat} (h : FW M0 M s G) (k v : Nat) : FW M0 (M.set 161 (.inl (0, 120, .inl (upd (fun i => nI (G 37 i)) k (nI v))))) s (gup G 37 k v) := h.put 37 (by decide) k v
theorem FW.a38 {M0 M : List zE} {s : Nat → Nat} {G : Nat → Nat → Nat} (h : FW M0 M s G) : M[162]? = some (.inl (0, 8, .inl (fun i => nI (G 38 i)))) := h.2.1 38 (by decide)
theorem FW.p38 {M0 M : List zE} {s : Nat → Nat} {G : Nat → Nat → Nat} (h : FW M0 M s G) (k v : Nat) : FW M0 (M.set 162 (.inl (0, 8, .inl (upd (fun i => nI (G 38 i)) k (nI v))))) s (gup G 38 k v) := h.put 38 (by decide) k v
theorem FW.a39 {M0 M : List zE} {s : Nat → Nat} {G : Nat → Nat → Nat} (h : FW M0 M s G) : M[163]? = some (.inl (0, 8, .inl (fun i => nI (G 39 i)))) := h.2.1 39 (by decide)
theorem FW.p39 {M0 M : List zE} {s : Nat → Nat} {G : Nat → Nat → Nat} (h : FW M0 M s G) (k v : Nat) : FW M0 (M.set 163 (.inl (0, 8, .inl (upd (fun i => nI (G 39 i)) k (nI v))))) s (gup G 39 k v) := h.put 39 (by decide) k v
theorem FW.a40 {M0 M : List zE} {s : Nat → Nat} {G : Nat → Nat → Nat} (h : FW M0 M s G) : M[164]? = some (.inl (0, 128, .inl (fun i => mI (G 40 i)))) := h.2.1 40 (by decide)
theorem FW.p40 {M0 M : List zE} {s : Nat → Nat} {G : Nat → Nat → Nat} (h : FW M0 M s G) (k v : Nat) : FW M0 (M.set 164 (.inl (0, 128, .inl (upd (fun i => mI (G 40 i)) k (mI v))))) s (gup G 40 k v) := h.put 40 (by decide) k v
theorem FW.a41 {M0 M : List zE} {s : Nat → Nat} {G : Nat → Nat → Nat} (h : FW M0 M s G) : M[165]? = some (.inl (0, 128, .inl (fun i => nI (G 41 i)))) := h.2.1 41 (by decide)
theorem FW.p41 {M0 M : List zE} {s : Nat → Nat} {G : Nat → Nat → Nat} (h : FW M0 M s G) (k v : Nat) : FW M0 (M.set 165 (.inl (0, 128, .inl (upd (fun i => nI (G 41 i)) k (nI v))))) s (gup G 41 k v) := h.put 41 (by decide) k v
theorem FW.a42 {M0 M : List zE} {s : Nat → Nat} {G : Nat → Nat → Nat} (h : FW M0 M s G) : M[166]? = some (.inl (0, 768, .inl (fun i => nI (G 42 i)))) := h.2.1 42 (by decide)
theorem FW.p42 {M0 M : List zE} {s : Nat → Nat} {G : Nat → Nat → Nat} (h : FW M0 M s G) (k v : Nat) : FW M0 (M.set 166 (.inl (0, 768, .inl (upd (fun i => nI (G 42 i)) k (nI v))))) s (gup G 42 k v) := h.put 42 (by decide) k v
theorem FW.u0 {M0 M : List zE} {s : Nat → Nat} {G : Nat → Nat → Nat} (h : FW M0 M s G) (v : Nat) : FW M0 (M.set 123 (.inr (7, (moF s).set 5 (.int (nI v))))) (nup s 0 v) G := ⟨st_eq h.1, fun k hk => (st_ne (by omega)).trans (h.2.1 k hk), h.2.2.set (by omega) (by omega)⟩
theorem FW.u1 {M0 M : List zE} {s : Nat → Nat} {G : Nat → Nat → Nat} (h : FW M0 M s G) (v : Nat) : FW M0 (M.set 123 (.inr (7, (moF s).set 11 (.int (nI v))))) (nup s 1 v) G := ⟨st_eq h.1, fun k hk => (st_ne (by omega)).trans (h.2.1 k hk), h.2.2.set (by omega) (by omega)⟩
theorem FW.u2 {M0 M : List zE} {s : Nat → Nat} {G : Nat → Nat → Nat} (h : FW M0 M s G) (v : Nat) : FW M0 (M.set 123 (.inr (7, (moF s).set 20 (.int (nI v))))) (nup s 2 v) G := ⟨st_eq h.1, fun k hk => (st_ne (by omega)).trans (h.2.1 k hk), h.2.2.set (by omega) (by omega)⟩
theorem FW.u3 {M0 M : List zE} {s : Nat → Nat} {G : Nat → Nat → Nat} (h : FW M0 M s G) (v : Nat) : FW M0 (M.set 123 (.inr (7, (moF s).set 21 (.int (nI v))))) (nup s 3 v) G := ⟨st_eq h.1, fun k hk => (st_ne (by omega)).trans (h.2.1 k hk), h.2.2.set (by omega) (by omega)⟩
theorem FW.u4 {M0 M : List zE} {s : Nat → Nat} {G : Nat → Nat → Nat} (h : FW M0 M s G) (v : Nat) : FW M0 (M.set 123 (.inr (7, (moF s).set 26 (.int (nI v))))) (nup s 4 v) G := ⟨st_eq h.1, fun k hk => (st_ne (by omega)).trans (h.2.1 k hk), h.2.2.set (by omega) (by omega)⟩
theorem FW.u5 {M0 M : List zE} {s : Nat → Nat} {G : Nat → Nat → Nat} (h : FW M0 M s G) (v : Nat) : FW M0 (M.set 123 (.inr (7, (moF s).set 28 (.int (nI v))))) (nup s 5 v) G := ⟨st_eq h.1, fun k hk => (st_ne (by omega)).trans (h.2.1 k hk), h.2.2.set (by omega) (by omega)⟩
theorem FW.u6 {M0 M : List zE} {s : Nat → Nat} {G : Nat → Nat → Nat} (h : FW M0 M s G) (v : Nat) : FW M0 (M.set 123 (.inr (7, (moF s).set 29 (.int (nI v))))) (nup s 6 v) G := ⟨st_eq h.1, fun k hk => (st_ne (by omega)).trans (h.2.1 k hk), h.2.2.set (by omega) (by omega)⟩
theorem FW.u7 {M0 M : List zE} {s : Nat → Nat} {G : Nat → Nat → Nat} (h : FW M0 M s G) (v : Nat) : FW M0 (M.set 123 (.inr (7, (moF s).set 30 (.int (nI v))))) (nup s 7 v) G := ⟨st_eq h.1, fun k hk => (st_ne (by omega)).trans (h.2.1 k hk), h.2.2.set (by omega) (by omega)⟩
theorem FW.u8 {M0 M : List zE} {s : Nat → Nat} {G : Nat → Nat → Nat} (h : FW M0 M s G) (v : Nat) : FW M0 (M.set 123 (.inr (7, (moF s).set 31 (.int (nI v))))) (nup s 8 v) G := ⟨st_eq h.1, fun k hk => (st_ne (by omega)).trans (h.2.1 k hk), h.2.2.set (by omega) (by omega)⟩
theorem FW.u9 {M0 M : List zE} {s : Nat → Nat} {G : Nat → Nat → Nat} (h : FW M0 M s G) (v : Nat) : FW M0 (M.set 123 (.inr (7, (moF s).set 34 (.int (nI v))))) (nup s 9 v) G := ⟨st_eq h.1, fun k hk => (st_ne (by omega)).trans (h.2.1 k hk), h.2.2.set (by omega) (by omega)⟩
theorem FW.u10 {M0 M : List zE} {s : Nat → Nat} {G : Nat → Nat → Nat} (h : FW M0 M s G) (v : Nat) : FW M0 (M.set 123 (.inr (7, (moF s).set 40 (.int (nI v))))) (nup s 10 v) G := ⟨st_eq h.1, fun k hk => (st_ne (by omega)).trans (h.2.1 k hk), h.2.2.set (by omega) (by omega)⟩
theorem FW.u11 {M0 M : List zE} {s : Nat → Nat} {G : Nat → Nat → Nat} (h : FW M0 M s G) (v : Nat) : FW M0 (M.set 123 (.inr (7, (moF s).set 54 (.int (nI v))))) (nup s 11 v) G := ⟨st_eq h.1, fun k hk => (st_ne (by omega)).trans (h.2.1 k hk), h.2.2.set (by omega) (by omega)⟩
theorem FW.u12 {M0 M : List zE} {s : Nat → Nat} {G : Nat → Nat → Nat} (h : FW M0 M s G) (v : Nat) : FW M0 (M.set 123 (.inr (7, (moF s).set 55 (.int (nI v))))) (nup s 12 v) G := ⟨st_eq h.1, fun k hk => (st_ne (by omega)).trans (h.2.1 k hk), h.2.2.set (by omega) (by omega)⟩
theorem FW.u13 {M0 M : List zE} {s : Nat → Nat} {G : Nat → Nat → Nat} (h : FW M0 M s G) (v : Nat) : FW M0 (M.set 123 (.inr (7, (moF s).set 56 (.int (nI v))))) (nup s 13 v) G := ⟨st_eq h.1, fun k hk => (st_ne (by omega)).trans (h.2.1 k hk), h.2.2.set (by omega) (by omega)⟩
def inI (x a b : Int32) : Bool := decide (¬ x < a ∧ x ≤ b)
set_option maxHeartbeats 4000000 in
theorem mo_in_ok {Γ : zCtx} {M : List zE} (d : Nat) (x a b : Int32) : ZM Γ (d + 1) m_mo_in [.int x, .int a, .int b] M (zEq M (some (.int (nI (if inI x a b = true then 1 else 0))))) := by
  refine ZM.of mk_mo_in (Nat.le_of_ble_eq_true rfl) ?_
  refine Z_iload_n d_mo_in_0 rfl ?_
  refine Z_iload_n d_mo_in_1 rfl ?_
  refine Z_icmp_lt (tgt := 14) d_mo_in_2 (by decide) (fun h2 => ?_) (fun h2 => ?_)
  · skip
    refine Zn_iconst (nI 0) d_mo_in_14 (by decide) ?_
    refine Z_zret d_mo_in_15 rfl rfl ?_
    refine ⟨rfl, ?_⟩
    unfold inI
    first | (rw [if_pos (decide_eq_true ⟨h2, Int32.not_lt.mp h7⟩)]; done) | (rw [if_neg (fun z => (of_decide_eq_true z).1 h2)]; done) | (rw [if_neg (fun z => absurd (of_decide_eq_true z).2 (Int32.not_le.mpr h7))]; done)
  · skip
    refine Z_iload_n d_mo_in_5 rfl ?_
    refine Z_iload_n d_mo_in_6 rfl ?_
    refine Z_icmp_gt (tgt := 14) d_mo_in_7 (by decide) (fun h7 => ?_) (fun h7 => ?_)
    · skip
      refine Zn_iconst (nI 0) d_mo_in_14 (by decide) ?_
      refine Z_zret d_mo_in_15 rfl rfl ?_
      refine ⟨rfl, ?_⟩
      unfold inI
      first | (rw [if_pos (decide_eq_true ⟨h2, Int32.not_lt.mp h7⟩)]; done) | (rw [if_neg (fun z => (of_decide_eq_true z).1 h2)]; done) | (rw [if_neg (fun z => absurd (of_decide_eq_true z).2 (Int32.not_le.mpr h7))]; done)
    · skip
      refine Zn_iconst (nI 1) d_mo_in_10 (by decide) ?_
      refine Z_goto (tgt := 15) d_mo_in_11 (by decide) ?_
      refine Z_zret d_mo_in_15 rfl rfl ?_
      refine ⟨rfl, ?_⟩
      unfold inI
      first | (rw [if_pos (decide_eq_true ⟨h2, Int32.not_lt.mp h7⟩)]; done) | (rw [if_neg (fun z => (of_decide_eq_true z).1 h2)]; done) | (rw [if_neg (fun z => absurd (of_decide_eq_true z).2 (Int32.not_le.mpr h7))]; done)
theorem inI_has {n : Nat} {x : Int32} (hn : n ≤ 1000) : inI x (nI 0) (nI n - nI 1) = hasP n x := by
  unfold inI hasP
  have h0 : nI 0 = (0 : Int32) := rfl
  rw [h0]
  by_cases hx : x < 0
  · rw [decide_eq_false (fun z => z.1 hx), decide_eq_false (fun z => z.1 hx)]
  · rcases n with _ | k
    · have e : nI 0 - nI 1 = (-1 : Int32) := by decide
      rw [e, decide_eq_false, decide_eq_false]
      · omega
      · intro z
        have := z.2
        rw [Int32.le_iff_toInt_le] at this
        have h1 : (-1 : Int32).toInt = -1 := by decide
        have h2 := hx
        rw [Int32.lt_iff_toInt_lt] at h2
        have h3 : (0 : Int32).toInt = 0 := by decide
        omega
    · rw [pk_sub (by omega), show k + 1 - 1 = k by omega]
      have h1 := lt_nI (n := k + 1) hx (by omega)
      have h2 : x ≤ nI k ↔ x < nI (k + 1) := by
        obtain ⟨e1, e2⟩ := i32_nn hx
        generalize x.toNatClampNeg = j at e1 e2
        subst e1
        rw [zn_lt e2 (by omega), zn_le e2 (by omega)]
        omega
      by_cases hj : x.toNatClampNeg < k + 1
      · rw [decide_eq_true ⟨hx, h2.mpr (h1.mpr hj)⟩, decide_eq_true ⟨hx, hj⟩]
      · rw [decide_eq_false (fun z => hj (h1.mp (h2.mp z.2))), decide_eq_false (fun z => hj z.2)]
theorem inI_t {x : Int32} : inI x (nI 0) (nI 9999) = tOk x := rfl
theorem inI_d {x : Int32} : inI x (-1) (nI 9999) = dOk x := rfl
theorem inI_c {x : Int32} : inI x (nI 32) (nI 126) = chO x := rfl
