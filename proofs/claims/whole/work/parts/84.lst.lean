/-! the amendments in their order -/
def befP (dy : Nat → Nat) (a c : Nat) : Prop := dy a < dy c ∨ (dy a = dy c ∧ a < c)
theorem bef_P {dy : Nat → Nat} {a c : Nat} : bef dy a c = true ↔ befP dy a c := bef_iff
theorem nxA_none {dy : Nat → Nat} {o : Option Nat} : ∀ {i : Nat}, nxA dy o i = none → ∀ c, c < i → ¬ oB o (fun a => bef dy a c) = true
  | 0, _, c, hc => by omega
  | i + 1, h, c, hc => by
    unfold nxA at h
    split at h
    · cases h
    · rename_i hn
      by_cases hci : c = i
      · subst hci
        intro z
        rw [h, z] at hn
        exact hn rfl
      · exact nxA_none h c (by omega)
theorem nxA_some {dy : Nat → Nat} {o : Option Nat} : ∀ {i q : Nat}, nxA dy o i = some q → q < i ∧ oB o (fun a => bef dy a q) = true ∧ ∀ c, c < i → oB o (fun a => bef dy a c) = true → c = q ∨ befP dy q c
  | 0, q, h => by cases h
  | i + 1, q, h => by
    unfold nxA at h
    split at h
    · rename_i hn
      cases h
      have h2 := Bool.and_eq_true_iff.mp hn
      refine ⟨by omega, h2.1, fun c hc ho => ?_⟩
      by_cases hci : c = i
      · exact Or.inl hci
      · right
        cases hx : nxA dy o i with
        | none => exact absurd ho (nxA_none hx c (by omega))
        | some q =>
          have b1 := h2.2
          rw [hx] at b1
          have b2 : befP dy i q := bef_P.mp b1
          rcases (nxA_some hx).2.2 c (by omega) ho with z | z
          · rw [z]; exact b2
          · unfold befP at *; omega
    · rename_i hn
      obtain ⟨a1, a2, a3⟩ := nxA_some h
      refine ⟨by omega, a2, fun c hc ho => ?_⟩
      by_cases hci : c = i
      · subst hci
        rw [h, ho] at hn
        have hn2 : ¬ bef dy c q = true := fun z => hn (by show (true && bef dy c q) = true; rw [z]; rfl)
        rw [bef_P] at hn2
        unfold befP at *
        omega
      · exact a3 c (by omega) ho
theorem cnt_z {p : Nat → Nat} : ∀ n, cnt p n = 0 → ∀ v, v < n → p v = 0
  | 0, _, v, hv => by omega
  | n + 1, h, v, hv => by
    unfold cnt at h
    by_cases hp : p n ≠ 0
    · rw [if_pos hp] at h; omega
    · rw [if_neg hp] at h
      by_cases hvn : v = n
      · rw [hvn]; omega
      · exact cnt_z n (by omega) v (by omega)
def aft (dy : Nat → Nat) (o : Option Nat) (c : Nat) : Nat := if oB o (fun a => bef dy a c) = true then 1 else 0
theorem aft_iff {dy : Nat → Nat} {o : Option Nat} {c : Nat} : aft dy o c ≠ 0 ↔ oB o (fun a => bef dy a c) = true := by
  unfold aft
  split <;> simp_all
theorem aplL_ok {dy : Nat → Nat} {m y : Nat} (hd : ∀ a, a < m → dy a ≤ 9999) (hy : y ≤ 10001) : ∀ (f : Nat) (o : Option Nat), cnt (aft dy o) m ≤ f → (∀ a, a ∈ aplL dy m (mI y) f (nxA dy o m) ↔ a < m ∧ oB o (fun b => bef dy b a) = true ∧ dy a < y) ∧ (aplL dy m (mI y) f (nxA dy o m)).Pairwise (befP dy) ∧ (aplL dy m (mI y) f (nxA dy o m)).length ≤ f
  | 0, o, hc => by
    have z := cnt_z (p := aft dy o) m (by omega)
    refine ⟨fun a => ⟨fun h => by simp [aplL] at h, fun ⟨h1, h2, h3⟩ => ?_⟩, List.Pairwise.nil, Nat.le_refl _⟩
    exact absurd (z a h1) (aft_iff.mpr h2)
  | f + 1, o, hc => by
    cases hx : nxA dy o m with
    | none =>
      have no := nxA_none hx
      exact ⟨fun a => ⟨fun h => by simp [aplL] at h, fun ⟨h1, h2, h3⟩ => absurd h2 (no a h1)⟩, List.Pairwise.nil, Nat.zero_le _⟩
    | some q =>
      obtain ⟨q1, q2, q3⟩ := nxA_some hx
      have hq := hd q q1
      show (∀ a, a ∈ (if nI (dy q) ≤ mI y then q :: aplL dy m (mI y) f (nxA dy (some q) m) else []) ↔ _) ∧ _ ∧ _
      show _ ∧ (if nI (dy q) ≤ mI y then q :: aplL dy m (mI y) f (nxA dy (some q) m) else []).Pairwise (befP dy) ∧ (if nI (dy q) ≤ mI y then q :: aplL dy m (mI y) f (nxA dy (some q) m) else []).length ≤ f + 1
      by_cases c : dy q < y
      · rw [if_pos ((mI_le (by omega) (by omega)).mpr c)]
        have tr : ∀ c, befP dy q c → oB o (fun a => bef dy a c) = true := by
          intro c hc
          cases o with
          | none => rfl
          | some b =>
            have b1 : befP dy b q := bef_P.mp q2
            refine bef_P.mpr ?_
            unfold befP at *
            omega
        have lt : cnt (aft dy (some q)) m < cnt (aft dy o) m := by
          refine cnt_lt (k := q) (aft_iff.mpr q2) ?_ m q1 (fun v hv h => aft_iff.mpr (tr v (bef_P.mp (aft_iff.mp h))))
          unfold aft
          rw [if_neg]
          intro z
          have : befP dy q q := bef_P.mp z
          unfold befP at this
          omega
        obtain ⟨i1, i2, i3⟩ := aplL_ok hd hy f (some q) (by omega)
        refine ⟨fun a => ⟨fun h => ?_, fun ⟨h1, h2, h3⟩ => ?_⟩, List.pairwise_cons.mpr ⟨fun a ha => bef_P.mp ((i1 a).mp ha).2.1, i2⟩, by simp; exact i3⟩
        · rcases List.mem_cons.mp h with z | z
          · subst z; exact ⟨q1, q2, c⟩
          · obtain ⟨b1, b2, b3⟩ := (i1 a).mp z
            exact ⟨b1, tr a (bef_P.mp b2), b3⟩
        · rcases q3 a h1 h2 with z | z
          · rw [z]; exact List.mem_cons_self
          · exact List.mem_cons_of_mem _ ((i1 a).mpr ⟨h1, bef_P.mpr z, h3⟩)
      · rw [if_neg (fun z => c ((mI_le (by omega) (by omega)).mp z))]
        refine ⟨fun a => ⟨fun h => by simp at h, fun ⟨h1, h2, h3⟩ => ?_⟩, List.Pairwise.nil, Nat.zero_le _⟩
        rcases q3 a h1 h2 with z | z
        · rw [z] at h3; omega
        · unfold befP at z; omega
/-- what is still to be applied -/
def Rem (dy : Nat → Nat) (m y : Nat) (P : Nat → Prop) (R : List Nat) : Prop := R.Pairwise (befP dy) ∧ ∀ b, b ∈ R ↔ b < m ∧ dy b < y ∧ P b
theorem Rem.start {dy dy' : Nat → Nat} {m y : Nat} (hd : ∀ a, a < m → dy a ≤ 9999) (hy : y ≤ 10001) (hm : m ≤ 8) (he : ∀ a, a < m → dy' a = dy a) : Rem dy' m y (fun b => 0 ≤ dy' b) (aplL dy m (mI y) 8 (nxA dy none m)) ∧ (aplL dy m (mI y) 8 (nxA dy none m)).length ≤ 8 := by
  obtain ⟨h1, h2, h3⟩ := aplL_ok hd hy 8 none (Nat.le_trans (cnt_n m) hm)
  refine ⟨⟨List.Pairwise.imp_of_mem (fun {a b} ha hb h => ?_) h2, fun b => ?_⟩, h3⟩
  · have a1 := ((h1 a).mp ha).1
    have b1 := ((h1 b).mp hb).1
    unfold befP at h ⊢
    rw [he a a1, he b b1]
    exact h
  · rw [h1]
    constructor
    · rintro ⟨a, _, c⟩; exact ⟨a, by rw [he b a]; exact c, Nat.zero_le _⟩
    · rintro ⟨a, c, _⟩; exact ⟨a, rfl, by rw [he b a] at c; exact c⟩
theorem Rem.cong {dy : Nat → Nat} {m y : Nat} {P P' : Nat → Prop} {R : List Nat} (h : Rem dy m y P R) (hp : ∀ b, b < m → dy b < y → (P b ↔ P' b)) : Rem dy m y P' R := by
  refine ⟨h.1, fun b => ?_⟩
  rw [h.2]
  constructor
  · rintro ⟨a, c, d⟩; exact ⟨a, c, (hp b a c).mp d⟩
  · rintro ⟨a, c, d⟩; exact ⟨a, c, (hp b a c).mpr d⟩
theorem Rem.nd {dy : Nat → Nat} {m x y : Nat} {R : List Nat} (h : Rem dy m y (fun b => x ≤ dy b) R) : match ndF dy x y m with
    | none => R = []
    | some q => x ≤ q ∧ q < y ∧ Rem dy m y (fun b => q < dy b ∨ (dy b = q ∧ 0 ≤ b)) R := by
  cases hx : ndF dy x y m with
  | none =>
    have no := ndF_none hx
    cases hR : R with
    | nil => rfl
    | cons b t =>
      have := (h.2 b).mp (by rw [hR]; exact List.mem_cons_self)
      exact absurd this.2.1 (no b this.1 this.2.2)
  | some q =>
    obtain ⟨_, q1, q2, q3⟩ := ndF_some hx
    refine ⟨q1, q2, h.cong (fun b hb hy => ?_)⟩
    constructor
    · intro z; have := q3 b hb z hy; omega
    · intro z; omega
theorem Rem.hit {dy : Nat → Nat} {m y q a : Nat} {R : List Nat} (h : Rem dy m y (fun b => q < dy b ∨ (dy b = q ∧ a ≤ b)) R) (ha : a < m) (hq : dy a = q) (hy : q < y) : ∃ R', R = a :: R' ∧ Rem dy m y (fun b => q < dy b ∨ (dy b = q ∧ a + 1 ≤ b)) R' := by
  have am := (h.2 a).mpr ⟨ha, by rw [hq]; exact hy, Or.inr ⟨hq, Nat.le_refl _⟩⟩
  cases hR : R with
  | nil => rw [hR] at am; simp at am
  | cons b t =>
    rw [hR] at am
    obtain ⟨h1, h2⟩ := h
    rw [hR] at h1 h2
    obtain ⟨p1, p2⟩ := List.pairwise_cons.mp h1
    have hb := (h2 b).mp List.mem_cons_self
    have e : a = b := by
      rcases List.mem_cons.mp am with z | z
      · exact z
      · have := p1 a z
        unfold befP at this
        have := hb.2.2
        omega
    subst e
    refine ⟨t, rfl, p2, fun c => ?_⟩
    constructor
    · intro hc
      have c1 := (h2 c).mp (List.mem_cons_of_mem _ hc)
      have c2 := p1 c hc
      unfold befP at c2
      refine ⟨c1.1, c1.2.1, ?_⟩
      have := c1.2.2
      omega
    · rintro ⟨c1, c2, c3⟩
      have := (h2 c).mpr ⟨c1, c2, by omega⟩
      rcases List.mem_cons.mp this with z | z
      · rw [z] at c3; omega
      · exact z
theorem Rem.miss {dy : Nat → Nat} {m y q a : Nat} {R : List Nat} (h : Rem dy m y (fun b => q < dy b ∨ (dy b = q ∧ a ≤ b)) R) (hq : dy a ≠ q) : Rem dy m y (fun b => q < dy b ∨ (dy b = q ∧ a + 1 ≤ b)) R := h.cong (fun b _ _ => by
  constructor
  · rintro (z | ⟨z1, z2⟩)
    · exact Or.inl z
    · refine Or.inr ⟨z1, ?_⟩
      rcases Nat.lt_or_ge a b with y | y
      · exact y
      · have : a = b := by omega
        subst this
        exact absurd z1 hq
  · rintro (z | ⟨z1, z2⟩)
    · exact Or.inl z
    · exact Or.inr ⟨z1, by omega⟩)
theorem Rem.done {dy : Nat → Nat} {m y q : Nat} {R : List Nat} (h : Rem dy m y (fun b => q < dy b ∨ (dy b = q ∧ m ≤ b)) R) : Rem dy m y (fun b => q + 1 ≤ dy b) R := h.cong (fun b hb _ => by
  omega)
/-! the original text on both sides -/
def orgG (G : Nat → Nat → Nat) (K : Nat → Nat) : Nat → Nat → Nat := fun b j => if b = 10 then G 0 j else if b = 11 then lev (K j) else if b = 12 then G 1 j else if b = 13 then G 2 j else if b = 14 then j + 1 else if b = 15 then 0 else if b = 16 then 0 else 1
def OR (n : Nat) (e : Nat → zEnt) (G : Nat → Nat → Nat) (K : Nat → Nat) : Prop := VR n e n (orgG G K) K n
theorem OR.lv {n : Nat} {e : Nat → zEnt} {G : Nat → Nat → Nat} {K : Nat → Nat} (h : OR n e G K) : lvOK n (G 0) (fun j => lev (K j)) := by
  intro i hi
  have h5 := h.1.2.2.2.2.1
  obtain ⟨d1, d2, d3, d4⟩ := h5.1 i hi (by show (1 : Nat) ≠ 0; decide)
  have e10 : ∀ j, orgG G K 10 j = G 0 j := fun j => rfl
  rw [e10] at d4
  refine ⟨(gk_lev d1).2, fun z => ?_, fun q hq => ?_⟩
  · rcases d4 with ⟨_, y⟩ | ⟨u, y, _⟩
    · exact y
    · omega
  · rcases d4 with ⟨y, _⟩ | ⟨u, y1, y2, y3, y4, y5⟩
    · omega
    · have : u = q := by omega
      subst this
      refine ⟨y2, ?_⟩
      dsimp only
      rw [y4]
      rcases gk_par d1 with t | t
      · omega
      · omega
theorem OR.beg {n : Nat} {e : Nat → zEnt} {s s' : Nat → Nat} {G G' : Nat → Nat → Nat} {K : Nat → Nat} (h : OR n e G K) (hb : bgR n (fun j => lev (K j)) G G' n) (hs : bgS s s' n) (S : vSt) : RV (vBeg S n e) n s' G' ∧ cF s s' G G' ∧ s' 2 = n ∧ s' 4 = 0 := by
  obtain ⟨s2, s3, s4, s5⟩ := hs
  obtain ⟨b1, b2⟩ := hb
  refine ⟨⟨K, ?_, s3, s4, fun j hj => by exact absurd hj (Nat.not_lt_zero _)⟩, ⟨fun j j2 j3 j4 _ => s5 j j2 j3 j4, fun b hb _ => b1 b (by omega)⟩, s2, s4⟩
  show VR n (mixE S.2.1 e n) (s' 2) G' K n
  rw [s2]
  refine VR.same h (fun b hb1 hb2 v hv => ?_) (fun i hi => if_pos hi)
  obtain ⟨c0, c1, c2, c3, c4, c5, c6, c7⟩ := b2 v hv
  rcases (show b = 10 ∨ b = 11 ∨ b = 12 ∨ b = 13 ∨ b = 14 ∨ b = 15 ∨ b = 16 ∨ b = 17 by omega) with rfl | rfl | rfl | rfl | rfl | rfl | rfl | rfl
  · rw [c0]; rfl
  · rw [c1]; rfl
  · rw [c2]; rfl
  · rw [c3]; rfl
  · rw [c4]; rfl
  · rw [c5]; rfl
  · rw [c6]; rfl
  · rw [c7]; rfl
/-- the stored amendments on both sides -/
def amR (m : Nat) (dy sz kd pt gl : Nat → Nat) (tx : Nat → Int32) (s : Nat → Nat) (G : Nat → Nat → Nat) : Prop := s 1 = m ∧ m ≤ 8 ∧ ∀ a, a < m → G 5 a = dy a ∧ dy a ≤ 9999 ∧ G 6 a = sz a ∧ sz a ≤ 15 ∧ ∀ i, i < sz a → slB kd pt gl tx G (a * 15 + i) (16 * a + i)
/-- a version with its order -/
def RO (S : vSt) (n0 : Nat) (s : Nat → Nat) (G : Nat → Nat → Nat) : Prop := ∃ K, VR S.1 S.2.1 (s 2) G K n0 ∧ s 3 = S.1 ∧ s 4 = S.2.2.1 ∧ (∀ j, j < S.2.2.1 → G 19 j = S.2.2.2.1 j ∧ G 20 j = S.2.2.2.2.1 j ∧ G 21 j = S.2.2.2.2.2 j) ∧ od S.1 S.2.1 (s 2) G K S.1
