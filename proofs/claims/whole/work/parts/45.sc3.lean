/-! the small calls -/
theorem ScO.st {M : List zE} {sv : Bool} {c : Nat} {x : zE} (h : ScO M sv) (hc : 1 ≤ c) : ScO (M.set c x) sv := (st_ne (by omega)).trans h
def zF2 (M M1 : List zE) (a b c d : Nat) : Prop := M1.length = M.length ∧ ∀ j, (j < a ∨ b ≤ j) → (j < c ∨ d ≤ j) → M1[j]? = M[j]?
theorem zF2.mk2 {M M1 M2 : List zE} {a w c u : Nat} (h : zFr M M1 a w) (h' : zFr M1 M2 c u) : zF2 M M2 a (a + w) c (c + u) := ⟨h'.1.trans h.1, fun j x y => (h'.2 j y).trans (h.2 j x)⟩
theorem AmAt.putM {M : List zE} {b m m' : Nat} {dy sz kd pt gl : Nat → Nat} {tx : Nat → Int32} (h : AmAt M b m dy sz kd pt gl tx) : AmAt (M.set b (.inr (0, [.int (nI m'), .ref (b + 1), .ref (b + 2), .ref (b + 3), .ref (b + 4), .ref (b + 5), .ref (b + 6)]))) b m' dy sz kd pt gl tx := by
  obtain ⟨h0, h1, h2, h3, h4, h5, h6⟩ := h
  exact ⟨st_eq h0, (st_ne (by omega)).trans h1, (st_ne (by omega)).trans h2, (st_ne (by omega)).trans h3, (st_ne (by omega)).trans h4, (st_ne (by omega)).trans h5, (st_ne (by omega)).trans h6⟩
theorem AmAt.putD {M : List zE} {b m : Nat} {dy sz kd pt gl : Nat → Nat} {tx : Nat → Int32} (h : AmAt M b m dy sz kd pt gl tx) (k v : Nat) : AmAt (M.set (b + 1) (.inl (0, 8, .inl (upd (fun i => nI (dy i)) k (nI v))))) b m (nup dy k v) sz kd pt gl tx := by
  obtain ⟨h0, h1, h2, h3, h4, h5, h6⟩ := h
  rw [upd_nI]
  exact ⟨(st_ne (by omega)).trans h0, st_eq h1, (st_ne (by omega)).trans h2, (st_ne (by omega)).trans h3, (st_ne (by omega)).trans h4, (st_ne (by omega)).trans h5, (st_ne (by omega)).trans h6⟩
theorem AmAt.putS {M : List zE} {b m : Nat} {dy sz kd pt gl : Nat → Nat} {tx : Nat → Int32} (h : AmAt M b m dy sz kd pt gl tx) (k v : Nat) : AmAt (M.set (b + 2) (.inl (0, 8, .inl (upd (fun i => nI (sz i)) k (nI v))))) b m dy (nup sz k v) kd pt gl tx := by
  obtain ⟨h0, h1, h2, h3, h4, h5, h6⟩ := h
  rw [upd_nI]
  exact ⟨(st_ne (by omega)).trans h0, (st_ne (by omega)).trans h1, st_eq h2, (st_ne (by omega)).trans h3, (st_ne (by omega)).trans h4, (st_ne (by omega)).trans h5, (st_ne (by omega)).trans h6⟩
theorem InAt.len {M : List zE} {len len' p : Nat} {ch : Nat → Nat} (h : InAt M len p ch) : InAt (M.set 93 (.inr (1, [.ref 94, .int (nI len'), .int (nI p)]))) len' p ch := ⟨st_eq h.1, (st_ne (by omega)).trans h.2⟩
theorem InAt.chr {M : List zE} {len p k v : Nat} {ch : Nat → Nat} (h : InAt M len p ch) : InAt (M.set 94 (.inl (0, 120, .inl (upd (fun i => nI (ch i)) k (nI v))))) len p (nup ch k v) := by
  rw [upd_nI]
  exact ⟨(st_ne (by omega)).trans h.1, st_eq h.2⟩
def poO (n : Nat) (e : Nat → zEnt) (x : Int32) : Option Nat := if x < 0 then none else frst (fun i => decide (eo (e i) = x)) n
theorem pv_poX {Γ : zCtx} {M : List zE} (d : Nat) {b n : Nat} {e : Nat → zEnt} (hP : PvAt M b n e) (hn : n ≤ 60) (x : Int32) : ZM Γ (d + 1) m_pv_positionOfOrigin [.ref b, .int x] M (zEq M (some (.int (oI (poO n e x) (-1))))) := by
  unfold poO
  by_cases h : x < 0
  · rw [if_pos h]; exact pv_positionOfOrigin_neg d h
  · rw [if_neg h]; exact pv_positionOfOrigin_ok d hP hn h
theorem poO_lt {n : Nat} {e : Nat → zEnt} {x : Int32} {i : Nat} (h : poO n e x = some i) : i < n := by
  unfold poO at h
  split at h
  · cases h
  · exact (frst_some.mp h).1
def setT (n : Nat) (e : Nat → zEnt) (x t : Int32) : Int32 × Option Nat := match poO n e x with
  | none => (-1, none)
  | some i => if tOk t = true then (et (e i), some i) else (-5, none)
def adR (n : Nat) (rc : Nat → Nat) (x y : Int32) : Int32 × Option (Nat × Nat) := if hasP n x = true then (if hasP n y = true then (if rc x.toNatClampNeg < 4 then (nI (rc x.toNatClampNeg + 1), some (x.toNatClampNeg, y.toNatClampNeg)) else (-6, none)) else (-1, none)) else (-1, none)
set_option maxHeartbeats 4000000 in
theorem sc_setText_ok {Γ : zCtx} {M : List zE} (d : Nat) {sv : Bool} (h0 : ScO M sv) {n m : Nat} {e : Nat → zEnt} {rc : Nat → Nat} {tg : Nat → Nat → Nat} {dy sz kd pt gl : Nat → Nat} {tx : Nat → Int32} (hS : StAt M 1 n e rc tg m dy sz kd pt gl tx) (hn : n ≤ 30) (x t : Int32) : ZM Γ (d + 2) m_sc_setText [.ref 0, .int x, .int t] M (fun M1 v => v = some (.int (setT n e x t).1) ∧ match (setT n e x t).2 with | none => M1 = M | some i => StAt M1 1 n (eup e i (sT (e i) t)) rc tg m dy sz kd pt gl tx ∧ zFr M M1 1 46) := by
  refine ZM.of mk_sc_setText (Nat.le_of_ble_eq_true rfl) ?_
  rw [show zEn [.ref 0, .int x, .int t] = [some (.ref 0), some (.int x), some (.int t)] from rfl]
  refine zPad 2 ?_
  show Z _ _ _ _ _ _ _ [some (.ref 0), some (.int x), some (.int t), none, none] _ _
  refine Z_aload_n d_sc_setText_0 rfl ?_
  refine Z_get d_sc_setText_1 lf_sc_12 h0 rfl ?_
  refine Z_get d_sc_setText_4 lf_sc_64 hS.1 rfl ?_
  refine Z_iload_n d_sc_setText_7 rfl ?_
  refine zVe (As := [.int x]) (by omega) d_sc_setText_8 lm_sc_92 hS.2.1.1 rfl rfl (Nat.le_of_ble_eq_true rfl) (pv_poX (d + 0) hS.2.1 (by omega) x) ?_
  rcases hr : poO n e x with _ | i
  · skip
    refine Zn_istore_n [some (.ref 0), some (.int x), some (.int t), some (.int (-1)), none] d_sc_setText_11 (by decide) rfl ?_
    refine Z_iload_n d_sc_setText_12 rfl ?_
    refine Z_if_ge (tgt := 18) d_sc_setText_13 (by decide) (fun h13 => ?_) (fun h13 => ?_)
    · skip
      exact absurd h13 (by decide) -- end
    · skip
      skip
      refine Zn_iconst (-1) d_sc_setText_16 (by decide) ?_
      refine Z_iret d_sc_setText_17 rfl ?_
      have hz : setT n e x t = (-1, none) := by
        unfold setT
        rw [hr]
      rw [hz]
      exact ⟨rfl, rfl⟩
  · skip
    have hi := poO_lt hr
    refine Zn_istore_n [some (.ref 0), some (.int x), some (.int t), some (.int (nI i)), none] d_sc_setText_11 (by decide) rfl ?_
    refine Z_iload_n d_sc_setText_12 rfl ?_
    refine Z_if_ge (tgt := 18) d_sc_setText_13 (by decide) (fun h13 => ?_) (fun h13 => ?_)
    · skip
      skip
      refine Z_iload_n d_sc_setText_18 rfl ?_
      refine zTe (As := [.int t]) (by omega) d_sc_setText_19 lm_sc_51 rfl (Nat.le_of_ble_eq_true rfl) (sc_isText_ok (d + 0) t) ?_
      have hle19 := b10_lt (x := tOk t)
      refine Zn_if_ne (tgt := 28) d_sc_setText_22 (by decide) (by omega) (fun h22 => ?_) (fun h22 => ?_)
      · skip
        have t22 : tOk t = true := b10_t h22
        refine Z_aload_n d_sc_setText_28 rfl ?_
        refine Z_get d_sc_setText_29 lf_sc_12 h0 rfl ?_
        refine Z_get d_sc_setText_32 lf_sc_64 hS.1 rfl ?_
        refine Z_get d_sc_setText_35 lf_sc_96 hS.2.1.1 rfl ?_
        refine Z_iload_n d_sc_setText_38 rfl ?_
        refine Zn_iald d_sc_setText_39 hS.2.1.2.2.1 (by omega) (by omega) ?_
        refine Zn_istore [some (.ref 0), some (.int x), some (.int t), some (.int (nI i)), some (.int (et (e i)))] d_sc_setText_40 (by decide) rfl ?_
        refine Z_aload_n d_sc_setText_42 rfl ?_
        refine Z_get d_sc_setText_43 lf_sc_12 h0 rfl ?_
        refine Z_get d_sc_setText_46 lf_sc_64 hS.1 rfl ?_
        refine Z_get d_sc_setText_49 lf_sc_96 hS.2.1.1 rfl ?_
        refine Z_iload_n d_sc_setText_52 rfl ?_
        refine Z_iload_n d_sc_setText_53 rfl ?_
        refine Zn_iast d_sc_setText_54 hS.2.1.2.2.1 (by omega) (by omega) ?_
        refine Z_iload d_sc_setText_55 rfl ?_
        refine Z_iret d_sc_setText_57 rfl ?_
        have hz : setT n e x t = (et (e i), some i) := by
          unfold setT
          rw [hr]
          exact if_pos t22
        rw [hz]
        exact ⟨rfl, hS.pv hS.2.1.putT (zFr.rf.set (by omega) (by omega)), zFr.rf.set (by omega) (by omega)⟩
      · skip
        have t22 : tOk t = false := b10_f h22
        refine Zn_bipush (-5) d_sc_setText_25 (by decide) ?_
        refine Z_iret d_sc_setText_27 rfl ?_
        have hz : setT n e x t = (-5, none) := by
          unfold setT
          rw [hr]
          exact if_neg (fun z => absurd (t22.symm.trans z) (by decide))
        rw [hz]
        exact ⟨rfl, rfl⟩
    · skip
      exact absurd (Int32.not_lt.mp (nI_pos (by omega))) h13 -- end
set_option maxHeartbeats 4000000 in
theorem sc_addReference_ok {Γ : zCtx} {M : List zE} (d : Nat) {sv : Bool} (h0 : ScO M sv) {n m : Nat} {e : Nat → zEnt} {rc : Nat → Nat} {tg : Nat → Nat → Nat} {dy sz kd pt gl : Nat → Nat} {tx : Nat → Int32} (hS : StAt M 1 n e rc tg m dy sz kd pt gl tx) (hn : n ≤ 30) (hrc : ∀ i, i < n → rc i ≤ 4) (x y : Int32) : ZM Γ (d + 2) m_sc_addReference [.ref 0, .int x, .int y] M (fun M1 v => v = some (.int (adR n rc x y).1) ∧ match (adR n rc x y).2 with | none => M1 = M | some q => StAt M1 1 n e (nup rc q.1 (rc q.1 + 1)) (tup tg q.1 (nup (tg q.1) (rc q.1) q.2)) m dy sz kd pt gl tx ∧ zFr M M1 1 46) := by
  refine ZM.of mk_sc_addReference (Nat.le_of_ble_eq_true rfl) ?_
  refine Z_aload_n d_sc_addReference_0 rfl ?_
  refine Z_get d_sc_addReference_1 lf_sc_12 h0 rfl ?_
  refine Z_iload_n d_sc_addReference_4 rfl ?_
  refine zVe (As := [.int x]) (by omega) d_sc_addReference_5 lm_sc_47 hS.1 rfl rfl (Nat.le_of_ble_eq_true rfl) (sta_has (d + 0) hS (by omega) hn x) ?_
  have hle5 := b10_lt (x := hasP n x)
  refine Zn_if_eq (tgt := 22) d_sc_addReference_8 (by decide) (by omega) (fun h8 => ?_) (fun h8 => ?_)
  · skip
    have t8 : hasP n x = false := b10_f h8
    refine Zn_iconst (-1) d_sc_addReference_22 (by decide) ?_
    refine Z_iret d_sc_addReference_23 rfl ?_
    have hz : adR n rc x y = (-1, none) := by
      unfold adR
      rw [if_neg (fun z => absurd (t8.symm.trans z) (by decide))]
    rw [hz]
    exact ⟨rfl, rfl⟩
  · skip
    have t8 : hasP n x = true := b10_t h8
    obtain ⟨j, hj, hj9, rfl⟩ := hasP_t t8
    refine Z_aload_n d_sc_addReference_11 rfl ?_
    refine Z_get d_sc_addReference_12 lf_sc_12 h0 rfl ?_
    refine Z_iload_n d_sc_addReference_15 rfl ?_
    refine zVe (As := [.int y]) (by omega) d_sc_addReference_16 lm_sc_47 hS.1 rfl rfl (Nat.le_of_ble_eq_true rfl) (sta_has (d + 0) hS (by omega) hn y) ?_
    have hle16 := b10_lt (x := hasP n y)
    refine Zn_if_ne (tgt := 24) d_sc_addReference_19 (by decide) (by omega) (fun h19 => ?_) (fun h19 => ?_)
    · skip
      have t19 : hasP n y = true := b10_t h19
      obtain ⟨k, hk, hk9, rfl⟩ := hasP_t t19
      refine Z_aload_n d_sc_addReference_24 rfl ?_
      refine Z_get d_sc_addReference_25 lf_sc_12 h0 rfl ?_
      refine Z_get d_sc_addReference_28 lf_sc_100 hS.1 rfl ?_
      refine Z_iload_n d_sc_addReference_31 rfl ?_
      refine Zn_iald d_sc_addReference_32 hS.2.2.1 (by omega) (by omega) ?_
      have hrj := hrc j (by omega)
      refine Zn_iconst (nI 4) d_sc_addReference_33 (by decide) ?_
      refine Zn_icmp_lt (tgt := 40) d_sc_addReference_34 (by decide) (by omega) (by omega) (fun h34 => ?_) (fun h34 => ?_)
      · skip
        skip
        refine Z_aload_n d_sc_addReference_40 rfl ?_
        refine Z_get d_sc_addReference_41 lf_sc_12 h0 rfl ?_
        refine Z_get d_sc_addReference_44 lf_sc_103 hS.1 rfl ?_
        refine Z_iload_n d_sc_addReference_47 rfl ?_
        refine Zn_aald d_sc_addReference_48 hS.2.2.2.1 (by omega) (by omega) (if_pos (by omega)) (by omega) ?_
        refine Z_aload_n d_sc_addReference_49 rfl ?_
        refine Z_get d_sc_addReference_50 lf_sc_12 h0 rfl ?_
        refine Z_get d_sc_addReference_53 lf_sc_100 hS.1 rfl ?_
        refine Z_iload_n d_sc_addReference_56 rfl ?_
        refine Zn_iald d_sc_addReference_57 hS.2.2.1 (by omega) (by omega) ?_
        refine Z_iload_n d_sc_addReference_58 rfl ?_
        refine Zn_iast d_sc_addReference_59 (hS.2.2.2.2.1 j (by omega)) (by omega) (by omega) ?_
        replace hS := StAt.tg (k := j) (g := nup (tg j) (rc j) k) (x := .inl (0, 4, .inl (upd (fun i => nI (tg j i)) (rc j) (nI k)))) hS (by omega) (by rw [upd_nI])
        replace h0 := ScO.st (c := 1 + 9 + j) (x := .inl (0, 4, .inl (upd (fun i => nI (tg j i)) (rc j) (nI k)))) h0 (by omega)
        refine Z_aload_n d_sc_addReference_60 rfl ?_
        refine Z_get d_sc_addReference_61 lf_sc_12 h0 rfl ?_
        refine Z_get d_sc_addReference_64 lf_sc_100 hS.1 rfl ?_
        refine Z_iload_n d_sc_addReference_67 rfl ?_
        refine Z_dup2 d_sc_addReference_68 rfl rfl ?_
        refine Zn_iald d_sc_addReference_69 hS.2.2.1 (by omega) (by omega) ?_
        refine Zn_iconst (nI 1) d_sc_addReference_70 (by decide) ?_
        refine Zn_iadd d_sc_addReference_71 ?_
        refine Zn_iast d_sc_addReference_72 hS.2.2.1 (by omega) (by omega) ?_
        replace hS := StAt.rc (rc' := nup rc j (rc j + 1)) (x := .inl (0, 30, .inl (upd (fun i => nI (rc i)) j (nI (rc j + 1))))) hS (by rw [upd_nI])
        replace h0 := ScO.st (c := 1 + 7) (x := .inl (0, 30, .inl (upd (fun i => nI (rc i)) j (nI (rc j + 1))))) h0 (by omega)
        refine Z_aload_n d_sc_addReference_73 rfl ?_
        refine Z_get d_sc_addReference_74 lf_sc_12 h0 rfl ?_
        refine Z_get d_sc_addReference_77 lf_sc_100 hS.1 rfl ?_
        refine Z_iload_n d_sc_addReference_80 rfl ?_
        refine Zn_iald d_sc_addReference_81 hS.2.2.1 (by omega) (by omega) ?_
        rw [nup_s]
        refine Z_iret d_sc_addReference_82 rfl ?_
        have hz : adR n rc (nI j) (nI k) = (nI (rc j + 1), some (j, k)) := by
          unfold adR
          rw [zn_cl hj9, zn_cl hk9]
          rw [if_pos t8, if_pos t19, if_pos h34]
        rw [hz]
        exact ⟨rfl, hS, by (repeat (first | exact zFr.rf | exact hF | refine zFr.set ?_ (by omega) (by omega)))⟩
      · skip
        skip
        refine Zn_bipush (-6) d_sc_addReference_37 (by decide) ?_
        refine Z_iret d_sc_addReference_39 rfl ?_
        have hz : adR n rc (nI j) (nI k) = (-6, none) := by
          unfold adR
          try rw [zn_cl hj9]
          rw [if_pos t8, if_pos t19, if_neg h34]
        rw [hz]
        exact ⟨rfl, rfl⟩
    · skip
      have t19 : hasP n y = false := b10_f h19
      refine Zn_iconst (-1) d_sc_addReference_22 (by decide) ?_
      refine Z_iret d_sc_addReference_23 rfl ?_
      have hz : adR n rc (nI j) y = (-1, none) := by
        unfold adR
        rw [if_pos t8, if_neg (fun z => absurd (t19.symm.trans z) (by decide))]
      rw [hz]
      exact ⟨rfl, rfl⟩
set_option maxHeartbeats 4000000 in
theorem sc_clear_ok {Γ : zCtx} {M : List zE} (d : Nat) {sv : Bool} (h0 : ScO M sv) {n m : Nat} {e : Nat → zEnt} {rc : Nat → Nat} {tg : Nat → Nat → Nat} {dy sz kd pt gl : Nat → Nat} {tx : Nat → Int32} (hS : StAt M 1 n e rc tg m dy sz kd pt gl tx) (hn : n ≤ 30) {fl : Nat → Bool} {ty ln : Nat → Nat} {el : Nat → Nat → Int32} (hH : ShAt M fl ty ln el)  : ZM Γ (d + 2) m_sc_clear [.ref 0] M (fun M1 v => v = some (.int (nI n)) ∧ StAt M1 1 0 e rc tg 0 dy sz kd pt gl tx ∧ ShAt M1 (fun i => if i < 3 then false else fl i) ty ln el ∧ zF2 M M1 1 47 95 103) := by
  refine ZM.of mk_sc_clear (Nat.le_of_ble_eq_true rfl) ?_
  rw [show zEn [.ref 0] = [some (.ref 0)] from rfl]
  refine zPad 1 ?_
  show Z _ _ _ _ _ _ _ [some (.ref 0), none] _ _
  refine Z_aload_n d_sc_clear_0 rfl ?_
  refine Z_get d_sc_clear_1 lf_sc_12 h0 rfl ?_
  refine Z_get d_sc_clear_4 lf_sc_64 hS.1 rfl ?_
  refine Z_get d_sc_clear_7 lf_sc_68 hS.2.1.1 rfl ?_
  refine Zn_istore_n [some (.ref 0), some (.int (nI n))] d_sc_clear_10 (by decide) rfl ?_
  refine Z_aload_n d_sc_clear_11 rfl ?_
  refine Z_get d_sc_clear_12 lf_sc_12 h0 rfl ?_
  refine Z_get d_sc_clear_15 lf_sc_64 hS.1 rfl ?_
  refine Zn_iconst (nI 0) d_sc_clear_18 (by decide) ?_
  refine Z_puti d_sc_clear_19 lf_sc_68 hS.2.1.1 rfl rfl (Nat.le_of_ble_eq_true rfl) ?_
  replace hS := hS.pv (PvAt.putN (n' := 0) hS.2.1) (zFr.rf.set (by omega) (by omega))
  have hF : zFr M (M.set (1 + 1) (.inr (2, [.int (nI 0), .ref (1 + 1 + 1), .ref (1 + 1 + 2), .ref (1 + 1 + 3), .ref (1 + 1 + 4), .ref (1 + 1 + 5)]))) 1 46 := zFr.rf.set (by omega) (by omega)
  replace hH := hH.fr hF (by omega)
  replace h0 := h0.fr hF (by omega)
  refine Z_aload_n d_sc_clear_22 rfl ?_
  refine Z_get d_sc_clear_23 lf_sc_12 h0 rfl ?_
  refine Z_get d_sc_clear_26 lf_sc_107 hS.1 rfl ?_
  refine Zn_iconst (nI 0) d_sc_clear_29 (by decide) ?_
  refine Z_puti d_sc_clear_30 lf_sc_111 hS.2.2.2.2.2.1 rfl rfl (Nat.le_of_ble_eq_true rfl) ?_
  replace hS := hS.am (AmAt.putM (m' := 0) hS.2.2.2.2.2) (zFr.rf.set (by omega) (by omega))
  have hF2 := hF.set (c := 1 + 39) (x := .inr (0, [.int (nI 0), .ref (1 + 39 + 1), .ref (1 + 39 + 2), .ref (1 + 39 + 3), .ref (1 + 39 + 4), .ref (1 + 39 + 5), .ref (1 + 39 + 6)])) (by omega) (by omega)
  replace hH := hH.fr (zFr.set (lo := 1) (n := 46) (c := 1 + 39) (x := .inr (0, [.int (nI 0), .ref (1 + 39 + 1), .ref (1 + 39 + 2), .ref (1 + 39 + 3), .ref (1 + 39 + 4), .ref (1 + 39 + 5), .ref (1 + 39 + 6)])) zFr.rf (by omega) (by omega)) (by omega)
  replace h0 := h0.fr (zFr.set (lo := 1) (n := 46) (c := 1 + 39) (x := .inr (0, [.int (nI 0), .ref (1 + 39 + 1), .ref (1 + 39 + 2), .ref (1 + 39 + 3), .ref (1 + 39 + 4), .ref (1 + 39 + 5), .ref (1 + 39 + 6)])) zFr.rf (by omega) (by omega)) (by omega)
  refine Z_aload_n d_sc_clear_33 rfl ?_
  refine Z_get d_sc_clear_34 lf_sc_33 h0 rfl ?_
  refine zV (As := []) (by omega) d_sc_clear_37 lm_sc_114 hH.1 rfl rfl (Nat.le_of_ble_eq_true rfl) (sh_emptyAll_ok d hH) (fun M1 v hq hlen => ?_)
  obtain ⟨rfl, hH, hF1⟩ := hq
  refine Z_iload_n d_sc_clear_40 rfl ?_
  refine Z_iret d_sc_clear_41 rfl ?_
  exact ⟨rfl, hS.fr hF1 (by omega), hH, zF2.mk2 hF2 hF1⟩
set_option maxHeartbeats 4000000 in
theorem sc_originalCount_ok {Γ : zCtx} {M : List zE} (d : Nat) {sv : Bool} (h0 : ScO M sv) {n m : Nat} {e : Nat → zEnt} {rc : Nat → Nat} {tg : Nat → Nat → Nat} {dy sz kd pt gl : Nat → Nat} {tx : Nat → Int32} (hS : StAt M 1 n e rc tg m dy sz kd pt gl tx) (hn : n ≤ 30)  : ZM Γ (d + 1) m_sc_originalCount [.ref 0] M (zEq M (some (.int (nI n)))) := by
  refine ZM.of mk_sc_originalCount (Nat.le_of_ble_eq_true rfl) ?_
  refine Z_aload_n d_sc_originalCount_0 rfl ?_
  refine Z_get d_sc_originalCount_1 lf_sc_12 h0 rfl ?_
  refine Z_get d_sc_originalCount_4 lf_sc_64 hS.1 rfl ?_
  refine Z_get d_sc_originalCount_7 lf_sc_68 hS.2.1.1 rfl ?_
  refine Z_iret d_sc_originalCount_10 rfl ?_
  exact ⟨rfl, rfl⟩
set_option maxHeartbeats 4000000 in
theorem sc_amendmentCount_ok {Γ : zCtx} {M : List zE} (d : Nat) {sv : Bool} (h0 : ScO M sv) {n m : Nat} {e : Nat → zEnt} {rc : Nat → Nat} {tg : Nat → Nat → Nat} {dy sz kd pt gl : Nat → Nat} {tx : Nat → Int32} (hS : StAt M 1 n e rc tg m dy sz kd pt gl tx) (hn : n ≤ 30)  : ZM Γ (d + 1) m_sc_amendmentCount [.ref 0] M (zEq M (some (.int (nI m)))) := by
  refine ZM.of mk_sc_amendmentCount (Nat.le_of_ble_eq_true rfl) ?_
  refine Z_aload_n d_sc_amendmentCount_0 rfl ?_
  refine Z_get d_sc_amendmentCount_1 lf_sc_12 h0 rfl ?_
  refine Z_get d_sc_amendmentCount_4 lf_sc_107 hS.1 rfl ?_
  refine Z_get d_sc_amendmentCount_7 lf_sc_111 hS.2.2.2.2.2.1 rfl ?_
  refine Z_iret d_sc_amendmentCount_10 rfl ?_
  exact ⟨rfl, rfl⟩
def chO (x : Int32) : Bool := decide (¬ x < 32 ∧ x ≤ 126)
theorem chO_t {x : Int32} (h : chO x = true) : ∃ c, 32 ≤ c ∧ c ≤ 126 ∧ x = nI c := by
  have h := of_decide_eq_true h
  have a1 := h.1
  have a2 := h.2
  rw [Int32.lt_iff_toInt_lt] at a1
  rw [Int32.le_iff_toInt_le] at a2
  have h3 : (32 : Int32).toInt = 32 := by decide
  have h4 : (126 : Int32).toInt = 126 := by decide
  have h0 : ¬ x < 0 := by
    rw [Int32.lt_iff_toInt_lt]
    have h5 : (0 : Int32).toInt = 0 := by decide
    omega
  obtain ⟨e1, e2⟩ := i32_nn h0
  have h5 : x.toInt = (x.toNatClampNeg : Int) := (congrArg Int32.toInt e1).trans (nI_toInt e2)
  exact ⟨x.toNatClampNeg, by omega, by omega, e1⟩
def apC (len : Nat) (x : Int32) : Int32 × Option Nat := if chO x = true then (if len < 120 then (nI (len + 1), some x.toNatClampNeg) else (-6, none)) else (-5, none)
set_option maxHeartbeats 4000000 in
theorem sc_appendCharacter_ok {Γ : zCtx} {M : List zE} (d : Nat) {sv : Bool} (h0 : ScO M sv) {len p : Nat} {ch : Nat → Nat} (hI : InAt M len p ch) (hl : len ≤ 120) (x : Int32) : ZM Γ (d + 1) m_sc_appendCharacter [.ref 0, .int x] M (fun M1 v => v = some (.int (apC len x).1) ∧ match (apC len x).2 with | none => M1 = M | some c => InAt M1 (len + 1) p (nup ch len c) ∧ zFr M M1 93 2) := by
  refine ZM.of mk_sc_appendCharacter (Nat.le_of_ble_eq_true rfl) ?_
  refine Z_iload_n d_sc_appendCharacter_0 rfl ?_
  refine Zn_bipush (nI 32) d_sc_appendCharacter_1 (by decide) ?_
  refine Z_icmp_lt (tgt := 12) d_sc_appendCharacter_3 (by decide) (fun h3 => ?_) (fun h3 => ?_)
  · skip
    skip
    refine Zn_bipush (-5) d_sc_appendCharacter_12 (by decide) ?_
    refine Z_iret d_sc_appendCharacter_14 rfl ?_
    have hz : apC len x = (-5, none) := by
      unfold apC
      rw [if_neg (fun z => (of_decide_eq_true z).1 h3)]
    rw [hz]
    exact ⟨rfl, rfl⟩
  · skip
    refine Z_iload_n d_sc_appendCharacter_6 rfl ?_
    refine Zn_bipush (nI 126) d_sc_appendCharacter_7 (by decide) ?_
    refine Z_icmp_le (tgt := 15) d_sc_appendCharacter_9 (by decide) (fun h9 => ?_) (fun h9 => ?_)
    · skip
      have t9 : chO x = true := decide_eq_true ⟨h3, h9⟩
      obtain ⟨c, hc1, hc2, rfl⟩ := chO_t t9
      refine Z_aload_n d_sc_appendCharacter_15 rfl ?_
      refine Z_get d_sc_appendCharacter_16 lf_sc_26 h0 rfl ?_
      refine Z_get d_sc_appendCharacter_19 lf_sc_117 hI.1 rfl ?_
      refine Zn_bipush (nI 120) d_sc_appendCharacter_22 (by decide) ?_
      refine Zn_icmp_lt (tgt := 30) d_sc_appendCharacter_24 (by decide) (by omega) (by omega) (fun h24 => ?_) (fun h24 => ?_)
      · skip
        skip
        refine Z_aload_n d_sc_appendCharacter_30 rfl ?_
        refine Z_get d_sc_appendCharacter_31 lf_sc_26 h0 rfl ?_
        refine Z_get d_sc_appendCharacter_34 lf_sc_120 hI.1 rfl ?_
        refine Z_aload_n d_sc_appendCharacter_37 rfl ?_
        refine Z_get d_sc_appendCharacter_38 lf_sc_26 h0 rfl ?_
        refine Z_get d_sc_appendCharacter_41 lf_sc_117 hI.1 rfl ?_
        refine Z_iload_n d_sc_appendCharacter_44 rfl ?_
        refine Zn_iast d_sc_appendCharacter_45 hI.2 (by omega) (by omega) ?_
        replace hI := hI.chr (k := len) (v := c)
        replace h0 : ScO (M.set 94 (.inl (0, 120, .inl (upd (fun i => nI (ch i)) len (nI c))))) sv := h0.fr (zFr.set (lo := 93) (n := 2) zFr.rf (by omega) (by omega)) (by omega)
        refine Z_aload_n d_sc_appendCharacter_46 rfl ?_
        refine Z_get d_sc_appendCharacter_47 lf_sc_26 h0 rfl ?_
        refine Z_dup d_sc_appendCharacter_50 rfl ?_
        refine Z_get d_sc_appendCharacter_51 lf_sc_117 hI.1 rfl ?_
        refine Zn_iconst (nI 1) d_sc_appendCharacter_54 (by decide) ?_
        refine Zn_iadd d_sc_appendCharacter_55 ?_
        refine Z_puti d_sc_appendCharacter_56 lf_sc_117 hI.1 rfl rfl (Nat.le_of_ble_eq_true rfl) ?_
        replace hI := hI.len (len' := len + 1)
        replace h0 : ScO ((M.set 94 (.inl (0, 120, .inl (upd (fun i => nI (ch i)) len (nI c))))).set 93 (.inr (1, [.ref 94, .int (nI (len + 1)), .int (nI p)]))) sv := h0.fr (zFr.set (lo := 93) (n := 2) zFr.rf (by omega) (by omega)) (by omega)
        skip
        refine Z_aload_n d_sc_appendCharacter_59 rfl ?_
        refine Z_get d_sc_appendCharacter_60 lf_sc_26 h0 rfl ?_
        refine Z_get d_sc_appendCharacter_63 lf_sc_117 hI.1 rfl ?_
        refine Z_iret d_sc_appendCharacter_66 rfl ?_
        have hz : apC len (nI c) = (nI (len + 1), some c) := by
          unfold apC
          rw [zn_cl (by omega)]
          rw [if_pos t9, if_pos h24]
        rw [hz]
        exact ⟨rfl, hI, by (repeat (first | exact zFr.rf | exact hF | refine zFr.set ?_ (by omega) (by omega)))⟩
      · skip
        skip
        refine Zn_bipush (-6) d_sc_appendCharacter_27 (by decide) ?_
        refine Z_iret d_sc_appendCharacter_29 rfl ?_
        have hz : apC len (nI c) = (-6, none) := by
          unfold apC
          rw [if_pos t9, if_neg h24]
        rw [hz]
        exact ⟨rfl, rfl⟩
    · skip
      skip
      refine Zn_bipush (-5) d_sc_appendCharacter_12 (by decide) ?_
      refine Z_iret d_sc_appendCharacter_14 rfl ?_
      have hz : apC len x = (-5, none) := by
        unfold apC
        rw [if_neg (fun z => h9 (of_decide_eq_true z).2)]
      rw [hz]
      exact ⟨rfl, rfl⟩
set_option maxHeartbeats 4000000 in
theorem sc_clearInput_ok {Γ : zCtx} {M : List zE} (d : Nat) {sv : Bool} (h0 : ScO M sv) {len p : Nat} {ch : Nat → Nat} (hI : InAt M len p ch) (hl : len ≤ 120)  : ZM Γ (d + 1) m_sc_clearInput [.ref 0] M (fun M1 v => v = some (.int (nI len)) ∧ InAt M1 0 p ch ∧ zFr M M1 93 2) := by
  refine ZM.of mk_sc_clearInput (Nat.le_of_ble_eq_true rfl) ?_
  rw [show zEn [.ref 0] = [some (.ref 0)] from rfl]
  refine zPad 1 ?_
  show Z _ _ _ _ _ _ _ [some (.ref 0), none] _ _
  refine Z_aload_n d_sc_clearInput_0 rfl ?_
  refine Z_get d_sc_clearInput_1 lf_sc_26 h0 rfl ?_
  refine Z_get d_sc_clearInput_4 lf_sc_117 hI.1 rfl ?_
  refine Zn_istore_n [some (.ref 0), some (.int (nI len))] d_sc_clearInput_7 (by decide) rfl ?_
  refine Z_aload_n d_sc_clearInput_8 rfl ?_
  refine Z_get d_sc_clearInput_9 lf_sc_26 h0 rfl ?_
  refine Zn_iconst (nI 0) d_sc_clearInput_12 (by decide) ?_
  refine Z_puti d_sc_clearInput_13 lf_sc_117 hI.1 rfl rfl (Nat.le_of_ble_eq_true rfl) ?_
  refine Z_iload_n d_sc_clearInput_16 rfl ?_
  refine Z_iret d_sc_clearInput_17 rfl ?_
  exact ⟨rfl, hI.len (len' := 0), zFr.rf.set (by omega) (by omega)⟩
set_option maxHeartbeats 4000000 in
theorem sc_instructionCount_ok {Γ : zCtx} {M : List zE} (d : Nat) {sv : Bool} (h0 : ScO M sv) {n m : Nat} {e : Nat → zEnt} {rc : Nat → Nat} {tg : Nat → Nat → Nat} {dy sz kd pt gl : Nat → Nat} {tx : Nat → Int32} (hS : StAt M 1 n e rc tg m dy sz kd pt gl tx) (hn : n ≤ 30) (hm : m ≤ 8) (x : Int32) : ZM Γ (d + 2) m_sc_instructionCount [.ref 0, .int x] M (zEq M (some (.int (if hasP m x = true then nI (sz x.toNatClampNeg) else -3)))) := by
  refine ZM.of mk_sc_instructionCount (Nat.le_of_ble_eq_true rfl) ?_
  refine Z_aload_n d_sc_instructionCount_0 rfl ?_
  refine Z_get d_sc_instructionCount_1 lf_sc_12 h0 rfl ?_
  refine Z_get d_sc_instructionCount_4 lf_sc_107 hS.1 rfl ?_
  refine Z_iload_n d_sc_instructionCount_7 rfl ?_
  refine zVe (As := [.int x]) (by omega) d_sc_instructionCount_8 lm_sc_126 hS.2.2.2.2.2.1 rfl rfl (Nat.le_of_ble_eq_true rfl) (am_hasX (d + 0) hS.2.2.2.2.2 hm x) ?_
  have hle8 := b10_lt (x := hasP m x)
  refine Zn_if_ne (tgt := 17) d_sc_instructionCount_11 (by decide) (by omega) (fun h11 => ?_) (fun h11 => ?_)
  · skip
    have t11 : hasP m x = true := b10_t h11
    obtain ⟨j, hj, hj9, rfl⟩ := hasP_t t11
    refine Z_aload_n d_sc_instructionCount_17 rfl ?_
    refine Z_get d_sc_instructionCount_18 lf_sc_12 h0 rfl ?_
    refine Z_get d_sc_instructionCount_21 lf_sc_107 hS.1 rfl ?_
    refine Z_get d_sc_instructionCount_24 lf_sc_129 hS.2.2.2.2.2.1 rfl ?_
    refine Z_iload_n d_sc_instructionCount_27 rfl ?_
    refine Zn_iald d_sc_instructionCount_28 hS.2.2.2.2.2.2.2.1 (by omega) (by omega) ?_
    refine Z_iret d_sc_instructionCount_29 rfl ?_
    refine ⟨rfl, ?_⟩
    rw [zn_cl hj9]
    rw [if_pos t11]
  · skip
    have t11 : hasP m x = false := b10_f h11
    refine Zn_bipush (-3) d_sc_instructionCount_14 (by decide) ?_
    refine Z_iret d_sc_instructionCount_16 rfl ?_
    refine ⟨rfl, ?_⟩
    rw [if_neg (fun z => absurd (t11.symm.trans z) (by decide))]
def setC (m : Nat) (dy : Nat → Nat) (x y : Int32) : Int32 × Option (Nat × Nat) := if hasP m x = true then (if tOk y = true then (nI (dy x.toNatClampNeg), some (x.toNatClampNeg, y.toNatClampNeg)) else (-4, none)) else (-3, none)
set_option maxHeartbeats 4000000 in
theorem sc_setCommencement_ok {Γ : zCtx} {M : List zE} (d : Nat) {sv : Bool} (h0 : ScO M sv) {n m : Nat} {e : Nat → zEnt} {rc : Nat → Nat} {tg : Nat → Nat → Nat} {dy sz kd pt gl : Nat → Nat} {tx : Nat → Int32} (hS : StAt M 1 n e rc tg m dy sz kd pt gl tx) (hn : n ≤ 30) (hm : m ≤ 8) (x y : Int32) : ZM Γ (d + 2) m_sc_setCommencement [.ref 0, .int x, .int y] M (fun M1 v => v = some (.int (setC m dy x y).1) ∧ match (setC m dy x y).2 with | none => M1 = M | some q => StAt M1 1 n e rc tg m (nup dy q.1 q.2) sz kd pt gl tx ∧ zFr M M1 1 46) := by
  refine ZM.of mk_sc_setCommencement (Nat.le_of_ble_eq_true rfl) ?_
  rw [show zEn [.ref 0, .int x, .int y] = [some (.ref 0), some (.int x), some (.int y)] from rfl]
  refine zPad 1 ?_
  show Z _ _ _ _ _ _ _ [some (.ref 0), some (.int x), some (.int y), none] _ _
  refine Z_aload_n d_sc_setCommencement_0 rfl ?_
  refine Z_get d_sc_setCommencement_1 lf_sc_12 h0 rfl ?_
  refine Z_get d_sc_setCommencement_4 lf_sc_107 hS.1 rfl ?_
  refine Z_iload_n d_sc_setCommencement_7 rfl ?_
  refine zVe (As := [.int x]) (by omega) d_sc_setCommencement_8 lm_sc_126 hS.2.2.2.2.2.1 rfl rfl (Nat.le_of_ble_eq_true rfl) (am_hasX (d + 0) hS.2.2.2.2.2 hm x) ?_
  have hle8 := b10_lt (x := hasP m x)
  refine Zn_if_ne (tgt := 17) d_sc_setCommencement_11 (by decide) (by omega) (fun h11 => ?_) (fun h11 => ?_)
  · skip
    have t11 : hasP m x = true := b10_t h11
    obtain ⟨j, hj, hj9, rfl⟩ := hasP_t t11
    refine Z_iload_n d_sc_setCommencement_17 rfl ?_
    refine zTe (As := [.int y]) (by omega) d_sc_setCommencement_18 lm_sc_132 rfl (Nat.le_of_ble_eq_true rfl) (sc_isCommencementDay_ok (d + 0) y) ?_
    have hle18 := b10_lt (x := tOk y)
    refine Zn_if_ne (tgt := 27) d_sc_setCommencement_21 (by decide) (by omega) (fun h21 => ?_) (fun h21 => ?_)
    · skip
      have t21 : tOk y = true := b10_t h21
      obtain ⟨v1, hv1, rfl⟩ := tOk_t t21
      refine Z_aload_n d_sc_setCommencement_27 rfl ?_
      refine Z_get d_sc_setCommencement_28 lf_sc_12 h0 rfl ?_
      refine Z_get d_sc_setCommencement_31 lf_sc_107 hS.1 rfl ?_
      refine Z_get d_sc_setCommencement_34 lf_sc_135 hS.2.2.2.2.2.1 rfl ?_
      refine Z_iload_n d_sc_setCommencement_37 rfl ?_
      refine Zn_iald d_sc_setCommencement_38 hS.2.2.2.2.2.2.1 (by omega) (by omega) ?_
      refine Zn_istore_n [some (.ref 0), some (.int (nI j)), some (.int (nI v1)), some (.int (nI (dy j)))] d_sc_setCommencement_39 (by decide) rfl ?_
      refine Z_aload_n d_sc_setCommencement_40 rfl ?_
      refine Z_get d_sc_setCommencement_41 lf_sc_12 h0 rfl ?_
      refine Z_get d_sc_setCommencement_44 lf_sc_107 hS.1 rfl ?_
      refine Z_get d_sc_setCommencement_47 lf_sc_135 hS.2.2.2.2.2.1 rfl ?_
      refine Z_iload_n d_sc_setCommencement_50 rfl ?_
      refine Z_iload_n d_sc_setCommencement_51 rfl ?_
      refine Zn_iast d_sc_setCommencement_52 hS.2.2.2.2.2.2.1 (by omega) (by omega) ?_
      refine Z_iload_n d_sc_setCommencement_53 rfl ?_
      refine Z_iret d_sc_setCommencement_54 rfl ?_
      have hz : setC m dy (nI j) (nI v1) = (nI (dy j), some (j, v1)) := by
        unfold setC
        rw [zn_cl hj9, zn_cl (by omega)]
        rw [if_pos t11, if_pos t21]
      rw [hz]
      exact ⟨rfl, hS.am (hS.2.2.2.2.2.putD j v1) (zFr.rf.set (by omega) (by omega)), zFr.rf.set (by omega) (by omega)⟩
    · skip
      have t21 : tOk y = false := b10_f h21
      refine Zn_bipush (-4) d_sc_setCommencement_24 (by decide) ?_
      refine Z_iret d_sc_setCommencement_26 rfl ?_
      have hz : setC m dy (nI j) y = (-4, none) := by
        unfold setC
        rw [if_pos t11, if_neg (fun z => absurd (t21.symm.trans z) (by decide))]
      rw [hz]
      exact ⟨rfl, rfl⟩
  · skip
    have t11 : hasP m x = false := b10_f h11
    refine Zn_bipush (-3) d_sc_setCommencement_14 (by decide) ?_
    refine Z_iret d_sc_setCommencement_16 rfl ?_
    have hz : setC m dy x y = (-3, none) := by
      unfold setC
      rw [if_neg (fun z => absurd (t11.symm.trans z) (by decide))]
    rw [hz]
    exact ⟨rfl, rfl⟩
set_option maxHeartbeats 4000000 in
theorem sc_removeLastAmendment_ok {Γ : zCtx} {M : List zE} (d : Nat) {sv : Bool} (h0 : ScO M sv) {n m : Nat} {e : Nat → zEnt} {rc : Nat → Nat} {tg : Nat → Nat → Nat} {dy sz kd pt gl : Nat → Nat} {tx : Nat → Int32} (hS : StAt M 1 n e rc tg m dy sz kd pt gl tx) (hn : n ≤ 30) (hm : m ≤ 8)  : ZM Γ (d + 1) m_sc_removeLastAmendment [.ref 0] M (fun M1 v => v = some (.int (if m = 0 then -9 else nI (m - 1))) ∧ if m = 0 then M1 = M else StAt M1 1 n e rc tg (m - 1) dy sz kd pt gl tx ∧ zFr M M1 1 46) := by
  refine ZM.of mk_sc_removeLastAmendment (Nat.le_of_ble_eq_true rfl) ?_
  refine Z_aload_n d_sc_removeLastAmendment_0 rfl ?_
  refine Z_get d_sc_removeLastAmendment_1 lf_sc_12 h0 rfl ?_
  refine Z_get d_sc_removeLastAmendment_4 lf_sc_107 hS.1 rfl ?_
  refine Z_get d_sc_removeLastAmendment_7 lf_sc_111 hS.2.2.2.2.2.1 rfl ?_
  refine Zn_if_ne (tgt := 16) d_sc_removeLastAmendment_10 (by decide) (by omega) (fun h10 => ?_) (fun h10 => ?_)
  · skip
    refine Z_aload_n d_sc_removeLastAmendment_16 rfl ?_
    refine Z_get d_sc_removeLastAmendment_17 lf_sc_12 h0 rfl ?_
    refine Z_get d_sc_removeLastAmendment_20 lf_sc_107 hS.1 rfl ?_
    refine Z_dup d_sc_removeLastAmendment_23 rfl ?_
    refine Z_get d_sc_removeLastAmendment_24 lf_sc_111 hS.2.2.2.2.2.1 rfl ?_
    refine Zn_iconst (nI 1) d_sc_removeLastAmendment_27 (by decide) ?_
    refine Zn_isub d_sc_removeLastAmendment_28 (by omega) ?_
    refine Z_puti d_sc_removeLastAmendment_29 lf_sc_111 hS.2.2.2.2.2.1 rfl rfl (Nat.le_of_ble_eq_true rfl) ?_
    replace hS := hS.am (AmAt.putM (m' := m - 1) hS.2.2.2.2.2) (zFr.rf.set (by omega) (by omega))
    replace h0 : ScO (M.set (1 + 39) (.inr (0, [.int (nI (m - 1)), .ref (1 + 39 + 1), .ref (1 + 39 + 2), .ref (1 + 39 + 3), .ref (1 + 39 + 4), .ref (1 + 39 + 5), .ref (1 + 39 + 6)]))) sv := h0.fr (zFr.set (lo := 1) (n := 46) zFr.rf (by omega) (by omega)) (by omega)
    skip
    refine Z_aload_n d_sc_removeLastAmendment_32 rfl ?_
    refine Z_get d_sc_removeLastAmendment_33 lf_sc_12 h0 rfl ?_
    refine Z_get d_sc_removeLastAmendment_36 lf_sc_107 hS.1 rfl ?_
    refine Z_get d_sc_removeLastAmendment_39 lf_sc_111 hS.2.2.2.2.2.1 rfl ?_
    refine Z_iret d_sc_removeLastAmendment_42 rfl ?_
    refine ⟨?_, ?_⟩
    · rw [if_neg (by omega)]
    · rw [if_neg (by omega)]; exact ⟨hS, zFr.rf.set (by omega) (by omega)⟩
  · skip
    refine Zn_bipush (-9) d_sc_removeLastAmendment_13 (by decide) ?_
    refine Z_iret d_sc_removeLastAmendment_15 rfl ?_
    refine ⟨?_, ?_⟩
    · rw [if_pos (by omega)]
    · rw [if_pos (by omega)]
