def addK (n : Nat) (e : Nat → zEnt) (t : Int32) (k : Nat) : Int32 × Option Nat := if tOk t = true then (if lev k < 3 then (if n < 30 then (match newl n e k with
  | none => (-7, none)
  | some lb => (nI n, some (putl k (lev k + 1) lb))) else (-6, none)) else (-8, none)) else (-5, none)
def addP (n : Nat) (e : Nat → zEnt) (x t : Int32) : Int32 × Option Nat := if x = -1 then addK n e t 0 else if hasP n x = true then addK n e t (keyOf n e x) else (-1, none)
def insP (n : Nat) (e : Nat → zEnt) (x t : Int32) : Int32 × Option Nat := if hasP n x = true then (if tOk t = true then (if n < 30 then (match aftl n e (keyOf n e x) 0 with
  | none => (-7, none)
  | some lb => (nI n, some (putl (keyOf n e x) (lev (keyOf n e x)) lb))) else (-6, none)) else (-5, none)) else (-1, none)
theorem keyOf_v {n : Nat} {e : Nat → zEnt} {x : Int32} (h : vInv n e) : keyOf n e x = 0 ∨ vkey (keyOf n e x) := by
  unfold keyOf
  cases hh : frst (fun i => decide (eo (e i) = x)) n with
  | none => exact Or.inl rfl
  | some i => exact Or.inr (h.2 i (frst_some.mp hh).1)
theorem keyOf_63 {n : Nat} {e : Nat → zEnt} {x : Int32} (h : vInv n e) : keyOf n e x < 2 ^ 63 := by
  rcases keyOf_v (x := x) h with h | h
  · rw [h]; decide
  · exact h.1
theorem putl_63 {k l b : Nat} (hk : k < 2 ^ 63) (h1 : 1 ≤ l) (h3 : l ≤ 3) (hb : b < 2097152) : putl k l b < 2 ^ 63 := by
  obtain ⟨a, b', c, ha, hb', hc, rfl⟩ := kk_ex hk
  obtain rfl | rfl | rfl : l = 1 ∨ l = 2 ∨ l = 3 := by omega
  · rw [putl_kk1 ha hb' hc]; exact kk_lt hb hb' hc
  · rw [putl_kk2 ha hb' hc]; exact kk_lt ha hb hc
  · rw [putl_kk3 ha hb' hc]; exact kk_lt ha hb' hb
/-- what a call leaves that may make a provision -/
def mkP (M M1 : List zE) (n m : Nat) (e : Nat → zEnt) (rc : Nat → Nat) (tg : Nat → Nat → Nat) (dy sz kd pt gl : Nat → Nat) (tx : Nat → Int32) (t : Int32) (o : Option Nat) : Prop := match o with
  | none => M1 = M
  | some k => ∃ e1, StAt M1 1 (n + 1) e1 (nup rc n 0) tg m dy sz kd pt gl tx ∧ zFr M M1 1 46 ∧ zPerm (n + 1) (eup e n (k, t, false, nI n, -9)) e1 ∧ srtd (n + 1) e1
set_option maxHeartbeats 4000000 in
theorem sc_addProvision_ok {Γ : zCtx} {M : List zE} (d : Nat) {sv : Bool} (h0 : ScO M sv) {n m : Nat} {e : Nat → zEnt} {rc : Nat → Nat} {tg : Nat → Nat → Nat} {dy sz kd pt gl : Nat → Nat} {tx : Nat → Int32} (hS : StAt M 1 n e rc tg m dy sz kd pt gl tx) (hn : n ≤ 30) (hI : vInv n e) (x t : Int32) : ZM Γ (d + 5) m_sc_addProvision [.ref 0, .int x, .int t] M (fun M1 v => v = some (.int (addP n e x t).1) ∧ mkP M M1 n m e rc tg dy sz kd pt gl tx t (addP n e x t).2) := by
  refine ZM.of mk_sc_addProvision (Nat.le_of_ble_eq_true rfl) ?_
  rw [show zEn [.ref 0, .int x, .int t] = [some (.ref 0), some (.int x), some (.int t)] from rfl]
  refine zPad 3 ?_
  show Z _ _ _ _ _ _ _ [some (.ref 0), some (.int x), some (.int t), none, none, none] _ _
  refine Z_iload_n d_sc_addProvision_0 rfl ?_
  refine Zn_iconst (-1) d_sc_addProvision_1 (by decide) ?_
  refine Z_icmp_eq (tgt := 18) d_sc_addProvision_2 (by decide) (fun h2 => ?_) (fun h2 => ?_)
  · skip
    subst h2
    refine Z_iload_n d_sc_addProvision_18 rfl ?_
    refine zTe (As := [.int t]) (by omega) d_sc_addProvision_19 lm_sc_51 rfl (Nat.le_of_ble_eq_true rfl) (sc_isText_ok (d + 3) t) ?_
    have hle19 := b10_lt (x := tOk t)
    refine Zn_if_ne (tgt := 28) d_sc_addProvision_22 (by decide) (by omega) (fun h22 => ?_) (fun h22 => ?_)
    · skip
      have t22 : tOk t = true := b10_t h22
      refine Z_iload_n d_sc_addProvision_28 rfl ?_
      refine Zn_iconst (-1) d_sc_addProvision_29 (by decide) ?_
      refine Z_icmp_ne (tgt := 37) d_sc_addProvision_30 (by decide) (fun h30 => ?_) (fun h30 => ?_)
      · skip
        exact absurd rfl h30 -- end
      · skip
        skip
        refine Zn_lconst (0) d_sc_addProvision_33 (by decide) ?_
        refine Z_goto (tgt := 45) d_sc_addProvision_34 (by decide) ?_
        refine Zn_lstore_n [some (.ref 0), some (.int (-1)), some (.int t), some (.long 0), none, none] d_sc_addProvision_45 (by decide) rfl ?_
        refine Z_lload_n d_sc_addProvision_46 rfl ?_
        have hk9 : 0 < 2 ^ 63 := by decide
        have hl3 := lev_le 0
        refine zTe (As := [.long (lN 0)]) (by omega) d_sc_addProvision_47 lm_sc_60 rfl (Nat.le_of_ble_eq_true rfl) (pa_levelOf_ok (d + 3) hk9) ?_
        refine Zn_iconst (nI 3) d_sc_addProvision_50 (by decide) ?_
        refine Zn_icmp_lt (tgt := 57) d_sc_addProvision_51 (by decide) (by omega) (by omega) (fun h51 => ?_) (fun h51 => ?_)
        · skip
          skip
          refine Z_aload_n d_sc_addProvision_57 rfl ?_
          refine Z_get d_sc_addProvision_58 lf_sc_12 h0 rfl ?_
          refine Z_get d_sc_addProvision_61 lf_sc_64 hS.1 rfl ?_
          refine Z_get d_sc_addProvision_64 lf_sc_68 hS.2.1.1 rfl ?_
          refine Zn_bipush (nI 30) d_sc_addProvision_67 (by decide) ?_
          refine Zn_icmp_lt (tgt := 75) d_sc_addProvision_69 (by decide) (by omega) (by omega) (fun h69 => ?_) (fun h69 => ?_)
          · skip
            skip
            refine Z_aload_n d_sc_addProvision_75 rfl ?_
            refine Z_get d_sc_addProvision_76 lf_sc_12 h0 rfl ?_
            refine Z_get d_sc_addProvision_79 lf_sc_64 hS.1 rfl ?_
            refine Z_lload_n d_sc_addProvision_82 rfl ?_
            refine zVe (As := [.long (lN 0)]) (by omega) d_sc_addProvision_83 lm_sc_74 hS.2.1.1 rfl rfl (Nat.le_of_ble_eq_true rfl) (pv_newl_ok (d + 1) hS.2.1 (by omega) hI.k hk9 (by omega)) ?_
            rcases hr : newl n e 0 with _ | lb
            · skip
              refine Zn_istore [some (.ref 0), some (.int (-1)), some (.int t), some (.long 0), none, some (.int (-7))] d_sc_addProvision_86 (by decide) rfl ?_
              refine Z_iload d_sc_addProvision_88 rfl ?_
              refine Z_if_ge (tgt := 98) d_sc_addProvision_90 (by decide) (fun h90 => ?_) (fun h90 => ?_)
              · skip
                exact absurd h90 (by decide) -- end
              · skip
                skip
                refine Zn_bipush (-7) d_sc_addProvision_93 (by decide) ?_
                refine Z_goto (tgt := 112) d_sc_addProvision_95 (by decide) ?_
                refine Z_iret d_sc_addProvision_112 rfl ?_
                have hz : addP n e (-1) t = (-7, none) := by
                  unfold addP addK
                  rw [if_pos rfl, if_pos t22, if_pos h51, if_pos h69, hr]
                rw [hz]
                exact ⟨rfl, rfl⟩
            · skip
              have hlb := newl_lt hr
              refine Zn_istore [some (.ref 0), some (.int (-1)), some (.int t), some (.long 0), none, some (.int (nI lb))] d_sc_addProvision_86 (by decide) rfl ?_
              refine Z_iload d_sc_addProvision_88 rfl ?_
              refine Z_if_ge (tgt := 98) d_sc_addProvision_90 (by decide) (fun h90 => ?_) (fun h90 => ?_)
              · skip
                skip
                refine Z_aload_n d_sc_addProvision_98 rfl ?_
                refine Z_get d_sc_addProvision_99 lf_sc_12 h0 rfl ?_
                refine Z_lload_n d_sc_addProvision_102 rfl ?_
                refine Z_iload d_sc_addProvision_103 rfl ?_
                refine zTe (As := [.long 0, .int (nI lb)]) (by omega) d_sc_addProvision_105 lm_sc_77 rfl (Nat.le_of_ble_eq_true rfl) (pa_childOf_ok (k := 0) (d + 2) hk9 (by omega) (by omega)) ?_
                refine Z_iload_n d_sc_addProvision_108 rfl ?_
                refine zV (As := [.long (lN (putl 0 (lev 0 + 1) lb)), .int t]) (by omega) d_sc_addProvision_109 lm_sc_81 hS.1 rfl rfl (Nat.le_of_ble_eq_true rfl) (sta_createProvision_ok d hS (by omega) hn (by omega) hI.k (k := (putl 0 (lev 0 + 1) lb)) (by first | exact putl_63 hk9 (by omega) (by omega) (by omega))) (fun M1 v hq hlen => ?_)
                obtain ⟨rfl, e1, hS1, hF1, hk1, hp1, hs1⟩ := hq
                refine Z_iret d_sc_addProvision_112 rfl ?_
                have hz : addP n e (-1) t = (nI n, some (putl 0 (lev 0 + 1) lb)) := by
                  unfold addP addK
                  rw [if_pos rfl, if_pos t22, if_pos h51, if_pos h69, hr]
                rw [hz]
                exact ⟨rfl, e1, hS1, hF1, hp1, hs1⟩
              · skip
                exact absurd (Int32.not_lt.mp (nI_pos (by omega))) h90 -- end
          · skip
            skip
            refine Zn_bipush (-6) d_sc_addProvision_72 (by decide) ?_
            refine Z_iret d_sc_addProvision_74 rfl ?_
            have hz : addP n e (-1) t = (-6, none) := by
              unfold addP addK
              rw [if_pos rfl, if_pos t22, if_pos h51, if_neg h69]
            rw [hz]
            exact ⟨rfl, rfl⟩
        · skip
          skip
          refine Zn_bipush (-8) d_sc_addProvision_54 (by decide) ?_
          refine Z_iret d_sc_addProvision_56 rfl ?_
          have hz : addP n e (-1) t = (-8, none) := by
            unfold addP addK
            rw [if_pos rfl, if_pos t22, if_neg h51]
          rw [hz]
          exact ⟨rfl, rfl⟩
    · skip
      have t22 : tOk t = false := b10_f h22
      refine Zn_bipush (-5) d_sc_addProvision_25 (by decide) ?_
      refine Z_iret d_sc_addProvision_27 rfl ?_
      have hz : addP n e (-1) t = (-5, none) := by
        unfold addP addK
        rw [if_pos rfl, if_neg (fun z => absurd (t22.symm.trans z) (by decide))]
      rw [hz]
      exact ⟨rfl, rfl⟩
  · skip
    skip
    refine Z_aload_n d_sc_addProvision_5 rfl ?_
    refine Z_get d_sc_addProvision_6 lf_sc_12 h0 rfl ?_
    refine Z_iload_n d_sc_addProvision_9 rfl ?_
    refine zVe (As := [.int x]) (by omega) d_sc_addProvision_10 lm_sc_47 hS.1 rfl rfl (Nat.le_of_ble_eq_true rfl) (sta_has (d + 3) hS (by omega) hn x) ?_
    have hle10 := b10_lt (x := hasP n x)
    refine Zn_if_ne (tgt := 18) d_sc_addProvision_13 (by decide) (by omega) (fun h13 => ?_) (fun h13 => ?_)
    · skip
      have t13 : hasP n x = true := b10_t h13
      obtain ⟨j, hj, hj9, rfl⟩ := hasP_t t13
      refine Z_iload_n d_sc_addProvision_18 rfl ?_
      refine zTe (As := [.int t]) (by omega) d_sc_addProvision_19 lm_sc_51 rfl (Nat.le_of_ble_eq_true rfl) (sc_isText_ok (d + 3) t) ?_
      have hle19 := b10_lt (x := tOk t)
      refine Zn_if_ne (tgt := 28) d_sc_addProvision_22 (by decide) (by omega) (fun h22 => ?_) (fun h22 => ?_)
      · skip
        have t22 : tOk t = true := b10_t h22
        refine Z_iload_n d_sc_addProvision_28 rfl ?_
        refine Zn_iconst (-1) d_sc_addProvision_29 (by decide) ?_
        refine Z_icmp_ne (tgt := 37) d_sc_addProvision_30 (by decide) (fun h30 => ?_) (fun h30 => ?_)
        · skip
          skip
          refine Z_aload_n d_sc_addProvision_37 rfl ?_
          refine Z_get d_sc_addProvision_38 lf_sc_12 h0 rfl ?_
          refine Z_iload_n d_sc_addProvision_41 rfl ?_
          refine zVe (As := [.int (nI j)]) (by omega) d_sc_addProvision_42 lm_sc_56 hS.1 rfl rfl (Nat.le_of_ble_eq_true rfl) (sta_pathOf_ok (d + 2) hS (by omega) hn (nI_pos (by omega))) ?_
          refine Zn_lstore_n [some (.ref 0), some (.int (nI j)), some (.int t), some (.long (lN (keyOf n e (nI j)))), none, none] d_sc_addProvision_45 (by decide) rfl ?_
          refine Z_lload_n d_sc_addProvision_46 rfl ?_
          have hk9 : keyOf n e (nI j) < 2 ^ 63 := keyOf_63 hI
          have hl3 := lev_le (keyOf n e (nI j))
          refine zTe (As := [.long (lN (keyOf n e (nI j)))]) (by omega) d_sc_addProvision_47 lm_sc_60 rfl (Nat.le_of_ble_eq_true rfl) (pa_levelOf_ok (d + 3) hk9) ?_
          refine Zn_iconst (nI 3) d_sc_addProvision_50 (by decide) ?_
          refine Zn_icmp_lt (tgt := 57) d_sc_addProvision_51 (by decide) (by omega) (by omega) (fun h51 => ?_) (fun h51 => ?_)
          · skip
            skip
            refine Z_aload_n d_sc_addProvision_57 rfl ?_
            refine Z_get d_sc_addProvision_58 lf_sc_12 h0 rfl ?_
            refine Z_get d_sc_addProvision_61 lf_sc_64 hS.1 rfl ?_
            refine Z_get d_sc_addProvision_64 lf_sc_68 hS.2.1.1 rfl ?_
            refine Zn_bipush (nI 30) d_sc_addProvision_67 (by decide) ?_
            refine Zn_icmp_lt (tgt := 75) d_sc_addProvision_69 (by decide) (by omega) (by omega) (fun h69 => ?_) (fun h69 => ?_)
            · skip
              skip
              refine Z_aload_n d_sc_addProvision_75 rfl ?_
              refine Z_get d_sc_addProvision_76 lf_sc_12 h0 rfl ?_
              refine Z_get d_sc_addProvision_79 lf_sc_64 hS.1 rfl ?_
              refine Z_lload_n d_sc_addProvision_82 rfl ?_
              refine zVe (As := [.long (lN (keyOf n e (nI j)))]) (by omega) d_sc_addProvision_83 lm_sc_74 hS.2.1.1 rfl rfl (Nat.le_of_ble_eq_true rfl) (pv_newl_ok (d + 1) hS.2.1 (by omega) hI.k hk9 (by omega)) ?_
              rcases hr : newl n e (keyOf n e (nI j)) with _ | lb
              · skip
                refine Zn_istore [some (.ref 0), some (.int (nI j)), some (.int t), some (.long (lN (keyOf n e (nI j)))), none, some (.int (-7))] d_sc_addProvision_86 (by decide) rfl ?_
                refine Z_iload d_sc_addProvision_88 rfl ?_
                refine Z_if_ge (tgt := 98) d_sc_addProvision_90 (by decide) (fun h90 => ?_) (fun h90 => ?_)
                · skip
                  exact absurd h90 (by decide) -- end
                · skip
                  skip
                  refine Zn_bipush (-7) d_sc_addProvision_93 (by decide) ?_
                  refine Z_goto (tgt := 112) d_sc_addProvision_95 (by decide) ?_
                  refine Z_iret d_sc_addProvision_112 rfl ?_
                  have hz : addP n e (nI j) t = (-7, none) := by
                    unfold addP addK
                    rw [if_neg h2, if_pos t13, if_pos t22, if_pos h51, if_pos h69, hr]
                  rw [hz]
                  exact ⟨rfl, rfl⟩
              · skip
                have hlb := newl_lt hr
                refine Zn_istore [some (.ref 0), some (.int (nI j)), some (.int t), some (.long (lN (keyOf n e (nI j)))), none, some (.int (nI lb))] d_sc_addProvision_86 (by decide) rfl ?_
                refine Z_iload d_sc_addProvision_88 rfl ?_
                refine Z_if_ge (tgt := 98) d_sc_addProvision_90 (by decide) (fun h90 => ?_) (fun h90 => ?_)
                · skip
                  skip
                  refine Z_aload_n d_sc_addProvision_98 rfl ?_
                  refine Z_get d_sc_addProvision_99 lf_sc_12 h0 rfl ?_
                  refine Z_lload_n d_sc_addProvision_102 rfl ?_
                  refine Z_iload d_sc_addProvision_103 rfl ?_
                  refine zTe (As := [.long (lN (keyOf n e (nI j))), .int (nI lb)]) (by omega) d_sc_addProvision_105 lm_sc_77 rfl (Nat.le_of_ble_eq_true rfl) (pa_childOf_ok (k := (keyOf n e (nI j))) (d + 2) hk9 (by omega) (by omega)) ?_
                  refine Z_iload_n d_sc_addProvision_108 rfl ?_
                  refine zV (As := [.long (lN (putl (keyOf n e (nI j)) (lev (keyOf n e (nI j)) + 1) lb)), .int t]) (by omega) d_sc_addProvision_109 lm_sc_81 hS.1 rfl rfl (Nat.le_of_ble_eq_true rfl) (sta_createProvision_ok d hS (by omega) hn (by omega) hI.k (k := (putl (keyOf n e (nI j)) (lev (keyOf n e (nI j)) + 1) lb)) (by first | exact putl_63 hk9 (by omega) (by omega) (by omega))) (fun M1 v hq hlen => ?_)
                  obtain ⟨rfl, e1, hS1, hF1, hk1, hp1, hs1⟩ := hq
                  refine Z_iret d_sc_addProvision_112 rfl ?_
                  have hz : addP n e (nI j) t = (nI n, some (putl (keyOf n e (nI j)) (lev (keyOf n e (nI j)) + 1) lb)) := by
                    unfold addP addK
                    rw [if_neg h2, if_pos t13, if_pos t22, if_pos h51, if_pos h69, hr]
                  rw [hz]
                  exact ⟨rfl, e1, hS1, hF1, hp1, hs1⟩
                · skip
                  exact absurd (Int32.not_lt.mp (nI_pos (by omega))) h90 -- end
            · skip
              skip
              refine Zn_bipush (-6) d_sc_addProvision_72 (by decide) ?_
              refine Z_iret d_sc_addProvision_74 rfl ?_
              have hz : addP n e (nI j) t = (-6, none) := by
                unfold addP addK
                rw [if_neg h2, if_pos t13, if_pos t22, if_pos h51, if_neg h69]
              rw [hz]
              exact ⟨rfl, rfl⟩
          · skip
            skip
            refine Zn_bipush (-8) d_sc_addProvision_54 (by decide) ?_
            refine Z_iret d_sc_addProvision_56 rfl ?_
            have hz : addP n e (nI j) t = (-8, none) := by
              unfold addP addK
              rw [if_neg h2, if_pos t13, if_pos t22, if_neg h51]
            rw [hz]
            exact ⟨rfl, rfl⟩
        · skip
          exact absurd h30 (zn_m1 (by omega)) -- end
      · skip
        have t22 : tOk t = false := b10_f h22
        refine Zn_bipush (-5) d_sc_addProvision_25 (by decide) ?_
        refine Z_iret d_sc_addProvision_27 rfl ?_
        have hz : addP n e (nI j) t = (-5, none) := by
          unfold addP addK
          rw [if_neg h2, if_pos t13, if_neg (fun z => absurd (t22.symm.trans z) (by decide))]
        rw [hz]
        exact ⟨rfl, rfl⟩
    · skip
      have t13 : hasP n x = false := b10_f h13
      refine Zn_iconst (-1) d_sc_addProvision_16 (by decide) ?_
      refine Z_iret d_sc_addProvision_17 rfl ?_
      have hz : addP n e x t = (-1, none) := by
        unfold addP
        rw [if_neg h2, if_neg (fun z => absurd (t13.symm.trans z) (by decide))]
      rw [hz]
      exact ⟨rfl, rfl⟩
/-- each number of an original provision stands at some entry -/
def oInv (n : Nat) (e : Nat → zEnt) : Prop := ∀ j, j < n → ∃ i, i < n ∧ eo (e i) = nI j
theorem keyOf_has {n : Nat} {e : Nat → zEnt} {j : Nat} (h : vInv n e) (hO : oInv n e) (hj : j < n) : vkey (keyOf n e (nI j)) := by
  obtain ⟨i, hi, he⟩ := hO j hj
  unfold keyOf
  cases hh : frst (fun i => decide (eo (e i) = nI j)) n with
  | none => exact absurd (frst_none.mp hh i hi) (by simp [he])
  | some i => exact h.2 i (frst_some.mp hh).1
set_option maxHeartbeats 4000000 in
theorem sc_insertProvision_ok {Γ : zCtx} {M : List zE} (d : Nat) {sv : Bool} (h0 : ScO M sv) {n m : Nat} {e : Nat → zEnt} {rc : Nat → Nat} {tg : Nat → Nat → Nat} {dy sz kd pt gl : Nat → Nat} {tx : Nat → Int32} (hS : StAt M 1 n e rc tg m dy sz kd pt gl tx) (hn : n ≤ 30) (hI : vInv n e) (hO : oInv n e) (x t : Int32) : ZM Γ (d + 5) m_sc_insertProvision [.ref 0, .int x, .int t] M (fun M1 v => v = some (.int (insP n e x t).1) ∧ mkP M M1 n m e rc tg dy sz kd pt gl tx t (insP n e x t).2) := by
  refine ZM.of mk_sc_insertProvision (Nat.le_of_ble_eq_true rfl) ?_
  rw [show zEn [.ref 0, .int x, .int t] = [some (.ref 0), some (.int x), some (.int t)] from rfl]
  refine zPad 3 ?_
  show Z _ _ _ _ _ _ _ [some (.ref 0), some (.int x), some (.int t), none, none, none] _ _
  refine Z_aload_n d_sc_insertProvision_0 rfl ?_
  refine Z_get d_sc_insertProvision_1 lf_sc_12 h0 rfl ?_
  refine Z_iload_n d_sc_insertProvision_4 rfl ?_
  refine zVe (As := [.int x]) (by omega) d_sc_insertProvision_5 lm_sc_47 hS.1 rfl rfl (Nat.le_of_ble_eq_true rfl) (sta_has (d + 3) hS (by omega) hn x) ?_
  have hle5 := b10_lt (x := hasP n x)
  refine Zn_if_ne (tgt := 13) d_sc_insertProvision_8 (by decide) (by omega) (fun h8 => ?_) (fun h8 => ?_)
  · skip
    have t8 : hasP n x = true := b10_t h8
    obtain ⟨j, hj, hj9, rfl⟩ := hasP_t t8
    refine Z_iload_n d_sc_insertProvision_13 rfl ?_
    refine zTe (As := [.int t]) (by omega) d_sc_insertProvision_14 lm_sc_51 rfl (Nat.le_of_ble_eq_true rfl) (sc_isText_ok (d + 3) t) ?_
    have hle14 := b10_lt (x := tOk t)
    refine Zn_if_ne (tgt := 23) d_sc_insertProvision_17 (by decide) (by omega) (fun h17 => ?_) (fun h17 => ?_)
    · skip
      have t17 : tOk t = true := b10_t h17
      refine Z_aload_n d_sc_insertProvision_23 rfl ?_
      refine Z_get d_sc_insertProvision_24 lf_sc_12 h0 rfl ?_
      refine Z_get d_sc_insertProvision_27 lf_sc_64 hS.1 rfl ?_
      refine Z_get d_sc_insertProvision_30 lf_sc_68 hS.2.1.1 rfl ?_
      refine Zn_bipush (nI 30) d_sc_insertProvision_33 (by decide) ?_
      refine Zn_icmp_lt (tgt := 41) d_sc_insertProvision_35 (by decide) (by omega) (by omega) (fun h35 => ?_) (fun h35 => ?_)
      · skip
        skip
        refine Z_aload_n d_sc_insertProvision_41 rfl ?_
        refine Z_get d_sc_insertProvision_42 lf_sc_12 h0 rfl ?_
        refine Z_iload_n d_sc_insertProvision_45 rfl ?_
        refine zVe (As := [.int (nI j)]) (by omega) d_sc_insertProvision_46 lm_sc_56 hS.1 rfl rfl (Nat.le_of_ble_eq_true rfl) (sta_pathOf_ok (d + 2) hS (by omega) hn (nI_pos (by omega))) ?_
        refine Zn_lstore_n [some (.ref 0), some (.int (nI j)), some (.int t), some (.long (lN (keyOf n e (nI j)))), none, none] d_sc_insertProvision_49 (by decide) rfl ?_
        refine Z_aload_n d_sc_insertProvision_50 rfl ?_
        refine Z_get d_sc_insertProvision_51 lf_sc_12 h0 rfl ?_
        refine Z_get d_sc_insertProvision_54 lf_sc_64 hS.1 rfl ?_
        refine Z_lload_n d_sc_insertProvision_57 rfl ?_
        refine Zn_lconst (0) d_sc_insertProvision_58 (by decide) ?_
        have hkv : vkey (keyOf n e (nI j)) := keyOf_has hI hO hj
        have hk9 := hkv.1
        have hl1 := hkv.2.1
        have hl3 := lev_le (keyOf n e (nI j))
        refine zVe (As := [.long (lN (keyOf n e (nI j))), .long 0]) (by omega) d_sc_insertProvision_59 lm_sc_85 hS.2.1.1 rfl rfl (Nat.le_of_ble_eq_true rfl) (pv_aftl_ok (q := 0) (d + 1) hS.2.1 (by omega) hI.k hk9 (by decide) hl1) ?_
        rcases hr : aftl n e (keyOf n e (nI j)) 0 with _ | lb
        · skip
          refine Zn_istore [some (.ref 0), some (.int (nI j)), some (.int t), some (.long (lN (keyOf n e (nI j)))), none, some (.int (-7))] d_sc_insertProvision_62 (by decide) rfl ?_
          refine Z_iload d_sc_insertProvision_64 rfl ?_
          refine Z_if_ge (tgt := 74) d_sc_insertProvision_66 (by decide) (fun h66 => ?_) (fun h66 => ?_)
          · skip
            exact absurd h66 (by decide) -- end
          · skip
            skip
            refine Zn_bipush (-7) d_sc_insertProvision_69 (by decide) ?_
            refine Z_goto (tgt := 88) d_sc_insertProvision_71 (by decide) ?_
            refine Z_iret d_sc_insertProvision_88 rfl ?_
            have hz : insP n e (nI j) t = (-7, none) := by
              unfold insP
              rw [if_pos t8, if_pos t17, if_pos h35, hr]
            rw [hz]
            exact ⟨rfl, rfl⟩
        · skip
          have hlb := aftl_lt hr (hkv.2.2 _ hl1 hl3)
          refine Zn_istore [some (.ref 0), some (.int (nI j)), some (.int t), some (.long (lN (keyOf n e (nI j)))), none, some (.int (nI lb))] d_sc_insertProvision_62 (by decide) rfl ?_
          refine Z_iload d_sc_insertProvision_64 rfl ?_
          refine Z_if_ge (tgt := 74) d_sc_insertProvision_66 (by decide) (fun h66 => ?_) (fun h66 => ?_)
          · skip
            skip
            refine Z_aload_n d_sc_insertProvision_74 rfl ?_
            refine Z_get d_sc_insertProvision_75 lf_sc_12 h0 rfl ?_
            refine Z_lload_n d_sc_insertProvision_78 rfl ?_
            refine Z_iload d_sc_insertProvision_79 rfl ?_
            refine zTe (As := [.long (lN (keyOf n e (nI j))), .int (nI lb)]) (by omega) d_sc_insertProvision_81 lm_sc_89 rfl (Nat.le_of_ble_eq_true rfl) (pa_siblingOf_ok (d + 2) hk9 hl1 (by omega)) ?_
            refine Z_iload_n d_sc_insertProvision_84 rfl ?_
            refine zV (As := [.long (lN (putl (keyOf n e (nI j)) (lev (keyOf n e (nI j))) lb)), .int t]) (by omega) d_sc_insertProvision_85 lm_sc_81 hS.1 rfl rfl (Nat.le_of_ble_eq_true rfl) (sta_createProvision_ok d hS (by omega) hn (by omega) hI.k (k := (putl (keyOf n e (nI j)) (lev (keyOf n e (nI j))) lb)) (by first | exact putl_63 hk9 (by omega) (by omega) (by omega))) (fun M1 v hq hlen => ?_)
            obtain ⟨rfl, e1, hS1, hF1, hk1, hp1, hs1⟩ := hq
            refine Z_iret d_sc_insertProvision_88 rfl ?_
            have hz : insP n e (nI j) t = (nI n, some (putl (keyOf n e (nI j)) (lev (keyOf n e (nI j))) lb)) := by
              unfold insP
              rw [if_pos t8, if_pos t17, if_pos h35, hr]
            rw [hz]
            exact ⟨rfl, e1, hS1, hF1, hp1, hs1⟩
          · skip
            exact absurd (Int32.not_lt.mp (nI_pos (by omega))) h66 -- end
      · skip
        skip
        refine Zn_bipush (-6) d_sc_insertProvision_38 (by decide) ?_
        refine Z_iret d_sc_insertProvision_40 rfl ?_
        have hz : insP n e (nI j) t = (-6, none) := by
          unfold insP
          rw [if_pos t8, if_pos t17, if_neg h35]
        rw [hz]
        exact ⟨rfl, rfl⟩
    · skip
      have t17 : tOk t = false := b10_f h17
      refine Zn_bipush (-5) d_sc_insertProvision_20 (by decide) ?_
      refine Z_iret d_sc_insertProvision_22 rfl ?_
      have hz : insP n e (nI j) t = (-5, none) := by
        unfold insP
        rw [if_pos t8, if_neg (fun z => absurd (t17.symm.trans z) (by decide))]
      rw [hz]
      exact ⟨rfl, rfl⟩
  · skip
    have t8 : hasP n x = false := b10_f h8
    refine Zn_iconst (-1) d_sc_insertProvision_11 (by decide) ?_
    refine Z_iret d_sc_insertProvision_12 rfl ?_
    have hz : insP n e x t = (-1, none) := by
      unfold insP
      rw [if_neg (fun z => absurd (t8.symm.trans z) (by decide))]
    rw [hz]
    exact ⟨rfl, rfl⟩
