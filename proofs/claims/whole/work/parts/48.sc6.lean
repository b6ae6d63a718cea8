/-! references, differences, figures, snapshots -/
def tgO (n : Nat) (rc : Nat → Nat) (tg : Nat → Nat → Nat) : Prop := ∀ i, i < n → rc i ≤ 4 ∧ ∀ j, j < rc i → tg i j < 30
def rfA (n : Nat) (rc : Nat → Nat) (tg : Nat → Nat → Nat) (S : vSt) (o z : Int32) : Int32 := if hasP (rcO n rc o) z = true then oI (inF S.1 S.2.1 (nI (tg o.toNatClampNeg z.toNatClampNeg))) (-10) else -9
theorem rcO_lt {n : Nat} {rc : Nat → Nat} {tg : Nat → Nat → Nat} {o : Int32} {z : Nat} (h : tgO n rc tg) (hz : z < rcO n rc o) : ∃ j, j < n ∧ j < 2147483648 ∧ o = nI j ∧ rc j ≤ 4 ∧ rcO n rc o = rc j ∧ tg j z < 30 := by
  unfold rcO at hz ⊢
  cases hp : hasP n o with
  | false => rw [if_neg (by rw [hp]; decide)] at hz; omega
  | true =>
    obtain ⟨j, h1, h2, rfl⟩ := hasP_t hp
    rw [if_pos hp, zn_cl h2] at hz
    rw [if_pos rfl, zn_cl h2]
    exact ⟨j, h1, h2, rfl, (h j h1).1, rfl, (h j h1).2 z hz⟩
theorem rcO_le {n : Nat} {rc : Nat → Nat} {tg : Nat → Nat → Nat} {o : Int32} (h : tgO n rc tg) : rcO n rc o ≤ 4 := by
  unfold rcO
  cases hp : hasP n o with
  | false => rw [if_neg (by decide)]; omega
  | true =>
    obtain ⟨j, h1, h2, rfl⟩ := hasP_t hp
    rw [if_pos rfl, zn_cl h2]
    exact (h j h1).1
theorem inF_lt {n : Nat} {e : Nat → zEnt} {x : Int32} {i : Nat} (h : inF n e x = some i) : i < n := by
  unfold inF at h
  split at h
  · rename_i j hj
    split at h
    · cases h
    · cases h; exact (frst_some.mp hj).1
  · cases h
set_option maxHeartbeats 4000000 in
theorem sc_referenceAt_ok {Γ : zCtx} {M : List zE} (d : Nat) {sv : Bool} (h0 : ScO M sv) {n m : Nat} {e : Nat → zEnt} {rc : Nat → Nat} {tg : Nat → Nat → Nat} {dy sz kd pt gl : Nat → Nat} {tx : Nat → Int32} (hS : StAt M 1 n e rc tg m dy sz kd pt gl tx) (hn : n ≤ 30) (hc : cOk n e m dy sz kd pt gl) {S0 : vSt} (hV : VeS M 103 S0) (htg : tgO n rc tg) (x y z : Int32) : ZM Γ (d + 8) m_sc_referenceAt [.ref 0, .int x, .int y, .int z] M (vQ 103 M n e m dy sz kd pt gl tx x (.int (-4)) (fun S => .int (if hasP S.1 y = true then rfA n rc tg S (eo (S.2.1 y.toNatClampNeg)) z else -2))) := by
  refine ZM.of mk_sc_referenceAt (Nat.le_of_ble_eq_true rfl) ?_
  rw [show zEn [.ref 0, .int x, .int y, .int z] = [some (.ref 0), some (.int x), some (.int y), some (.int z)] from rfl]
  refine zPad 3 ?_
  show Z _ _ _ _ _ _ _ [some (.ref 0), some (.int x), some (.int y), some (.int z), none, none, none] _ _
  refine Z_aload_n d_sc_referenceAt_0 rfl ?_
  refine Z_iload_n d_sc_referenceAt_1 rfl ?_
  refine Z_iload_n d_sc_referenceAt_2 rfl ?_
  refine zV (As := [.int x, .int y]) (by omega) d_sc_referenceAt_3 lm_sc_145 h0 rfl rfl (Nat.le_of_ble_eq_true rfl) (sc_refusalAt_ok (d + 0) h0 hS hn hc hV x y) (fun M1 v hq hlen => ?_)
  rcases hq with ⟨hdf, hM, rfl⟩ | ⟨hdt, S, hV1, hF, hvo, hv⟩
  · skip
    subst hM
    refine Zn_istore [some (.ref 0), some (.int x), some (.int y), some (.int z), some (.int (-4)), none, none] d_sc_referenceAt_6 (by decide) rfl ?_
    refine Z_iload d_sc_referenceAt_8 rfl ?_
    refine Z_if_eq (tgt := 16) d_sc_referenceAt_10 (by decide) (fun h10 => ?_) (fun h10 => ?_)
    · skip
      exact absurd h10 (by decide) -- end
    · skip
      skip
      refine Z_iload d_sc_referenceAt_13 rfl ?_
      refine Z_iret d_sc_referenceAt_15 rfl ?_
      exact Or.inl ⟨hdf, rfl, rfl⟩
  · skip
    have h0 := h0.fr hF (by omega)
    have hS := hS.fr hF (by omega)
    have hV := hV1
    have hn6 := hvo.1.1
    dsimp only at hv
    rcases hp : hasP S.1 y with _ | _
    · skip
      rw [if_neg (by rw [hp]; decide)] at hv
      subst hv
      refine Zn_istore [some (.ref 0), some (.int x), some (.int y), some (.int z), some (.int (-2)), none, none] d_sc_referenceAt_6 (by decide) rfl ?_
      refine Z_iload d_sc_referenceAt_8 rfl ?_
      refine Z_if_eq (tgt := 16) d_sc_referenceAt_10 (by decide) (fun h10 => ?_) (fun h10 => ?_)
      · skip
        exact absurd h10 (by decide) -- end
      · skip
        skip
        refine Z_iload d_sc_referenceAt_13 rfl ?_
        refine Z_iret d_sc_referenceAt_15 rfl ?_
        refine Or.inr ⟨hdt, S, hV1, hF, hvo, ?_⟩
        dsimp only
        rw [if_neg (by rw [hp]; decide)]
    · skip
      rw [if_pos hp] at hv
      subst hv
      obtain ⟨k, hk, hk9, rfl⟩ := hasP_t hp
      refine Zn_istore [some (.ref 0), some (.int x), some (.int (nI k)), some (.int z), some (.int (nI 0)), none, none] d_sc_referenceAt_6 (by decide) rfl ?_
      refine Z_iload d_sc_referenceAt_8 rfl ?_
      refine Zn_if_eq (a := 0) (tgt := 16) d_sc_referenceAt_10 (by decide) (by decide) (fun _ => ?_) (fun h => absurd h (by decide))
      refine Z_aload_n d_sc_referenceAt_16 rfl ?_
      refine Z_get d_sc_referenceAt_17 lf_sc_40 h0 rfl ?_
      refine Z_get d_sc_referenceAt_20 lf_sc_142 hV.1 rfl ?_
      refine Z_get d_sc_referenceAt_23 lf_sc_163 hV.2.1.1 rfl ?_
      refine Z_iload_n d_sc_referenceAt_26 rfl ?_
      refine Zn_iald d_sc_referenceAt_27 hV.2.1.2.2.2.2.1 (by omega) (by omega) ?_
      refine Zn_istore [some (.ref 0), some (.int x), some (.int (nI k)), some (.int z), some (.int (nI 0)), some (.int (eo (S.2.1 k))), none] d_sc_referenceAt_28 (by decide) rfl ?_
      refine Z_iload_n d_sc_referenceAt_30 rfl ?_
      refine Z_if_lt (tgt := 47) d_sc_referenceAt_31 (by decide) (fun h31 => ?_) (fun h31 => ?_)
      · skip
        skip
        refine Zn_bipush (-9) d_sc_referenceAt_47 (by decide) ?_
        refine Z_iret d_sc_referenceAt_49 rfl ?_
        refine Or.inr ⟨hdt, S, hV1, hF, hvo, ?_⟩
        dsimp only
        rw [if_pos hp, zn_cl hk9]
        unfold rfA
        rw [if_neg (by rw [hasP_neg h31]; decide)]
      · skip
        skip
        refine Z_iload_n d_sc_referenceAt_34 rfl ?_
        refine Z_aload_n d_sc_referenceAt_35 rfl ?_
        refine Z_get d_sc_referenceAt_36 lf_sc_12 h0 rfl ?_
        refine Z_iload d_sc_referenceAt_39 rfl ?_
        refine zVe (As := [.int (eo (S.2.1 k))]) (by omega) d_sc_referenceAt_41 lm_sc_183 hS.1 rfl rfl (Nat.le_of_ble_eq_true rfl) (sta_rcX (d + 5) hS (by omega) hn (eo (S.2.1 k))) ?_
        refine Z_icmp_lt (tgt := 50) d_sc_referenceAt_44 (by decide) (fun h44 => ?_) (fun h44 => ?_)
        · skip
          have hp2 : hasP (rcO n rc (eo (S.2.1 k))) z = true := decide_eq_true ⟨h31, (lt_nI h31 (by have := rcO_le (o := eo (S.2.1 k)) htg; omega)).mp h44⟩
          obtain ⟨q, hq1, hq9, rfl⟩ := hasP_t hp2
          obtain ⟨j, hj1, hj9, hjo, hj4, hjr, hjt⟩ := rcO_lt htg hq1
          rw [hjr] at hq1
          refine Z_aload_n d_sc_referenceAt_50 rfl ?_
          refine Z_get d_sc_referenceAt_51 lf_sc_40 h0 rfl ?_
          refine Z_get d_sc_referenceAt_54 lf_sc_142 hV.1 rfl ?_
          refine Z_aload_n d_sc_referenceAt_57 rfl ?_
          refine Z_get d_sc_referenceAt_58 lf_sc_12 h0 rfl ?_
          refine Z_get d_sc_referenceAt_61 lf_sc_103 hS.1 rfl ?_
          refine Z_iload d_sc_referenceAt_64 rfl ?_
          rw [hjo]
          refine Zn_aald d_sc_referenceAt_66 hS.2.2.2.1 (by omega) (by omega) (if_pos (by omega)) (by omega) ?_
          refine Z_iload_n d_sc_referenceAt_67 rfl ?_
          refine Zn_iald d_sc_referenceAt_68 (hS.2.2.2.2.1 j (by omega)) (by omega) (by omega) ?_
          refine zVe (As := [.int (nI (tg j q))]) (by omega) d_sc_referenceAt_69 lm_sc_186 hV.2.1.1 rfl rfl (Nat.le_of_ble_eq_true rfl) (pv_positionInForce_ok (d + 5) hV.2.1 hn6 (nI_pos (by omega))) ?_
          rcases hr : inF S.1 S.2.1 (nI (tg j q)) with _ | i
          · skip
            refine Zn_istore [some (.ref 0), some (.int x), some (.int (nI k)), some (.int (nI q)), some (.int (nI 0)), some (.int (nI j)), some (.int (-1))] d_sc_referenceAt_72 (by decide) rfl ?_
            refine Z_iload d_sc_referenceAt_74 rfl ?_
            refine Z_if_ge (tgt := 84) d_sc_referenceAt_76 (by decide) (fun h76 => ?_) (fun h76 => ?_)
            · skip
              exact absurd h76 (by decide) -- end
            · skip
              skip
              refine Zn_bipush (-10) d_sc_referenceAt_79 (by decide) ?_
              refine Z_goto (tgt := 86) d_sc_referenceAt_81 (by decide) ?_
              refine Z_iret d_sc_referenceAt_86 rfl ?_
              refine Or.inr ⟨hdt, S, hV1, hF, hvo, ?_⟩
              dsimp only
              rw [if_pos hp, zn_cl hk9]
              unfold rfA
              rw [if_pos hp2, hjo, zn_cl hj9, zn_cl hq9, hr]
              rfl
          · skip
            have hi := inF_lt hr
            refine Zn_istore [some (.ref 0), some (.int x), some (.int (nI k)), some (.int (nI q)), some (.int (nI 0)), some (.int (nI j)), some (.int (nI i))] d_sc_referenceAt_72 (by decide) rfl ?_
            refine Z_iload d_sc_referenceAt_74 rfl ?_
            refine Z_if_ge (tgt := 84) d_sc_referenceAt_76 (by decide) (fun h76 => ?_) (fun h76 => ?_)
            · skip
              skip
              refine Z_iload d_sc_referenceAt_84 rfl ?_
              refine Z_iret d_sc_referenceAt_86 rfl ?_
              refine Or.inr ⟨hdt, S, hV1, hF, hvo, ?_⟩
              dsimp only
              rw [if_pos hp, zn_cl hk9]
              unfold rfA
              rw [if_pos hp2, hjo, zn_cl hj9, zn_cl hq9, hr]
              rfl
            · skip
              exact absurd (Int32.not_lt.mp (nI_pos (by omega))) h76 -- end
        · skip
          skip
          refine Zn_bipush (-9) d_sc_referenceAt_47 (by decide) ?_
          refine Z_iret d_sc_referenceAt_49 rfl ?_
          refine Or.inr ⟨hdt, S, hV1, hF, hvo, ?_⟩
          dsimp only
          rw [if_pos hp, zn_cl hk9]
          unfold rfA
          rw [if_neg (fun zz => h44 ((lt_nI (n := rcO n rc (eo (S.2.1 k))) h31 (by have := rcO_le (o := eo (S.2.1 k)) htg; omega)).mpr (of_decide_eq_true zz).2))]
def dgN (tg : Nat → Nat → Nat) (S : vSt) (j : Nat) : Nat → Nat
  | 0 => 0
  | i + 1 => dgN tg S j i + (if (inF S.1 S.2.1 (nI (tg j i))).isNone = true then 1 else 0)
theorem dgN_le (tg : Nat → Nat → Nat) (S : vSt) (j : Nat) : ∀ i, dgN tg S j i ≤ i
  | 0 => Nat.le_refl _
  | i + 1 => by have := dgN_le tg S j i; unfold dgN; split <;> omega
def dgO (n : Nat) (rc : Nat → Nat) (tg : Nat → Nat → Nat) (S : vSt) (o : Int32) : Nat := dgN tg S o.toNatClampNeg (rcO n rc o)
set_option maxHeartbeats 4000000 in
theorem sc_dg_loop {Γ : zCtx} {M : List zE} (d : Nat) {sv : Bool} (h0 : ScO M sv) {n m : Nat} {e : Nat → zEnt} {rc : Nat → Nat} {tg : Nat → Nat → Nat} {dy sz kd pt gl : Nat → Nat} {tx : Nat → Int32} (hS : StAt M 1 n e rc tg m dy sz kd pt gl tx) (hn : n ≤ 30) {S : vSt} (hV : VeS M 103 S) (hn6 : S.1 ≤ 60) (htg : tgO n rc tg) {o : Int32} : ∀ (f i : Nat), i ≤ rcO n rc o → rcO n rc o < i + f → ∀ Q : List zE → Option Value → Prop, Q M (some (.int (nI (dgO n rc tg S o)))) → Z Γ (zRm (d + 3) m_sc_danglingReferencesOf) m_sc_danglingReferencesOf (zPh Γ m_sc_danglingReferencesOf Q) 0 0 14 [some (.ref 0), some (.int o), some (.int (nI (dgN tg S o.toNatClampNeg i))), some (.int (nI (rcO n rc o))), some (.int (nI i))] [] M := by
  intro f
  induction f with
  | zero => intro i h1 h2; exact absurd h2 (by omega)
  | succ f ih =>
    intro i h1 hf Q hQ
    have hr4 := rcO_le (o := o) htg
    refine Z_iload d_sc_danglingReferencesOf_14 rfl ?_
    refine Z_iload_n d_sc_danglingReferencesOf_16 rfl ?_
    skip
    refine Zn_icmp_ge (tgt := 54) d_sc_danglingReferencesOf_17 (by decide) (by omega) (by omega) (fun h17 => ?_) (fun h17 => ?_)
    · skip
      have hi : i = rcO n rc o := by omega
      subst hi
      refine Z_iload_n d_sc_danglingReferencesOf_54 rfl ?_
      refine Z_iret d_sc_danglingReferencesOf_55 rfl ?_
      exact hQ
    · skip
      have hi4 : i < rcO n rc o := by omega
      obtain ⟨j, hj1, hj9, rfl, hj4, hjr, hjt⟩ := rcO_lt htg hi4
      refine Z_aload_n d_sc_danglingReferencesOf_20 rfl ?_
      refine Z_get d_sc_danglingReferencesOf_21 lf_sc_40 h0 rfl ?_
      refine Z_get d_sc_danglingReferencesOf_24 lf_sc_142 hV.1 rfl ?_
      refine Z_aload_n d_sc_danglingReferencesOf_27 rfl ?_
      refine Z_get d_sc_danglingReferencesOf_28 lf_sc_12 h0 rfl ?_
      refine Z_get d_sc_danglingReferencesOf_31 lf_sc_103 hS.1 rfl ?_
      refine Z_iload_n d_sc_danglingReferencesOf_34 rfl ?_
      refine Zn_aald d_sc_danglingReferencesOf_35 hS.2.2.2.1 (by omega) (by omega) (if_pos (by omega)) (by omega) ?_
      refine Z_iload d_sc_danglingReferencesOf_36 rfl ?_
      refine Zn_iald d_sc_danglingReferencesOf_38 (hS.2.2.2.2.1 j (by omega)) (by omega) (by omega) ?_
      refine zVe (As := [.int (nI (tg j i))]) (by omega) d_sc_danglingReferencesOf_39 lm_sc_186 hV.2.1.1 rfl rfl (Nat.le_of_ble_eq_true rfl) (pv_positionInForce_ok (d + 0) hV.2.1 hn6 (nI_pos (by omega))) ?_
      rcases hr : inF S.1 S.2.1 (nI (tg j i)) with _ | u
      · skip
        refine Z_if_ge (tgt := 48) d_sc_danglingReferencesOf_42 (by decide) (fun h42 => ?_) (fun h42 => ?_)
        · skip
          exact absurd h42 (by decide) -- end
        · skip
          skip
          refine Zn_iinc [some (.ref 0), some (.int (nI j)), some (.int (nI ((dgN tg S (nI j).toNatClampNeg i) + 1))), some (.int (nI (rcO n rc (nI j)))), some (.int (nI i))] (nI ((dgN tg S (nI j).toNatClampNeg i) + 1)) d_sc_danglingReferencesOf_45 rfl (by decide) (nI_add (dgN tg S (nI j).toNatClampNeg i) 1) rfl ?_
          have hdl := dgN_le tg S j i
          refine Zn_iinc [some (.ref 0), some (.int (nI j)), some (.int (nI ((dgN tg S (nI j).toNatClampNeg i) + 1))), some (.int (nI (rcO n rc (nI j)))), some (.int (nI (i + 1)))] (nI (i + 1)) d_sc_danglingReferencesOf_48 rfl (by decide) (nI_add i 1) rfl ?_
          refine Z_goto (tgt := 14) d_sc_danglingReferencesOf_51 (by decide) ?_
          rw [show nI (dgN tg S (nI j).toNatClampNeg i + 1) = nI (dgN tg S (nI j).toNatClampNeg (i + 1)) from by rw [zn_cl hj9, dgN, hr]; rfl]
          exact ih (i + 1) (by omega) (by omega) Q hQ
      · skip
        have hu := inF_lt hr
        refine Z_if_ge (tgt := 48) d_sc_danglingReferencesOf_42 (by decide) (fun h42 => ?_) (fun h42 => ?_)
        · skip
          skip
          have hdl := dgN_le tg S j i
          refine Zn_iinc [some (.ref 0), some (.int (nI j)), some (.int (nI (dgN tg S (nI j).toNatClampNeg i))), some (.int (nI (rcO n rc (nI j)))), some (.int (nI (i + 1)))] (nI (i + 1)) d_sc_danglingReferencesOf_48 rfl (by decide) (nI_add i 1) rfl ?_
          refine Z_goto (tgt := 14) d_sc_danglingReferencesOf_51 (by decide) ?_
          rw [show nI (dgN tg S (nI j).toNatClampNeg i) = nI (dgN tg S (nI j).toNatClampNeg (i + 1)) from by rw [zn_cl hj9, dgN, hr]; rfl]
          exact ih (i + 1) (by omega) (by omega) Q hQ
        · skip
          exact absurd (Int32.not_lt.mp (nI_pos (by omega))) h42 -- end
set_option maxHeartbeats 4000000 in
theorem sc_dg_ok {Γ : zCtx} {M : List zE} (d : Nat) {sv : Bool} (h0 : ScO M sv) {n m : Nat} {e : Nat → zEnt} {rc : Nat → Nat} {tg : Nat → Nat → Nat} {dy sz kd pt gl : Nat → Nat} {tx : Nat → Int32} (hS : StAt M 1 n e rc tg m dy sz kd pt gl tx) (hn : n ≤ 30) {S : vSt} (hV : VeS M 103 S) (hn6 : S.1 ≤ 60) (htg : tgO n rc tg) (o : Int32) : ZM Γ (d + 3) m_sc_danglingReferencesOf [.ref 0, .int o] M (zEq M (some (.int (nI (dgO n rc tg S o))))) := by
  refine ZM.of mk_sc_danglingReferencesOf (Nat.le_of_ble_eq_true rfl) ?_
  rw [show zEn [.ref 0, .int o] = [some (.ref 0), some (.int o)] from rfl]
  refine zPad 3 ?_
  show Z _ _ _ _ _ _ _ [some (.ref 0), some (.int o), none, none, none] _ _
  refine Zn_iconst (nI 0) d_sc_danglingReferencesOf_0 (by decide) ?_
  refine Zn_istore_n [some (.ref 0), some (.int o), some (.int (nI 0)), none, none] d_sc_danglingReferencesOf_1 (by decide) rfl ?_
  refine Z_aload_n d_sc_danglingReferencesOf_2 rfl ?_
  refine Z_get d_sc_danglingReferencesOf_3 lf_sc_12 h0 rfl ?_
  refine Z_iload_n d_sc_danglingReferencesOf_6 rfl ?_
  refine zVe (As := [.int o]) (by omega) d_sc_danglingReferencesOf_7 lm_sc_183 hS.1 rfl rfl (Nat.le_of_ble_eq_true rfl) (sta_rcX (d + 0) hS (by omega) hn o) ?_
  refine Zn_istore_n [some (.ref 0), some (.int o), some (.int (nI 0)), some (.int (nI (rcO n rc o))), none] d_sc_danglingReferencesOf_10 (by decide) rfl ?_
  refine Zn_iconst (nI 0) d_sc_danglingReferencesOf_11 (by decide) ?_
  refine Zn_istore [some (.ref 0), some (.int o), some (.int (nI 0)), some (.int (nI (rcO n rc o))), some (.int (nI 0))] d_sc_danglingReferencesOf_12 (by decide) rfl ?_
  exact sc_dg_loop d h0 hS hn hV hn6 htg (rcO n rc o + 1) 0 (by omega) (by omega) _ ⟨rfl, rfl⟩
def dgS (n : Nat) (rc : Nat → Nat) (tg : Nat → Nat → Nat) (S : vSt) : Nat → Nat
  | 0 => 0
  | i + 1 => if er (S.2.1 i) = true then dgS n rc tg S i else dgS n rc tg S i + dgO n rc tg S (eo (S.2.1 i))
theorem dgO_le {n : Nat} {rc : Nat → Nat} {tg : Nat → Nat → Nat} {S : vSt} {o : Int32} (h : tgO n rc tg) : dgO n rc tg S o ≤ 4 := Nat.le_trans (dgN_le _ _ _ _) (rcO_le h)
set_option maxHeartbeats 4000000 in
theorem sc_dgc_loop {Γ : zCtx} {M : List zE} (d : Nat) {sv : Bool} (h0 : ScO M sv) {n m : Nat} {e : Nat → zEnt} {rc : Nat → Nat} {tg : Nat → Nat → Nat} {dy sz kd pt gl : Nat → Nat} {tx : Nat → Int32} (hS : StAt M 1 n e rc tg m dy sz kd pt gl tx) (hn : n ≤ 30) {S : vSt} (hV : VeS M 103 S) (hn6 : S.1 ≤ 60) (htg : tgO n rc tg) {x : Int32} : ∀ (f i : Nat), i ≤ S.1 → S.1 < i + f → ∀ Q : List zE → Option Value → Prop, Q M (some (.int (nI (dgS n rc tg S S.1)))) → Z Γ (zRm (d + 7) m_sc_danglingCount) m_sc_danglingCount (zPh Γ m_sc_danglingCount Q) 0 0 22 [some (.ref 0), some (.int x), some (.int (nI (dgS n rc tg S i))), some (.int (nI i))] [] M := by
  intro f
  induction f with
  | zero => intro i h1 h2; exact absurd h2 (by omega)
  | succ f ih =>
    intro i h1 hf Q hQ
    refine Z_iload_n d_sc_danglingCount_22 rfl ?_
    refine Z_aload_n d_sc_danglingCount_23 rfl ?_
    refine Z_get d_sc_danglingCount_24 lf_sc_40 h0 rfl ?_
    refine Z_get d_sc_danglingCount_27 lf_sc_142 hV.1 rfl ?_
    refine Z_get d_sc_danglingCount_30 lf_sc_68 hV.2.1.1 rfl ?_
    refine Zn_icmp_ge (tgt := 76) d_sc_danglingCount_33 (by decide) (by omega) (by omega) (fun h33 => ?_) (fun h33 => ?_)
    · skip
      have hi : i = S.1 := by omega
      subst hi
      refine Z_iload_n d_sc_danglingCount_76 rfl ?_
      refine Z_iret d_sc_danglingCount_77 rfl ?_
      exact hQ
    · skip
      refine Z_aload_n d_sc_danglingCount_36 rfl ?_
      refine Z_get d_sc_danglingCount_37 lf_sc_40 h0 rfl ?_
      refine Z_get d_sc_danglingCount_40 lf_sc_142 hV.1 rfl ?_
      refine Z_get d_sc_danglingCount_43 lf_sc_153 hV.2.1.1 rfl ?_
      refine Z_iload_n d_sc_danglingCount_46 rfl ?_
      refine Zn_zald d_sc_danglingCount_47 hV.2.1.2.2.2.1 (by omega) (by omega) ?_
      refine Z_if_ne (tgt := 70) d_sc_danglingCount_48 (by decide) (fun h48 => ?_) (fun h48 => ?_)
      · skip
        have r48 : er (S.2.1 i) = true := by
          cases hh : er (S.2.1 i) with
          | true => rfl
          | false => exact absurd (bI_0.mpr hh) h48
        refine Zn_iinc [some (.ref 0), some (.int x), some (.int (nI (dgS n rc tg S i))), some (.int (nI (i + 1)))] (nI (i + 1)) d_sc_danglingCount_70 rfl (by decide) (nI_add i 1) rfl ?_
        refine Z_goto (tgt := 22) d_sc_danglingCount_73 (by decide) ?_
        rw [show nI (dgS n rc tg S i) = nI (dgS n rc tg S (i + 1)) from by rw [dgS, if_pos r48]]
        exact ih (i + 1) (by omega) (by omega) Q hQ
      · skip
        have r48 : er (S.2.1 i) = false := bI_0.mp h48
        refine Z_iload_n d_sc_danglingCount_51 rfl ?_
        refine Z_aload_n d_sc_danglingCount_52 rfl ?_
        refine Z_aload_n d_sc_danglingCount_53 rfl ?_
        refine Z_get d_sc_danglingCount_54 lf_sc_40 h0 rfl ?_
        refine Z_get d_sc_danglingCount_57 lf_sc_142 hV.1 rfl ?_
        refine Z_get d_sc_danglingCount_60 lf_sc_163 hV.2.1.1 rfl ?_
        refine Z_iload_n d_sc_danglingCount_63 rfl ?_
        refine Zn_iald d_sc_danglingCount_64 hV.2.1.2.2.2.2.1 (by omega) (by omega) ?_
        refine zVe (As := [.int (eo (S.2.1 i))]) (by omega) d_sc_danglingCount_65 lm_sc_189 h0 rfl rfl (Nat.le_of_ble_eq_true rfl) (sc_dg_ok (d + 0) h0 hS hn hV hn6 htg (eo (S.2.1 i))) ?_
        refine Zn_iadd d_sc_danglingCount_68 ?_
        refine Zn_istore_n [some (.ref 0), some (.int x), some (.int (nI ((dgS n rc tg S i) + (dgO n rc tg S (eo (S.2.1 i)))))), some (.int (nI i))] d_sc_danglingCount_69 (by decide) rfl ?_
        refine Zn_iinc [some (.ref 0), some (.int x), some (.int (nI ((dgS n rc tg S i) + (dgO n rc tg S (eo (S.2.1 i)))))), some (.int (nI (i + 1)))] (nI (i + 1)) d_sc_danglingCount_70 rfl (by decide) (nI_add i 1) rfl ?_
        refine Z_goto (tgt := 22) d_sc_danglingCount_73 (by decide) ?_
        rw [show nI ((dgS n rc tg S i) + (dgO n rc tg S (eo (S.2.1 i)))) = nI (dgS n rc tg S (i + 1)) from by rw [dgS, if_neg (by rw [r48]; decide)]]
        exact ih (i + 1) (by omega) (by omega) Q hQ
set_option maxHeartbeats 4000000 in
theorem sc_danglingCount_ok {Γ : zCtx} {M : List zE} (d : Nat) {sv : Bool} (h0 : ScO M sv) {n m : Nat} {e : Nat → zEnt} {rc : Nat → Nat} {tg : Nat → Nat → Nat} {dy sz kd pt gl : Nat → Nat} {tx : Nat → Int32} (hS : StAt M 1 n e rc tg m dy sz kd pt gl tx) (hn : n ≤ 30) (hc : cOk n e m dy sz kd pt gl) {S0 : vSt} (hV : VeS M 103 S0) (htg : tgO n rc tg) (x : Int32) : ZM Γ (d + 7) m_sc_danglingCount [.ref 0, .int x] M (vQ 103 M n e m dy sz kd pt gl tx x (.int (-4)) (fun S => .int (nI (dgS n rc tg S S.1)))) := by
  refine ZM.of mk_sc_danglingCount (Nat.le_of_ble_eq_true rfl) ?_
  rw [show zEn [.ref 0, .int x] = [some (.ref 0), some (.int x)] from rfl]
  refine zPad 2 ?_
  show Z _ _ _ _ _ _ _ [some (.ref 0), some (.int x), none, none] _ _
  refine Z_aload_n d_sc_danglingCount_0 rfl ?_
  refine Z_get d_sc_danglingCount_1 lf_sc_40 h0 rfl ?_
  refine Z_aload_n d_sc_danglingCount_4 rfl ?_
  refine Z_get d_sc_danglingCount_5 lf_sc_12 h0 rfl ?_
  refine Z_iload_n d_sc_danglingCount_8 rfl ?_
  refine zV (As := [.ref 1, .int x]) (by omega) d_sc_danglingCount_9 lm_sc_138 hV.1 rfl rfl (Nat.le_of_ble_eq_true rfl) (ver_cmp (d + 0) hV hS hn (by omega) hc x) (fun M1 v hq hlen => ?_)
  rcases hq with ⟨hdf, hM, rfl⟩ | ⟨hdt, S, hV1, hF, hvo, rfl⟩
  · skip
    subst hM
    refine Zn_if_ne (a := 0) (tgt := 18) d_sc_danglingCount_12 (by decide) (by decide) (fun h => absurd h (by decide)) (fun _ => ?_)
    refine Zn_bipush (-4) d_sc_danglingCount_15 (by decide) ?_
    refine Z_iret d_sc_danglingCount_17 rfl ?_
    exact Or.inl ⟨hdf, rfl, rfl⟩
  · skip
    have h0 := h0.fr hF (by omega)
    have hS := hS.fr hF (by omega)
    have hV := hV1
    have hn6 := hvo.1.1
    refine Zn_if_ne (a := 1) (tgt := 18) d_sc_danglingCount_12 (by decide) (by decide) (fun _ => ?_) (fun h => absurd h (by decide))
    refine Zn_iconst (nI 0) d_sc_danglingCount_18 (by decide) ?_
    refine Zn_istore_n [some (.ref 0), some (.int x), some (.int (nI 0)), none] d_sc_danglingCount_19 (by decide) rfl ?_
    refine Zn_iconst (nI 0) d_sc_danglingCount_20 (by decide) ?_
    refine Zn_istore_n [some (.ref 0), some (.int x), some (.int (nI 0)), some (.int (nI 0))] d_sc_danglingCount_21 (by decide) rfl ?_
    exact sc_dgc_loop (d + 0) h0 hS hn hV hn6 htg (S.1 + 1) 0 (by omega) (by omega) _ (Or.inr ⟨hdt, S, hV1, hF, hvo, rfl⟩)
