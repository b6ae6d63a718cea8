/-! contracts: entry, ends, calls -/
def zMk (μ : zMe) : Prop := Cond.code μ.2.1 μ.2.2.1 μ.2.2.2.1 μ.2.2.2.2.1 ∈ zG ∧ Cond.initialized μ.2.1.cls ∈ zG ∧ plainFor μ.2.1 = true ∧ (μ.2.1.cls ≠ "java/lang/invoke/MethodHandle" ∧ μ.2.1.cls ≠ "java/lang/invoke/VarHandle") ∧ μ.2.1.cls = μ.1 ∧ μ.2.2.2.1 ≤ 45
def zLk (own : String) (idx n : Nat) (μ : zMe) : Prop := zMk μ ∧ (parseMethodDescriptor μ.2.1.desc).map (fun d => d.parameters.length) = some n ∧ (Cond.methodLink own idx μ.2.1 ∈ zG ∨ ∃ host, Cond.methodLinkNest own idx μ.2.1 host ∈ zN)
def zLv (own : String) (idx n : Nat) (μ : zMe) : Prop := zLk own idx n μ ∧ Cond.instanceMethod μ.2.1 ∈ zG ∧ Cond.selects μ.2.1.cls μ.2.1 μ.2.1 ∈ zG
def zLt (own : String) (idx n : Nat) (μ : zMe) : Prop := zLk own idx n μ ∧ Cond.static μ.2.1 ∈ zG
def zLi (own : String) (idx n : Nat) (μ : zMe) : Prop := zLk own idx n μ ∧ Cond.instanceMethod μ.2.1 ∈ zG ∧ μ.2.1.name = "<init>" ∧ μ.2.2.2.2.1 = none
section ZC
variable {Γ : zCtx} {R : Room} {μ : zMe} {Φ : zPhi} {kc ks pc : Nat} {ls : List (Option Value)} {st : List Value} {M : List zE}
theorem zPc_blind (Γ : zCtx) (args : List Value) (M : List zE) : FrameBlind (zPc Γ args M) := by
  intro a U g mk h
  obtain ⟨h1, h2, h3, h4, h5⟩ := h
  exact ⟨h1, h2.to (u := U) (U := U.calling g mk a) (State.WarmedH.refl U) (fun q _ _ => rfl) h2.2.2.2.2.2.2.2.2.1, h3, h4, h5⟩
theorem ZM.of {d : Nat} {args : List Value} {Q : List zE → Option Value → Prop} (hk : zMk μ) (hlen : (zEn args).length ≤ μ.2.2.2.1) (h : Z Γ (zRm d μ) μ (zPh Γ μ Q) 0 0 0 (zEn args) [] M) : ZM Γ d μ args M Q := by
  obtain ⟨hk1, hk2, hk3, hk4, hk5, hk6⟩ := hk
  unfold ZM MetD
  refine MetFree.of_bodySF (code := μ.2.2.1) (maxLocals := μ.2.2.2.1) (ret := μ.2.2.2.2.1) hk3 (fun av s m hpre hnm => ?_) (fun p e s m av below meth c s₁ B hml hv _ => ?_)
  · have hme := Cond.code_spec hnm (atoms_spec (ws := zWs μ) hpre (.code μ.2.1 μ.2.2.1 μ.2.2.2.1 μ.2.2.2.2.1) (by unfold zWs; simp))
    obtain ⟨me, co, hm1, hm2, hm3, hm4, hm5, hm6, _⟩ := hme
    exact ⟨me, co, hm1, hm2, hm3, hm4, hm5, hm6⟩
  · obtain ⟨rfl, hkb, hP, hsz, hn⟩ := hv
    have hts := atoms_spec (ws := zWs μ) B.pre
    have hown : s.vm.findClass μ.1 = some m.cls := by rw [← hk5]; exact findClass_of_methodNamed B.named
    have hs := hkb.2.2.2.2.2.2.2.2.2.2.2
    rw [lg_entry_eq]
    have hl := lv_entry (args.map (zv Γ)) (n := μ.2.2.2.1) (by rw [zEn_len hs]; exact hlen)
    have hz := h p e s m _ below meth c s.drawn s.heap [] _ ⟨B.exec, B.bytes, B.returns, hml, hown, fun w hw => hts w (List.mem_cons_of_mem _ hw), B.notSynchronized, (name_of_methodNamed B.named B.method).1, hkb⟩ (Drawn.sameBut.refl _ _) hP va_S.rf (by rw [hsz]; rfl) hn ⟨hl.1, hl.2.1, fun i v hi => by
      have h1 := zEn_args hs args 0 i v hi
      rw [Nat.zero_add] at h1
      exact hl.2.2 _ h1⟩
    have hend := hz s₁ (by rw [B.state]; rfl) (Stand.of_body B)
    obtain ⟨u, hgo, dr, hdr, oc, hrun, hout, hans, hfr⟩ := hend
    exact ⟨u, oc, hgo, hrun, hout, dr, hdr, hans, hfr⟩
theorem Z_iret {Q : List zE → Option Value → Prop} {x : Int32} (hd : decode μ.2.2.1 pc = .ok (.ireturn, 1)) (hr : μ.2.2.2.2.1 = some .int) (hq : Q M (some (.int x))) : Z Γ R μ (zPh Γ μ Q) μ.2.2.2.2.2.1 μ.2.2.2.2.2.2 pc ls [.int x] M := by
  intro p e s m args below meth c d0 H locs la hc hd0 hP hS hz hn hl
  obtain ⟨hx, hb, hrt, hml, hown, hts, hlk, hnm, hkb⟩ := hc
  refine W.endD hd0 ?_
  exact W.iret (s := s.setDrawn d0) hx hb (hrt.trans hr) (fun t ht hW => ⟨⟨some (.int x), M, rfl, hq, hz, hn, by rw [ht]; exact hP⟩, hS.F (s := s.setDrawn d0) ht⟩) hS.2.2 hd hlk
theorem Z_zret {Q : List zE → Option Value → Prop} {x : Int32} {ty : FieldType} (hd : decode μ.2.2.1 pc = .ok (.ireturn, 1)) (hr : μ.2.2.2.2.1 = some ty) (hnr : narrow ty (.int x) = .int x) (hq : Q M (some (.int x))) : Z Γ R μ (zPh Γ μ Q) μ.2.2.2.2.2.1 μ.2.2.2.2.2.2 pc ls [.int x] M := by
  intro p e s m args below meth c d0 H locs la hc hd0 hP hS hz hn hl
  obtain ⟨hx, hb, hrt, hml, hown, hts, hlk, hnm, hkb⟩ := hc
  refine W.endD hd0 ?_
  exact W.zret (s := s.setDrawn d0) hx hb (hrt.trans hr) hnr (fun t ht hW => ⟨⟨some (.int x), M, rfl, hq, hz, hn, by rw [ht]; exact hP⟩, hS.F (s := s.setDrawn d0) ht⟩) hS.2.2 hd hlk
theorem Z_lret {Q : List zE → Option Value → Prop} {x : Int64} (hd : decode μ.2.2.1 pc = .ok (.lreturn, 1)) (hr : μ.2.2.2.2.1 = some .long) (hq : Q M (some (.long x))) : Z Γ R μ (zPh Γ μ Q) μ.2.2.2.2.2.1 μ.2.2.2.2.2.2 pc ls [.long x] M := by
  intro p e s m args below meth c d0 H locs la hc hd0 hP hS hz hn hl
  obtain ⟨hx, hb, hrt, hml, hown, hts, hlk, hnm, hkb⟩ := hc
  refine W.endD hd0 ?_
  exact W.lret (s := s.setDrawn d0) hx hb (hrt.trans hr) (fun t ht hW => ⟨⟨some (.long x), M, rfl, hq, hz, hn, by rw [ht]; exact hP⟩, hS.F (s := s.setDrawn d0) ht⟩) hS.2.2 hd hlk
theorem Z_vret {Q : List zE → Option Value → Prop} (hd : decode μ.2.2.1 pc = .ok (.return_, 1)) (hr : μ.2.2.2.2.1 = none) (hq : Q M none) : Z Γ R μ (zPh Γ μ Q) μ.2.2.2.2.2.1 μ.2.2.2.2.2.2 pc ls [] M := by
  intro p e s m args below meth c d0 H locs la hc hd0 hP hS hz hn hl
  obtain ⟨hx, hb, hrt, hml, hown, hts, hlk, hnm, hkb⟩ := hc
  refine W.endD hd0 ?_
  exact W.vret (s := s.setDrawn d0) hx hb (hrt.trans hr) (fun t ht hW => ⟨⟨none, M, rfl, hq, hz, hn, by rw [ht]; exact hP⟩, hS.F (s := s.setDrawn d0) ht⟩) hS.2.2 hd hlk
theorem Z_aret {Q : List zE → Option Value → Prop} {x : Nat} {rt : FieldType} (hd : decode μ.2.2.1 pc = .ok (.areturn, 1)) (hr : μ.2.2.2.2.1 = some rt) (hrt : (∃ n, rt = .object n) ∨ ∃ t, rt = .array t) (hq : Q M (some (.ref x))) : Z Γ R μ (zPh Γ μ Q) μ.2.2.2.2.2.1 μ.2.2.2.2.2.2 pc ls [.ref x] M := by
  intro p e s m args below meth c d0 H locs la hc hd0 hP hS hz hn hl
  obtain ⟨hx, hb, hrt0, hml, hown, hts, hlk, hnm, hkb⟩ := hc
  refine W.endD hd0 ?_
  exact W.aret (s := s.setDrawn d0) (v := zv Γ (.ref x)) hx hb (hrt0.trans hr) hrt (zv_refs hkb.2.2.2.2.2.2.2.2.2.2.2 x) (fun t ht hW => ⟨⟨some (.ref x), M, rfl, hq, hz, hn, by rw [ht]; exact hP⟩, hS.F (s := s.setDrawn d0) ht⟩) hS.2.2 hd hlk
theorem z_size {p : Program} {e : Env} {s : State} {m : MethodId} {args : Array Value} {below : List Frame} {meth : Method} {c : Code} {d0 : Drawn} {H : Heap} {locs : List Loc} {T : State} (hkb : zKB Γ s) (hP : va_P (zD Γ) zCl (zw Γ M) H) (hS : va_S (zA Γ) s.heap H locs) (hz : s.heap.size + kc = zSz Γ + M.length) (hT : T.heap = H) (X : Stand p (zL Γ) e R (s.setDrawn d0) m args below meth c T locs kc ks) : H.size = zSz Γ + M.length := by
  have h1 : T.heap.size ≤ s.heap.size + kc := X.heapSize
  rw [hT] at h1
  have h2 : zSz Γ + M.length ≤ H.size := by
    cases hM : M.length with
    | zero => exact Nat.le_trans hkb.2.2.2.2.2.2.2.2.1 hS.1
    | succ n =>
      have hlt : n < M.length := by omega
      have h3 : M[n]? = some M[n] := List.getElem?_eq_getElem hlt
      have h4 : zSz Γ + n < H.size := (hP n _ (zw_get h3)).lt
      omega
  omega
theorem z_core {p : Program} {e : Env} {s : State} {m : MethodId} {args a : Array Value} {below : List Frame} {meth : Method} {c : Code} {d0 : Drawn} {H : Heap} {locs : List Loc} {la : Array Slot} {mc ms : Nat} {Q1 : List zE → Option Value → Prop} {stk : List Value}
    (hc : zAt Γ μ p s m args meth c) (hd0 : s.drawn.sameBut d0 lw_cs) (hP : va_P (zD Γ) zCl (zw Γ M) H) (hS : va_S (zA Γ) s.heap H locs) (hz : s.heap.size + kc = zSz Γ + M.length) (hl : zLs Γ la μ.2.2.2.1 ls)
    (hr : va_RunD lw_cs p (zL Γ) e R (s.setDrawn d0) m args below meth c H locs kc ks mc ms (F0 m pc la stk) (st.map (zv Γ)) (zQc Γ mc Q1 a) (zA Γ))
    (kk : ∀ (M1 : List zE) (v : Option Value), Q1 M1 v → M1.length = M.length + mc → Z Γ R μ Φ (kc + mc) (ks + ms) (pc + 3) ls (v.toList ++ st) M1) :
    W p (zL Γ) e R (s.setDrawn d0) m args below meth c H locs kc ks (Φ below args s) (F0 m pc la stk) := by
  intro T hT X
  have hsz := z_size hc.2.2.2.2.2.2.2.2 hP hS hz hT X
  obtain ⟨v, st₀, t, T', L, d', hd', h0, X', hL, e1, e2, ⟨⟨v', M1, hv, hq, hs1, hn1, hp1⟩, hz1, hk1⟩, stp⟩ := hr T hT X
  have hv' : v = v'.map (zv Γ) := by cases hv; rfl
  subst hv'
  rw [h0] at hs1 hz1 hk1
  have hlen : M1.length = M.length + mc := by omega
  have hstk : (v'.map (zv Γ)).toList ++ st.map (zv Γ) = (v'.toList ++ st).map (zv Γ) := by cases v' <;> rfl
  have w := kk M1 v' hq hlen p e s m args below meth c d' T'.heap (locs ++ L) la hc (hd0.trans hd') (by rw [e1]; exact hp1) ⟨by rw [e1]; exact Nat.le_trans hS.1 hz1, fun q h1 h2 => by rw [e1, hk1 q (Nat.lt_of_lt_of_le h1 hS.1) h2]; exact hS.2.1 q h1 h2, fun q hq => by
      rcases List.mem_append.mp hq with h | h
      · exact hS.2.2 q h
      · exact hL q h⟩ (by omega) hn1 hl
  rw [← hstk] at w
  obtain ⟨t2, a1, b1⟩ := w T' rfl X'
  exact ⟨t2, stp t2 a1, b1⟩
theorem z_pre {s U : State} {d0 : Drawn} {args : List Value} {H : Heap} {locs : List Loc} (hkb : zKB Γ s) (hP : va_P (zD Γ) zCl (zw Γ M) H) (hS : va_S (zA Γ) s.heap H locs) (hsz : H.size = zSz Γ + M.length) (hn : M.length ≤ 1000000) (hU : U.heap = H) (hW : (s.setDrawn d0).WarmedH U.vm) : zPc Γ args M (args.map (zv Γ)).toArray U :=
  ⟨rfl, hkb.to (u := s) hW (fun q h1 h2 => by rw [hU]; exact hS.2.1 q h1 h2) (by rw [hU, hsz]; omega), by rw [hU]; exact hP, by rw [hU]; exact hsz, hn⟩
theorem z_callB {μ' : zMe} {d idx n : Nat} {own : String} {s : State} {args : Array Value} {d0 : Drawn} (hts : ∀ w ∈ zG, w.before args s = true) (hk : zMk μ') (hpar : (parseMethodDescriptor μ'.2.1.desc).map (fun d => d.parameters.length) = some n) (hl : Cond.methodLink own idx μ'.2.1 ∈ zG) (hfr : d + 1 ≤ R.frames) (hlo : 64 * (d + 1) ≤ R.locals) :
    CallB R (s.setDrawn d0) args own idx μ'.2.1 μ'.2.2.1 μ'.2.2.2.1 μ'.2.2.2.2.1 (zWs μ') (zRm d μ') μ'.2.2.2.2.2.1 μ'.2.2.2.2.2.2 n := by
  obtain ⟨hk1, hk2, hk3, hk4, hk5, hk6⟩ := hk
  refine ⟨rfl, rfl, hfr, ?_, pay_in (dr_words hts d0) (zG_in _ hk1 zG (fun _ h => h)), List.mem_cons_self, dr_words hts d0 _ hk1, dr_words hts d0 _ hk2, hk4, fun sig h => ?_, dr_words hts d0 _ hl⟩
  · show 8 + (μ'.2.2.2.1 + 11) + 64 * d ≤ R.locals
    omega
  · rw [h] at hpar
    exact (Option.some.inj hpar).symm
theorem z_callN {μ' : zMe} {d idx n : Nat} {own host : String} {s : State} {args : Array Value} {d0 : Drawn} (hts : ∀ w ∈ zG, w.before args s = true) (hkb : zKB Γ s) (hk : zMk μ') (hpar : (parseMethodDescriptor μ'.2.1.desc).map (fun d => d.parameters.length) = some n) (hl : Cond.methodLinkNest own idx μ'.2.1 host ∈ zN) (hfr : d + 1 ≤ R.frames) (hlo : 64 * (d + 1) ≤ R.locals) :
    va_CN R (s.setDrawn d0) args own idx μ'.2.1 host μ'.2.2.1 μ'.2.2.2.1 μ'.2.2.2.2.1 (zWs μ') (zRm d μ') μ'.2.2.2.2.2.1 μ'.2.2.2.2.2.2 n := by
  obtain ⟨hk1, hk2, hk3, hk4, hk5, hk6⟩ := hk
  refine va_cnB n (dr_words hts d0) (zG_in _ hk1 zG (fun _ h => h)) rfl rfl rfl (va_Nw.same rfl rfl (hkb.2.1 _ hl)) (dr_words hts d0 _ hk2) ⟨hk4.1, hk4.2, hpar⟩ ⟨hfr, ?_⟩
  show 8 + (μ'.2.2.2.1 + 11) + 64 * d ≤ R.locals
  omega
theorem z_rest {st : List Value} (hs : ∀ k, zSp Γ k = .null ∨ ∃ a, zSp Γ k = .ref a) (h : (st.map fun v => v.category).sum ≤ 8) : ((st.map (zv Γ)).map fun v => v.category).sum ≤ 8 := by
  rw [List.map_map, show (fun v : Value => v.category) ∘ zv Γ = fun v => v.category from funext fun v => zv_cat hs v]
  exact h
/-- a call on an object whose cell is at hand -/
theorem z_callVr {μ' : zMe} {d idx k b : Nat} {As : List Value} {Q1 : List zE → Option Value → Prop} (hd : decode μ.2.2.1 pc = .ok (.invokevirtual idx, 3)) (hL : zLv μ.1 idx As.length μ') (hb0 : zv Γ (.ref k) = .ref b) (hrec : ∀ (s : State) (H : Heap) (locs : List Loc), zKB Γ s → va_P (zD Γ) zCl (zw Γ M) H → va_S (zA Γ) s.heap H locs → ∃ cellB : Cell, H[b]? = some cellB ∧ cellB.vm.isStatics = false ∧ s.vm.findClass μ'.2.1.cls = some cellB.cls) (hM : ZM Γ d μ' (.ref k :: As) M Q1)
    (hst : (st.map fun v => v.category).sum ≤ 8) (hfr : d + 1 ≤ R.frames) (hlo : 64 * (d + 1) ≤ R.locals) (hce : kc + μ'.2.2.2.2.2.1 ≤ R.cells) (hsl : ks + μ'.2.2.2.2.2.2 ≤ R.slots)
    (kk : ∀ (M1 : List zE) (v : Option Value), Q1 M1 v → M1.length = M.length + μ'.2.2.2.2.2.1 → Z Γ R μ Φ (kc + μ'.2.2.2.2.2.1) (ks + μ'.2.2.2.2.2.2) (pc + 3) ls (v.toList ++ st) M1) : Z Γ R μ Φ kc ks pc ls (As.reverse ++ .ref k :: st) M := by
  intro p e s m args below meth c d0 H locs la hc hd0 hP hS hz hn hl T hT X
  have hc0 := hc
  obtain ⟨hx, hb, hrt, hml, hown, hts, hlk, hnm, hkb⟩ := hc
  have hsz := z_size hkb hP hS hz hT X
  have hs := hkb.2.2.2.2.2.2.2.2.2.2.2
  obtain ⟨⟨hk, hpar, hlink⟩, hin, hsel⟩ := hL
  have hmap : (As.reverse ++ .ref k :: st).map (zv Γ) = (As.map (zv Γ)).reverse ++ .ref b :: st.map (zv Γ) := by
    rw [List.map_append, List.map_reverse, List.map_cons, hb0]
  have hpc : ∀ U : State, U.heap = H → (s.setDrawn d0).WarmedH U.vm → zPc Γ (.ref k :: As) M (Value.ref b :: As.map (zv Γ)).toArray U := fun U hU hW => by
    have h1 := z_pre (args := .ref k :: As) hkb hP hS hsz hn hU hW
    rw [List.map_cons, hb0] at h1
    exact h1
  have hrun : va_RunD lw_cs p (zL Γ) e R (s.setDrawn d0) m args below meth c H locs kc ks μ'.2.2.2.2.2.1 μ'.2.2.2.2.2.2 (F0 m pc la ((As.reverse ++ .ref k :: st).map (zv Γ))) (st.map (zv Γ)) (zQc Γ μ'.2.2.2.2.2.1 Q1 (Value.ref b :: As.map (zv Γ)).toArray) (zA Γ) := by
    rcases hlink with h | ⟨host, h⟩
    · exact va_runV_D (s := s.setDrawn d0) (Ts := zG) ⟨hx, hb, hml, hown, dr_words hts d0⟩ hM ⟨z_callB hts hk hpar h hfr hlo, dr_words hts d0 _ hin, dr_words hts d0 _ hsel⟩ ⟨zPc_blind _ _ _, hrec s H locs hkb hP hS, hpc⟩ rfl (List.length_map ..) hl.1 hmap (lv_room (z_rest hs hst)) hd ⟨hce, hsl⟩
    · exact va_runVN_D (s := s.setDrawn d0) (Ts := zG) ⟨hx, hb, hml, hown, dr_words hts d0⟩ hM ⟨z_callN hts hkb hk hpar h hfr hlo, dr_words hts d0 _ hin, dr_words hts d0 _ hsel⟩ ⟨zPc_blind _ _ _, hrec s H locs hkb hP hS, hpc⟩ rfl (List.length_map ..) hl.1 hmap (lv_room (z_rest hs hst)) hd ⟨hce, hsl⟩
  exact z_core hc0 hd0 hP hS hz hl hrun kk T hT X
theorem Z_callV {μ' : zMe} {d idx k ci N : Nat} {T0 : u_T} {fs As : List Value} {Q1 : List zE → Option Value → Prop} (hd : decode μ.2.2.1 pc = .ok (.invokevirtual idx, 3)) (hL : zLv μ.1 idx As.length μ') (hMk : M[k]? = some (.inr (ci, fs))) (hcl : zCl[ci]? = some (μ'.2.1.cls, T0, N)) (hM : ZM Γ d μ' (.ref k :: As) M Q1)
    (hst : (st.map fun v => v.category).sum ≤ 8) (hfr : d + 1 ≤ R.frames) (hlo : 64 * (d + 1) ≤ R.locals) (hce : kc + μ'.2.2.2.2.2.1 ≤ R.cells) (hsl : ks + μ'.2.2.2.2.2.2 ≤ R.slots)
    (kk : ∀ (M1 : List zE) (v : Option Value), Q1 M1 v → M1.length = M.length + μ'.2.2.2.2.2.1 → Z Γ R μ Φ (kc + μ'.2.2.2.2.2.1) (ks + μ'.2.2.2.2.2.2) (pc + 3) ls (v.toList ++ st) M1) : Z Γ R μ Φ kc ks pc ls (As.reverse ++ .ref k :: st) M := by
  intro p e s m args below meth c d0 H locs la hc hd0 hP hS hz hn hl
  have hk : k < 1000000 := Nat.lt_of_lt_of_le (z_lt hMk) hn
  exact z_callVr hd hL (zv_ref hk) (fun s H locs hkb hP hS => va_recv hkb.1 hP hcl (zw_get hMk)) hM hst hfr hlo hce hsl kk p e s m args below meth c d0 H locs la hc hd0 hP hS hz hn hl
theorem Z_callT {μ' : zMe} {d idx : Nat} {As : List Value} {Q1 : List zE → Option Value → Prop} (hd : decode μ.2.2.1 pc = .ok (.invokestatic idx, 3)) (hL : zLt μ.1 idx As.length μ') (hM : ZM Γ d μ' As M Q1)
    (hst : (st.map fun v => v.category).sum ≤ 8) (hfr : d + 1 ≤ R.frames) (hlo : 64 * (d + 1) ≤ R.locals) (hce : kc + μ'.2.2.2.2.2.1 ≤ R.cells) (hsl : ks + μ'.2.2.2.2.2.2 ≤ R.slots)
    (kk : ∀ (M1 : List zE) (v : Option Value), Q1 M1 v → M1.length = M.length + μ'.2.2.2.2.2.1 → Z Γ R μ Φ (kc + μ'.2.2.2.2.2.1) (ks + μ'.2.2.2.2.2.2) (pc + 3) ls (v.toList ++ st) M1) : Z Γ R μ Φ kc ks pc ls (As.reverse ++ st) M := by
  intro p e s m args below meth c d0 H locs la hc hd0 hP hS hz hn hl T hT X
  have hc0 := hc
  obtain ⟨hx, hb, hrt, hml, hown, hts, hlk, hnm, hkb⟩ := hc
  have hsz := z_size hkb hP hS hz hT X
  have hs := hkb.2.2.2.2.2.2.2.2.2.2.2
  obtain ⟨⟨hk, hpar, hlink⟩, hst0⟩ := hL
  have hmap : (As.reverse ++ st).map (zv Γ) = (As.map (zv Γ)).reverse ++ st.map (zv Γ) := by
    rw [List.map_append, List.map_reverse]
  have hpc : ∀ U : State, U.heap = H → (s.setDrawn d0).WarmedH U.vm → zPc Γ As M (As.map (zv Γ)).toArray U := fun U hU hW => z_pre (args := As) hkb hP hS hsz hn hU hW
  have hrun : va_RunD lw_cs p (zL Γ) e R (s.setDrawn d0) m args below meth c H locs kc ks μ'.2.2.2.2.2.1 μ'.2.2.2.2.2.2 (F0 m pc la ((As.reverse ++ st).map (zv Γ))) (st.map (zv Γ)) (zQc Γ μ'.2.2.2.2.2.1 Q1 (As.map (zv Γ)).toArray) (zA Γ) := by
    rcases hlink with h | ⟨host, h⟩
    · exact va_runS_D (s := s.setDrawn d0) (Ts := zG) ⟨hx, hb, hml, hown, dr_words hts d0⟩ hM ⟨z_callB hts hk hpar h hfr hlo, dr_words hts d0 _ hst0⟩ ⟨zPc_blind _ _ _, hpc⟩ rfl (List.length_map ..) hl.1 hmap (lv_room (z_rest hs hst)) hd ⟨hce, hsl⟩
    · exact va_runSN_D (s := s.setDrawn d0) (Ts := zG) ⟨hx, hb, hml, hown, dr_words hts d0⟩ hM ⟨z_callN hts hkb hk hpar h hfr hlo, dr_words hts d0 _ hst0, trivial⟩ ⟨zPc_blind _ _ _, hpc⟩ rfl (List.length_map ..) hl.1 hmap (lv_room (z_rest hs hst)) hd ⟨hce, hsl⟩
  exact z_core hc0 hd0 hP hS hz hl hrun kk T hT X
theorem Z_callI {μ' : zMe} {d idx k : Nat} {As : List Value} {Q1 : List zE → Option Value → Prop} (hd : decode μ.2.2.1 pc = .ok (.invokespecial idx, 3)) (hL : zLi μ.1 idx As.length μ') (hk0 : k < 1000000) (hM : ZM Γ d μ' (.ref k :: As) M Q1)
    (hst : (st.map fun v => v.category).sum ≤ 8) (hfr : d + 1 ≤ R.frames) (hlo : 64 * (d + 1) ≤ R.locals) (hce : kc + μ'.2.2.2.2.2.1 ≤ R.cells) (hsl : ks + μ'.2.2.2.2.2.2 ≤ R.slots)
    (kk : ∀ (M1 : List zE) (v : Option Value), Q1 M1 v → M1.length = M.length + μ'.2.2.2.2.2.1 → Z Γ R μ Φ (kc + μ'.2.2.2.2.2.1) (ks + μ'.2.2.2.2.2.2) (pc + 3) ls (v.toList ++ st) M1) : Z Γ R μ Φ kc ks pc ls (As.reverse ++ .ref k :: st) M := by
  intro p e s m args below meth c d0 H locs la hc hd0 hP hS hz hn hl T hT X
  have hc0 := hc
  obtain ⟨hx, hb, hrt, hml, hown, hts, hlk, hnm, hkb⟩ := hc
  have hsz := z_size hkb hP hS hz hT X
  have hs := hkb.2.2.2.2.2.2.2.2.2.2.2
  obtain ⟨⟨hk, hpar, hlink⟩, hin, hnam, hret⟩ := hL
  have hb0 := zv_ref (Γ := Γ) hk0
  have hmap : (As.reverse ++ .ref k :: st).map (zv Γ) = (As.map (zv Γ)).reverse ++ .ref (zSz Γ + k) :: st.map (zv Γ) := by
    rw [List.map_append, List.map_reverse, List.map_cons, hb0]
  have hpc : ∀ U : State, U.heap = H → (s.setDrawn d0).WarmedH U.vm → zPc Γ (.ref k :: As) M (Value.ref (zSz Γ + k) :: As.map (zv Γ)).toArray U := fun U hU hW => by
    have h1 := z_pre (args := .ref k :: As) hkb hP hS hsz hn hU hW
    rw [List.map_cons, hb0] at h1
    exact h1
  have hrun : va_RunD lw_cs p (zL Γ) e R (s.setDrawn d0) m args below meth c H locs kc ks μ'.2.2.2.2.2.1 μ'.2.2.2.2.2.2 (F0 m pc la ((As.reverse ++ .ref k :: st).map (zv Γ))) (st.map (zv Γ)) (zQc Γ μ'.2.2.2.2.2.1 Q1 (Value.ref (zSz Γ + k) :: As.map (zv Γ)).toArray) (zA Γ) := by
    rcases hlink with h | ⟨host, h⟩
    · have cb := z_callB (R := R) (d0 := d0) hts hk hpar h hfr hlo
      rw [hret] at cb
      exact va_runI_D (s := s.setDrawn d0) (Ts := zG) ⟨hx, hb, hml, hown, dr_words hts d0⟩ hM ⟨cb, hnam, dr_words hts d0 _ hin⟩ ⟨zPc_blind _ _ _, hpc⟩ rfl (List.length_map ..) hl.1 hmap (lv_room (z_rest hs hst)) hd ⟨hce, hsl⟩
    · have cb := z_callN (R := R) (d0 := d0) hts hkb hk hpar h hfr hlo
      rw [hret] at cb
      exact va_runIN_D (s := s.setDrawn d0) (Ts := zG) ⟨hx, hb, hml, hown, dr_words hts d0⟩ hM ⟨cb, hnam, dr_words hts d0 _ hin⟩ ⟨zPc_blind _ _ _, hpc⟩ rfl (List.length_map ..) hl.1 hmap (lv_room (z_rest hs hst)) hd ⟨hce, hsl⟩
  exact z_core hc0 hd0 hP hS hz hl hrun kk T hT X
end ZC
