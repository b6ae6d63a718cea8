/-! the law: its end, its script, its calls -/
/-- the law's body, under any name -/
abbrev mLaw (nm : String) : zMe := (m_law.1, ⟨m_law.2.1.cls, nm, m_law.2.1.desc⟩, m_law.2.2)
def lwP : zPhi := fun below args s => lw_Z below args s
theorem lw_retA {p : Program} {l : Launch} {e : Env} {s : State} {m : MethodId} {below : List Frame} {meth : Method} {c : Code} {args : Array Value} {d0 : Drawn} (hd0 : s.drawn.sameBut d0 lw_cs) (hx : p.tables.exec = Jvm.exec) (hb : c.code = code) (hr : meth.sig.returnType = ret) (hlocks : meth.locks = false) {pc : Nat} {H : Heap} {ls : Array Slot} (hdg : decode code pc = .ok (.ireturn, 1)) : W p l e room_1 (s.setDrawn d0) m args below meth c H [] 600000 7302250 (lw_Z below args s) (F0 m pc ls [.int 1]) := by
  intro T hT X
  obtain ⟨fs, hret, hrun, hended, hW, hframe⟩ := X.leave (v := some (.int 1)) (hlocks := hlocks) (fun h => by rw [hr] at h; cases h)
  have hmeth' : T.vm.method? m = some meth := X.method'
  refine ⟨T.setFrames fs, ?_, .returned (some (.int 1)), hrun, hended, rfl, lw_closed hd0 ⟨_, rfl⟩ hW hframe⟩
  jvm_step X.here [X.here.top, hx, hb, hdg, hmeth', hr, ret, narrow_b1]
  (try refine ⟨rfl, ?_⟩); (try refine ⟨rfl, ?_⟩)
  first | (intro acts; rw [hret _ acts rfl rfl rfl]) | rw [hret _ _ rfl rfl rfl]
  exact Steps.refl _
theorem Z_law1 {Γ : zCtx} {M : List zE} {ls : List (Option Value)} {ks : Nat} {nm : String} (hM : M.length = 167) (hk : ks ≤ 7302250) : Z Γ room_1 (mLaw nm) lwP 167 ks 1309 ls [.int 1] M := by
  intro p e s m args below meth c d0 H locs la hc hd0 hP hS hz hn hl
  obtain ⟨hx, hb, hrt, hml, hown, hts, hlk, hnm, hkb⟩ := hc
  have e1 : s.heap.size = zSz Γ := by omega
  refine va_forget (fun q hq => ?_) ?_
  · have := hS.2.2 q hq
    show s.heap.size ≤ q.base
    rw [e1]; exact this
  · refine W.widen (k := 600000) (n := 7302250) (by decide) hk ?_
    exact lw_retA hd0 hx hb hrt hlk d_law_1309
section ZLW
variable {Γ : zCtx} {R : Room} {μ : zMe} {Φ : zPhi} {kc ks pc : Nat} {ls : List (Option Value)} {st : List Value} {M : List zE}
theorem Zs_ld {L j : Nat} {xs : Nat → Int32} (hd : decode μ.2.2.1 pc = .ok (.iaload, 1)) (hs : (zScr Γ).2 = (L, xs)) (hj : j < L) (hL : L ≤ 2048) (kk : Z Γ R μ Φ kc ks (pc + 1) ls (.int (xs j) :: st) M) : Z Γ R μ Φ kc ks pc ls (.int (nI j) :: .ref 1000000 :: st) M :=
  Z_sld hd hs (zn_in hj (by omega)) (by rw [zn_cl (by omega)]; exact kk)
end ZLW
theorem law_gt {L i : Nat} (hL : L ≤ 2048) (hi : i ≤ 4096) (h : ¬ Int32.ofNat L - nI 4 < nI i) : i + 4 ≤ L := by
  by_cases h4 : 4 ≤ L
  · have e : Int32.ofNat L - nI 4 = nI (L - 4) := pk_sub (a := L) (b := 4) h4
    rw [e, zn_lt (by omega) (by omega)] at h
    omega
  · exfalso
    apply h
    have h0 : ¬ nI i < 0 := nI_pos (n := i) (by omega)
    have hneg : Int32.ofNat L - nI 4 < 0 := by
      rcases (show L = 0 ∨ L = 1 ∨ L = 2 ∨ L = 3 by omega) with rfl | rfl | rfl | rfl <;> decide
    exact Int32.lt_of_lt_of_le hneg (Int32.not_lt.mp h0)
