section LAWR
variable {G : Gl} {S : Sh} {C : Cx} {Z : State → Prop} {k w n : Nat} {pc : Nat} {ls : List (Option V)} {st : List V} {M : Mem} {y : Mt}
theorem R_widen {k' w' : Nat} (h1 : k ≤ k') (h2 : w ≤ w') (kk : RZ G S C Z k' w' n pc ls st M) : RZ G S C Z k w n pc ls st M :=
  fun H locs ar hp hs hm hl hv ha => W.widen h1 h2 (kk H locs ar hp hs hm hl hv ha)
/-- the script: L ints, at the constant handle 1030 -/
def SCR (G : Gl) (C : Cx) (xs : Nat → Int32) (L : Nat) : Prop := va_X (G.1 1030) L xs C.2.2.2.2.1 C.2.2.2.2.1.heap ∧ G.1 1030 < C.2.2.2.2.1.heap.size ∧ ¬ aA G (G.1 1030) ∧ L ≤ 3072
def xv (xs : Nat → Int32) (j : Int) : Int := (xs j.toNat).toInt
theorem R_slen {xs : Nat → Int32} {L : Nat} (hC : CxOK G y C) (hX : SCR G C xs L) (hd : decode y.2.1 pc = .ok (.arraylength, 1)) (kk : RZ G S C Z k w n (pc + 1) ls (vI L :: st) M) : RZ G S C Z k w n pc ls (vR 1030 :: st) M := by
  intro H locs ar hp hs hm hl hv ha
  have e : Int32.ofNat L = Int32.ofInt (L : Int) := by first | rfl | exact Int32.ofInt_eq_ofNat.symm | simp
  refine va_slen hC.1 hC.2.1 hX.1 hX.2.1 hX.2.2.1 hs hd ?_
  rw [e]
  exact kk H locs ar hp hs hm hl ⟨⟨by omega, by have := hX.2.2.2; omega⟩, hv.2⟩ ha
theorem R_sld {xs : Nat → Int32} {L : Nat} {j : Int} (hC : CxOK G y C) (hX : SCR G C xs L) (hd : decode y.2.1 pc = .ok (.iaload, 1)) (h0 : 0 ≤ j) (h1 : j < L) (kk : RZ G S C Z k w n (pc + 1) ls (vI (xv xs j) :: st) M) : RZ G S C Z k w n pc ls (vI j :: vR 1030 :: st) M := by
  intro H locs ar hp hs hm hl hv ha
  refine va_sld hC.1 hC.2.1 hX.1 hX.2.1 hX.2.2.1 hs (i_in hv.1 h0 h1) hd ?_
  rw [i_cl hv.1]
  have e : enc G (vI (xv xs j)) = .int (xs j.toNat) := by
    show Value.int (Int32.ofInt (xs j.toNat).toInt) = _
    rw [Int32.ofInt_toInt]
  rw [← e]
  exact kk H locs ar hp hs hm hl ⟨inI_of _, hv.2.2⟩ ha
/-- script[i + q] -/
theorem R_arg {xs : Nat → Int32} {L : Nat} {i q : Int} {l1 l2 l3 : Option V} (hC : CxOK G y C) (hX : SCR G C xs L) (h0 : 0 ≤ i) (hq : 0 ≤ q) (h1 : i + q < L) (d0 : decode y.2.1 pc = .ok (.aload_n 0, 1)) (d1 : decode y.2.1 (pc + 1) = .ok (.iload 4, 2)) (d3 : decode y.2.1 (pc + 3) = .ok (.iconst q, 1)) (d4 : decode y.2.1 (pc + 4) = .ok (.iadd, 1)) (d5 : decode y.2.1 (pc + 5) = .ok (.iaload, 1))
    (kk : RZ G S C Z k w n (pc + 6) (some (vR 1030) :: l1 :: l2 :: l3 :: some (vI i) :: ls) (vI (xv xs (i + q)) :: st) M) : RZ G S C Z k w n pc (some (vR 1030) :: l1 :: l2 :: l3 :: some (vI i) :: ls) st M := by
  have hL := hX.2.2.2
  refine R_aload_0 hC d0 (R_iload_4 hC d1 (R_iconst hC d3 ⟨by omega, by omega⟩ (R_iadd hC d4 ⟨by omega, by omega⟩ (R_sld hC hX d5 (by omega) h1 kk))))
theorem R_callL {d na idx h ci nf : Nat} {z : Mt} {as : List V} {st0 : List V} {P : Int → Mem → Prop} (hC : CxOK G y C) (hrm : C.2.2.2.1 = room_1) (hct : Ct G S n C.2.1 d z (vR h :: as) M (RP P)) (hd : decode y.2.1 pc = .ok (.invokevirtual idx, 3)) (hz : MO z na false) (hlk : Cond.methodLink y.1.cls idx z.1 ∈ Ts)
    (hh : h < n) (hk : S.1 h = (ci, nf)) (hci : (vwCl[ci]?).map (fun q => q.1) = some z.1.cls) (hst : st0 = as.reverse ++ vR h :: st) (hna : as.length = na) (hdd : d ≤ 40) (hmx : z.2.2.1 ≤ 21) (hkw : k ≤ 601024 ∧ w ≤ 7293034) (hcat : (st.map vcat).sum ≤ 8)
    (kk : ∀ (v : Int) (M' : Mem), P v M' → RZ G S C Z k w n (pc + 3) ls (vI v :: st) M') : RZ G S C Z k w n pc ls st0 M :=
  R_callV hC hd hz hlk hh hk hci hct hst hna (by rw [hrm]; exact ⟨by show d + 1 ≤ 2048; omega, by show _ ≤ 84000; omega, hkw.1, hkw.2⟩) hcat (fun r M' h => by obtain ⟨v, rfl, h⟩ := h; exact kk v M' h)
theorem R_callLv {d na idx h ci nf : Nat} {z : Mt} {as : List V} {st0 : List V} {P : Mem → Prop} (hC : CxOK G y C) (hrm : C.2.2.2.1 = room_1) (hct : Ct G S n C.2.1 d z (vR h :: as) M (RV P)) (hd : decode y.2.1 pc = .ok (.invokevirtual idx, 3)) (hz : MO z na false) (hlk : Cond.methodLink y.1.cls idx z.1 ∈ Ts)
    (hh : h < n) (hk : S.1 h = (ci, nf)) (hci : (vwCl[ci]?).map (fun q => q.1) = some z.1.cls) (hst : st0 = as.reverse ++ vR h :: st) (hna : as.length = na) (hdd : d ≤ 40) (hmx : z.2.2.1 ≤ 21) (hkw : k ≤ 601024 ∧ w ≤ 7293034) (hcat : (st.map vcat).sum ≤ 8)
    (kk : ∀ M' : Mem, P M' → RZ G S C Z k w n (pc + 3) ls st M') : RZ G S C Z k w n pc ls st0 M :=
  R_callV hC hd hz hlk hh hk hci hct hst hna (by rw [hrm]; exact ⟨by show d + 1 ≤ 2048; omega, by show _ ≤ 84000; omega, hkw.1, hkw.2⟩) hcat (fun r M' h => by obtain ⟨rfl, h⟩ := h; exact kk M' h)
/-- a helper's own words -/
def SHh (z : Mt) (hh : List (Nat × Nat × Nat × Nat)) (na : Nat) : Prop := Cond.codeWith z.1 z.2.1 z.2.2.1 z.2.2.2 hh ∈ Ts ∧ Cond.initialized z.1.cls ∈ Ts ∧ Cond.static z.1 ∈ Ts ∧ (z.1.cls ≠ "java/lang/invoke/MethodHandle" ∧ z.1.cls ≠ "java/lang/invoke/VarHandle" ∧ (parseMethodDescriptor z.1.desc).map (fun d => d.parameters.length) = some na)
theorem R_callSH {d na idx : Nat} {z : Mt} {hh : List (Nat × Nat × Nat × Nat)} {as : List V} {st0 : List V} {Q : Option V → Mem → Prop} (hC : CxOK G y C) (hrm : C.2.2.2.1 = room_1) (hNc : va_Nc eI eN C.2.2.2.2.1) (hct : CtH G S n C.2.1 d z hh as M Q) (hd : decode y.2.1 pc = .ok (.invokestatic idx, 3)) (hz : SHh z hh na) (hlk : Cond.methodLink y.1.cls idx z.1 ∈ Ts)
    (hst : st0 = as.reverse ++ st) (hna : as.length = na) (hdd : d ≤ 40) (hmx : z.2.2.1 ≤ 21) (hkw : k + 1 ≤ 601024 ∧ w + 6 ≤ 7293034) (hcat : (st.map vcat).sum ≤ 8)
    (kk : ∀ (r : Option V) (M' : Mem), Q r M' → RZ G S C Z (k + 1) (w + 6) n (pc + 3) ls (r.toList ++ st) M') : RZ G S C Z k w n pc ls st0 M := by
  intro H locs ar hp hs hm hl hv ha
  obtain ⟨z1, z2, z4, z3⟩ := hz
  subst hst
  have hv2 := (okVs_app _ _).mp hv
  have hGo : GoodIn Ts (va_wsS y.1.cls idx z.1 (wsH z hh)) := by
    intro u hu
    have hu2 : u ∈ Ts := by
      unfold va_wsS at hu
      rcases List.mem_append.mp hu with e | e
      · rcases List.mem_cons.mp e with e | e
        · rw [e]; exact hlk
        rcases List.mem_cons.mp e with e | e
        · rw [e]; exact z4
        rcases List.mem_cons.mp e with e | e
        · rw [e]; exact z2
        · cases e
      · unfold wsH at e
        rcases List.mem_cons.mp e with e | e
        · rw [e]; exact z1
        · exact e
    exact ⟨hu2, good_of_word (List.mem_filter.mp hu2).2⟩
  have hpre0 := Pn.pre (args := as) hC hp hs hm (okVs_rev _ hv2.1)
  have hpre : PreS C.2.2.2.2.1 H (PnN G S n as M) (as.map (enc G)) := ⟨fun a U g mk q => ⟨hpre0.1 a U g mk q.1, q.2.moved (Vm.Alike.refl _)⟩, fun U hU hW => ⟨hpre0.2 U hU hW, hNc.moved hW.alike⟩⟩
  have hr := vx_runSX (locs := locs) (cells := k) (slots := w) (e := C.2.2.1) (l := C.2.1) (R := C.2.2.2.1) (p := C.1) (below := C.2.2.2.2.2.2.2.1) (meth := C.2.2.2.2.2.2.2.2.1) (rest := st.map (enc G)) (g := F0 C.2.2.2.2.2.1 pc ar ((as.reverse ++ st).map (enc G))) (As := as.map (enc G)) (ws := wsH z hh) (hh := hh) (nL := C.2.2.2.2.2.2.2.2.2.maxLocals) (cc := y.2.1) (Ts := Ts) (own := y.1.cls) (index := idx) (n := na) (mc := 1) (ms := 6) (rm := rmX d) (bytes := z.2.1) (maxL := z.2.2.1) (ret := z.2.2.2) ⟨hC.1, hC.2.1, rfl, hC.2.2.2.1, hC.2.2.2.2.1⟩ hct (vx_cwSW na (hC.2.2.2.2.1) hGo rfl rfl rfl z3 (by rw [hrm]; exact ⟨by show d + 1 ≤ 2048; omega, by show 8 + (z.2.2.1 + 11) + (40 * d + 40) ≤ 84000; omega⟩)) hpre rfl (by rw [List.length_map]; exact hna) ha.1 (by
    show List.map (enc G) (as.reverse ++ st) = _
    rw [List.map_append, List.map_reverse]) (lv_room (by rw [enc_cats]; exact hcat)) hd (by rw [hrm]; exact hkw)
  intro T hT X'
  rcases hr T hT X' with ⟨v, st₀, t, T', L, h0, X', hL, e1, e2, ⟨⟨r, M', hvr, hq, hp, hm, hvv⟩, hz, hk⟩, sg⟩ | ⟨q9, st₀, t, T', L, E, ce, h0, X', hL, e1, e2, hx, -⟩
  · cases hvr
    rw [h0] at hz hk
    have hp' : Hp G S n M' T'.heap := by rw [e1]; exact hp
    have hS : va_S (aA G) C.2.2.2.2.1.heap T'.heap (locs ++ L) := ⟨Nat.le_trans hs.1 (by rw [e1]; exact hz), fun q h1 h2 => by rw [e1, hk q (Nat.lt_of_lt_of_le h1 hs.1) h2]; exact hs.2.1 q h1 h2, fun q hq => (List.mem_append.mp hq).elim (hs.2.2 q) (hL q)⟩
    have hvs : okVs (r.toList ++ st) := by
      cases r with
      | none => exact hv2.2
      | some u => exact ⟨hvv.1, hv2.2⟩
    obtain ⟨t2, a1, b1⟩ := kk r M' hq T'.heap (locs ++ L) ar hp' hS hm hl hvs ha T' rfl X'
    refine ⟨t2, sg t2 ?_, b1⟩
    have e : (r.map (enc G)).toList ++ st.map (enc G) = (r.toList ++ st).map (enc G) := by cases r <;> rfl
    show Steps _ _ _ (T'.setTop { F0 C.2.2.2.2.2.1 pc ar _ with pc := pc + 3, stack := (r.map (enc G)).toList ++ st.map (enc G) }) t2
    rw [e]
    exact a1
  · exact hx.elim
end LAWR
/-- one call of the law: an act, answered by both -/
def StA (G : Gl) (l : Launch) (M : Mem) (c : Int) (y1 y2 : Mt) (as : List V) : Prop :=
  ∃ d1 P1, d1 ≤ 40 ∧ Ct G LY 82 l d1 y1 (vR 0 :: as) M (RP P1) ∧ ∀ v M1, P1 v M1 → ∃ d2 P2, d2 ≤ 40 ∧ Ct G LY 82 l d2 y2 (vR 57 :: as) M1 (RP P2) ∧ ∀ v' M2, P2 v' M2 → v = v' ∧ ∃ X', REL M2 X' (c + 1)
/-- .. one without an answer -/
def StV (G : Gl) (l : Launch) (M : Mem) (c : Int) (y1 y2 : Mt) : Prop :=
  ∃ d1 P1, d1 ≤ 40 ∧ Ct G LY 82 l d1 y1 [vR 0] M (RV P1) ∧ ∀ M1, P1 M1 → ∃ d2 P2, d2 ≤ 40 ∧ Ct G LY 82 l d2 y2 [vR 57] M1 (RV P2) ∧ ∀ M2, P2 M2 → ∃ X', REL M2 X' (c + 1)
/-- .. a question that may be refused -/
def StQ (G : Gl) (l : Launch) (M : Mem) (c : Int) (y1 : Mt) (hh : List (Nat × Nat × Nat × Nat)) (y2 : Mt) (as : List V) : Prop :=
  ∃ d1 Q1, d1 ≤ 40 ∧ CtH G LY 82 l d1 y1 hh (vR 0 :: (as ++ [vR 81])) M Q1 ∧ ∀ o M1, Q1 o M1 → ∃ kd, o = some (vI kd) ∧ ∃ d2 P2, d2 ≤ 40 ∧ Ct G LY 82 l d2 y2 (vR 57 :: as) M1 (RP P2) ∧ ∀ v' M2, P2 v' M2 → M2 57 4 = kd ∧ (kd = 0 → M2 81 0 = v') ∧ ∃ X', REL M2 X' (c + 1)

