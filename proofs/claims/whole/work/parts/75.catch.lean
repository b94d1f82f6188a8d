section LAWH
def eI : String := "java/lang/IllegalArgumentException"
def eN : String := "java/util/NoSuchElementException"
def wsH (y : Mt) (hh : List (Nat × Nat × Nat × Nat)) : List Cond := .codeWith y.1 y.2.1 y.2.2.1 y.2.2.2 hh :: Ts
def PnN (G : Gl) (S : Sh) (n : Nat) (args : List V) (M : Mem) : Array Value → State → Prop := fun a U => Pn G S n args M a U ∧ va_Nc eI eN U
/-- a method with handlers of its own that throws nothing: one cell, six slots -/
def CtH (G : Gl) (S : Sh) (n : Nat) (l : Launch) (d : Nat) (y : Mt) (hh : List (Nat × Nat × Nat × Nat)) (args : List V) (M : Mem) (Q : Option V → Mem → Prop) : Prop :=
  vx_Met l y.1 (wsH y hh) (rmX d) (PnN G S n args M) (Qn G S n Q) (fun _ _ _ => False) 1 6 (aA G)
def ZH (G : Gl) (S : Sh) (n : Nat) (C : Cx) (Q : Option V → Mem → Prop) : State → Prop := vx_MQ C.2.2.2.2.2.2.2.1 (Qn G S n Q) (fun _ _ _ => False) C.2.2.2.2.2.2.1 C.2.2.2.2.1 1 6 (aA G)
variable {G : Gl} {S : Sh} {C : Cx} {Z : State → Prop} {k w n : Nat} {pc : Nat} {ls : List (Option V)} {st : List V} {M : Mem} {y : Mt}
theorem R_startH {l : Launch} {d : Nat} {hh : List (Nat × Nat × Nat × Nat)} {args : List V} {Q : Option V → Mem → Prop} (hy : plainName y.1.cls = true) (hlen : (aL args).length ≤ y.2.2.1)
    (h : ∀ C : Cx, CxOK G y C → C.2.1 = l → C.2.2.2.1 = rmX d → C.2.2.2.2.2.2.2.2.2.exceptionTable.toList = tableOf hh → va_Nc eI eN C.2.2.2.2.1 → RZ G S C (ZH G S n C Q) 0 0 n 0 (aL args ++ List.replicate (y.2.2.1 - (aL args).length) none) [] M) : CtH G S n l d y hh args M Q := by
  refine vx_ofWH (cc := y.2.1) (maxL := y.2.2.1) (ret := y.2.2.2) (hh := hh) hy rfl ?_
  intro p e s m ars below meth c s₁ B hml hv
  obtain ⟨⟨rfl, hp, hK, hm, hv, hz⟩, hNc⟩ := hv
  have hts : ∀ q ∈ Ts, q.before (args.map (enc G)).toArray s = true := fun q hq => atoms_spec (ws := wsH y hh) B.pre q (List.mem_cons_of_mem _ hq)
  have htab : c.exceptionTable.toList = tableOf hh := vx_table (x := y.1) B (atoms_spec (ws := wsH y hh) B.pre _ List.mem_cons_self)
  have hC : CxOK G y (p, l, e, (headSpec (wsH y hh) (rmX d)).room, s, m, (args.map (enc G)).toArray, below, meth, c) :=
    ⟨B.exec, B.bytes, hml, findClass_of_methodNamed B.named, hts, hK, B.notSynchronized, B.returns, hz⟩
  have hW := h _ hC rfl rfl htab hNc s.heap [] _ hp va_S.rf hm (okLs_aL args _ hv) trivial (by
    show lsR G c.maxLocals _ _
    rw [hml]
    exact lsR_entry G args hlen)
  rw [lg_entry_eq]
  exact hW
/-- the frame, with a thing of class E thrown over it -/
def RXZ (G : Gl) (S : Sh) (C : Cx) (Z : State → Prop) (k w n : Nat) (pc : Nat) (ls : List (Option V)) (st : List V) (M : Mem) (E : String) : Prop :=
  ∀ (H : Heap) (locs : List Loc) (a : Array Slot) (ce : Cell) (q : Addr), Hp G S n M H → va_S (aA G) C.2.2.2.2.1.heap H locs → okM S M → lsR G C.2.2.2.2.2.2.2.2.2.maxLocals ls a → H[q]? = some ce → ce.vm = .none → C.2.2.2.2.1.vm.findClass E = some ce.cls →
    vx_W C.1 C.2.1 C.2.2.1 C.2.2.2.1 C.2.2.2.2.1 C.2.2.2.2.2.1 C.2.2.2.2.2.2.1 C.2.2.2.2.2.2.2.1 C.2.2.2.2.2.2.2.2.1 C.2.2.2.2.2.2.2.2.2 H locs k w Z (F0 C.2.2.2.2.2.1 pc a (st.map (enc G))) q
theorem R_callVX {d na idx h ci nf : Nat} {z : Mt} {as : List V} {st0 : List V} {Q : Option V → Mem → Prop} {X : String → Mem → Prop} (hC : CxOK G y C) (hd : decode y.2.1 pc = .ok (.invokevirtual idx, 3)) (hz : MO z na false) (hlk : Cond.methodLink y.1.cls idx z.1 ∈ Ts)
    (hh : h < n) (hk : S.1 h = (ci, nf)) (hci : (vwCl[ci]?).map (fun q => q.1) = some z.1.cls) (hct : CtX G S n C.2.1 d z (vR h :: as) M Q X) (hst : st0 = as.reverse ++ vR h :: st) (hna : as.length = na)
    (hR : d + 1 ≤ C.2.2.2.1.frames ∧ 8 + (z.2.2.1 + 11) + (40 * d + 40) ≤ C.2.2.2.1.locals ∧ k + 1 ≤ C.2.2.2.1.cells ∧ w + 6 ≤ C.2.2.2.1.slots) (hcat : (st.map vcat).sum ≤ 8)
    (kk : ∀ (r : Option V) (M' : Mem), Q r M' → RZ G S C Z (k + 1) (w + 6) n (pc + 3) ls (r.toList ++ st) M')
    (kx : ∀ (E : String) (M' : Mem), X E M' → RXZ G S C Z (k + 1) (w + 6) n pc ls st M' E) : RZ G S C Z k w n pc ls st0 M := by
  intro H locs ar hp hs hm hl hv ha
  obtain ⟨z1, z2, z3, z4⟩ := hz
  rw [if_neg (by decide)] at z4
  subst hst
  have hv2 := (okVs_app _ _).mp hv
  have hq : ∃ q, vwCl[ci]? = some q ∧ q.1 = z.1.cls := by
    cases e : vwCl[ci]? with
    | none => rw [e] at hci; cases hci
    | some q => rw [e] at hci; exact ⟨q, rfl, Option.some.inj hci⟩
  obtain ⟨q, hq1, hq2⟩ := hq
  have hrv := va_recv hC.2.2.2.2.2.1.1 hp.1 hq1 ((wsM_at hh).trans (by rw [ent_obj hk (cl_lt hq1)]))
  rw [hq2] at hrv
  have hGo : GoodIn Ts (wsV y.1.cls idx z.1.cls z.1 (wsY z)) := by
    intro u hu
    have hu2 : u ∈ Ts := by
      unfold wsV at hu
      rcases List.mem_append.mp hu with e | e
      · rcases List.mem_cons.mp e with e | e
        · rw [e]; exact hlk
        rcases List.mem_cons.mp e with e | e
        · rw [e]; exact z4.1
        rcases List.mem_cons.mp e with e | e
        · rw [e]; exact z4.2
        rcases List.mem_cons.mp e with e | e
        · rw [e]; exact z2
        · cases e
      · exact (good_wsY z1 u e).1
    exact ⟨hu2, good_of_word (List.mem_filter.mp hu2).2⟩
  have hpre := Pn.pre (args := vR h :: as) hC hp hs hm ⟨trivial, okVs_rev _ hv2.1⟩
  have hr := vx_runV (locs := locs) (cells := k) (slots := w) (e := C.2.2.1) (below := C.2.2.2.2.2.2.2.1) (meth := C.2.2.2.2.2.2.2.2.1) (rest := st.map (enc G)) (g := F0 C.2.2.2.2.2.1 pc ar ((as.reverse ++ vR h :: st).map (enc G))) (As := as.map (enc G)) (b := G.1 h) (ws := wsY z) (nL := C.2.2.2.2.2.2.2.2.2.maxLocals) (cc := y.2.1) ⟨hC.1, hC.2.1, rfl, hC.2.2.2.1, hC.2.2.2.2.1⟩ hct (cwV na (hC.2.2.2.2.1) hGo rfl rfl rfl ⟨rfl, z3⟩ ⟨hR.1, hR.2.1⟩) ⟨hpre.1, hrv, hpre.2⟩ rfl (by rw [List.length_map]; exact hna) ha.1 (by
    show List.map (enc G) (as.reverse ++ vR h :: st) = _
    rw [List.map_append, List.map_reverse]
    rfl) (lv_room (by rw [enc_cats]; exact hcat)) hd ⟨hR.2.2.1, hR.2.2.2⟩
  intro T hT X'
  rcases hr T hT X' with ⟨v, st₀, t, T', L, h0, X', hL, e1, e2, ⟨⟨r, M', hvr, hq, hp, hm, hvv⟩, hz, hk⟩, sg⟩ | ⟨q9, st₀, t, T', L, E, ce, h0, X', hL, e1, e2, ⟨M', hx, hp, hm, hz, hk⟩, hce, hcv, hcl, sg⟩
  · cases hvr
    rw [h0] at hz hk
    have hp' : Hp G S n M' T'.heap := by rw [e1]; exact hp
    have hS : va_S (aA G) C.2.2.2.2.1.heap T'.heap (locs ++ L) := ⟨Nat.le_trans hs.1 (by rw [e1]; exact hz), fun q h1 h2 => by rw [e1, hk q (Nat.lt_of_lt_of_le h1 hs.1) h2]; exact hs.2.1 q h1 h2, fun q hq => (List.mem_append.mp hq).elim (hs.2.2 q) (hL q)⟩
    have hvs : okVs (r.toList ++ st) := by
      cases r with
      | none => exact hv2.2.2
      | some u => exact ⟨hvv.1, hv2.2.2⟩
    obtain ⟨t2, a1, b1⟩ := kk r M' hq T'.heap (locs ++ L) ar hp' hS hm hl hvs ha T' rfl X'
    refine ⟨t2, sg t2 ?_, b1⟩
    have e : (r.map (enc G)).toList ++ st.map (enc G) = (r.toList ++ st).map (enc G) := by cases r <;> rfl
    show Steps _ _ _ (T'.setTop { F0 C.2.2.2.2.2.1 pc ar _ with pc := pc + 3, stack := (r.map (enc G)).toList ++ st.map (enc G) }) t2
    rw [e]
    exact a1
  · rw [h0] at hz hk
    have hp' : Hp G S n M' T'.heap := by rw [e1]; exact hp
    have hS : va_S (aA G) C.2.2.2.2.1.heap T'.heap (locs ++ L) := ⟨Nat.le_trans hs.1 (by rw [e1]; exact hz), fun q h1 h2 => by rw [e1, hk q (Nat.lt_of_lt_of_le h1 hs.1) h2]; exact hs.2.1 q h1 h2, fun q hq => (List.mem_append.mp hq).elim (hs.2.2 q) (hL q)⟩
    obtain ⟨t2, a1, b1⟩ := kx E M' hx T'.heap (locs ++ L) ar ce q9 hp' hS hm ha (by rw [e1]; exact hce) hcv hcl T' rfl X'
    exact ⟨t2, sg.trans a1, b1⟩
theorem R_ireturnH (hC : CxOK G y C) {v : Int} {Q : Option V → Mem → Prop} (hd : decode y.2.1 pc = .ok (.ireturn, 1)) (hr : y.2.2.2 = some .int) (hq : Q (some (vI v)) M) : RZ G S C (ZH G S n C Q) 1 6 n pc ls [vI v] M := by
  intro H locs ar hp hs hm hl hv ha
  exact vx_ret (W.iret hC.1 hC.2.1 (hC.2.2.2.2.2.2.2.1.trans hr) (fun t ht hW => ⟨⟨some (vI v), M, rfl, hq, by rw [ht]; exact hp, hm, hv.1, trivial⟩, hs.F ht⟩) hs.2.2 hd hC.2.2.2.2.2.2.1)
/-- caught: the handler keeps the thing and answers c -/
theorem R_caught (hC : CxOK G y C) {E name : String} {c : Int} {i ln : Nat} {Q : Option V → Mem → Prop} (pre : List ExceptionTableEntry) (x : ExceptionTableEntry) (suf : List ExceptionTableEntry) (hsplit : C.2.2.2.2.2.2.2.2.2.exceptionTable.toList = pre ++ x :: suf)
    (hpass : ∀ z ∈ pre, covers z pc = false ∨ (z.catchType ≠ 0 ∧ ∃ nm : String, Cond.classLink y.1.cls z.catchType nm ∈ Ts ∧ va_Nc E nm C.2.2.2.2.1)) (hx : covers x pc = true) (h0 : x.catchType ≠ 0)
    (hlink : Cond.classLink y.1.cls x.catchType name ∈ Ts) (hcast : Cond.castable E name ∈ exB) (hi : i < C.2.2.2.2.2.2.2.2.2.maxLocals)
    (ha : (∃ kf : Fin 4, (kf : Nat) = i ∧ decode y.2.1 x.handlerPc = .ok (.astore_n kf, 1) ∧ ln = 1) ∨ (decode y.2.1 x.handlerPc = .ok (.astore i, 2) ∧ ln = 2))
    (hd1 : decode y.2.1 (x.handlerPc + ln) = .ok (.iconst c, 1)) (hc : inI c) (hd2 : decode y.2.1 (x.handlerPc + ln + 1) = .ok (.ireturn, 1)) (hr : y.2.2.2 = some .int) (hq : Q (some (vI c)) M) :
    RXZ G S C (ZH G S n C Q) 1 6 n pc ls st M E := by
  intro H locs ar ce q hp hs hm hl hce hcv hcl
  have hXW := hC.2.2.2.2.2.1.2.2.2
  refine vx_catch (own := y.1.cls) (name := name) hC.2.2.2.1 pre x suf hsplit (fun z hz => (hpass z hz).imp id (fun h => ⟨h.1, h.2.elim fun nm h => ⟨nm, hC.2.2.2.2.1 _ h.1, h.2⟩⟩)) hx h0 (hC.2.2.2.2.1 _ hlink) (exB_al (Vm.Alike.refl _) hXW.2.2.2.2.2.2 _ hcast) hce hcv hcl ?_
  have hend : ∀ a2 : Array Slot, W C.1 C.2.1 C.2.2.1 C.2.2.2.1 C.2.2.2.2.1 C.2.2.2.2.2.1 C.2.2.2.2.2.2.1 C.2.2.2.2.2.2.2.1 C.2.2.2.2.2.2.2.2.1 C.2.2.2.2.2.2.2.2.2 H locs 1 6 (ZH G S n C Q) (F0 C.2.2.2.2.2.1 (x.handlerPc + ln) a2 []) := fun a2 =>
    lv_iconst hC.1 hC.2.1 hd1 rfl (vx_ret (W.iret hC.1 hC.2.1 (hC.2.2.2.2.2.2.2.1.trans hr) (fun t ht hW => ⟨⟨some (vI c), M, rfl, hq, by rw [ht]; exact hp, hm, hc, trivial⟩, hs.F ht⟩) hs.2.2 hd2 hC.2.2.2.2.2.2.1))
  rcases ha with ⟨kf, hk, hd0, rfl⟩ | ⟨hd0, rfl⟩
  · exact lv_astore_n hC.1 hC.2.1 hd0 hk (lsR_has hl) hi rfl (fun a2 _ => hend a2)
  · exact lv_astore hC.1 hC.2.1 hd0 (lsR_has hl) hi rfl (fun a2 _ => hend a2)
end LAWH

