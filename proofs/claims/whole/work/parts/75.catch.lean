section LAWH
def eI : String := "java/lang/IllegalArgumentException"
def eN : String := "java/util/NoSuchElementException"
def wsH (y : Mt) (hh : List (Nat × Nat × Nat × Nat)) : List Cond := .codeWith y.1 y.2.1 y.2.2.1 y.2.2.2 hh :: Ts
def PnN (G : Gl) (S : Sh) (n : Nat) (args : List V) (M : Mem) : Array Value → State → Prop := fun a U => Pn G S n args M a U ∧ va_Nc eI eN U
/-- a method with handlers of its own that throws nothing: one cell, six slots -/
def CtH (G : Gl) (S : Sh) (n : Nat) (l : Launch) (d : Nat) (y : Mt) (hh : List (Nat × Nat × Nat × Nat)) (args : List V) (M : Mem) (Q : Option V → Mem → Prop) : Prop :=
  vx_Met l y.1 (wsH y hh) (rmX d) (PnN G S n args M) (Qn G S n Q) (fun _ _ _ => False) 1 6 (aA G)
def ZH (G : Gl) (S : Sh) (n : Nat) (C : Cx) (Q : Option V → Mem → Prop) : State → Prop := vx_MQ C.2.2.2.2.2.2.2.1 (Qn G S n Q) (fun _ _ _ => False) C.2.2.2.2.2.2.1 C.2.2.2.2.1 1 6 (aA G)
variable {G : Gl} {S : Sh} {C : Cx} {Z : State → Prop} {k w n : Nat} {pc : Nat} {ls : List (Option V)} {st : List V} {M : Mem} {y : Mt}
theorem R_startH {l : Launch} {d : Nat} {hh : List (Nat × Nat × Nat × Nat)} {args : List V} {Q : Option V → Mem → Prop} (hy : plainName y.1.cls = true) (hlen : (aL args).length ≤ y.2.2.1)
    (h : ∀ C : Cx, CxOK G y C → C.2.1 = l → C.2.2.2.1 = rmX d → C.2.2.2.2.2.2.2.2.2.exceptionTable.toList = tableOf hh → va_Nc eI eN C.2.2.2.2.1 → RZ G S C (ZH G S n C Q) 0 0 n 0 (aL args ++ List.replicate (y.2.2.1 - (aL args).length) none) [] M) : CtH G S n l d y hh args M Q := by
  refine vx_ofWH (cc := y.2.1) (maxL := y.2.2.1) (ret := y.2.2.2) (hh := hh) hy rfl ?_
  intro p e s m ars below meth c s₁ B hml hv
  obtain ⟨⟨rfl, hp, hK, hm, hv, hz⟩, hNc⟩ := hv
  have hts : ∀ q ∈ Ts, q.before (args.map (enc G)).toArray s = true := fun q hq => atoms_spec (ws := wsH y hh) B.pre q (List.mem_cons_of_mem _ hq)
  have htab : c.exceptionTable.toList = tableOf hh := vx_table (x := y.1) B (atoms_spec (ws := wsH y hh) B.pre _ List.mem_cons_self)
  have hC : CxOK G y (p, l, e, (headSpec (wsH y hh) (rmX d)).room, s, m, (args.map (enc G)).toArray, below, meth, c) :=
    ⟨B.exec, B.bytes, hml, findClass_of_methodNamed B.named, hts, hK, B.notSynchronized, B.returns, hz⟩
  have hW := h _ hC rfl rfl htab hNc s.heap [] _ hp va_S.rf hm (okLs_aL args _ hv) trivial (by
    show lsR G c.maxLocals _ _
    rw [hml]
    exact lsR_entry G args hlen)
  rw [lg_entry_eq]
  exact hW
/-- the frame, with a thing of class E thrown over it -/
def RXZ (G : Gl) (S : Sh) (C : Cx) (Z : State → Prop) (k w n : Nat) (pc : Nat) (ls : List (Option V)) (st : List V) (M : Mem) (E : String) : Prop :=
  ∀ (H : Heap) (locs : List Loc) (a : Array Slot) (ce : Cell) (q : Addr), Hp G S n M H → va_S (aA G) C.2.2.2.2.1.heap H locs → okM S M → lsR G C.2.2.2.2.2.2.2.2.2.maxLocals ls a → H[q]? = some ce → ce.vm = .none → C.2.2.2.2.1.vm.findClass E = some ce.cls →
    vx_W C.1 C.2.1 C.2.2.1 C.2.2.2.1 C.2.2.2.2.1 C.2.2.2.2.2.1 C.2.2.2.2.2.2.1 C.2.2.2.2.2.2.2.1 C.2.2.2.2.2.2.2.2.1 C.2.2.2.2.2.2.2.2.2 H locs k w Z (F0 C.2.2.2.2.2.1 pc a (st.map (enc G))) q
theorem R_callVX {d na idx h ci nf : Nat} {z : Mt} {as : List V} {st0 : List V} {Q : Option V → Mem → Prop} {X : String → Mem → Prop} (hC : CxOK G y C) (hd : decode y.2.1 pc = .ok (.invokevirtual idx, 3)) (hz : MO z na false) (hlk : Cond.methodLink y.1.cls idx z.1 ∈ Ts)
    (hh : h < n) (hk : S.1 h = (ci, nf)) (hci : (vwCl[ci]?).map (fun q => q.1) = some z.1.cls) (hct : CtX G S n C.2.1 d z (vR h :: as) M Q X) (hst : st0 = as.reverse ++ vR h :: st) (hna : as.length = na)
    (hR : d + 1 ≤ C.2.2.2.1.frames ∧ 8 + (z.2.2.1 + 11) + (40 * d + 40) ≤ C.2.2.2.1.locals ∧ k + 1 ≤ C.2.2.2.1.cells ∧ w + 6 ≤ C.2.2.2.1.slots) (hcat : (st.map vcat).sum ≤ 8)
    (kk : ∀ (r : Option V) (M' : Mem), Q r M' → RZ G S C Z (k + 1) (w + 6) n (pc + 3) ls (r.toList ++ st) M')
    (kx : ∀ (E : String) (M' : Mem), X E M' → RXZ G S C Z (k + 1) (w + 6) n pc ls st M' E) : RZ G S C Z k w n pc ls st0 M := by
  intro H locs ar hp hs hm hl hv ha
  obtain ⟨z1, z2, z3, z4⟩ := hz
  rw [if_neg (by decide)] at z4
  subst hst
  have hv2 := (okVs_app _ _).mp hv
  have hq : ∃ q, vwCl[ci]? = some q ∧ q.1 = z.1.cls := by
    cases e : vwCl[ci]? with
    | none => rw [e] at hci; cases hci
    | some q => rw [e] at hci; exact ⟨q, rfl, Option.some.inj hci⟩
  obtain ⟨q, hq1, hq2⟩ := hq
  have hrv := va_recv hC.2.2.2.2.2.1.1 hp.1 hq1 ((wsM_at hh).trans (by rw [ent_obj hk (cl_lt hq1)]))
  rw [hq2] at hrv
  have hGo : GoodIn Ts (wsV y.1.cls idx z.1.cls z.1 (wsY z)) := by
    intro u hu
    have hu2 : u ∈ Ts := by
      unfold wsV at hu
      rcases List.mem_append.mp hu with e | e
      · rcases List.mem_cons.mp e with e | e
        · rw [e]; exact hlk
        rcases List.mem_cons.mp e with e | e
        · rw [e]; exact z4.1
        rcases List.mem_cons.mp e with e | e
        · rw [e]; exact z4.2
        rcases List.mem_cons.mp e with e | e
        · rw [e]; exact z2
        · cases e
      · exact (good_wsY z1 u e).1
    exact ⟨hu2, good_of_word (List.mem_filter.mp hu2).2⟩
  have hpre := Pn.pre (args := vR h :: as) hC hp hs hm ⟨trivial, okVs_rev _ hv2.1⟩
  have hr := vx_runV (locs := locs) (cells := k) (slots := w) (e := C.2.2.1) (below := C.2.2.2.2.2.2.2.1) (meth := C.2.2.2.2.2.2.2.2.1) (rest := st.map (enc G)) (g := F0 C.2.2.2.2.2.1 pc ar ((as.reverse ++ vR h :: st).map (enc G))) (As := as.map (enc G)) (b := G.1 h) (ws := wsY z) (nL := C.2.2.2.2.2.2.2.2.2.maxLocals) (cc := y.2.1) ⟨hC.1, hC.2.1, rfl, hC.2.2.2.1, hC.2.2.2.2.1⟩ hct (cwV na (hC.2.2.2.2.1) hGo rfl rfl rfl ⟨rfl, z3⟩ ⟨hR.1, hR.2.1⟩) ⟨hpre.1, hrv, hpre.2⟩ rfl (by rw [List.length_map]; exact hna) ha.1 (by
    show List.map (enc G) (as.reverse ++ vR h :: st) = _
    rw [List.map_append, List.map_reverse]
    rfl) (lv_room (by rw [enc_cats]; exact hcat)) hd ⟨hR.2.2.1, hR.2.2.2⟩
  intro T hT X'
  rcases hr T hT X' with ⟨v, st₀, t, T', L, h0, X', hL, e1, e2, ⟨⟨r, M', hvr, hq, hp, hm, hvv⟩, hz, hk⟩, sg⟩ | ⟨q9, st₀, t, T', L, E, ce, h0, X', hL, e1, e2, ⟨M', hx, hp, hm, hz, hk⟩, hce, hcv, hcl, sg⟩
  · cases hvr
    rw [h0] at hz hk
    have hp' : Hp G S n M' T'.heap := by rw [e1]; exact hp
    have hS : va_S (aA G) C.2.2.2.2.1.heap T'.heap (locs ++ L) := ⟨Nat.le_trans hs.1 (by rw [e1]; exact hz), fun q h1 h2 => by rw [e1, hk q (Nat.lt_of_lt_of_le h1 hs.1) h2]; exact hs.2.1 q h1 h2, fun q hq => (List.mem_append.mp hq).elim (hs.2.2 q) (hL q)⟩
    have hvs : okVs (r.toList ++ st) := by
      cases r with
      | none => exact hv2.2.2
      | some u => exact ⟨hvv.1, hv2.2.2⟩
    obtain ⟨t2, a1, b1⟩ := kk r M' hq T'.heap (locs ++ L) ar hp' hS hm hl hvs ha T' rfl X'
    refine ⟨t2, sg t2 ?_, b1⟩
    have e : (r.map (enc G)).toList ++ st.map (enc G) = (r.toList ++ st).map (enc G) := by cases r <;> rfl
    show Steps _ _ _ (T'.setTop { F0 C.2.2.2.2.2.1 pc ar _ with pc := pc + 3, stack := (r.map (enc G)).toList ++ st.map (enc G) }) t2
    rw [e]
    exact a1
  · rw [h0] at hz hk
    have hp' : Hp G S n M' T'.heap := by rw [e1]; exact hp
    have hS : va_S (aA G) C.2.2.2.2.1.heap T'.heap (locs ++ L) := ⟨Nat.le_trans hs.1 (by rw [e1]; exact hz), fun q h1 h2 => by rw [e1, hk q (Nat.lt_of_lt_of_le h1 hs.1) h2]; exact hs.2.1 q h1 h2, fun q hq => (List.mem_append.mp hq).elim (hs.2.2 q) (hL q)⟩
    obtain ⟨t2, a1, b1⟩ := kx E M' hx T'.heap (locs ++ L) ar ce q9 hp' hS hm ha (by rw [e1]; exact hce) hcv hcl T' rfl X'
    exact ⟨t2, sg.trans a1, b1⟩
theorem R_ireturnH (hC : CxOK G y C) {v : Int} {Q : Option V → Mem → Prop} (hd : decode y.2.1 pc = .ok (.ireturn, 1)) (hr : y.2.2.2 = some .int) (hq : Q (some (vI v)) M) : RZ G S C (ZH G S n C Q) 1 6 n pc ls [vI v] M := by
  intro H locs ar hp hs hm hl hv ha
  exact vx_ret (W.iret hC.1 hC.2.1 (hC.2.2.2.2.2.2.2.1.trans hr) (fun t ht hW => ⟨⟨some (vI v), M, rfl, hq, by rw [ht]; exact hp, hm, hv.1, trivial⟩, hs.F ht⟩) hs.2.2 hd hC.2.2.2.2.2.2.1)
/-- caught: the handler keeps the thing and answers c -/
theorem R_caught (hC : CxOK G y C) {E name : String} {c : Int} {i ln : Nat} {Q : Option V → Mem → Prop} (pre : List ExceptionTableEntry) (x : ExceptionTableEntry) (suf : List ExceptionTableEntry) (hsplit : C.2.2.2.2.2.2.2.2.2.exceptionTable.toList = pre ++ x :: suf)
    (hpass : ∀ z ∈ pre, covers z pc = false ∨ (z.catchType ≠ 0 ∧ ∃ nm : String, Cond.classLink y.1.cls z.catchType nm ∈ Ts ∧ va_Nc E nm C.2.2.2.2.1)) (hx : covers x pc = true) (h0 : x.catchType ≠ 0)
    (hlink : Cond.classLink y.1.cls x.catchType name ∈ Ts) (hcast : Cond.castable E name ∈ exB) (hi : i < C.2.2.2.2.2.2.2.2.2.maxLocals)
    (ha : (∃ kf : Fin 4, (kf : Nat) = i ∧ decode y.2.1 x.handlerPc = .ok (.astore_n kf, 1) ∧ ln = 1) ∨ (decode y.2.1 x.handlerPc = .ok (.astore i, 2) ∧ ln = 2))
    (hd1 : decode y.2.1 (x.handlerPc + ln) = .ok (.iconst c, 1)) (hc : inI c) (hd2 : decode y.2.1 (x.handlerPc + ln + 1) = .ok (.ireturn, 1)) (hr : y.2.2.2 = some .int) (hq : Q (some (vI c)) M) :
    RXZ G S C (ZH G S n C Q) 1 6 n pc ls st M E := by
  intro H locs ar ce q hp hs hm hl hce hcv hcl
  have hXW := hC.2.2.2.2.2.1.2.2.2
  refine vx_catch (own := y.1.cls) (name := name) hC.2.2.2.1 pre x suf hsplit (fun z hz => (hpass z hz).imp id (fun h => ⟨h.1, h.2.elim fun nm h => ⟨nm, hC.2.2.2.2.1 _ h.1, h.2⟩⟩)) hx h0 (hC.2.2.2.2.1 _ hlink) (exB_al (Vm.Alike.refl _) hXW.2.2.2.2.2.2 _ hcast) hce hcv hcl ?_
  have hend : ∀ a2 : Array Slot, W C.1 C.2.1 C.2.2.1 C.2.2.2.1 C.2.2.2.2.1 C.2.2.2.2.2.1 C.2.2.2.2.2.2.1 C.2.2.2.2.2.2.2.1 C.2.2.2.2.2.2.2.2.1 C.2.2.2.2.2.2.2.2.2 H locs 1 6 (ZH G S n C Q) (F0 C.2.2.2.2.2.1 (x.handlerPc + ln) a2 []) := fun a2 =>
    lv_iconst hC.1 hC.2.1 hd1 rfl (vx_ret (W.iret hC.1 hC.2.1 (hC.2.2.2.2.2.2.2.1.trans hr) (fun t ht hW => ⟨⟨some (vI c), M, rfl, hq, by rw [ht]; exact hp, hm, hc, trivial⟩, hs.F ht⟩) hs.2.2 hd2 hC.2.2.2.2.2.2.1))
  rcases ha with ⟨kf, hk, hd0, rfl⟩ | ⟨hd0, rfl⟩
  · exact lv_astore_n hC.1 hC.2.1 hd0 hk (lsR_has hl) hi rfl (fun a2 _ => hend a2)
  · exact lv_astore hC.1 hC.2.1 hd0 (lsR_has hl) hi rfl (fun a2 _ => hend a2)
end LAWH

theorem cl_L13 : Cond.classLink RL 13 eI ∈ Ts := Ts_in (in_t3 _ (List.mem_of_getElem? (i := 233) rfl)) rfl
theorem cl_L18 : Cond.classLink RL 18 eN ∈ Ts := Ts_in (in_t4 _ (List.mem_of_getElem? (i := 202) rfl)) rfl
theorem in_L : Cond.initialized RL ∈ Ts := Ts_in (in_t1 _ (List.mem_of_getElem? (i := 0) rfl)) rfl
abbrev mL_desk : Mt := (yL_desk, cL_desk, 4, some .int)
abbrev hhL_desk : List (Nat × Nat × Nat × Nat) := [(0, 9, 12, 13)]
theorem cw_Ldesk : Cond.codeWith yL_desk cL_desk 4 (some .int) hhL_desk ∈ Ts := Ts_in (in_t3 _ (List.mem_of_getElem? (i := 232) rfl)) rfl
theorem st_Ldesk : Cond.static yL_desk ∈ Ts := Ts_in (in_t3 _ (List.mem_of_getElem? (i := 231) rfl)) rfl
theorem ml_L7 : Cond.methodLink RL 7 m11_desk.1 ∈ Ts := Ts_in (in_t3 _ (List.mem_of_getElem? (i := 234) rfl)) rfl
theorem ml_L55 : Cond.methodLink RL 55 yL_desk ∈ Ts := Ts_in (in_t3 _ (List.mem_of_getElem? (i := 230) rfl)) rfl
theorem hL_desk {G : Gl} {l : Launch} {M : Mem} {a0 : Int} {Q : Option V → Mem → Prop} {X : String → Mem → Prop} (hct : CtX G LY 82 l 7 m11_desk [vR 0, vI a0] M Q X) (hQ : ∀ r M', Q r M' → ∃ v, r = some (vI v)) (hX : ∀ E M', X E M' → E = eI) : CtH G LY 82 l 8 mL_desk hhL_desk [vR 0, vI a0, vR 81] M (fun o M'' => (∃ v M', Q (some (vI v)) M' ∧ o = some (vI 0) ∧ M'' = uM M' 81 0 v) ∨ (∃ M', X eI M' ∧ o = some (vI 1) ∧ M'' = M')) := by
  refine R_startH (by decide +kernel) (Nat.le_of_ble_eq_true rfl) (fun C hC hlau hrm htab hNc => ?_)
  show RZ G LY C (ZH G LY 82 C (fun o M'' => (∃ v M', Q (some (vI v)) M' ∧ o = some (vI 0) ∧ M'' = uM M' 81 0 v) ∨ (∃ M', X eI M' ∧ o = some (vI 1) ∧ M'' = M'))) 0 0 82 0 [some (vR 0), some (vI a0), some (vR 81), none] [] M
  refine R_aload_2 hC (by decide +kernel) ?_
  refine R_iconst (c := 0) hC (by decide +kernel) (by decide) ?_
  refine R_aload_0 hC (by decide +kernel) ?_
  refine R_iload_1 hC (by decide +kernel) ?_
  refine R_callVX (as := [vI _]) hC (by decide +kernel) mo_11_desk ml_L7 (by decide) rfl rfl (by rw [hlau]; exact hct) rfl rfl (by rw [hrm]; exact ⟨Nat.le_of_ble_eq_true rfl, Nat.le_of_ble_eq_true rfl, Nat.le_refl _, Nat.le_refl _⟩) (by decide) (fun r M' hq => ?_) (fun E M' hx => ?_)
  · obtain ⟨v, rfl⟩ := hQ r M' hq
    refine R_i2l hC (by decide +kernel) ?_
    refine R_lastore hC (by decide +kernel) (by decide) rfl (by decide) (by decide) ?_
    refine R_goto (off := 6) (tgt := 15) hC (by decide +kernel) (by decide) ?_
    refine R_iconst (c := 0) hC (by decide +kernel) (by decide) ?_
    exact R_ireturnH hC (by decide +kernel) rfl (.inl ⟨v, M', hq, rfl, rfl⟩)
  · cases hX E M' hx
    exact R_caught hC (i := 3) (name := eI) [] ⟨0, 9, 12, 13⟩ [] htab (fun z hz => nomatch hz) rfl (by decide) cl_L13 (by decide +kernel) (by rw [hC.2.2.1]; exact Nat.le_of_ble_eq_true rfl) (.inl ⟨3, rfl, by decide +kernel, rfl⟩) (c := 1) (by decide +kernel) (by decide) (by decide +kernel) rfl (.inr ⟨M', hx, rfl, rfl⟩)
abbrev mL_count : Mt := (yL_count, cL_count, 4, some .int)
abbrev hhL_count : List (Nat × Nat × Nat × Nat) := [(0, 9, 12, 18)]
theorem cw_Lcount : Cond.codeWith yL_count cL_count 4 (some .int) hhL_count ∈ Ts := Ts_in (in_t4 _ (List.mem_of_getElem? (i := 201) rfl)) rfl
theorem st_Lcount : Cond.static yL_count ∈ Ts := Ts_in (in_t4 _ (List.mem_of_getElem? (i := 200) rfl)) rfl
theorem ml_L15 : Cond.methodLink RL 15 m11_count.1 ∈ Ts := Ts_in (in_t4 _ (List.mem_of_getElem? (i := 203) rfl)) rfl
theorem ml_L69 : Cond.methodLink RL 69 yL_count ∈ Ts := Ts_in (in_t4 _ (List.mem_of_getElem? (i := 199) rfl)) rfl
theorem hL_count {G : Gl} {l : Launch} {M : Mem} {a0 : Int} {Q : Option V → Mem → Prop} {X : String → Mem → Prop} (hct : CtX G LY 82 l 9 m11_count [vR 0, vI a0] M Q X) (hQ : ∀ r M', Q r M' → ∃ v, r = some (vI v)) (hX : ∀ E M', X E M' → E = eN) : CtH G LY 82 l 10 mL_count hhL_count [vR 0, vI a0, vR 81] M (fun o M'' => (∃ v M', Q (some (vI v)) M' ∧ o = some (vI 0) ∧ M'' = uM M' 81 0 v) ∨ (∃ M', X eN M' ∧ o = some (vI 1) ∧ M'' = M')) := by
  refine R_startH (by decide +kernel) (Nat.le_of_ble_eq_true rfl) (fun C hC hlau hrm htab hNc => ?_)
  show RZ G LY C (ZH G LY 82 C (fun o M'' => (∃ v M', Q (some (vI v)) M' ∧ o = some (vI 0) ∧ M'' = uM M' 81 0 v) ∨ (∃ M', X eN M' ∧ o = some (vI 1) ∧ M'' = M'))) 0 0 82 0 [some (vR 0), some (vI a0), some (vR 81), none] [] M
  refine R_aload_2 hC (by decide +kernel) ?_
  refine R_iconst (c := 0) hC (by decide +kernel) (by decide) ?_
  refine R_aload_0 hC (by decide +kernel) ?_
  refine R_iload_1 hC (by decide +kernel) ?_
  refine R_callVX (as := [vI _]) hC (by decide +kernel) mo_11_count ml_L15 (by decide) rfl rfl (by rw [hlau]; exact hct) rfl rfl (by rw [hrm]; exact ⟨Nat.le_of_ble_eq_true rfl, Nat.le_of_ble_eq_true rfl, Nat.le_refl _, Nat.le_refl _⟩) (by decide) (fun r M' hq => ?_) (fun E M' hx => ?_)
  · obtain ⟨v, rfl⟩ := hQ r M' hq
    refine R_i2l hC (by decide +kernel) ?_
    refine R_lastore hC (by decide +kernel) (by decide) rfl (by decide) (by decide) ?_
    refine R_goto (off := 6) (tgt := 15) hC (by decide +kernel) (by decide) ?_
    refine R_iconst (c := 0) hC (by decide +kernel) (by decide) ?_
    exact R_ireturnH hC (by decide +kernel) rfl (.inl ⟨v, M', hq, rfl, rfl⟩)
  · cases hX E M' hx
    exact R_caught hC (i := 3) (name := eN) [] ⟨0, 9, 12, 18⟩ [] htab (fun z hz => nomatch hz) rfl (by decide) cl_L18 (by decide +kernel) (by rw [hC.2.2.1]; exact Nat.le_of_ble_eq_true rfl) (.inl ⟨3, rfl, by decide +kernel, rfl⟩) (c := 1) (by decide +kernel) (by decide) (by decide +kernel) rfl (.inr ⟨M', hx, rfl, rfl⟩)
abbrev mL_library : Mt := (yL_library, cL_library, 5, some .int)
abbrev hhL_library : List (Nat × Nat × Nat × Nat) := [(0, 10, 13, 18)]
theorem cw_Llibrary : Cond.codeWith yL_library cL_library 5 (some .int) hhL_library ∈ Ts := Ts_in (in_t5 _ (List.mem_of_getElem? (i := 149) rfl)) rfl
theorem st_Llibrary : Cond.static yL_library ∈ Ts := Ts_in (in_t5 _ (List.mem_of_getElem? (i := 148) rfl)) rfl
theorem ml_L20 : Cond.methodLink RL 20 m11_library.1 ∈ Ts := Ts_in (in_t5 _ (List.mem_of_getElem? (i := 150) rfl)) rfl
theorem ml_L72 : Cond.methodLink RL 72 yL_library ∈ Ts := Ts_in (in_t5 _ (List.mem_of_getElem? (i := 147) rfl)) rfl
theorem hL_library {G : Gl} {l : Launch} {M : Mem} {a0 a1 : Int} {Q : Option V → Mem → Prop} {X : String → Mem → Prop} (hct : CtX G LY 82 l 6 m11_library [vR 0, vI a0, vI a1] M Q X) (hQ : ∀ r M', Q r M' → ∃ v, r = some (vI v)) (hX : ∀ E M', X E M' → E = eN) : CtH G LY 82 l 7 mL_library hhL_library [vR 0, vI a0, vI a1, vR 81] M (fun o M'' => (∃ v M', Q (some (vI v)) M' ∧ o = some (vI 0) ∧ M'' = uM M' 81 0 v) ∨ (∃ M', X eN M' ∧ o = some (vI 1) ∧ M'' = M')) := by
  refine R_startH (by decide +kernel) (Nat.le_of_ble_eq_true rfl) (fun C hC hlau hrm htab hNc => ?_)
  show RZ G LY C (ZH G LY 82 C (fun o M'' => (∃ v M', Q (some (vI v)) M' ∧ o = some (vI 0) ∧ M'' = uM M' 81 0 v) ∨ (∃ M', X eN M' ∧ o = some (vI 1) ∧ M'' = M'))) 0 0 82 0 [some (vR 0), some (vI a0), some (vI a1), some (vR 81), none] [] M
  refine R_aload_3 hC (by decide +kernel) ?_
  refine R_iconst (c := 0) hC (by decide +kernel) (by decide) ?_
  refine R_aload_0 hC (by decide +kernel) ?_
  refine R_iload_1 hC (by decide +kernel) ?_
  refine R_iload_2 hC (by decide +kernel) ?_
  refine R_callVX (as := [vI _, vI _]) hC (by decide +kernel) mo_11_library ml_L20 (by decide) rfl rfl (by rw [hlau]; exact hct) rfl rfl (by rw [hrm]; exact ⟨Nat.le_of_ble_eq_true rfl, Nat.le_of_ble_eq_true rfl, Nat.le_refl _, Nat.le_refl _⟩) (by decide) (fun r M' hq => ?_) (fun E M' hx => ?_)
  · obtain ⟨v, rfl⟩ := hQ r M' hq
    refine R_i2l hC (by decide +kernel) ?_
    refine R_lastore hC (by decide +kernel) (by decide) rfl (by decide) (by decide) ?_
    refine R_goto (off := 7) (tgt := 17) hC (by decide +kernel) (by decide) ?_
    refine R_iconst (c := 0) hC (by decide +kernel) (by decide) ?_
    exact R_ireturnH hC (by decide +kernel) rfl (.inl ⟨v, M', hq, rfl, rfl⟩)
  · cases hX E M' hx
    exact R_caught hC (i := 4) (name := eN) [] ⟨0, 10, 13, 18⟩ [] htab (fun z hz => nomatch hz) rfl (by decide) cl_L18 (by decide +kernel) (by rw [hC.2.2.1]; exact Nat.le_of_ble_eq_true rfl) (.inr ⟨by decide +kernel, rfl⟩) (c := 1) (by decide +kernel) (by decide) (by decide +kernel) rfl (.inr ⟨M', hx, rfl, rfl⟩)
abbrev mL_work : Mt := (yL_work, cL_work, 5, some .int)
abbrev hhL_work : List (Nat × Nat × Nat × Nat) := [(0, 10, 13, 18)]
theorem cw_Lwork : Cond.codeWith yL_work cL_work 5 (some .int) hhL_work ∈ Ts := Ts_in (in_t5 _ (List.mem_of_getElem? (i := 200) rfl)) rfl
theorem st_Lwork : Cond.static yL_work ∈ Ts := Ts_in (in_t5 _ (List.mem_of_getElem? (i := 199) rfl)) rfl
theorem ml_L24 : Cond.methodLink RL 24 m11_work.1 ∈ Ts := Ts_in (in_t5 _ (List.mem_of_getElem? (i := 201) rfl)) rfl
theorem ml_L76 : Cond.methodLink RL 76 yL_work ∈ Ts := Ts_in (in_t5 _ (List.mem_of_getElem? (i := 198) rfl)) rfl
theorem hL_work {G : Gl} {l : Launch} {M : Mem} {a0 a1 : Int} {Q : Option V → Mem → Prop} {X : String → Mem → Prop} (hct : CtX G LY 82 l 6 m11_work [vR 0, vI a0, vI a1] M Q X) (hQ : ∀ r M', Q r M' → ∃ v, r = some (vI v)) (hX : ∀ E M', X E M' → E = eN) : CtH G LY 82 l 7 mL_work hhL_work [vR 0, vI a0, vI a1, vR 81] M (fun o M'' => (∃ v M', Q (some (vI v)) M' ∧ o = some (vI 0) ∧ M'' = uM M' 81 0 v) ∨ (∃ M', X eN M' ∧ o = some (vI 1) ∧ M'' = M')) := by
  refine R_startH (by decide +kernel) (Nat.le_of_ble_eq_true rfl) (fun C hC hlau hrm htab hNc => ?_)
  show RZ G LY C (ZH G LY 82 C (fun o M'' => (∃ v M', Q (some (vI v)) M' ∧ o = some (vI 0) ∧ M'' = uM M' 81 0 v) ∨ (∃ M', X eN M' ∧ o = some (vI 1) ∧ M'' = M'))) 0 0 82 0 [some (vR 0), some (vI a0), some (vI a1), some (vR 81), none] [] M
  refine R_aload_3 hC (by decide +kernel) ?_
  refine R_iconst (c := 0) hC (by decide +kernel) (by decide) ?_
  refine R_aload_0 hC (by decide +kernel) ?_
  refine R_iload_1 hC (by decide +kernel) ?_
  refine R_iload_2 hC (by decide +kernel) ?_
  refine R_callVX (as := [vI _, vI _]) hC (by decide +kernel) mo_11_work ml_L24 (by decide) rfl rfl (by rw [hlau]; exact hct) rfl rfl (by rw [hrm]; exact ⟨Nat.le_of_ble_eq_true rfl, Nat.le_of_ble_eq_true rfl, Nat.le_refl _, Nat.le_refl _⟩) (by decide) (fun r M' hq => ?_) (fun E M' hx => ?_)
  · obtain ⟨v, rfl⟩ := hQ r M' hq
    refine R_i2l hC (by decide +kernel) ?_
    refine R_lastore hC (by decide +kernel) (by decide) rfl (by decide) (by decide) ?_
    refine R_goto (off := 7) (tgt := 17) hC (by decide +kernel) (by decide) ?_
    refine R_iconst (c := 0) hC (by decide +kernel) (by decide) ?_
    exact R_ireturnH hC (by decide +kernel) rfl (.inl ⟨v, M', hq, rfl, rfl⟩)
  · cases hX E M' hx
    exact R_caught hC (i := 4) (name := eN) [] ⟨0, 10, 13, 18⟩ [] htab (fun z hz => nomatch hz) rfl (by decide) cl_L18 (by decide +kernel) (by rw [hC.2.2.1]; exact Nat.le_of_ble_eq_true rfl) (.inr ⟨by decide +kernel, rfl⟩) (c := 1) (by decide +kernel) (by decide) (by decide +kernel) rfl (.inr ⟨M', hx, rfl, rfl⟩)
abbrev mL_held : Mt := (yL_held, cL_held, 6, some .int)
abbrev hhL_held : List (Nat × Nat × Nat × Nat) := [(0, 12, 15, 18)]
theorem cw_Lheld : Cond.codeWith yL_held cL_held 6 (some .int) hhL_held ∈ Ts := Ts_in (in_t5 _ (List.mem_of_getElem? (i := 234) rfl)) rfl
theorem st_Lheld : Cond.static yL_held ∈ Ts := Ts_in (in_t5 _ (List.mem_of_getElem? (i := 233) rfl)) rfl
theorem ml_L27 : Cond.methodLink RL 27 m11_held.1 ∈ Ts := Ts_in (in_t5 _ (List.mem_of_getElem? (i := 235) rfl)) rfl
theorem ml_L79 : Cond.methodLink RL 79 yL_held ∈ Ts := Ts_in (in_t5 _ (List.mem_of_getElem? (i := 232) rfl)) rfl
theorem hL_held {G : Gl} {l : Launch} {M : Mem} {a0 a1 a2 : Int} {Q : Option V → Mem → Prop} {X : String → Mem → Prop} (hct : CtX G LY 82 l 6 m11_held [vR 0, vI a0, vI a1, vI a2] M Q X) (hQ : ∀ r M', Q r M' → ∃ v, r = some (vI v)) (hX : ∀ E M', X E M' → E = eN) : CtH G LY 82 l 7 mL_held hhL_held [vR 0, vI a0, vI a1, vI a2, vR 81] M (fun o M'' => (∃ v M', Q (some (vI v)) M' ∧ o = some (vI 0) ∧ M'' = uM M' 81 0 v) ∨ (∃ M', X eN M' ∧ o = some (vI 1) ∧ M'' = M')) := by
  refine R_startH (by decide +kernel) (Nat.le_of_ble_eq_true rfl) (fun C hC hlau hrm htab hNc => ?_)
  show RZ G LY C (ZH G LY 82 C (fun o M'' => (∃ v M', Q (some (vI v)) M' ∧ o = some (vI 0) ∧ M'' = uM M' 81 0 v) ∨ (∃ M', X eN M' ∧ o = some (vI 1) ∧ M'' = M'))) 0 0 82 0 [some (vR 0), some (vI a0), some (vI a1), some (vI a2), some (vR 81), none] [] M
  refine R_aload_4 hC (by decide +kernel) ?_
  refine R_iconst (c := 0) hC (by decide +kernel) (by decide) ?_
  refine R_aload_0 hC (by decide +kernel) ?_
  refine R_iload_1 hC (by decide +kernel) ?_
  refine R_iload_2 hC (by decide +kernel) ?_
  refine R_iload_3 hC (by decide +kernel) ?_
  refine R_callVX (as := [vI _, vI _, vI _]) hC (by decide +kernel) mo_11_held ml_L27 (by decide) rfl rfl (by rw [hlau]; exact hct) rfl rfl (by rw [hrm]; exact ⟨Nat.le_of_ble_eq_true rfl, Nat.le_of_ble_eq_true rfl, Nat.le_refl _, Nat.le_refl _⟩) (by decide) (fun r M' hq => ?_) (fun E M' hx => ?_)
  · obtain ⟨v, rfl⟩ := hQ r M' hq
    refine R_i2l hC (by decide +kernel) ?_
    refine R_lastore hC (by decide +kernel) (by decide) rfl (by decide) (by decide) ?_
    refine R_goto (off := 7) (tgt := 19) hC (by decide +kernel) (by decide) ?_
    refine R_iconst (c := 0) hC (by decide +kernel) (by decide) ?_
    exact R_ireturnH hC (by decide +kernel) rfl (.inl ⟨v, M', hq, rfl, rfl⟩)
  · cases hX E M' hx
    exact R_caught hC (i := 5) (name := eN) [] ⟨0, 12, 15, 18⟩ [] htab (fun z hz => nomatch hz) rfl (by decide) cl_L18 (by decide +kernel) (by rw [hC.2.2.1]; exact Nat.le_of_ble_eq_true rfl) (.inr ⟨by decide +kernel, rfl⟩) (c := 1) (by decide +kernel) (by decide) (by decide +kernel) rfl (.inr ⟨M', hx, rfl, rfl⟩)
abbrev mL_lack : Mt := (yL_lack, cL_lack, 4, some .int)
abbrev hhL_lack : List (Nat × Nat × Nat × Nat) := [(0, 9, 12, 13)]
theorem cw_Llack : Cond.codeWith yL_lack cL_lack 4 (some .int) hhL_lack ∈ Ts := Ts_in (in_t6 _ (List.mem_of_getElem? (i := 11) rfl)) rfl
theorem st_Llack : Cond.static yL_lack ∈ Ts := Ts_in (in_t6 _ (List.mem_of_getElem? (i := 10) rfl)) rfl
theorem ml_L31 : Cond.methodLink RL 31 m11_lack.1 ∈ Ts := Ts_in (in_t6 _ (List.mem_of_getElem? (i := 12) rfl)) rfl
theorem ml_L83 : Cond.methodLink RL 83 yL_lack ∈ Ts := Ts_in (in_t6 _ (List.mem_of_getElem? (i := 9) rfl)) rfl
theorem hL_lack {G : Gl} {l : Launch} {M : Mem} {a0 : Int} {Q : Option V → Mem → Prop} {X : String → Mem → Prop} (hct : CtX G LY 82 l 6 m11_lack [vR 0, vI a0] M Q X) (hQ : ∀ r M', Q r M' → ∃ v, r = some (vI v)) (hX : ∀ E M', X E M' → E = eI) : CtH G LY 82 l 7 mL_lack hhL_lack [vR 0, vI a0, vR 81] M (fun o M'' => (∃ v M', Q (some (vI v)) M' ∧ o = some (vI 0) ∧ M'' = uM M' 81 0 v) ∨ (∃ M', X eI M' ∧ o = some (vI 1) ∧ M'' = M')) := by
  refine R_startH (by decide +kernel) (Nat.le_of_ble_eq_true rfl) (fun C hC hlau hrm htab hNc => ?_)
  show RZ G LY C (ZH G LY 82 C (fun o M'' => (∃ v M', Q (some (vI v)) M' ∧ o = some (vI 0) ∧ M'' = uM M' 81 0 v) ∨ (∃ M', X eI M' ∧ o = some (vI 1) ∧ M'' = M'))) 0 0 82 0 [some (vR 0), some (vI a0), some (vR 81), none] [] M
  refine R_aload_2 hC (by decide +kernel) ?_
  refine R_iconst (c := 0) hC (by decide +kernel) (by decide) ?_
  refine R_aload_0 hC (by decide +kernel) ?_
  refine R_iload_1 hC (by decide +kernel) ?_
  refine R_callVX (as := [vI _]) hC (by decide +kernel) mo_11_lack ml_L31 (by decide) rfl rfl (by rw [hlau]; exact hct) rfl rfl (by rw [hrm]; exact ⟨Nat.le_of_ble_eq_true rfl, Nat.le_of_ble_eq_true rfl, Nat.le_refl _, Nat.le_refl _⟩) (by decide) (fun r M' hq => ?_) (fun E M' hx => ?_)
  · obtain ⟨v, rfl⟩ := hQ r M' hq
    refine R_i2l hC (by decide +kernel) ?_
    refine R_lastore hC (by decide +kernel) (by decide) rfl (by decide) (by decide) ?_
    refine R_goto (off := 6) (tgt := 15) hC (by decide +kernel) (by decide) ?_
    refine R_iconst (c := 0) hC (by decide +kernel) (by decide) ?_
    exact R_ireturnH hC (by decide +kernel) rfl (.inl ⟨v, M', hq, rfl, rfl⟩)
  · cases hX E M' hx
    exact R_caught hC (i := 3) (name := eI) [] ⟨0, 9, 12, 13⟩ [] htab (fun z hz => nomatch hz) rfl (by decide) cl_L13 (by decide +kernel) (by rw [hC.2.2.1]; exact Nat.le_of_ble_eq_true rfl) (.inl ⟨3, rfl, by decide +kernel, rfl⟩) (c := 1) (by decide +kernel) (by decide) (by decide +kernel) rfl (.inr ⟨M', hx, rfl, rfl⟩)
abbrev mL_order : Mt := (yL_order, cL_order, 4, some .int)
abbrev hhL_order : List (Nat × Nat × Nat × Nat) := [(0, 9, 12, 18)]
theorem cw_Lorder : Cond.codeWith yL_order cL_order 4 (some .int) hhL_order ∈ Ts := Ts_in (in_t6 _ (List.mem_of_getElem? (i := 18) rfl)) rfl
theorem st_Lorder : Cond.static yL_order ∈ Ts := Ts_in (in_t6 _ (List.mem_of_getElem? (i := 17) rfl)) rfl
theorem ml_L34 : Cond.methodLink RL 34 m11_order.1 ∈ Ts := Ts_in (in_t6 _ (List.mem_of_getElem? (i := 19) rfl)) rfl
theorem ml_L86 : Cond.methodLink RL 86 yL_order ∈ Ts := Ts_in (in_t6 _ (List.mem_of_getElem? (i := 16) rfl)) rfl
theorem hL_order {G : Gl} {l : Launch} {M : Mem} {a0 : Int} {Q : Option V → Mem → Prop} {X : String → Mem → Prop} (hct : CtX G LY 82 l 9 m11_order [vR 0, vI a0] M Q X) (hQ : ∀ r M', Q r M' → ∃ v, r = some (vI v)) (hX : ∀ E M', X E M' → E = eN) : CtH G LY 82 l 10 mL_order hhL_order [vR 0, vI a0, vR 81] M (fun o M'' => (∃ v M', Q (some (vI v)) M' ∧ o = some (vI 0) ∧ M'' = uM M' 81 0 v) ∨ (∃ M', X eN M' ∧ o = some (vI 1) ∧ M'' = M')) := by
  refine R_startH (by decide +kernel) (Nat.le_of_ble_eq_true rfl) (fun C hC hlau hrm htab hNc => ?_)
  show RZ G LY C (ZH G LY 82 C (fun o M'' => (∃ v M', Q (some (vI v)) M' ∧ o = some (vI 0) ∧ M'' = uM M' 81 0 v) ∨ (∃ M', X eN M' ∧ o = some (vI 1) ∧ M'' = M'))) 0 0 82 0 [some (vR 0), some (vI a0), some (vR 81), none] [] M
  refine R_aload_2 hC (by decide +kernel) ?_
  refine R_iconst (c := 0) hC (by decide +kernel) (by decide) ?_
  refine R_aload_0 hC (by decide +kernel) ?_
  refine R_iload_1 hC (by decide +kernel) ?_
  refine R_callVX (as := [vI _]) hC (by decide +kernel) mo_11_order ml_L34 (by decide) rfl rfl (by rw [hlau]; exact hct) rfl rfl (by rw [hrm]; exact ⟨Nat.le_of_ble_eq_true rfl, Nat.le_of_ble_eq_true rfl, Nat.le_refl _, Nat.le_refl _⟩) (by decide) (fun r M' hq => ?_) (fun E M' hx => ?_)
  · obtain ⟨v, rfl⟩ := hQ r M' hq
    refine R_i2l hC (by decide +kernel) ?_
    refine R_lastore hC (by decide +kernel) (by decide) rfl (by decide) (by decide) ?_
    refine R_goto (off := 6) (tgt := 15) hC (by decide +kernel) (by decide) ?_
    refine R_iconst (c := 0) hC (by decide +kernel) (by decide) ?_
    exact R_ireturnH hC (by decide +kernel) rfl (.inl ⟨v, M', hq, rfl, rfl⟩)
  · cases hX E M' hx
    exact R_caught hC (i := 3) (name := eN) [] ⟨0, 9, 12, 18⟩ [] htab (fun z hz => nomatch hz) rfl (by decide) cl_L18 (by decide +kernel) (by rw [hC.2.2.1]; exact Nat.le_of_ble_eq_true rfl) (.inl ⟨3, rfl, by decide +kernel, rfl⟩) (c := 1) (by decide +kernel) (by decide) (by decide +kernel) rfl (.inr ⟨M', hx, rfl, rfl⟩)
abbrev mL_fits : Mt := (yL_fits, cL_fits, 4, some .int)
abbrev hhL_fits : List (Nat × Nat × Nat × Nat) := [(0, 9, 12, 18)]
theorem cw_Lfits : Cond.codeWith yL_fits cL_fits 4 (some .int) hhL_fits ∈ Ts := Ts_in (in_t6 _ (List.mem_of_getElem? (i := 25) rfl)) rfl
theorem st_Lfits : Cond.static yL_fits ∈ Ts := Ts_in (in_t6 _ (List.mem_of_getElem? (i := 24) rfl)) rfl
theorem ml_L37 : Cond.methodLink RL 37 m11_fits.1 ∈ Ts := Ts_in (in_t6 _ (List.mem_of_getElem? (i := 26) rfl)) rfl
theorem ml_L134 : Cond.methodLink RL 134 yL_fits ∈ Ts := Ts_in (in_t6 _ (List.mem_of_getElem? (i := 23) rfl)) rfl
theorem hL_fits {G : Gl} {l : Launch} {M : Mem} {a0 : Int} {Q : Option V → Mem → Prop} {X : String → Mem → Prop} (hct : CtX G LY 82 l 6 m11_fits [vR 0, vI a0] M Q X) (hQ : ∀ r M', Q r M' → ∃ v, r = some (vI v)) (hX : ∀ E M', X E M' → E = eN) : CtH G LY 82 l 7 mL_fits hhL_fits [vR 0, vI a0, vR 81] M (fun o M'' => (∃ v M', Q (some (vI v)) M' ∧ o = some (vI 0) ∧ M'' = uM M' 81 0 v) ∨ (∃ M', X eN M' ∧ o = some (vI 1) ∧ M'' = M')) := by
  refine R_startH (by decide +kernel) (Nat.le_of_ble_eq_true rfl) (fun C hC hlau hrm htab hNc => ?_)
  show RZ G LY C (ZH G LY 82 C (fun o M'' => (∃ v M', Q (some (vI v)) M' ∧ o = some (vI 0) ∧ M'' = uM M' 81 0 v) ∨ (∃ M', X eN M' ∧ o = some (vI 1) ∧ M'' = M'))) 0 0 82 0 [some (vR 0), some (vI a0), some (vR 81), none] [] M
  refine R_aload_2 hC (by decide +kernel) ?_
  refine R_iconst (c := 0) hC (by decide +kernel) (by decide) ?_
  refine R_aload_0 hC (by decide +kernel) ?_
  refine R_iload_1 hC (by decide +kernel) ?_
  refine R_callVX (as := [vI _]) hC (by decide +kernel) mo_11_fits ml_L37 (by decide) rfl rfl (by rw [hlau]; exact hct) rfl rfl (by rw [hrm]; exact ⟨Nat.le_of_ble_eq_true rfl, Nat.le_of_ble_eq_true rfl, Nat.le_refl _, Nat.le_refl _⟩) (by decide) (fun r M' hq => ?_) (fun E M' hx => ?_)
  · obtain ⟨v, rfl⟩ := hQ r M' hq
    refine R_i2l hC (by decide +kernel) ?_
    refine R_lastore hC (by decide +kernel) (by decide) rfl (by decide) (by decide) ?_
    refine R_goto (off := 6) (tgt := 15) hC (by decide +kernel) (by decide) ?_
    refine R_iconst (c := 0) hC (by decide +kernel) (by decide) ?_
    exact R_ireturnH hC (by decide +kernel) rfl (.inl ⟨v, M', hq, rfl, rfl⟩)
  · cases hX E M' hx
    exact R_caught hC (i := 3) (name := eN) [] ⟨0, 9, 12, 18⟩ [] htab (fun z hz => nomatch hz) rfl (by decide) cl_L18 (by decide +kernel) (by rw [hC.2.2.1]; exact Nat.le_of_ble_eq_true rfl) (.inl ⟨3, rfl, by decide +kernel, rfl⟩) (c := 1) (by decide +kernel) (by decide) (by decide +kernel) rfl (.inr ⟨M', hx, rfl, rfl⟩)
abbrev mL_look : Mt := (yL_look, cL_look, 4, some .int)
abbrev hhL_look : List (Nat × Nat × Nat × Nat) := [(0, 9, 12, 18)]
theorem cw_Llook : Cond.codeWith yL_look cL_look 4 (some .int) hhL_look ∈ Ts := Ts_in (in_t6 _ (List.mem_of_getElem? (i := 66) rfl)) rfl
theorem st_Llook : Cond.static yL_look ∈ Ts := Ts_in (in_t6 _ (List.mem_of_getElem? (i := 65) rfl)) rfl
theorem ml_L40 : Cond.methodLink RL 40 m11_look.1 ∈ Ts := Ts_in (in_t6 _ (List.mem_of_getElem? (i := 67) rfl)) rfl
theorem ml_L137 : Cond.methodLink RL 137 yL_look ∈ Ts := Ts_in (in_t6 _ (List.mem_of_getElem? (i := 64) rfl)) rfl
theorem hL_look {G : Gl} {l : Launch} {M : Mem} {a0 : Int} {Q : Option V → Mem → Prop} {X : String → Mem → Prop} (hct : CtX G LY 82 l 6 m11_look [vR 0, vI a0] M Q X) (hQ : ∀ r M', Q r M' → ∃ v, r = some (vI v)) (hX : ∀ E M', X E M' → E = eN) : CtH G LY 82 l 7 mL_look hhL_look [vR 0, vI a0, vR 81] M (fun o M'' => (∃ v M', Q (some (vI v)) M' ∧ o = some (vI 0) ∧ M'' = uM M' 81 0 v) ∨ (∃ M', X eN M' ∧ o = some (vI 1) ∧ M'' = M')) := by
  refine R_startH (by decide +kernel) (Nat.le_of_ble_eq_true rfl) (fun C hC hlau hrm htab hNc => ?_)
  show RZ G LY C (ZH G LY 82 C (fun o M'' => (∃ v M', Q (some (vI v)) M' ∧ o = some (vI 0) ∧ M'' = uM M' 81 0 v) ∨ (∃ M', X eN M' ∧ o = some (vI 1) ∧ M'' = M'))) 0 0 82 0 [some (vR 0), some (vI a0), some (vR 81), none] [] M
  refine R_aload_2 hC (by decide +kernel) ?_
  refine R_iconst (c := 0) hC (by decide +kernel) (by decide) ?_
  refine R_aload_0 hC (by decide +kernel) ?_
  refine R_iload_1 hC (by decide +kernel) ?_
  refine R_callVX (as := [vI _]) hC (by decide +kernel) mo_11_look ml_L40 (by decide) rfl rfl (by rw [hlau]; exact hct) rfl rfl (by rw [hrm]; exact ⟨Nat.le_of_ble_eq_true rfl, Nat.le_of_ble_eq_true rfl, Nat.le_refl _, Nat.le_refl _⟩) (by decide) (fun r M' hq => ?_) (fun E M' hx => ?_)
  · obtain ⟨v, rfl⟩ := hQ r M' hq
    refine R_i2l hC (by decide +kernel) ?_
    refine R_lastore hC (by decide +kernel) (by decide) rfl (by decide) (by decide) ?_
    refine R_goto (off := 6) (tgt := 15) hC (by decide +kernel) (by decide) ?_
    refine R_iconst (c := 0) hC (by decide +kernel) (by decide) ?_
    exact R_ireturnH hC (by decide +kernel) rfl (.inl ⟨v, M', hq, rfl, rfl⟩)
  · cases hX E M' hx
    exact R_caught hC (i := 3) (name := eN) [] ⟨0, 9, 12, 18⟩ [] htab (fun z hz => nomatch hz) rfl (by decide) cl_L18 (by decide +kernel) (by rw [hC.2.2.1]; exact Nat.le_of_ble_eq_true rfl) (.inl ⟨3, rfl, by decide +kernel, rfl⟩) (c := 1) (by decide +kernel) (by decide) (by decide +kernel) rfl (.inr ⟨M', hx, rfl, rfl⟩)
abbrev mL_drawn : Mt := (yL_drawn, cL_drawn, 6, some .int)
abbrev hhL_drawn : List (Nat × Nat × Nat × Nat) := [(0, 12, 15, 18), (0, 12, 19, 13)]
theorem cw_Ldrawn : Cond.codeWith yL_drawn cL_drawn 6 (some .int) hhL_drawn ∈ Ts := Ts_in (in_t6 _ (List.mem_of_getElem? (i := 94) rfl)) rfl
theorem st_Ldrawn : Cond.static yL_drawn ∈ Ts := Ts_in (in_t6 _ (List.mem_of_getElem? (i := 93) rfl)) rfl
theorem ml_L43 : Cond.methodLink RL 43 m11_drawn.1 ∈ Ts := Ts_in (in_t6 _ (List.mem_of_getElem? (i := 95) rfl)) rfl
theorem ml_L144 : Cond.methodLink RL 144 yL_drawn ∈ Ts := Ts_in (in_t6 _ (List.mem_of_getElem? (i := 92) rfl)) rfl
theorem hL_drawn {G : Gl} {l : Launch} {M : Mem} {a0 a1 a2 : Int} {Q : Option V → Mem → Prop} {X : String → Mem → Prop} (hct : CtX G LY 82 l 6 m11_drawn [vR 0, vI a0, vI a1, vI a2] M Q X) (hQ : ∀ r M', Q r M' → ∃ v, r = some (vI v)) (hX : ∀ E M', X E M' → E = eN ∨ E = eI) : CtH G LY 82 l 7 mL_drawn hhL_drawn [vR 0, vI a0, vI a1, vI a2, vR 81] M (fun o M'' => (∃ v M', Q (some (vI v)) M' ∧ o = some (vI 0) ∧ M'' = uM M' 81 0 v) ∨ ((∃ M', X eN M' ∧ o = some (vI 1) ∧ M'' = M') ∨ (∃ M', X eI M' ∧ o = some (vI 2) ∧ M'' = M'))) := by
  refine R_startH (by decide +kernel) (Nat.le_of_ble_eq_true rfl) (fun C hC hlau hrm htab hNc => ?_)
  show RZ G LY C (ZH G LY 82 C (fun o M'' => (∃ v M', Q (some (vI v)) M' ∧ o = some (vI 0) ∧ M'' = uM M' 81 0 v) ∨ ((∃ M', X eN M' ∧ o = some (vI 1) ∧ M'' = M') ∨ (∃ M', X eI M' ∧ o = some (vI 2) ∧ M'' = M')))) 0 0 82 0 [some (vR 0), some (vI a0), some (vI a1), some (vI a2), some (vR 81), none] [] M
  refine R_aload_4 hC (by decide +kernel) ?_
  refine R_iconst (c := 0) hC (by decide +kernel) (by decide) ?_
  refine R_aload_0 hC (by decide +kernel) ?_
  refine R_iload_1 hC (by decide +kernel) ?_
  refine R_iload_2 hC (by decide +kernel) ?_
  refine R_iload_3 hC (by decide +kernel) ?_
  refine R_callVX (as := [vI _, vI _, vI _]) hC (by decide +kernel) mo_11_drawn ml_L43 (by decide) rfl rfl (by rw [hlau]; exact hct) rfl rfl (by rw [hrm]; exact ⟨Nat.le_of_ble_eq_true rfl, Nat.le_of_ble_eq_true rfl, Nat.le_refl _, Nat.le_refl _⟩) (by decide) (fun r M' hq => ?_) (fun E M' hx => ?_)
  · obtain ⟨v, rfl⟩ := hQ r M' hq
    refine R_i2l hC (by decide +kernel) ?_
    refine R_lastore hC (by decide +kernel) (by decide) rfl (by decide) (by decide) ?_
    refine R_goto (off := 11) (tgt := 23) hC (by decide +kernel) (by decide) ?_
    refine R_iconst (c := 0) hC (by decide +kernel) (by decide) ?_
    exact R_ireturnH hC (by decide +kernel) rfl (.inl ⟨v, M', hq, rfl, rfl⟩)
  · rcases hX E M' hx with rfl | rfl
    · exact R_caught hC (i := 5) (name := eN) [] ⟨0, 12, 15, 18⟩ [⟨0, 12, 19, 13⟩] htab (fun z hz => nomatch hz) rfl (by decide) cl_L18 (by decide +kernel) (by rw [hC.2.2.1]; exact Nat.le_of_ble_eq_true rfl) (.inr ⟨by decide +kernel, rfl⟩) (c := 1) (by decide +kernel) (by decide) (by decide +kernel) rfl (.inr (.inl ⟨M', hx, rfl, rfl⟩))
    · exact R_caught hC (i := 5) (name := eI) [⟨0, 12, 15, 18⟩] ⟨0, 12, 19, 13⟩ [] htab (fun z hz => by rw [List.mem_singleton.mp hz]; exact .inr ⟨by decide, eN, cl_L18, hNc⟩) rfl (by decide) cl_L13 (by decide +kernel) (by rw [hC.2.2.1]; exact Nat.le_of_ble_eq_true rfl) (.inr ⟨by decide +kernel, rfl⟩) (c := 2) (by decide +kernel) (by decide) (by decide +kernel) rfl (.inr (.inr ⟨M', hx, rfl, rfl⟩))

