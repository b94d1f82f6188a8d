/-! worlds that grow as the data say: layouts by push, contracts that make things -/
def push (S : Sh) (n : Nat) (p : Nat × Nat) : Sh := (fun h => if h = n then p else S.1 h, S.2)
section DYN
variable {g g' : Nat → Nat} {q : Gq} {S S' : Sh} {C : Cx} {Z : State → Prop} {k w n n' : Nat} {pc : Nat} {ls : List (Option V)} {st : List V} {M : Mem} {y : Mt} {p : Nat × Nat}
theorem push_s : (push S n p).1 n = p := if_pos rfl
theorem push_o {h : Nat} (e : h ≠ n) : (push S n p).1 h = S.1 h := if_neg e
theorem EX.push (e : EX S n) (hp : p.1 ≠ 21) : EX (push S n p) (n + 1) := by
  have h0 := e.1
  refine ⟨by omega, fun h hh => (push_o (by omega)).trans (e.2.1 h hh), e.2.2.1, fun h hh => ?_⟩
  by_cases c : h = n
  · subst c; rw [push_s]; exact hp
  · rw [push_o c]; exact e.2.2.2 h hh
theorem EX.up (e : EX S n) (h : n ≤ n') : EX S n' := ⟨Nat.le_trans e.1 h, e.2⟩
theorem wsM_sh {G : Gl} (h1 : ∀ h, h < n → S'.1 h = S.1 h) (h2 : S'.2 = S.2) : wsM G S' n M = wsM G S n M :=
  List.map_congr_left (fun a ha => by
    have l := List.mem_range.mp ha
    show (G.1 a, ent G S' M a) = (G.1 a, ent G S M a)
    unfold ent
    rw [h1 a l, h2])
theorem okM_sh (e : EX S n) (e' : EX S' n') (h : okM S M) : okM S' M := fun a j => by
  have z := h a j
  by_cases ha : a < 57
  · rw [e.2.1 a ha, ← e'.2.1 a ha] at z
    exact z
  · rw [if_neg (e.2.2.2 a (by omega))] at z
    rw [if_neg (e'.2.2.2 a (by omega))]
    exact z
theorem EX.two (e : EX S n) (e' : EX S' n') : S'.2 = S.2 := e'.2.2.1.trans e.2.2.1.symm
theorem Hp_sh {G : Gl} {H : Heap} (h1 : ∀ h, h < n → S'.1 h = S.1 h) (h2 : S'.2 = S.2) (hp : Hp G S n M H) : Hp G S' n M H := by
  unfold Hp
  rw [wsM_sh h1 h2]
  exact hp
theorem R_shape {G : Gl} (e : EX S n) (e' : EX S' n') (h1 : ∀ h, h < n → S'.1 h = S.1 h) (kk : RZ G S' C Z k w n pc ls st M) : RZ G S C Z k w n pc ls st M :=
  fun H locs ar hp hs hm hl hv ha => kk H locs ar (Hp_sh h1 (e.two e') hp) hs (okM_sh e e' hm) hl hv ha
theorem RB.sh (rb : RB S n M) (h1 : ∀ h, h < n → S'.1 h = S.1 h) (h2 : S'.2 = S.2) : RB S' n M := fun h j hh c t => by
  rw [h1 h hh] at c t
  rw [h2] at t
  exact rb h j hh c t
theorem R_newOd (hC : CxOK (g, q) y C) (e : EX S n) {ci N idx : Nat} {Cn : String} {T : u_T} {ty : Nat → FieldType} (hd : decode y.2.1 pc = .ok (.new idx, 3)) (hcl : ClOK ci Cn T N ty) (hl1 : Cond.classLink y.1.cls idx Cn ∈ Ts) (hl2 : Cond.instantiable Cn N ∈ Ts) (hl3 : Cond.initialized Cn ∈ Ts)
    (htg : ∀ j, j < N → tagOf (ty j) = LY.2 ci j ∧ LY.2 ci j ≤ 2) (hn : n < 1000) (rb : RB S n M) (hls : ∀ v, some v ∈ ls → hOK n v) (hst : ∀ v ∈ st, hOK n v) (hr1 : k + 1 ≤ C.2.2.2.1.cells) (hr2 : w + N ≤ C.2.2.2.1.slots)
    (kk : ∀ g' : Nat → Nat, GA g g' n → EX (push S n (ci, N)) (n + 1) → RB (push S n (ci, N)) (n + 1) (setR M n (dfl LY ci)) → RZ (g', q) (push S n (ci, N)) C Z (k + 1) (w + N) (n + 1) (pc + 3) ls (vR n :: st) (setR M n (dfl LY ci))) : RZ (g, q) S C Z k w n pc ls st M := by
  have hc := cl_lt hcl.1
  have e' : EX (push S n (ci, N)) (n + 1) := e.push (by show ci ≠ 21; omega)
  have ed : dfl (push S n (ci, N)) ci = dfl LY ci := by
    unfold dfl
    rw [e'.2.2.1]
  have h1 : ∀ h, h < n → (push S n (ci, N)).1 h = S.1 h := fun h hh => push_o (by omega)
  have rb1 : RB (push S n (ci, N)) n M := rb.sh h1 (e.two e')
  refine R_shape e e' h1 ?_
  refine R_newO hC hd hcl hl1 hl2 hl3 push_s (by rw [e'.2.2.1]; exact htg) hn rb1 hls hst hr1 hr2 (fun g' ga => ?_)
  rw [ed]
  exact kk g' ga e' (RB.set rb1 (fun j => (dfl_b j).2))
theorem R_newAd (hC : CxOK (g, q) y C) (e : EX S n) {kd N : Nat} {v : Int} {atype : ArrayType} (hd : decode y.2.1 pc = .ok (.newarray atype, 2)) (hty : newarray.typeOf atype = aTy kd) (hkd : kd = 20 ∨ kd = 22) (hl1 : Cond.arrayClass (newarray.typeOf atype) ∈ Ts)
    (hv : v = (N : Int)) (hN : N ≤ 65536) (hn : n < 1000) (rb : RB S n M) (hls : ∀ v, some v ∈ ls → hOK n v) (hst : ∀ v ∈ st, hOK n v) (hr1 : k + 1 ≤ C.2.2.2.1.cells) (hr2 : w + N ≤ C.2.2.2.1.slots)
    (kk : ∀ g' : Nat → Nat, GA g g' n → EX (push S n (kd, N)) (n + 1) → RB (push S n (kd, N)) (n + 1) (setR M n (fun _ => 0)) → RZ (g', q) (push S n (kd, N)) C Z (k + 1) (w + N) (n + 1) (pc + 2) ls (vR n :: st) (setR M n (fun _ => 0))) : RZ (g, q) S C Z k w n pc ls (vI v :: st) M := by
  subst hv
  have e' : EX (push S n (kd, N)) (n + 1) := e.push (by show kd ≠ 21; omega)
  have h1 : ∀ h, h < n → (push S n (kd, N)).1 h = S.1 h := fun h hh => push_o (by omega)
  have rb1 : RB (push S n (kd, N)) n M := rb.sh h1 (e.two e')
  have iN : inI (N : Int) := ⟨by omega, by omega⟩
  refine R_shape e e' h1 ?_
  refine R_newA (kd := kd) (N := N) hC hd hty (by omega) hl1 push_s (i_n0 iN (by omega)) (by rw [i_cl iN]; omega) ?_ hn rb1 hls hst hr1 hr2 (fun g' ga => kk g' ga e' (RB.set rb1 (fun _ => by decide)))
  have hb : componentBytes (aTy kd) ≤ 8 := by rcases hkd with rfl | rfl <;> decide
  exact Nat.le_trans (Nat.mul_le_mul hN hb) (by decide)
/-! contracts that make things and return what they may -/
def QD (g : Nat → Nat) (q : Gq) (S : Sh) (n : Nat) (Q : Option V → Sh → Nat → Mem → Prop) : Array Value → State → Outcome → State → Prop := fun _ st o t =>
  (∃ (g' : Nat → Nat) (S' : Sh) (n' : Nat) (r : Option V) (M : Mem), GA g g' n ∧ n ≤ n' ∧ EX S' n' ∧ (∀ h, h < n → S'.1 h = S.1 h) ∧ o = .returned (r.map (enc (g', q))) ∧ Q r S' n' M ∧ RB S' n' M ∧ Hp (g', q) S' n' M t.heap ∧ okM S' M ∧ okVs r.toList ∧ ∀ v ∈ r.toList, hOK n' v) ∧ va_F (aA (g, q)) st t
def CtD (g : Nat → Nat) (q : Gq) (S : Sh) (n : Nat) (l : Launch) (d kc kw : Nat) (y : Mt) (args : List V) (M : Mem) (Q : Option V → Sh → Nat → Mem → Prop) : Prop :=
  Met l y.1 (wsY y) (rmN d kc kw) (Pn (g, q) S n args M) (QD g q S n Q) kc kw (aA (g, q))
def ZD (g : Nat → Nat) (q : Gq) (S : Sh) (n : Nat) (C : Cx) (Q : Option V → Sh → Nat → Mem → Prop) (kc kw : Nat) : State → Prop := MQ C.2.2.2.2.2.2.2.1 (QD g q S n Q) C.2.2.2.2.2.2.1 C.2.2.2.2.1 kc kw (aA (g, q))
theorem R_startD {l : Launch} {d kc kw : Nat} {args : List V} {Q : Option V → Sh → Nat → Mem → Prop} (hy : plainName y.1.cls = true) (hlen : (aL args).length ≤ y.2.2.1)
    (h : ∀ C : Cx, CxOK (g, q) y C → (y.1.name = "<init>" → inI0 C) → C.2.2.2.1 = rmN d kc kw → C.2.1 = l → RZ (g, q) S C (ZD g q S n C Q kc kw) 0 0 n 0 (aL args ++ List.replicate (y.2.2.1 - (aL args).length) none) [] M) : CtD g q S n l d kc kw y args M Q := by
  refine Met.ofW (cc := y.2.1) (maxL := y.2.2.1) (ret := y.2.2.2) hy rfl ?_
  intro p e s m ars below meth c s₁ B hml hv
  obtain ⟨rfl, hp, hK, hm, hv, hz⟩ := hv
  have hts : ∀ u ∈ Ts, u.before (args.map (enc (g, q))).toArray s = true := fun w hw => atoms_spec (ws := wsY y) B.pre w (List.mem_cons_of_mem _ hw)
  have hC : CxOK (g, q) y (p, l, e, (headSpec (wsY y) (rmN d kc kw)).room, s, m, (args.map (enc (g, q))).toArray, below, meth, c) :=
    ⟨B.exec, B.bytes, hml, findClass_of_methodNamed B.named, hts, hK, B.notSynchronized, B.returns, hz⟩
  have hin : y.1.name = "<init>" → meth.name = "<init>" := fun e => ((name_of_methodNamed B.named B.method).1).trans e
  have hW := h _ hC hin rfl rfl s.heap [] _ hp va_S.rf hm (okLs_aL args _ hv) trivial (by
    show lsR (g, q) c.maxLocals _ _
    rw [hml]
    exact lsR_entry (g, q) args hlen)
  rw [lg_entry_eq]
  exact hW
theorem R_widenG {G : Gl} {k' w' : Nat} (h1 : k ≤ k') (h2 : w ≤ w') (kk : RZ G S C Z k' w' n pc ls st M) : RZ G S C Z k w n pc ls st M :=
  fun H locs ar hp hs hm hl hv ha => W.widen h1 h2 (kk H locs ar hp hs hm hl hv ha)
section RET
variable {g0 : Nat → Nat} {S0 : Sh} {n0 kc kw : Nat} {Q : Option V → Sh → Nat → Mem → Prop}
theorem R_vretD (hC : CxOK (g, q) y C) (hd : decode y.2.1 pc = .ok (.return_, 1)) (hr : y.2.2.2 = none) (h1 : k ≤ kc) (h2 : w ≤ kw) (ga : GA g0 g n0) (hn : n0 ≤ n) (e : EX S n) (hS : ∀ h, h < n0 → S.1 h = S0.1 h) (rb : RB S n M) (hq : Q none S n M) : RZ (g, q) S C (ZD g0 q S0 n0 C Q kc kw) k w n pc ls [] M := by
  refine R_widenG h1 h2 ?_
  intro H locs ar hp hs hm hl hv ha
  exact W.vret hC.1 hC.2.1 (hC.2.2.2.2.2.2.2.1.trans hr) (fun t ht hW => ⟨⟨g, S, n, none, M, ga, hn, e, hS, rfl, hq, rb, by rw [ht]; exact hp, hm, trivial, fun v h => absurd h List.not_mem_nil⟩, hs.F ht⟩) hs.2.2 hd hC.2.2.2.2.2.2.1
theorem R_aretD {h : Nat} {rt : FieldType} (hC : CxOK (g, q) y C) (hd : decode y.2.1 pc = .ok (.areturn, 1)) (hr : y.2.2.2 = some rt) (hrt : (∃ n, rt = .object n) ∨ ∃ t, rt = .array t) (h1 : k ≤ kc) (h2 : w ≤ kw) (ga : GA g0 g n0) (hn : n0 ≤ n) (e : EX S n) (hS : ∀ h, h < n0 → S.1 h = S0.1 h) (rb : RB S n M) (hh : hOK n (vR h)) (hq : Q (some (vR h)) S n M) : RZ (g, q) S C (ZD g0 q S0 n0 C Q kc kw) k w n pc ls [vR h] M := by
  refine R_widenG h1 h2 ?_
  intro H locs ar hp hs hm hl hv ha
  exact W.aret hC.1 hC.2.1 (hC.2.2.2.2.2.2.2.1.trans hr) hrt (.inr ⟨_, rfl⟩) (fun t ht hW => ⟨⟨g, S, n, some (vR h), M, ga, hn, e, hS, rfl, hq, rb, by rw [ht]; exact hp, hm, ⟨trivial, trivial⟩, fun v hv => by rw [Option.toList_some, List.mem_singleton] at hv; rw [hv]; exact hh⟩, hs.F ht⟩) hs.2.2 hd hC.2.2.2.2.2.2.1
theorem R_iretD {v : Int} (hC : CxOK (g, q) y C) (hd : decode y.2.1 pc = .ok (.ireturn, 1)) (hr : y.2.2.2 = some .int) (h1 : k ≤ kc) (h2 : w ≤ kw) (ga : GA g0 g n0) (hn : n0 ≤ n) (e : EX S n) (hS : ∀ h, h < n0 → S.1 h = S0.1 h) (rb : RB S n M) (hq : Q (some (vI v)) S n M) : RZ (g, q) S C (ZD g0 q S0 n0 C Q kc kw) k w n pc ls [vI v] M := by
  refine R_widenG h1 h2 ?_
  intro H locs ar hp hs hm hl hv ha
  exact W.iret hC.1 hC.2.1 (hC.2.2.2.2.2.2.2.1.trans hr) (fun t ht hW => ⟨⟨g, S, n, some (vI v), M, ga, hn, e, hS, rfl, hq, rb, by rw [ht]; exact hp, hm, ⟨hv.1, trivial⟩, fun u hu => by rw [Option.toList_some, List.mem_singleton] at hu; rw [hu]; trivial⟩, hs.F ht⟩) hs.2.2 hd hC.2.2.2.2.2.2.1
theorem R_zretD {v : Int} (hC : CxOK (g, q) y C) (hd : decode y.2.1 pc = .ok (.ireturn, 1)) (hr : y.2.2.2 = some .boolean) (hb : v = 0 ∨ v = 1) (h1 : k ≤ kc) (h2 : w ≤ kw) (ga : GA g0 g n0) (hn : n0 ≤ n) (e : EX S n) (hS : ∀ h, h < n0 → S.1 h = S0.1 h) (rb : RB S n M) (hq : Q (some (vI v)) S n M) : RZ (g, q) S C (ZD g0 q S0 n0 C Q kc kw) k w n pc ls [vI v] M := by
  refine R_widenG h1 h2 ?_
  intro H locs ar hp hs hm hl hv ha
  exact W.zret hC.1 hC.2.1 (hC.2.2.2.2.2.2.2.1.trans hr) (by rcases hb with rfl | rfl <;> decide +kernel) (fun t ht hW => ⟨⟨g, S, n, some (vI v), M, ga, hn, e, hS, rfl, hq, rb, by rw [ht]; exact hp, hm, ⟨hv.1, trivial⟩, fun u hu => by rw [Option.toList_some, List.mem_singleton] at hu; rw [hu]; trivial⟩, hs.F ht⟩) hs.2.2 hd hC.2.2.2.2.2.2.1
end RET
theorem R_areturn {G : Gl} {h : Nat} {rt : FieldType} {Q : Option V → Mem → Prop} (hC : CxOK G y C) (hd : decode y.2.1 pc = .ok (.areturn, 1)) (hr : y.2.2.2 = some rt) (hrt : (∃ n, rt = .object n) ∨ ∃ t, rt = .array t) (hq : Q (some (vR h)) M) : RZ G S C (Zn G S n C Q) 0 0 n pc ls [vR h] M := by
  intro H locs ar hp hs hm hl hv ha
  exact W.aret hC.1 hC.2.1 (hC.2.2.2.2.2.2.2.1.trans hr) hrt (.inr ⟨_, rfl⟩) (fun t ht hW => ⟨⟨some (vR h), M, rfl, hq, by rw [ht]; exact hp, hm, trivial, trivial⟩, hs.F ht⟩) hs.2.2 hd hC.2.2.2.2.2.2.1
/-! calls of those -/
theorem R_callD {args : List V} {Q : Option V → Sh → Nat → Mem → Prop} {Zs : List Value} {kc kw : Nat} (hC : CxOK (g, q) y C)
    {H : Heap} {locs : List Loc} {ar : Array Slot} (hs : va_S (aA (g, q)) C.2.2.2.2.1.heap H locs) (hl : okLs ls) (hv : okVs st) (ha : lsR (g, q) C.2.2.2.2.2.2.2.2.2.maxLocals ls ar) (hls : ∀ v, some v ∈ ls → hOK n v) (hsv : ∀ v ∈ st, hOK n v)
    (hr : va_Run C.1 C.2.1 C.2.2.1 C.2.2.2.1 C.2.2.2.2.1 C.2.2.2.2.2.1 C.2.2.2.2.2.2.1 C.2.2.2.2.2.2.2.1 C.2.2.2.2.2.2.2.2.1 C.2.2.2.2.2.2.2.2.2 H locs k w kc kw (F0 C.2.2.2.2.2.1 pc ar Zs) (st.map (enc (g, q))) (QD g q S n Q (args.map (enc (g, q))).toArray) (aA (g, q)))
    (kk : ∀ (g' : Nat → Nat) (S' : Sh) (n' : Nat) (r : Option V) (M' : Mem), GA g g' n → n ≤ n' → EX S' n' → (∀ h, h < n → S'.1 h = S.1 h) → Q r S' n' M' → RB S' n' M' → (∀ v ∈ r.toList, hOK n' v) → RZ (g', q) S' C Z (k + kc) (w + kw) n' (pc + 3) ls (r.toList ++ st) M') :
    W C.1 C.2.1 C.2.2.1 C.2.2.2.1 C.2.2.2.2.1 C.2.2.2.2.2.1 C.2.2.2.2.2.2.1 C.2.2.2.2.2.2.2.1 C.2.2.2.2.2.2.2.2.1 C.2.2.2.2.2.2.2.2.2 H locs k w Z (F0 C.2.2.2.2.2.1 pc ar Zs) := by
  intro T hT X
  obtain ⟨v, st₀, t, T', L, h0, X', hL, e1, e2, ⟨⟨g', S', n', r, M', hga, hnn, hex, hsh, hvr, hq, hrb, hp, hm, hvv, hok⟩, hz, hk⟩, sg⟩ := hr T hT X
  cases hvr
  rw [h0] at hz hk
  have hp' : Hp (g', q) S' n' M' T'.heap := by rw [e1]; exact hp
  have hS : va_S (aA (g, q)) C.2.2.2.2.1.heap T'.heap (locs ++ L) := ⟨Nat.le_trans hs.1 (by rw [e1]; exact hz), fun a h1 h2 => by rw [e1, hk a (Nat.lt_of_lt_of_le h1 hs.1) h2]; exact hs.2.1 a h1 h2, fun a ha => (List.mem_append.mp ha).elim (hs.2.2 a) (hL a)⟩
  have hvs : okVs (r.toList ++ st) := by
    cases r with
    | none => exact hv
    | some u => exact ⟨hvv.1, hv⟩
  obtain ⟨t2, a1, b1⟩ := kk g' S' n' r M' hga hnn hex hsh hq hrb hok T'.heap (locs ++ L) ar hp' hS hm hl hvs (lsR.ga hga hls ha) T' rfl X'
  refine ⟨t2, sg t2 ?_, b1⟩
  have e3 : (r.map (enc (g', q))).toList ++ st.map (enc (g, q)) = (r.toList ++ st).map (enc (g', q)) := by
    rw [List.map_append, encs_ga hga hsv]
    cases r <;> rfl
  show Steps _ _ _ (T'.setTop { F0 C.2.2.2.2.2.1 pc ar Zs with pc := pc + 3, stack := (r.map (enc (g', q))).toList ++ st.map (enc (g, q)) }) t2
  rw [e3]
  exact a1
theorem gi_V {own : String} {idx : Nat} {z : Mt} {na : Nat} (hz : MO z na false) (hlk : Cond.methodLink own idx z.1 ∈ Ts) : GoodIn Ts (wsV own idx z.1.cls z.1 (wsY z)) := by
  obtain ⟨z1, z2, z3, z4⟩ := hz
  rw [if_neg (by decide)] at z4
  intro u hu
  have hu2 : u ∈ Ts := by
    unfold wsV at hu
    rcases List.mem_append.mp hu with e | e
    · rcases List.mem_cons.mp e with e | e
      · rw [e]; exact hlk
      rcases List.mem_cons.mp e with e | e
      · rw [e]; exact z4.1
      rcases List.mem_cons.mp e with e | e
      · rw [e]; exact z4.2
      rcases List.mem_cons.mp e with e | e
      · rw [e]; exact z2
      · cases e
    · exact (good_wsY z1 u e).1
  exact ⟨hu2, good_of_word (List.mem_filter.mp hu2).2⟩
theorem gi_S {own : String} {idx : Nat} {z : Mt} {na : Nat} (hz : MO z na true) (hlk : Cond.methodLink own idx z.1 ∈ Ts) : GoodIn Ts (va_wsS own idx z.1 (wsY z)) := by
  obtain ⟨z1, z2, z3, z4⟩ := hz
  rw [if_pos rfl] at z4
  intro u hu
  have hu2 : u ∈ Ts := by
    unfold va_wsS at hu
    rcases List.mem_append.mp hu with e | e
    · rcases List.mem_cons.mp e with e | e
      · rw [e]; exact hlk
      rcases List.mem_cons.mp e with e | e
      · rw [e]; exact z4
      rcases List.mem_cons.mp e with e | e
      · rw [e]; exact z2
      · cases e
    · exact (good_wsY z1 u e).1
  exact ⟨hu2, good_of_word (List.mem_filter.mp hu2).2⟩
/-- a method that another class inherits, or that is the superclass's own: its words -/
def MU (Cn : String) (z : Mt) (na : Nat) : Prop :=
  Cond.code z.1 z.2.1 z.2.2.1 z.2.2.2 ∈ Ts ∧ Cond.initialized z.1.cls ∈ Ts ∧ (z.1.cls ≠ "java/lang/invoke/MethodHandle" ∧ z.1.cls ≠ "java/lang/invoke/VarHandle" ∧ (parseMethodDescriptor z.1.desc).map (fun d => d.parameters.length) = some na) ∧
  Cond.sameMethod z.1.cls z.1.cls z.1.name z.1.desc ∈ Ts ∧ Cond.instanceMethod z.1 ∈ Ts ∧ (Cond.selects Cn z.1 z.1 ∈ Ts ∨ (z.1.name ≠ "<init>" ∧ Cond.superclass Cn z.1.cls ∈ Ts))
theorem gi_U {own Cn : String} {idx : Nat} {z : Mt} {na : Nat} (hz : MU Cn z na) (hs : Cond.selects Cn z.1 z.1 ∈ Ts) (hlk : Cond.methodLink own idx z.1 ∈ Ts) : GoodIn Ts (va_wsU own idx Cn z.1.cls z.1 z.1 (wsY z)) := by
  obtain ⟨z1, z2, z3, z4, z5, z6⟩ := hz
  intro u hu
  have hu2 : u ∈ Ts := by
    unfold va_wsU at hu
    rcases List.mem_append.mp hu with e | e
    · rcases List.mem_cons.mp e with e | e
      · rw [e]; exact hlk
      rcases List.mem_cons.mp e with e | e
      · rw [e]; exact z4
      rcases List.mem_cons.mp e with e | e
      · rw [e]; exact hs
      rcases List.mem_cons.mp e with e | e
      · rw [e]; exact z5
      rcases List.mem_cons.mp e with e | e
      · rw [e]; exact z2
      · cases e
    · exact (good_wsY z1 u e).1
  exact ⟨hu2, good_of_word (List.mem_filter.mp hu2).2⟩
theorem gi_Su {own : String} {idx : Nat} {z : Mt} {na : Nat} (hz : MU own z na) (hs : Cond.superclass own z.1.cls ∈ Ts) (hlk : Cond.methodLink own idx z.1 ∈ Ts) : GoodIn Ts (va_wsSU own idx z.1 (wsY z)) := by
  obtain ⟨z1, z2, z3, z4, z5, z6⟩ := hz
  intro u hu
  have hu2 : u ∈ Ts := by
    unfold va_wsSU at hu
    rcases List.mem_append.mp hu with e | e
    · rcases List.mem_cons.mp e with e | e
      · rw [e]; exact hlk
      rcases List.mem_cons.mp e with e | e
      · rw [e]; exact z4
      rcases List.mem_cons.mp e with e | e
      · rw [e]; exact hs
      rcases List.mem_cons.mp e with e | e
      · rw [e]; exact z5
      rcases List.mem_cons.mp e with e | e
      · rw [e]; exact z2
      · cases e
    · exact (good_wsY z1 u e).1
  exact ⟨hu2, good_of_word (List.mem_filter.mp hu2).2⟩
section CALLS
variable {d kc kw na idx h ci nf : Nat} {z : Mt} {as : List V} {st0 : List V}
theorem cls_ci {c : String} (hci : (vwCl[ci]?).map (fun q => q.1) = some c) : ∃ q, vwCl[ci]? = some q ∧ q.1 = c := by
  cases e : vwCl[ci]? with
  | none => rw [e] at hci; cases hci
  | some q => rw [e] at hci; exact ⟨q, rfl, Option.some.inj hci⟩
theorem revm {G : Gl} : List.map (enc G) (as.reverse ++ vR h :: st) = (as.map (enc G)).reverse ++ .ref (G.1 h) :: st.map (enc G) := by
  rw [List.map_append, List.map_reverse]
  rfl
theorem revs {G : Gl} : List.map (enc G) (as.reverse ++ st) = (as.map (enc G)).reverse ++ st.map (enc G) := by
  rw [List.map_append, List.map_reverse]
theorem R_callSD {Q : Option V → Sh → Nat → Mem → Prop} (hC : CxOK (g, q) y C) (hd : decode y.2.1 pc = .ok (.invokestatic idx, 3)) (hz : MO z na true) (hlk : Cond.methodLink y.1.cls idx z.1 ∈ Ts)
    (hct : CtD g q S n C.2.1 d kc kw z as M Q) (hst : st0 = as.reverse ++ st) (hna : as.length = na)
    (hR : d + 1 ≤ C.2.2.2.1.frames ∧ 8 + (z.2.2.1 + 11) + (40 * d + 40) ≤ C.2.2.2.1.locals ∧ k + kc ≤ C.2.2.2.1.cells ∧ w + kw ≤ C.2.2.2.1.slots) (hcat : (st.map vcat).sum ≤ 8) (hls : ∀ v, some v ∈ ls → hOK n v) (hsv : ∀ v ∈ st, hOK n v)
    (kk : ∀ (g' : Nat → Nat) (S' : Sh) (n' : Nat) (r : Option V) (M' : Mem), GA g g' n → n ≤ n' → EX S' n' → (∀ h, h < n → S'.1 h = S.1 h) → Q r S' n' M' → RB S' n' M' → (∀ v ∈ r.toList, hOK n' v) → RZ (g', q) S' C Z (k + kc) (w + kw) n' (pc + 3) ls (r.toList ++ st) M') : RZ (g, q) S C Z k w n pc ls st0 M := by
  intro H locs ar hp hs hm hl hv ha
  subst hst
  have hv2 := (okVs_app _ _).mp hv
  refine R_callD (args := as) hC hs hl hv2.2 ha hls hsv ?_ kk
  exact va_runS (As := as.map (enc (g, q))) (ws := wsY z) (nL := C.2.2.2.2.2.2.2.2.2.maxLocals) (cc := y.2.1) (Ts := Ts) (own := y.1.cls) ⟨hC.1, hC.2.1, rfl, hC.2.2.2.1, hC.2.2.2.2.1⟩ hct (va_cwS na (hC.2.2.2.2.1) (gi_S hz hlk) rfl rfl rfl hz.2.2.1 ⟨hR.1, hR.2.1⟩) (Pn.pre (args := as) hC hp hs hm (okVs_rev _ hv2.1)) rfl (by rw [List.length_map]; exact hna) ha.1 revs (lv_room (by rw [enc_cats]; exact hcat)) hd ⟨hR.2.2.1, hR.2.2.2⟩
theorem R_callVD {Q : Option V → Sh → Nat → Mem → Prop} (hC : CxOK (g, q) y C) (hd : decode y.2.1 pc = .ok (.invokevirtual idx, 3)) (hz : MO z na false) (hlk : Cond.methodLink y.1.cls idx z.1 ∈ Ts)
    (hh : h < n) (hk : S.1 h = (ci, nf)) (hci : (vwCl[ci]?).map (fun q => q.1) = some z.1.cls) (hct : CtD g q S n C.2.1 d kc kw z (vR h :: as) M Q) (hst : st0 = as.reverse ++ vR h :: st) (hna : as.length = na)
    (hR : d + 1 ≤ C.2.2.2.1.frames ∧ 8 + (z.2.2.1 + 11) + (40 * d + 40) ≤ C.2.2.2.1.locals ∧ k + kc ≤ C.2.2.2.1.cells ∧ w + kw ≤ C.2.2.2.1.slots) (hcat : (st.map vcat).sum ≤ 8) (hls : ∀ v, some v ∈ ls → hOK n v) (hsv : ∀ v ∈ st, hOK n v)
    (kk : ∀ (g' : Nat → Nat) (S' : Sh) (n' : Nat) (r : Option V) (M' : Mem), GA g g' n → n ≤ n' → EX S' n' → (∀ h, h < n → S'.1 h = S.1 h) → Q r S' n' M' → RB S' n' M' → (∀ v ∈ r.toList, hOK n' v) → RZ (g', q) S' C Z (k + kc) (w + kw) n' (pc + 3) ls (r.toList ++ st) M') : RZ (g, q) S C Z k w n pc ls st0 M := by
  intro H locs ar hp hs hm hl hv ha
  subst hst
  have hv2 := (okVs_app _ _).mp hv
  obtain ⟨cq, hq1, hq2⟩ := cls_ci hci
  have hrv := va_recv hC.2.2.2.2.2.1.1 hp.1 hq1 ((wsM_at hh).trans (by rw [ent_obj hk (cl_lt hq1)]))
  rw [hq2] at hrv
  have hpre := Pn.pre (args := vR h :: as) hC hp hs hm ⟨trivial, okVs_rev _ hv2.1⟩
  refine R_callD (args := vR h :: as) hC hs hl hv2.2.2 ha hls hsv ?_ kk
  exact va_runV (As := as.map (enc (g, q))) (b := g h) (ws := wsY z) (nL := C.2.2.2.2.2.2.2.2.2.maxLocals) (cc := y.2.1) ⟨hC.1, hC.2.1, rfl, hC.2.2.2.1, hC.2.2.2.2.1⟩ hct (cwV na (hC.2.2.2.2.1) (gi_V hz hlk) rfl rfl rfl ⟨rfl, hz.2.2.1⟩ ⟨hR.1, hR.2.1⟩) ⟨hpre.1, hrv, hpre.2⟩ rfl (by rw [List.length_map]; exact hna) ha.1 revm (lv_room (by rw [enc_cats]; exact hcat)) hd ⟨hR.2.2.1, hR.2.2.2⟩
theorem R_callUD {Cn : String} {Q : Option V → Sh → Nat → Mem → Prop} (hC : CxOK (g, q) y C) (hd : decode y.2.1 pc = .ok (.invokevirtual idx, 3)) (hz : MU Cn z na) (hsl : Cond.selects Cn z.1 z.1 ∈ Ts) (hlk : Cond.methodLink y.1.cls idx z.1 ∈ Ts)
    (hh : h < n) (hk : S.1 h = (ci, nf)) (hci : (vwCl[ci]?).map (fun q => q.1) = some Cn) (hct : CtD g q S n C.2.1 d kc kw z (vR h :: as) M Q) (hst : st0 = as.reverse ++ vR h :: st) (hna : as.length = na)
    (hR : d + 1 ≤ C.2.2.2.1.frames ∧ 8 + (z.2.2.1 + 11) + (40 * d + 40) ≤ C.2.2.2.1.locals ∧ k + kc ≤ C.2.2.2.1.cells ∧ w + kw ≤ C.2.2.2.1.slots) (hcat : (st.map vcat).sum ≤ 8) (hls : ∀ v, some v ∈ ls → hOK n v) (hsv : ∀ v ∈ st, hOK n v)
    (kk : ∀ (g' : Nat → Nat) (S' : Sh) (n' : Nat) (r : Option V) (M' : Mem), GA g g' n → n ≤ n' → EX S' n' → (∀ h, h < n → S'.1 h = S.1 h) → Q r S' n' M' → RB S' n' M' → (∀ v ∈ r.toList, hOK n' v) → RZ (g', q) S' C Z (k + kc) (w + kw) n' (pc + 3) ls (r.toList ++ st) M') : RZ (g, q) S C Z k w n pc ls st0 M := by
  intro H locs ar hp hs hm hl hv ha
  subst hst
  have hv2 := (okVs_app _ _).mp hv
  obtain ⟨cq, hq1, hq2⟩ := cls_ci hci
  have hrv := va_recv hC.2.2.2.2.2.1.1 hp.1 hq1 ((wsM_at hh).trans (by rw [ent_obj hk (cl_lt hq1)]))
  rw [hq2] at hrv
  have hpre := Pn.pre (args := vR h :: as) hC hp hs hm ⟨trivial, okVs_rev _ hv2.1⟩
  refine R_callD (args := vR h :: as) hC hs hl hv2.2.2 ha hls hsv ?_ kk
  exact va_runU (C := Cn) (owner := z.1.cls) (x := z.1) (y := z.1) (As := as.map (enc (g, q))) (b := g h) (ws := wsY z) (nL := C.2.2.2.2.2.2.2.2.2.maxLocals) (cc := y.2.1) ⟨hC.1, hC.2.1, rfl, hC.2.2.2.1, hC.2.2.2.2.1⟩ hct (va_cwU na (hC.2.2.2.2.1) (gi_U hz hsl hlk) rfl rfl rfl rfl hz.2.2.1 ⟨hR.1, hR.2.1⟩) ⟨hpre.1, hrv, hpre.2⟩ rfl (by rw [List.length_map]; exact hna) ha.1 revm (lv_room (by rw [enc_cats]; exact hcat)) hd ⟨hR.2.2.1, hR.2.2.2⟩
theorem R_callU {G : Gl} {Cn : String} {Q : Option V → Mem → Prop} (hC : CxOK G y C) (hd : decode y.2.1 pc = .ok (.invokevirtual idx, 3)) (hz : MU Cn z na) (hsl : Cond.selects Cn z.1 z.1 ∈ Ts) (hlk : Cond.methodLink y.1.cls idx z.1 ∈ Ts)
    (hh : h < n) (hk : S.1 h = (ci, nf)) (hci : (vwCl[ci]?).map (fun q => q.1) = some Cn) (hct : Ct G S n C.2.1 d z (vR h :: as) M Q) (hst : st0 = as.reverse ++ vR h :: st) (hna : as.length = na)
    (hR : d + 1 ≤ C.2.2.2.1.frames ∧ 8 + (z.2.2.1 + 11) + (40 * d + 40) ≤ C.2.2.2.1.locals ∧ k ≤ C.2.2.2.1.cells ∧ w ≤ C.2.2.2.1.slots) (hcat : (st.map vcat).sum ≤ 8)
    (kk : ∀ (r : Option V) (M' : Mem), Q r M' → RZ G S C Z k w n (pc + 3) ls (r.toList ++ st) M') : RZ G S C Z k w n pc ls st0 M := by
  intro H locs ar hp hs hm hl hv ha
  subst hst
  have hv2 := (okVs_app _ _).mp hv
  obtain ⟨cq, hq1, hq2⟩ := cls_ci hci
  have hrv := va_recv hC.2.2.2.2.2.1.1 hp.1 hq1 ((wsM_at hh).trans (by rw [ent_obj hk (cl_lt hq1)]))
  rw [hq2] at hrv
  have hpre := Pn.pre (args := vR h :: as) hC hp hs hm ⟨trivial, okVs_rev _ hv2.1⟩
  refine R_call (args := vR h :: as) hC hcat hs hl hv2.2.2 ha ?_ kk
  exact va_runU (C := Cn) (owner := z.1.cls) (x := z.1) (y := z.1) (As := as.map (enc G)) (b := G.1 h) (ws := wsY z) (nL := C.2.2.2.2.2.2.2.2.2.maxLocals) (cc := y.2.1) ⟨hC.1, hC.2.1, rfl, hC.2.2.2.1, hC.2.2.2.2.1⟩ hct (va_cwU na (hC.2.2.2.2.1) (gi_U hz hsl hlk) rfl rfl rfl rfl hz.2.2.1 ⟨hR.1, hR.2.1⟩) ⟨hpre.1, hrv, hpre.2⟩ rfl (by rw [List.length_map]; exact hna) ha.1 revm (lv_room (by rw [enc_cats]; exact hcat)) hd ⟨hR.2.2.1, hR.2.2.2⟩
theorem kn_cl {U : State} {cq : vw_C} {D : va_G} {tys : List (ClassId × FieldType)} (hK : va_K D vwCl tys U) (hq1 : vwCl[ci]? = some cq) : ClassAt U cq.1 (D.1 ci) := (hK.1 ci cq hq1).2
theorem R_callSuD {Q : Option V → Sh → Nat → Mem → Prop} (hC : CxOK (g, q) y C) (hd : decode y.2.1 pc = .ok (.invokespecial idx, 3)) (hz : MU y.1.cls z na) (hsu : Cond.superclass y.1.cls z.1.cls ∈ Ts) (hni : z.1.name ≠ "<init>") (hlk : Cond.methodLink y.1.cls idx z.1 ∈ Ts)
    (hh : h < n) (hk : S.1 h = (ci, nf)) (hci : (vwCl[ci]?).map (fun q => q.1) = some y.1.cls) (hct : CtD g q S n C.2.1 d kc kw z (vR h :: as) M Q) (hst : st0 = as.reverse ++ vR h :: st) (hna : as.length = na)
    (hR : d + 1 ≤ C.2.2.2.1.frames ∧ 8 + (z.2.2.1 + 11) + (40 * d + 40) ≤ C.2.2.2.1.locals ∧ k + kc ≤ C.2.2.2.1.cells ∧ w + kw ≤ C.2.2.2.1.slots) (hcat : (st.map vcat).sum ≤ 8) (hls : ∀ v, some v ∈ ls → hOK n v) (hsv : ∀ v ∈ st, hOK n v)
    (kk : ∀ (g' : Nat → Nat) (S' : Sh) (n' : Nat) (r : Option V) (M' : Mem), GA g g' n → n ≤ n' → EX S' n' → (∀ h, h < n → S'.1 h = S.1 h) → Q r S' n' M' → RB S' n' M' → (∀ v ∈ r.toList, hOK n' v) → RZ (g', q) S' C Z (k + kc) (w + kw) n' (pc + 3) ls (r.toList ++ st) M') : RZ (g, q) S C Z k w n pc ls st0 M := by
  intro H locs ar hp hs hm hl hv ha
  subst hst
  have hv2 := (okVs_app _ _).mp hv
  obtain ⟨cq, hq1, hq2⟩ := cls_ci hci
  have hrv := va_recv hC.2.2.2.2.2.1.1 hp.1 hq1 ((wsM_at hh).trans (by rw [ent_obj hk (cl_lt hq1)]))
  have hat := kn_cl hC.2.2.2.2.2.1.1 hq1
  rw [hq2] at hrv hat
  have hpre := Pn.pre (args := vR h :: as) hC hp hs hm ⟨trivial, okVs_rev _ hv2.1⟩
  refine R_callD (args := vR h :: as) hC hs hl hv2.2.2 ha hls hsv ?_ kk
  exact va_runSU (C := y.1.cls) (As := as.map (enc (g, q))) (b := g h) (ws := wsY z) (nL := C.2.2.2.2.2.2.2.2.2.maxLocals) (cc := y.2.1) hat ⟨hC.1, hC.2.1, rfl, hC.2.2.2.1, hC.2.2.2.2.1⟩ hct (va_cwSU na (hC.2.2.2.2.1) (gi_Su hz hsu hlk) rfl rfl rfl ⟨hni, hz.2.2.1.2.2⟩ ⟨hR.1, hR.2.1⟩) ⟨hpre.1, hrv, hpre.2⟩ rfl (by rw [List.length_map]; exact hna) ha.1 revm (lv_room (by rw [enc_cats]; exact hcat)) hd ⟨hR.2.2.1, hR.2.2.2⟩
theorem R_callSu {G : Gl} {Q : Option V → Mem → Prop} (hC : CxOK G y C) (hd : decode y.2.1 pc = .ok (.invokespecial idx, 3)) (hz : MU y.1.cls z na) (hsu : Cond.superclass y.1.cls z.1.cls ∈ Ts) (hni : z.1.name ≠ "<init>") (hlk : Cond.methodLink y.1.cls idx z.1 ∈ Ts)
    (hh : h < n) (hk : S.1 h = (ci, nf)) (hci : (vwCl[ci]?).map (fun q => q.1) = some y.1.cls) (hct : Ct G S n C.2.1 d z (vR h :: as) M Q) (hst : st0 = as.reverse ++ vR h :: st) (hna : as.length = na)
    (hR : d + 1 ≤ C.2.2.2.1.frames ∧ 8 + (z.2.2.1 + 11) + (40 * d + 40) ≤ C.2.2.2.1.locals ∧ k ≤ C.2.2.2.1.cells ∧ w ≤ C.2.2.2.1.slots) (hcat : (st.map vcat).sum ≤ 8)
    (kk : ∀ (r : Option V) (M' : Mem), Q r M' → RZ G S C Z k w n (pc + 3) ls (r.toList ++ st) M') : RZ G S C Z k w n pc ls st0 M := by
  intro H locs ar hp hs hm hl hv ha
  subst hst
  have hv2 := (okVs_app _ _).mp hv
  obtain ⟨cq, hq1, hq2⟩ := cls_ci hci
  have hrv := va_recv hC.2.2.2.2.2.1.1 hp.1 hq1 ((wsM_at hh).trans (by rw [ent_obj hk (cl_lt hq1)]))
  have hat := kn_cl hC.2.2.2.2.2.1.1 hq1
  rw [hq2] at hrv hat
  have hpre := Pn.pre (args := vR h :: as) hC hp hs hm ⟨trivial, okVs_rev _ hv2.1⟩
  refine R_call (args := vR h :: as) hC hcat hs hl hv2.2.2 ha ?_ kk
  exact va_runSU (C := y.1.cls) (As := as.map (enc G)) (b := G.1 h) (ws := wsY z) (nL := C.2.2.2.2.2.2.2.2.2.maxLocals) (cc := y.2.1) hat ⟨hC.1, hC.2.1, rfl, hC.2.2.2.1, hC.2.2.2.2.1⟩ hct (va_cwSU na (hC.2.2.2.2.1) (gi_Su hz hsu hlk) rfl rfl rfl ⟨hni, hz.2.2.1.2.2⟩ ⟨hR.1, hR.2.1⟩) ⟨hpre.1, hrv, hpre.2⟩ rfl (by rw [List.length_map]; exact hna) ha.1 revm (lv_room (by rw [enc_cats]; exact hcat)) hd ⟨hR.2.2.1, hR.2.2.2⟩
/-- a constructor -/
theorem R_callID {Q : Option V → Sh → Nat → Mem → Prop} (hC : CxOK (g, q) y C) (hd : decode y.2.1 pc = .ok (.invokespecial idx, 3)) (hz : MI z na) (hlk : Cond.methodLink y.1.cls idx z.1 ∈ Ts)
    (hct : CtD g q S n C.2.1 d kc kw z (vR h :: as) M Q) (hst : st0 = as.reverse ++ vR h :: st) (hna : as.length = na)
    (hR : d + 1 ≤ C.2.2.2.1.frames ∧ 8 + (z.2.2.1 + 11) + (40 * d + 40) ≤ C.2.2.2.1.locals ∧ k + kc ≤ C.2.2.2.1.cells ∧ w + kw ≤ C.2.2.2.1.slots) (hcat : (st.map vcat).sum ≤ 8) (hls : ∀ v, some v ∈ ls → hOK n v) (hsv : ∀ v ∈ st, hOK n v)
    (kk : ∀ (g' : Nat → Nat) (S' : Sh) (n' : Nat) (r : Option V) (M' : Mem), GA g g' n → n ≤ n' → EX S' n' → (∀ h, h < n → S'.1 h = S.1 h) → Q r S' n' M' → RB S' n' M' → (∀ v ∈ r.toList, hOK n' v) → RZ (g', q) S' C Z (k + kc) (w + kw) n' (pc + 3) ls (r.toList ++ st) M') : RZ (g, q) S C Z k w n pc ls st0 M := by
  intro H locs ar hp hs hm hl hv ha
  obtain ⟨z1, z2, z3, z4, z5, z6⟩ := hz
  subst hst
  have hv2 := (okVs_app _ _).mp hv
  have z1' : Cond.code z.1 z.2.1 z.2.2.1 z.2.2.2 ∈ Ts := by rw [z6]; exact z1
  have hpre := Pn.pre (args := vR h :: as) hC hp hs hm ⟨trivial, okVs_rev _ hv2.1⟩
  refine R_callD (args := vR h :: as) hC hs hl hv2.2.2 ha hls hsv ?_ kk
  exact va_runI (As := as.map (enc (g, q))) (b := g h) (ws := wsY z) (nL := C.2.2.2.2.2.2.2.2.2.maxLocals) (cc := y.2.1) ⟨hC.1, hC.2.1, rfl, hC.2.2.2.1, hC.2.2.2.2.1⟩ hct
    (cwI na (hC.2.2.2.2.1) (good_wsY z1') (by unfold wsY; rw [z6]) rfl rfl (hC.2.2.2.2.1 _ z2) (hC.2.2.2.2.1 _ hlk) (hC.2.2.2.2.1 _ z4) z5 z3 ⟨hR.1, hR.2.1⟩) hpre rfl (by rw [List.length_map]; exact hna) ha.1 revm (lv_room (by rw [enc_cats]; exact hcat)) hd ⟨hR.2.2.1, hR.2.2.2⟩
end CALLS
end DYN
