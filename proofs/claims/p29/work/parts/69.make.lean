/-! making: objects and arrays; constructors -/
abbrev Gq : Type := (Nat → Prop) × va_G × (Nat → ClassId)
/-- the same addresses below n, and of the constants -/
def GA (g g' : Nat → Nat) (n : Nat) : Prop := ∀ h, h < n ∨ 1000 ≤ h → g' h = g h
theorem GA.rf {g : Nat → Nat} {n : Nat} : GA g g n := fun _ _ => rfl
theorem GA.tr {g g1 g2 : Nat → Nat} {n m : Nat} (h : GA g g1 n) (k : GA g1 g2 m) (e : n ≤ m) : GA g g2 n := fun a q => (k a (q.elim (fun z => .inl (by omega)) .inr)).trans (h a q)
def RB (S : Sh) (n : Nat) (M : Mem) : Prop := ∀ h k : Nat, h < n → (S.1 h).1 < 14 → 2 ≤ S.2 (S.1 h).1 k → M h k < n
def hOK (n : Nat) : V → Prop
  | .inr (.inr h) => h < n ∨ 1000 ≤ h
  | _ => True
section MAKE
variable {g g' : Nat → Nat} {q : Gq} {S : Sh} {n : Nat} {M : Mem}
theorem enc_ga (h : GA g g' n) {v : V} (hv : hOK n v) : enc (g', q) v = enc (g, q) v := by
  rcases v with i | i | k
  · rfl
  · rfl
  · show Value.ref (g' k) = Value.ref (g k)
    rw [h k hv]
theorem encs_ga (h : GA g g' n) : ∀ {st : List V}, (∀ v ∈ st, hOK n v) → st.map (enc (g', q)) = st.map (enc (g, q))
  | [], _ => rfl
  | v :: st, hv => by
    rw [List.map_cons, List.map_cons, enc_ga h (hv v List.mem_cons_self), encs_ga h (fun u hu => hv u (List.mem_cons_of_mem _ hu))]
theorem ent_ga (h : GA g g' n) (hn : n ≤ 1000) (rb : RB S n M) {a : Nat} (ha : a < n) : ent (g', q) S M a = ent (g, q) S M a := by
  unfold ent
  by_cases c : (S.1 a).1 < 14
  · rw [if_pos c, if_pos c]
    refine congrArg Sum.inr (Prod.ext rfl (List.map_congr_left (fun k _ => ?_)))
    show encF (g', q) (S.2 (S.1 a).1 k) (M a k) = encF (g, q) (S.2 (S.1 a).1 k) (M a k)
    unfold encF
    by_cases t : S.2 (S.1 a).1 k < 2
    · rw [if_pos t, if_pos t]
    · rw [if_neg t, if_neg t]
      by_cases z : M a k < 0
      · rw [if_pos z, if_pos z]
      · rw [if_neg z, if_neg z]
        have := rb a k ha c (by omega)
        show Value.ref (g' (M a k).toNat) = Value.ref (g (M a k).toNat)
        rw [h _ (.inl (by omega))]
  · rw [if_neg c, if_neg c]
theorem wsM_ga (h : GA g g' n) (hn : n ≤ 1000) (rb : RB S n M) : wsM (g', q) S n M = wsM (g, q) S n M :=
  List.map_congr_left (fun a ha => by
    have l := List.mem_range.mp ha
    show (g' a, ent (g', q) S M a) = (g a, ent (g, q) S M a)
    rw [h a (.inl l), ent_ga h hn rb l])
def setR (M : Mem) (n : Nat) (f : Int → Int) : Mem := fun h j => if h = n then f j else M h j
theorem setR_s {f : Int → Int} {j : Int} : setR M n f n j = f j := if_pos rfl
theorem setR_o {f : Int → Int} {a : Nat} {j : Int} (e : a ≠ n) : setR M n f a j = M a j := if_neg e
theorem ent_setR {G : Gl} {f : Int → Int} {a : Nat} (e : a ≠ n) : ent G S (setR M n f) a = ent G S M a := by
  unfold ent
  rw [show setR M n f a = M a from funext fun j => setR_o e]
theorem wsM_setR {G : Gl} {f : Int → Int} : wsM G S n (setR M n f) = wsM G S n M :=
  List.map_congr_left (fun a ha => by
    have l := List.mem_range.mp ha
    rw [ent_setR (by omega)])
theorem wsM_push {G : Gl} : wsM G S (n + 1) M = wsM G S n M ++ [(G.1 n, ent G S M n)] := by
  unfold wsM
  rw [List.range_succ, List.map_append]
  rfl
theorem XW.ga {U : State} {H : Heap} (e : GA g g' n) (h : XW (g, q) U H) : XW (g', q) U H := by
  obtain ⟨⟨a1, a2, a3⟩, a4, ⟨a5, a6⟩, ⟨a7, a8⟩, a9, a10⟩ := h
  have k : ∀ i, g' (1000 + i) = g (1000 + i) := fun i => e _ (.inr (by omega))
  refine ⟨⟨?_, a2, a3⟩, fun p hp => ?_, ⟨?_, ?_⟩, ⟨?_, ?_⟩, ?_, ?_⟩
  · have a : (fun i => g' (1000 + i)) = fun i => g (1000 + i) := funext fun i => k i
    have b : (fun i => g' (1050 + i)) = fun i => g (1050 + i) := funext fun i => e _ (.inr (by omega))
    show vk_S 13 lenS bytS (fun i => g' (1000 + i)) (fun i => g' (1050 + i)) _ U H
    rw [a, b]
    exact a1
  · have z : 1000 ≤ p.2.2.2 := (by decide : ∀ p ∈ txS, 1000 ≤ p.2.2.2) p hp
    have := a4 p hp
    show vk_R _ _ _ (g' p.2.2.2) U
    rw [e _ (.inr z)]
    exact this
  · show va_Z "java/lang/Integer" "DigitOnes" "[B" (.ref (g' 1020)) _ U H
    rw [k 20]
    exact a5
  · show va_T .byte (g' 1020) 100 _ _ U H
    rw [k 20]
    exact a6
  · show va_Z "java/lang/Integer" "DigitTens" "[B" (.ref (g' 1021)) _ U H
    rw [k 21]
    exact a7
  · show va_T .byte (g' 1021) 100 _ _ U H
    rw [k 21]
    exact a8
  · show va_T .int (g' 1030) (g' 1999) (fun j => .int (Int32.ofNat (g' (2000 + j)))) _ U H
    have b : (fun j : Nat => Value.int (Int32.ofNat (g' (2000 + j)))) = fun j => .int (Int32.ofNat (g (2000 + j))) := funext fun j => by rw [e (2000 + j) (.inr (by omega))]
    rw [b, k 30, k 999]
    exact a9
  · show g' 1999 ≤ 260
    rw [k 999]
    exact a10
theorem KK.ga {U : State} (e : GA g g' n) (h : KK (g, q) U) : KK (g', q) U := ⟨h.1, h.2.1, trivial, XW.ga e h.2.2.2⟩
theorem CxOK.ga {C : Cx} {y : Mt} (e : GA g g' n) (h : CxOK (g, q) y C) : CxOK (g', q) y C := ⟨h.1, h.2.1, h.2.2.1, h.2.2.2.1, h.2.2.2.2.1, KK.ga e h.2.2.2.2.2.1, h.2.2.2.2.2.2.1, h.2.2.2.2.2.2.2.1, h.2.2.2.2.2.2.2.2⟩
theorem lsR.ga {nL : Nat} {ls : List (Option V)} {a : Array Slot} (e : GA g g' n) (hv : ∀ v, some v ∈ ls → hOK n v) (h : lsR (g, q) nL ls a) : lsR (g', q) nL ls a :=
  ⟨h.1, h.2.1, h.2.2.1, fun i v hi => by rw [enc_ga e (hv v (List.mem_of_getElem? hi))]; exact h.2.2.2 i v hi⟩
theorem hOK.up {v : V} {m : Nat} (h : hOK n v) (e : n ≤ m) : hOK m v := by
  rcases v with i | i | k
  · trivial
  · trivial
  · exact h.elim (fun z => .inl (by omega)) .inr
/-- a new object's cells -/
def dfl (S : Sh) (ci : Nat) : Int → Int := fun k => if S.2 ci k.toNat < 2 then 0 else -1
theorem dfl_V {G : Gl} {ci N j : Nat} {ty : FieldType} (hj : j < N) (ht : tagOf ty = S.2 ci j) (ht2 : S.2 ci j ≤ 2) : defaultValue ty = vp_V ((List.range N).map (fun k => encF G (S.2 ci k) (dfl S ci (k : Nat)))) j := by
  unfold vp_V
  rw [List.getD_eq_getElem?_getD, List.getElem?_map, List.getElem?_range hj]
  show _ = encF G (S.2 ci j) (dfl S ci (j : Nat))
  unfold encF dfl
  rw [Int.toNat_natCast]
  rw [← ht] at ht2 ⊢
  cases ty <;> first | rfl | (exfalso; revert ht2; decide)
theorem okM_set {f : Int → Int} {ci N : Nat} (hm : okM S M) (hk : S.1 n = (ci, N)) (hf : ∀ j, -1 ≤ f j ∧ f j ≤ 0) : okM S (setR M n f) := fun h k => by
  by_cases e : h = n
  · subst e
    rw [setR_s]
    have := hf k
    split
    · exact ⟨by omega, by omega⟩
    · exact ⟨by omega, by omega⟩
  · rw [setR_o e]
    exact hm h k
theorem dfl_b {ci : Nat} (j : Int) : -1 ≤ dfl S ci j ∧ dfl S ci j ≤ 0 := by
  unfold dfl
  split <;> exact ⟨by decide, by decide⟩
theorem RB.set {f : Int → Int} (rb : RB S n M) (hf : ∀ j, f j ≤ 0) : RB S (n + 1) (setR M n f) := fun h k hh c t => by
  by_cases e : h = n
  · subst e
    rw [setR_s]
    have := hf k
    omega
  · rw [setR_o e]
    have := rb h k (by omega) c t
    omega
theorem RB.put {a : Nat} {j v : Int} (rb : RB S n M) (hv : v < n) : RB S n (uM M a j v) := fun h k hh c t => by
  by_cases e : h = a ∧ (k : Int) = j
  · rw [show uM M a j v h k = v from if_pos e]
    exact hv
  · rw [show uM M a j v h k = M h k from if_neg e]
    exact rb h k hh c t
end MAKE
section MRULES
variable {g : Nat → Nat} {q : Gq} {S : Sh} {C : Cx} {Z : State → Prop} {k w n : Nat} {pc : Nat} {ls : List (Option V)} {st : List V} {M : Mem} {y : Mt}
theorem Hp_new {a : Nat} {H1 : Heap} {e : va_E} {f : Int → Int} (hn : n < 1000) (rb : RB S n M) (he : ent (g, q) S (setR M n f) n = e) (hx : ∀ g' : Nat → Nat, ent (g', q) S (setR M n f) n = ent (g, q) S (setR M n f) n)
    (e1 : va_P q.2.1 vwCl (wsM (g, q) S n M ++ [(a, e)]) H1) (e2 : va_D (aA (g, q)) (wsM (g, q) S n M ++ [(a, e)])) : Hp (fun h => if h = n then a else g h, q) S (n + 1) (setR M n f) H1 := by
  have ga : GA g (fun h => if h = n then a else g h) n := fun h z => if_neg (by omega)
  have w : wsM (fun h => if h = n then a else g h, q) S (n + 1) (setR M n f) = wsM (g, q) S n M ++ [(a, e)] := by
    rw [wsM_push, wsM_setR, wsM_ga ga (by omega) rb, hx, he]
    show _ ++ [(if n = n then a else g n, e)] = _
    rw [if_pos rfl]
  refine ⟨?_, ?_⟩
  · rw [w]; exact e1
  · rw [w]; exact e2
theorem R_newO (hC : CxOK (g, q) y C) {ci N idx : Nat} {Cn : String} {T : u_T} {ty : Nat → FieldType} (hd : decode y.2.1 pc = .ok (.new idx, 3)) (hcl : ClOK ci Cn T N ty) (hl1 : Cond.classLink y.1.cls idx Cn ∈ Ts) (hl2 : Cond.instantiable Cn N ∈ Ts) (hl3 : Cond.initialized Cn ∈ Ts)
    (hk : S.1 n = (ci, N)) (htg : ∀ j, j < N → tagOf (ty j) = S.2 ci j ∧ S.2 ci j ≤ 2) (hn : n < 1000) (rb : RB S n M) (hls : ∀ v, some v ∈ ls → hOK n v) (hst : ∀ v ∈ st, hOK n v) (hr1 : k + 1 ≤ C.2.2.2.1.cells) (hr2 : w + N ≤ C.2.2.2.1.slots)
    (kk : ∀ g' : Nat → Nat, GA g g' n → RZ (g', q) S C Z (k + 1) (w + N) (n + 1) (pc + 3) ls (vR n :: st) (setR M n (dfl S ci))) : RZ (g, q) S C Z k w n pc ls st M := by
  intro H locs ar hp hs hm hl hv ha
  have hc13 := cl_lt hcl.1
  refine va_new (ci := ci) (fs := (List.range N).map (fun j => encF (g, q) (S.2 ci j) (dfl S ci (j : Nat)))) hC.1 hC.2.1 hC.2.2.2.2.1 hcl.2.1 ty hcl.2.2.1 hC.2.2.2.1 (hC.2.2.2.2.1 _ hl1) (hC.2.2.2.2.1 _ hl2) (hC.2.2.2.2.1 _ hl3) hC.2.2.2.2.2.1.1 hp.1 hp.2 hs hC.2.2.2.2.2.2.2.2 hcl.1 (fun j hj => dfl_V hj (htg j hj).1 (htg j hj).2) hr1 hr2 hd (fun a H1 e1 e2 e3 => ?_)
  have ga : GA g (fun h => if h = n then a else g h) n := fun h z => if_neg (by omega)
  have hx : ∀ g' : Nat → Nat, ent (g', q) S (setR M n (dfl S ci)) n = .inr (ci, (List.range N).map (fun j => encF (g, q) (S.2 ci j) (dfl S ci (j : Nat)))) := fun g' => by
    rw [ent_obj hk hc13]
    refine congrArg Sum.inr (Prod.ext rfl (List.map_congr_left (fun j hj => ?_)))
    show encF (g', q) (S.2 ci j) (setR M n (dfl S ci) n j) = encF (g, q) (S.2 ci j) (dfl S ci j)
    rw [setR_s]
    unfold encF dfl
    rw [Int.toNat_natCast]
    by_cases t : S.2 ci j < 2
    · simp only [if_pos t]
    · simp only [if_neg t]
      rw [if_pos (by decide), if_pos (by decide)]
  have hH := Hp_new hn rb (hx g) (fun g' => (hx g').trans (hx g).symm) e1 e2
  have z := kk _ ga H1 locs ar hH e3 (okM_set hm hk (fun j => dfl_b j)) hl ⟨trivial, hv⟩ (lsR.ga ga hls ha)
  rw [List.map_cons, encs_ga ga hst] at z
  have e : enc (fun h => if h = n then a else g h, q) (vR n) = .ref a := by
    show Value.ref (if n = n then a else g n) = _
    rw [if_pos rfl]
  rw [e] at z
  exact z
theorem R_newA (hC : CxOK (g, q) y C) {kd N : Nat} {atype : ArrayType} (hd : decode y.2.1 pc = .ok (.newarray atype, 2)) (hty : newarray.typeOf atype = aTy kd) (hkd : 20 ≤ kd ∧ kd ≤ 23) (hl1 : Cond.arrayClass (newarray.typeOf atype) ∈ Ts)
    (hk : S.1 n = (kd, N)) (h1 : ¬ Int32.ofInt N < 0) (h2 : (Int32.ofInt N).toNatClampNeg = N) (h3 : N * componentBytes (aTy kd) ≤ 536870912) (hn : n < 1000) (rb : RB S n M) (hls : ∀ v, some v ∈ ls → hOK n v) (hst : ∀ v ∈ st, hOK n v) (hr1 : k + 1 ≤ C.2.2.2.1.cells) (hr2 : w + N ≤ C.2.2.2.1.slots)
    (kk : ∀ g' : Nat → Nat, GA g g' n → RZ (g', q) S C Z (k + 1) (w + N) (n + 1) (pc + 2) ls (vR n :: st) (setR M n (fun _ => 0))) : RZ (g, q) S C Z k w n pc ls (vI N :: st) M := by
  intro H locs ar hp hs hm hl hv ha
  have hK := hC.2.2.2.2.2.1.1
  have hkt : (tysG (g, q))[kd - 20]? = some (q.2.2 kd, aTy kd) := by
    have e : kd = 20 ∨ kd = 21 ∨ kd = 22 ∨ kd = 23 := by omega
    rcases e with rfl | rfl | rfl | rfl <;> rfl
  have hx : ∀ g' : Nat → Nat, ent (g', q) S (setR M n (fun _ => 0)) n = .inl (q.2.2 kd, N, if kd = 21 then .inr (.inl (fun _ => Int64.ofInt 0)) else .inl (fun _ => Int32.ofInt 0)) := fun g' => by
    unfold ent
    rw [hk, if_neg (by show ¬ kd < 14; omega)]
    by_cases e : kd = 21
    · rw [if_pos e, if_pos e]
      subst e
      refine congrArg Sum.inl (Prod.ext rfl (Prod.ext rfl (congrArg Sum.inr (congrArg Sum.inl (funext fun j => ?_)))))
      exact congrArg Int64.ofInt setR_s
    · rw [if_neg e, if_neg e]
      refine congrArg Sum.inl (Prod.ext rfl (Prod.ext rfl (congrArg Sum.inl (funext fun j => ?_))))
      exact congrArg Int32.ofInt setR_s
  refine va_newa (a0 := (N, if kd = 21 then .inr (.inl (fun _ => Int64.ofInt 0)) else .inl (fun _ => Int32.ofInt 0))) hC.1 hC.2.1 (atype := atype) (hC.2.2.2.2.1 _ hl1) hty hK hp.1 hp.2 hs hC.2.2.2.2.2.2.2.2 (n := Int32.ofInt N) (N' := N) (fun cA => ?_) h1 h2 h3 hr1 hr2 hd (fun a cA H1 e0 e1 e2 e3 => ?_)
  · have e : kd = 20 ∨ kd = 21 ∨ kd = 22 ∨ kd = 23 := by omega
    rcases e with rfl | rfl | rfl | rfl <;> rfl
  have ec : cA = q.2.2 kd := by
    have a1 := (e0.2 (tysG (g, q)).length (cA, aTy kd) (by rw [List.getElem?_append_right (Nat.le_refl _), Nat.sub_self]; rfl)).2
    have a2 := (hK.2 _ _ hkt).2
    have e : kd = 20 ∨ kd = 21 ∨ kd = 22 ∨ kd = 23 := by omega
    rcases e with rfl | rfl | rfl | rfl <;> exact Option.some.inj (a1.symm.trans a2)
  subst ec
  have ga : GA g (fun h => if h = n then a else g h) n := fun h z => if_neg (by omega)
  have hH := Hp_new hn rb (hx g) (fun g' => (hx g').trans (hx g).symm) e1 e2
  have z := kk _ ga H1 locs ar hH e3 (okM_set hm hk (fun j => ⟨by decide, by decide⟩)) hl ⟨trivial, hv.2⟩ (lsR.ga ga hls ha)
  rw [List.map_cons, encs_ga ga hst] at z
  have e : enc (fun h => if h = n then a else g h, q) (vR n) = .ref a := by
    show Value.ref (if n = n then a else g n) = _
    rw [if_pos rfl]
  rw [e] at z
  exact z
/-- a constructor's frame -/
def inI0 (C : Cx) : Prop := C.2.2.2.2.2.2.2.2.1.name = "<init>"
theorem R_putF0 {G : Gl} (hC : CxOK G y C) (hN : inI0 C) {h ci f t idx N : Nat} {u : Value} {v : Int} (hd : decode y.2.1 pc = .ok (.putfield idx, 3)) (hf : FL y.1.cls idx ci f t true) (hdc : ∀ p, vwCl[ci]? = some p → (p.2.1 f).1 = y.1.cls) (hh : h < n) (hk : S.1 h = (ci, N)) (hfN : f < N) (hu : encF G (S.2 ci f) v = u)
    (hn : ∀ ty, tagOf ty = t → narrow ty u = u ∧ fits ty u = true) (hi : inI v) (kk : RZ G S C Z k w n (pc + 3) ls st (uM M h (f : Int) v)) :
    ∀ (H : Heap) (locs : List Loc) (a : Array Slot), Hp G S n M H → va_S (aA G) C.2.2.2.2.1.heap H locs → okM S M → okLs ls → okVs st → lsR G C.2.2.2.2.2.2.2.2.2.maxLocals ls a →
    W C.1 C.2.1 C.2.2.1 C.2.2.2.1 C.2.2.2.2.1 C.2.2.2.2.2.1 C.2.2.2.2.2.2.1 C.2.2.2.2.2.2.2.1 C.2.2.2.2.2.2.2.2.1 C.2.2.2.2.2.2.2.2.2 H locs k w Z (F0 C.2.2.2.2.2.1 pc a (u :: .ref (G.1 h) :: st.map (enc G))) := by
  intro H locs ar hp hs hm hl hv ha
  obtain ⟨Cn, T, N2, ty, ⟨hc, hin, hty, hnm⟩, hlt, hlk, htg, hfin⟩ := hf
  obtain ⟨hn1, hn2⟩ := hn (ty f) htg
  refine va_putF (D := G.2.2.1) hC.1 hC.2.1 (hC.2.2.2.2.1) hin ty hty hnm hC.2.2.2.1 hC.2.2.2.2.2.1.1 hp.1 hp.2 hs h ((wsM_at hh).trans (by rw [ent_obj hk (cl_lt hc)])) hc f hlt (hC.2.2.2.2.1 _ hlk) (fun _ q => q) hfin hN (hdc _ hc) (hty f hlt) hn1 hn2 (by simp; exact hfN) hd (fun H1 l1 e1 e2 e3 => ?_)
  rw [set_F hk (cl_lt hc) hfN hu] at e1 e2
  exact kk H1 l1 ar ⟨e1, e2⟩ e3 (okM_uI hm hk (by have := cl_lt hc; omega) hi) hl hv ha
theorem R_putFR {G : Gl} (hC : CxOK G y C) (hN : inI0 C) {h ci f idx N r : Nat} (hd : decode y.2.1 pc = .ok (.putfield idx, 3)) (hf : FL y.1.cls idx ci f 2 true) (hdc : ∀ p, vwCl[ci]? = some p → (p.2.1 f).1 = y.1.cls) (hh : h < n) (hk : S.1 h = (ci, N)) (hfN : f < N) (hS : S.2 ci f = 2) (hr : r < 1000) {fi : Int} (hfi : (f : Int) = fi) (kk : RZ G S C Z k w n (pc + 3) ls st (uM M h fi r)) : RZ G S C Z k w n pc ls (vR r :: vR h :: st) M := by
  subst hfi
  intro H locs ar hp hs hm hl hv ha
  refine R_putF0 hC hN hd hf hdc hh hk hfN (u := .ref (G.1 r)) (v := (r : Int)) (by rw [hS]; unfold encF; rw [if_neg (by decide), if_neg (by omega)]; rfl) (fun ty e => ?_) ⟨by omega, by omega⟩ kk H locs ar hp hs hm hl hv.2.2 ha
  cases ty <;> first | exact ⟨rfl, rfl⟩ | cases e
end MRULES
/-! constructors' contracts -/
def rmN (d kc kw : Nat) : Room := { frames := d, cells := kc, slots := kw, locals := 40 * d + 40 }
def QN (g : Nat → Nat) (q : Gq) (S : Sh) (n n' : Nat) (Q : Mem → Prop) : Array Value → State → Outcome → State → Prop := fun _ st o t =>
  (∃ (g' : Nat → Nat) (M : Mem), GA g g' n ∧ o = .returned none ∧ Q M ∧ RB S n' M ∧ Hp (g', q) S n' M t.heap ∧ okM S M) ∧ va_F (aA (g, q)) st t
def CtN (g : Nat → Nat) (q : Gq) (S : Sh) (n n' : Nat) (l : Launch) (d kc kw : Nat) (y : Mt) (args : List V) (M : Mem) (Q : Mem → Prop) : Prop :=
  Met l y.1 (wsY y) (rmN d kc kw) (Pn (g, q) S n args M) (QN g q S n n' Q) kc kw (aA (g, q))
def ZN (g : Nat → Nat) (q : Gq) (S : Sh) (n n' : Nat) (C : Cx) (Q : Mem → Prop) (kc kw : Nat) : State → Prop := MQ C.2.2.2.2.2.2.2.1 (QN g q S n n' Q) C.2.2.2.2.2.2.1 C.2.2.2.2.1 kc kw (aA (g, q))
def MI (y : Mt) (na : Nat) : Prop :=
  Cond.code y.1 y.2.1 y.2.2.1 none ∈ Ts ∧ Cond.initialized y.1.cls ∈ Ts ∧ (y.1.cls ≠ "java/lang/invoke/MethodHandle" ∧ y.1.cls ≠ "java/lang/invoke/VarHandle" ∧ (parseMethodDescriptor y.1.desc).map (fun d => d.parameters.length) = some na) ∧ Cond.instanceMethod y.1 ∈ Ts ∧ y.1.name = "<init>" ∧ y.2.2.2 = none
section NRULES
variable {g : Nat → Nat} {q : Gq} {S : Sh} {C : Cx} {Z : State → Prop} {k w n n' : Nat} {pc : Nat} {ls : List (Option V)} {st : List V} {M : Mem} {y : Mt}
theorem R_startN {l : Launch} {d kc kw : Nat} {args : List V} {Q : Mem → Prop} (hy : plainName y.1.cls = true) (hnm : y.1.name = "<init>") (hlen : (aL args).length ≤ y.2.2.1)
    (h : ∀ C : Cx, CxOK (g, q) y C → inI0 C → C.2.2.2.1 = rmN d kc kw → C.2.1 = l → RZ (g, q) S C (ZN g q S n n' C Q kc kw) 0 0 n 0 (aL args ++ List.replicate (y.2.2.1 - (aL args).length) none) [] M) : CtN g q S n n' l d kc kw y args M Q := by
  refine Met.ofW (cc := y.2.1) (maxL := y.2.2.1) (ret := y.2.2.2) hy rfl ?_
  intro p e s m ars below meth c s₁ B hml hv
  obtain ⟨rfl, hp, hK, hm, hv, hz⟩ := hv
  have hts : ∀ u ∈ Ts, u.before (args.map (enc (g, q))).toArray s = true := fun w hw => atoms_spec (ws := wsY y) B.pre w (List.mem_cons_of_mem _ hw)
  have hC : CxOK (g, q) y (p, l, e, (headSpec (wsY y) (rmN d kc kw)).room, s, m, (args.map (enc (g, q))).toArray, below, meth, c) :=
    ⟨B.exec, B.bytes, hml, findClass_of_methodNamed B.named, hts, hK, B.notSynchronized, B.returns, hz⟩
  have hin : meth.name = "<init>" := ((name_of_methodNamed B.named B.method).1).trans hnm
  have hW := h _ hC hin rfl rfl s.heap [] _ hp va_S.rf hm (okLs_aL args _ hv) trivial (by
    show lsR (g, q) c.maxLocals _ _
    rw [hml]
    exact lsR_entry (g, q) args hlen)
  rw [lg_entry_eq]
  exact hW
theorem R_returnN {g0 : Nat → Nat} {n0 kc kw : Nat} (hC : CxOK (g, q) y C) {Q : Mem → Prop} (hd : decode y.2.1 pc = .ok (.return_, 1)) (hr : y.2.2.2 = none) (ga : GA g0 g n0) (rb : RB S n' M) (hq : Q M) : RZ (g, q) S C (ZN g0 q S n0 n' C Q kc kw) kc kw n' pc ls [] M := by
  intro H locs ar hp hs hm hl hv ha
  exact W.vret hC.1 hC.2.1 (hC.2.2.2.2.2.2.2.1.trans hr) (fun t ht hW => ⟨⟨g, M, ga, rfl, hq, rb, by rw [ht]; exact hp, hm⟩, hs.F ht⟩) hs.2.2 hd hC.2.2.2.2.2.2.1
theorem R_callN {d kc kw na idx h : Nat} {z : Mt} {as : List V} {st0 : List V} {Q : Mem → Prop} (hC : CxOK (g, q) y C) (hd : decode y.2.1 pc = .ok (.invokespecial idx, 3)) (hz : MI z na) (hlk : Cond.methodLink y.1.cls idx z.1 ∈ Ts)
    (hct : CtN g q S n n' C.2.1 d kc kw z (vR h :: as) M Q) (hst : st0 = as.reverse ++ vR h :: st) (hna : as.length = na)
    (hR : d + 1 ≤ C.2.2.2.1.frames ∧ 8 + (z.2.2.1 + 11) + (40 * d + 40) ≤ C.2.2.2.1.locals ∧ k + kc ≤ C.2.2.2.1.cells ∧ w + kw ≤ C.2.2.2.1.slots) (hcat : (st.map vcat).sum ≤ 8) (hls : ∀ v, some v ∈ ls → hOK n v) (hsv : ∀ v ∈ st, hOK n v)
    (kk : ∀ (g' : Nat → Nat) (M' : Mem), GA g g' n → Q M' → RB S n' M' → RZ (g', q) S C Z (k + kc) (w + kw) n' (pc + 3) ls st M') : RZ (g, q) S C Z k w n pc ls st0 M := by
  intro H locs ar hp hs hm hl hv ha
  obtain ⟨z1, z2, z3, z4, z5, z6⟩ := hz
  subst hst
  have hv2 := (okVs_app _ _).mp hv
  have z1' : Cond.code z.1 z.2.1 z.2.2.1 z.2.2.2 ∈ Ts := by rw [z6]; exact z1
  have hpre := Pn.pre (args := vR h :: as) hC hp hs hm ⟨trivial, okVs_rev _ hv2.1⟩
  have hr := va_runI (e := C.2.2.1) (below := C.2.2.2.2.2.2.2.1) (meth := C.2.2.2.2.2.2.2.2.1) (As := as.map (enc (g, q))) (b := g h) (ws := wsY z) (nL := C.2.2.2.2.2.2.2.2.2.maxLocals) (cc := y.2.1) (rest := st.map (enc (g, q))) (H := H) (locs := locs) (cells := k) (slots := w) (g := F0 C.2.2.2.2.2.1 pc ar (List.map (enc (g, q)) (as.reverse ++ vR h :: st))) ⟨hC.1, hC.2.1, rfl, hC.2.2.2.1, hC.2.2.2.2.1⟩ hct
    (cwI na (hC.2.2.2.2.1) (good_wsY z1') (by unfold wsY; rw [z6]) rfl rfl (hC.2.2.2.2.1 _ z2) (hC.2.2.2.2.1 _ hlk) (hC.2.2.2.2.1 _ z4) z5 z3 ⟨hR.1, hR.2.1⟩) hpre rfl (by rw [List.length_map]; exact hna) ha.1 (by
      show List.map (enc (g, q)) (as.reverse ++ vR h :: st) = _
      rw [List.map_append, List.map_reverse]
      rfl) (lv_room (by rw [enc_cats]; exact hcat)) hd ⟨hR.2.2.1, hR.2.2.2⟩
  intro T hT X
  obtain ⟨v, st₀, t, T', L, h0, X', hL, e1, e2, ⟨⟨g', M', hga, hvr, hq, hrb, hp2, hm2⟩, hz2, hk⟩, sg⟩ := hr T hT X
  cases hvr
  rw [h0] at hz2 hk
  have hp' : Hp (g', q) S n' M' T'.heap := by rw [e1]; exact hp2
  have hS : va_S (aA (g, q)) C.2.2.2.2.1.heap T'.heap (locs ++ L) := ⟨Nat.le_trans hs.1 (by rw [e1]; exact hz2), fun a h1 h2 => by rw [e1, hk a (Nat.lt_of_lt_of_le h1 hs.1) h2]; exact hs.2.1 a h1 h2, fun a ha => (List.mem_append.mp ha).elim (hs.2.2 a) (hL a)⟩
  obtain ⟨t2, a1, b1⟩ := kk g' M' hga hq hrb T'.heap (locs ++ L) ar hp' hS hm2 hl hv2.2.2 (lsR.ga hga hls ha) T' rfl X'
  refine ⟨t2, sg t2 ?_, b1⟩
  rw [encs_ga hga hsv] at a1
  exact a1
/-- Object.<init> -/
theorem R_initO {G : Gl} {idx h : Nat} (hC : CxOK G y C) (hd : decode y.2.1 pc = .ok (.invokespecial idx, 3)) (hl1 : Cond.methodLink y.1.cls idx objectInit ∈ Ts) (hl2 : Cond.instanceMethod objectInit ∈ Ts) (hl3 : Cond.code objectInit ⟨#[0xb1]⟩ 1 none ∈ Ts)
    (hR : 1 ≤ C.2.2.2.1.frames ∧ 40 ≤ C.2.2.2.1.locals) (hst : st = []) (kk : RZ G S C Z k w n (pc + 3) ls st M) : RZ G S C Z k w n pc ls (vR h :: st) M := by
  subst hst
  intro H locs ar hp hs hm hl hv ha
  refine W.objInit hC.1 hC.2.1 hC.2.2.2.1 (hC.2.2.2.2.1 _ hl1) (hC.2.2.2.2.1 _ hl2) (hC.2.2.2.2.1 _ hl3) rfl ha.1 rfl hd hR.1 (by
    have z : 2 * (F0 C.2.2.2.2.2.1 pc ar (List.map (enc G) [vR h])).monitorRoom + (List.map (fun v => v.category) (List.map (enc G) ([] : List V))).sum ≤ 8 := lv_room (Nat.zero_le 8)
    have := hR.2
    omega) ?_
  exact W.eq (g2 := F0 C.2.2.2.2.2.1 (pc + 3) ar []) rfl (kk H locs ar hp hs hm hl hv.2 ha)
end NRULES
