/-! the class's own world in a greater one: its contracts speak of 57 handles; what else there is stays -/
section FRAME
variable {G : Gl} {S : Sh} {C : Cx} {Z : State → Prop} {k w n : Nat} {pc : Nat} {ls : List (Option V)} {st : List V} {M M' : Mem} {y : Mt} {H H' : Heap} {N : Nat}
/-- a layout that begins with the class's -/
def EX (S : Sh) (n : Nat) : Prop := 57 ≤ n ∧ (∀ h, h < 57 → S.1 h = LY.1 h) ∧ S.2 = LY.2 ∧ ∀ h, 57 ≤ h → (S.1 h).1 ≠ 21
/-- the same addresses, the area of the class's world and of what is new -/
def GN (G : Gl) (N : Nat) : Gl := (G.1, (fun q => (∃ h, h < 57 ∧ q = G.1 h) ∨ N ≤ q), G.2.2)
def mg (M M' : Mem) : Mem := fun h j => if h < 57 then M' h j else M h j
theorem mg_lo {h : Nat} (e : h < 57) : mg M M' h = M' h := funext fun _ => if_pos e
theorem mg_hi {h : Nat} (e : 57 ≤ h) : mg M M' h = M h := funext fun _ => if_neg (by omega)
theorem enc_GN (v : V) : enc (GN G N) v = enc G v := by rcases v with i | i | h <;> rfl
theorem encs_GN (st : List V) : st.map (enc (GN G N)) = st.map (enc G) := List.map_congr_left (fun v _ => enc_GN v)
theorem encF_GN (t : Nat) (x : Int) : encF (GN G N) t x = encF G t x := rfl
theorem ent_GN (e : EX S n) {h : Nat} (hh : h < 57) : ent (GN G N) LY M h = ent G S M h := by
  unfold ent
  rw [e.2.1 h hh, e.2.2.1]
  rfl
theorem wsM_GN (e : EX S n) {i : Nat} (hi : i < 57) : (wsM (GN G N) LY 57 M)[i]? = (wsM G S n M)[i]? := by
  have := e.1
  rw [wsM_at hi, wsM_at (show i < n by omega), ent_GN e hi]
  rfl
theorem wsM_none {i : Nat} (hi : n ≤ i) : (wsM G S n M)[i]? = none := List.getElem?_eq_none (by rw [wsM_len]; exact hi)
theorem Hp_down (e : EX S n) (h : Hp G S n M H) : Hp (GN G N) LY 57 M H := by
  have up : ∀ (i : Nat) (q : Nat × va_E), (wsM (GN G N) LY 57 M)[i]? = some q → i < 57 ∧ (wsM G S n M)[i]? = some q := fun i q hq => by
    by_cases hi : i < 57
    · exact ⟨hi, (wsM_GN e hi).symm.trans hq⟩
    · rw [wsM_none (by omega)] at hq
      cases hq
  refine ⟨fun i q hq => h.1 i q (up i q hq).2, fun i j p q hp hq eq => h.2.1 i j p q (up i p hp).2 (up j q hq).2 eq, fun i q hq => ?_⟩
  have hi := (up i q hq).1
  rw [wsM_at hi] at hq
  cases hq
  exact .inl ⟨i, hi, rfl⟩
theorem wsM_q {i : Nat} {q : Nat × va_E} (h : (wsM G S n M)[i]? = some q) : i < n ∧ q = (G.1 i, ent G S M i) := by
  by_cases hi : i < n
  · rw [wsM_at hi] at h
    exact ⟨hi, (Option.some.inj h).symm⟩
  · rw [wsM_none (by omega)] at h
    cases h
theorem Hp_up (e : EX S n) (h0 : Hp G S n M H) (h1 : Hp (GN G N) LY 57 M' H') (hN : N = H.size) (hq : ∀ q : Nat, q < H.size → ¬ aA (GN G N) q → H'[q]? = H[q]?) : Hp G S n (mg M M') H' := by
  have hn := e.1
  have entm : ∀ i, 57 ≤ i → ent G S (mg M M') i = ent G S M i := fun i hi => by
    unfold ent
    rw [mg_hi hi]
  refine ⟨fun i q h => ?_, fun i j p q hp hq' eq => ?_, fun i q h => ?_⟩
  · obtain ⟨hi, rfl⟩ := wsM_q h
    by_cases h57 : i < 57
    · have z := h1.1 i _ (wsM_at h57)
      rw [ent_GN e h57] at z
      have e2 : ent G S (mg M M') i = ent G S M' i := by
        unfold ent
        rw [mg_lo h57]
      rw [e2]
      exact z
    · have z := h0.1 i _ (wsM_at hi)
      rw [entm i (by omega)]
      refine z.kept (hq _ z.lt (fun a => ?_))
      rcases a with ⟨j, hj, ej⟩ | a
      · have := h0.2.1 i j _ _ (wsM_at hi) (wsM_at (show j < n by omega)) ej
        omega
      · have := z.lt
        rw [hN] at a
        have z2 : G.1 i < H.size := z.lt
        have a2 : H.size ≤ G.1 i := a
        omega
  · obtain ⟨hi, rfl⟩ := wsM_q hp
    obtain ⟨hj, rfl⟩ := wsM_q hq'
    exact h0.2.1 i j _ _ (wsM_at hi) (wsM_at hj) eq
  · obtain ⟨hi, rfl⟩ := wsM_q h
    have z := h0.2.2 i _ (wsM_at hi)
    exact z
theorem LY_hi {h : Nat} (hh : 57 ≤ h) : LY.1 h = (99, 0) := by
  show shT.getD h (99, 0) = _
  rw [List.getD_eq_getElem?_getD, List.getElem?_eq_none (by show 57 ≤ h; exact hh)]
  rfl
theorem okM_dn (e : EX S n) (h : okM S M) : okM LY M := fun a j => by
  have z := h a j
  by_cases ha : a < 57
  · rw [e.2.1 a ha] at z
    exact z
  · rw [if_neg (e.2.2.2 a (by omega))] at z
    rw [LY_hi (by omega), if_neg (show ¬ (99 = 21) by decide)]
    exact z
theorem okM_mg (e : EX S n) (h : okM S M) (h1 : okM LY M') : okM S (mg M M') := fun a j => by
  by_cases ha : a < 57
  · rw [e.2.1 a ha, mg_lo ha]
    exact h1 a j
  · rw [mg_hi (by omega)]
    exact h a j
theorem aA_GN (e : EX S n) (h : Hp G S n M H) (hN : ∀ q : Nat, N ≤ q → aA G q) : ∀ q, aA (GN G N) q → aA G q := fun q a => by
  rcases a with ⟨j, hj, rfl⟩ | a
  · have := e.1
    exact h.2.2 j _ (wsM_at (show j < n by omega))
  · exact hN q a
theorem KK_GN {U : State} (hA : ∀ q, aA (GN G N) q → aA G q) (h : KK G U) : KK (GN G N) U := ⟨h.1, h.2.1, trivial, XW.narrow (G := G) (G' := GN G N) rfl hA h.2.2.2⟩
theorem PnF.pre (hC : CxOK G y C) (e : EX S n) {locs : List Loc} {args : List V} (hp : Hp G S n M H) (hs : va_S (aA G) C.2.2.2.2.1.heap H locs) (hm : okM S M) (hv : okVs args) : FrameBlind (Pn (GN G H.size) LY 57 args M) ∧ ∀ U : State, U.heap = H → C.2.2.2.2.1.WarmedH U.vm → Pn (GN G H.size) LY 57 args M (args.map (enc G)).toArray U := by
  refine ⟨fun a U g mk q => ⟨q.1, q.2.1, q.2.2.1.calling, q.2.2.2⟩, fun U hU hW => ⟨by rw [encs_GN], by rw [hU]; exact Hp_down e hp, KK_GN (aA_GN e hp (fun q hq => hC.2.2.2.2.2.2.2.2 q (Nat.le_trans hs.1 hq))) (hC.2.2.2.2.2.1.moved hW (by rw [hU]; exact hs.2.1)), okM_dn e hm, hv, by rw [hU]; exact fun q hq => .inr hq⟩⟩
theorem R_callF {args : List V} {Q : Option V → Mem → Prop} {Zs : List Value} (hC : CxOK G y C) (e : EX S n) (hp0 : Hp G S n M H) (hm0 : okM S M) 
    {locs : List Loc} {ar : Array Slot} (hs : va_S (aA G) C.2.2.2.2.1.heap H locs) (hl : okLs ls) (hv : okVs st) (ha : lsR G C.2.2.2.2.2.2.2.2.2.maxLocals ls ar)
    (hr : va_Run C.1 C.2.1 C.2.2.1 C.2.2.2.1 C.2.2.2.2.1 C.2.2.2.2.2.1 C.2.2.2.2.2.2.1 C.2.2.2.2.2.2.2.1 C.2.2.2.2.2.2.2.2.1 C.2.2.2.2.2.2.2.2.2 H locs k w 0 0 (F0 C.2.2.2.2.2.1 pc ar Zs) (st.map (enc G)) (Qn (GN G H.size) LY 57 Q (args.map (enc G)).toArray) (aA (GN G H.size)))
    (kk : ∀ (r : Option V) (M' : Mem), Q r M' → RZ G S C Z k w n (pc + 3) ls (r.toList ++ st) (mg M M')) :
    W C.1 C.2.1 C.2.2.1 C.2.2.2.1 C.2.2.2.2.1 C.2.2.2.2.2.1 C.2.2.2.2.2.2.1 C.2.2.2.2.2.2.2.1 C.2.2.2.2.2.2.2.2.1 C.2.2.2.2.2.2.2.2.2 H locs k w Z (F0 C.2.2.2.2.2.1 pc ar Zs) := by
  have hA := aA_GN (N := H.size) e hp0 (fun q hq => hC.2.2.2.2.2.2.2.2 q (Nat.le_trans hs.1 hq))
  intro T hT X
  obtain ⟨v, st₀, t, T', L, h0, X', hL, e1, e2, ⟨⟨r, M', hvr, hq, hp, hm, hvv⟩, hz, hk⟩, sg⟩ := hr T hT X
  cases hvr
  rw [h0] at hz hk
  have hp' : Hp G S n (mg M M') T'.heap := by rw [e1]; exact Hp_up e hp0 hp rfl (fun q a b => hk q a b)
  have hS : va_S (aA G) C.2.2.2.2.1.heap T'.heap (locs ++ L) := ⟨Nat.le_trans hs.1 (by rw [e1]; exact hz), fun q h1 h2 => by rw [e1, hk q (Nat.lt_of_lt_of_le h1 hs.1) (fun a => h2 (hA q a))]; exact hs.2.1 q h1 h2, fun q hq => (List.mem_append.mp hq).elim (hs.2.2 q) (fun b => hA _ (hL q b))⟩
  have hvs : okVs (r.toList ++ st) := by
    cases r with
    | none => exact hv
    | some u => exact ⟨hvv.1, hv⟩
  obtain ⟨t2, a1, b1⟩ := kk r M' hq T'.heap (locs ++ L) ar hp' hS (okM_mg e hm0 hm) hl hvs ha T' rfl X'
  refine ⟨t2, sg t2 ?_, b1⟩
  have e3 : (r.map (enc (GN G H.size))).toList ++ st.map (enc G) = (r.toList ++ st).map (enc G) := by
    cases r with
    | none => rfl
    | some u => rw [Option.map_some, enc_GN]; rfl
  show Steps _ _ _ (T'.setTop { F0 C.2.2.2.2.2.1 pc ar Zs with pc := pc + 3, stack := (r.map (enc (GN G H.size))).toList ++ st.map (enc G) }) t2
  rw [e3]
  exact a1
/-- a call of a method of the class, of which only 57 handles are told -/
theorem R_callVF {d na idx h ci nf : Nat} {z : Mt} {as : List V} {st0 : List V} {Q : Option V → Mem → Prop} (hC : CxOK G y C) (e : EX S n) (hd : decode y.2.1 pc = .ok (.invokevirtual idx, 3)) (hz : MO z na false) (hlk : Cond.methodLink y.1.cls idx z.1 ∈ Ts)
    (hh : h < 57) (hk : LY.1 h = (ci, nf)) (hci : (vwCl[ci]?).map (fun q => q.1) = some z.1.cls) (hct : ∀ N, Ct (GN G N) LY 57 C.2.1 d z (vR h :: as) M Q) (hst : st0 = as.reverse ++ vR h :: st) (hna : as.length = na)
    (hR : d + 1 ≤ C.2.2.2.1.frames ∧ 8 + (z.2.2.1 + 11) + (40 * d + 40) ≤ C.2.2.2.1.locals ∧ k ≤ C.2.2.2.1.cells ∧ w ≤ C.2.2.2.1.slots) (hcat : (st.map vcat).sum ≤ 8)
    (kk : ∀ (r : Option V) (M' : Mem), Q r M' → RZ G S C Z k w n (pc + 3) ls (r.toList ++ st) (mg M M')) : RZ G S C Z k w n pc ls st0 M := by
  intro H locs ar hp hs hm hl hv ha
  obtain ⟨z1, z2, z3, z4⟩ := hz
  rw [if_neg (by decide)] at z4
  subst hst
  have hv2 := (okVs_app _ _).mp hv
  have hq : ∃ q, vwCl[ci]? = some q ∧ q.1 = z.1.cls := by
    cases e : vwCl[ci]? with
    | none => rw [e] at hci; cases hci
    | some q => rw [e] at hci; exact ⟨q, rfl, Option.some.inj hci⟩
  obtain ⟨q, hq1, hq2⟩ := hq
  have hrv := va_recv hC.2.2.2.2.2.1.1 hp.1 hq1 ((wsM_at (show h < n by have := e.1; omega)).trans (by rw [ent_obj ((e.2.1 h hh).trans hk) (cl_lt hq1)]))
  rw [hq2] at hrv
  have hGo : GoodIn Ts (wsV y.1.cls idx z.1.cls z.1 (wsY z)) := by
    intro u hu
    have hu2 : u ∈ Ts := by
      unfold wsV at hu
      rcases List.mem_append.mp hu with e | e
      · rcases List.mem_cons.mp e with e | e
        · rw [e]; exact hlk
        rcases List.mem_cons.mp e with e | e
        · rw [e]; exact z4.1
        rcases List.mem_cons.mp e with e | e
        · rw [e]; exact z4.2
        rcases List.mem_cons.mp e with e | e
        · rw [e]; exact z2
        · cases e
      · exact (good_wsY z1 u e).1
    exact ⟨hu2, good_of_word (List.mem_filter.mp hu2).2⟩
  have hpre := PnF.pre (args := vR h :: as) hC e hp hs hm ⟨trivial, okVs_rev _ hv2.1⟩
  refine R_callF (args := vR h :: as) hC e hp hm hs hl hv2.2.2 ha ?_ kk
  refine va_runV (As := as.map (enc G)) (b := G.1 h) (ws := wsY z) (nL := C.2.2.2.2.2.2.2.2.2.maxLocals) (cc := y.2.1) ⟨hC.1, hC.2.1, rfl, hC.2.2.2.1, hC.2.2.2.2.1⟩ (hct H.size) (cwV na (hC.2.2.2.2.1) hGo rfl rfl rfl ⟨rfl, z3⟩ ⟨hR.1, hR.2.1⟩) ⟨hpre.1, hrv, hpre.2⟩ rfl (by rw [List.length_map]; exact hna) ha.1 ?_ (lv_room (by rw [enc_cats]; exact hcat)) hd ⟨hR.2.2.1, hR.2.2.2⟩
  show List.map (enc G) (as.reverse ++ vR h :: st) = _
  rw [List.map_append, List.map_reverse]
  rfl
/-- the same of a static one -/
theorem R_callSF {d na idx : Nat} {z : Mt} {as : List V} {st0 : List V} {Q : Option V → Mem → Prop} (hC : CxOK G y C) (e : EX S n) (hd : decode y.2.1 pc = .ok (.invokestatic idx, 3)) (hz : MO z na true) (hlk : Cond.methodLink y.1.cls idx z.1 ∈ Ts)
    (hct : ∀ N, Ct (GN G N) LY 57 C.2.1 d z as M Q) (hst : st0 = as.reverse ++ st) (hna : as.length = na)
    (hR : d + 1 ≤ C.2.2.2.1.frames ∧ 8 + (z.2.2.1 + 11) + (40 * d + 40) ≤ C.2.2.2.1.locals ∧ k ≤ C.2.2.2.1.cells ∧ w ≤ C.2.2.2.1.slots) (hcat : (st.map vcat).sum ≤ 8)
    (kk : ∀ (r : Option V) (M' : Mem), Q r M' → RZ G S C Z k w n (pc + 3) ls (r.toList ++ st) (mg M M')) : RZ G S C Z k w n pc ls st0 M := by
  intro H locs ar hp hs hm hl hv ha
  obtain ⟨z1, z2, z3, z4⟩ := hz
  rw [if_pos rfl] at z4
  subst hst
  have hv2 := (okVs_app _ _).mp hv
  have hGo : GoodIn Ts (va_wsS y.1.cls idx z.1 (wsY z)) := by
    intro u hu
    have hu2 : u ∈ Ts := by
      unfold va_wsS at hu
      rcases List.mem_append.mp hu with e | e
      · rcases List.mem_cons.mp e with e | e
        · rw [e]; exact hlk
        rcases List.mem_cons.mp e with e | e
        · rw [e]; exact z4
        rcases List.mem_cons.mp e with e | e
        · rw [e]; exact z2
        · cases e
      · exact (good_wsY z1 u e).1
    exact ⟨hu2, good_of_word (List.mem_filter.mp hu2).2⟩
  have hpre := PnF.pre (args := as) hC e hp hs hm (okVs_rev _ hv2.1)
  refine R_callF (args := as) hC e hp hm hs hl hv2.2 ha ?_ kk
  refine va_runS (As := as.map (enc G)) (ws := wsY z) (nL := C.2.2.2.2.2.2.2.2.2.maxLocals) (cc := y.2.1) (Ts := Ts) (own := y.1.cls) ⟨hC.1, hC.2.1, rfl, hC.2.2.2.1, hC.2.2.2.2.1⟩ (hct H.size) (va_cwS na (hC.2.2.2.2.1) hGo rfl rfl rfl z3 ⟨hR.1, hR.2.1⟩) hpre rfl (by rw [List.length_map]; exact hna) ha.1 ?_ (lv_room (by rw [enc_cats]; exact hcat)) hd ⟨hR.2.2.1, hR.2.2.2⟩
  show List.map (enc G) (as.reverse ++ st) = _
  rw [List.map_append, List.map_reverse]
end FRAME
