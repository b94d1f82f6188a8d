/-! throwing -/
def exN : List String := ["java/lang/RuntimeException", "java/lang/Exception"]
theorem exW {ws : List Cond} (h : ws.all (fun w => decide (w ∈ Ts) || decide (w ∈ exB)) = true) : ∀ w ∈ ws, w ∈ Ts ∨ w ∈ exB := fun w hw => by
  have h1 := List.all_eq_true.mp h w hw
  rw [Bool.or_eq_true] at h1
  exact h1.elim (fun q => .inl (of_decide_eq_true q)) (fun q => .inr (of_decide_eq_true q))
set_option maxRecDepth 100000 in
set_option maxHeartbeats 4000000 in
theorem ex_I : ∀ w ∈ Cond.classLink RX11 108 "java/lang/IllegalArgumentException" :: Cond.initialized "java/lang/IllegalArgumentException" :: vx_at0 RX11 110 "java/lang/IllegalArgumentException" exN, w ∈ Ts ∨ w ∈ exB := exW (by decide +kernel)
set_option maxRecDepth 100000 in
set_option maxHeartbeats 4000000 in
theorem ex_N : ∀ w ∈ Cond.classLink RX11 182 "java/util/NoSuchElementException" :: Cond.initialized "java/util/NoSuchElementException" :: vx_at0 RX11 184 "java/util/NoSuchElementException" exN, w ∈ Ts ∨ w ∈ exB := exW (by decide +kernel)
theorem exB_ot : ∀ w ∈ exB, vx_ot w = true := by decide +kernel
section THROW
variable {G : Gl} {S : Sh} {C : Cx} {Z : State → Prop} {n : Nat} {pc : Nat} {ls : List (Option V)} {st : List V} {M : Mem} {y : Mt} {Q : Option V → Mem → Prop} {X : String → Mem → Prop}
theorem Hp_ext {H H1 : Heap} (h : Hp G S n M H) (hq : ∀ q : Nat, q < H.size → H1[q]? = H[q]?) : Hp G S n M H1 :=
  ⟨fun k q hk => (h.1 k q hk).kept (hq _ (h.1 k q hk).lt), h.2⟩
theorem R_throw (hC : CxOK G y C) {ik ic d' : Nat} {E : String} (hl : C.2.1.stackTraces = false) (hE : Bundle.fit E = true)
    (hw : ∀ w ∈ Cond.classLink y.1.cls ik E :: Cond.initialized E :: vx_at0 y.1.cls ic E exN, w ∈ Ts ∨ w ∈ exB)
    (hX : C.2.2.2.1 = rmX d' ∧ ∀ x ∈ C.2.2.2.2.2.2.2.2.2.exceptionTable.toList, False) (hd6 : 6 ≤ d') (hcat : (st.map vcat).sum ≤ 8)
    (d0 : decode y.2.1 pc = .ok (.new ik, 3)) (d3 : decode y.2.1 (pc + 3) = .ok (.dup, 1)) (d4 : decode y.2.1 (pc + 4) = .ok (.invokespecial ic, 3)) (d7 : decode y.2.1 (pc + 7) = .ok (.athrow, 1))
    (hx : X E M) : RZ G S C (ZX G S n C Q X) 0 0 n pc ls st M := by
  intro H locs ar hp hs hm hl' hv ha
  have hXW := hC.2.2.2.2.2.1.2.2.2
  have hall : ∀ w ∈ Cond.classLink y.1.cls ik E :: Cond.initialized E :: vx_at0 y.1.cls ic E exN, w.before C.2.2.2.2.2.2.1 C.2.2.2.2.1 = true := fun w hw' =>
    (hw w hw').elim (fun q => hC.2.2.2.2.1 w q) (fun q => exB_al (Vm.Alike.refl _) hXW.2.2.2.2.2.2 w q)
  have hgood : ∀ w ∈ Cond.classLink y.1.cls ik E :: Cond.initialized E :: vx_at0 y.1.cls ic E exN, vx_ot w = true := fun w hw' =>
    (hw w hw').elim (fun q => by unfold vx_ot; rw [(List.mem_filter.mp q).2, Bool.or_true]) (fun q => exB_ot w q)
  refine vx_throw0 (A := aA G) (names := exN) (mc := 1) (ms := 6) hC.1 hC.2.1 hl hC.2.2.2.1 hE (by decide +kernel) (hall _ List.mem_cons_self) (hall _ (List.mem_cons_of_mem _ List.mem_cons_self)) (fun w h => hall w (List.mem_cons_of_mem _ (List.mem_cons_of_mem _ h))) hgood hXW.1 hXW.2.1 hs ha.1 d0 d3 d4 d7 (fun x hx => (hX.2 x hx).elim)
    (by rw [hX.1]; show 2 + 3 < d'; omega) (by rw [hX.1, enc_cats]; show _ + (13 * (2 + 1) + 42) ≤ 40 * d' + 40; omega) (by rw [hX.1]; exact Nat.le_refl _) (by rw [hX.1]; exact Nat.le_refl _) hC.2.2.2.2.2.2.1
    (fun t hal hsz hq => ⟨M, hx, Hp_ext hp hq, hm, Nat.le_trans hs.1 hsz, fun q h1 h2 => (hq q (Nat.lt_of_lt_of_le h1 hs.1)).trans (hs.2.1 q h1 h2)⟩) hs.2.2 (Nat.le_refl _) (Nat.le_refl _)
theorem R_ireturnX (hC : CxOK G y C) {v : Int} (hd : decode y.2.1 pc = .ok (.ireturn, 1)) (hr : y.2.2.2 = some .int) (hq : Q (some (vI v)) M) : RZ G S C (ZX G S n C Q X) 0 0 n pc ls [vI v] M := by
  intro H locs ar hp hs hm hl hv ha
  exact W.widen (Nat.zero_le 1) (Nat.zero_le 6) (vx_ret (W.iret hC.1 hC.2.1 (hC.2.2.2.2.2.2.2.1.trans hr) (fun t ht hW => ⟨⟨some (vI v), M, rfl, hq, by rw [ht]; exact hp, hm, hv.1, trivial⟩, hs.F ht⟩) hs.2.2 hd hC.2.2.2.2.2.2.1))
end THROW
