/-! THE CLAIM OUT OF ONE WALK OF THE LAW'S BODY. Your part is whole_start (and what it stands on); all else here is the same for every law, but numbers. -/
def R_law : String := "CopyKeeperLaw"
def lw_P (b : Addr) (xs : List Int32) (args : Array Value) (s : State) : Prop := args = #[.ref b] ∧ s.IntsAt b xs ∧ xs.length ≤ 3072 ∧ (Jvm.Cond.and given_1 narrow_1).before args s = true
def lw_Q (_ : Array Value) (s : State) (o : Outcome) (t : State) : Prop := o = .returned (some (.int 1)) ∧ Framed s o t [] 601024 7293034
def lw_Z (below : List Frame) (a : Array Value) (s : State) : State → Prop := fun t => ∃ o, t.status = .running ∧ Ended t below o ∧ lw_Q a s o t
/-- the law's own end, with 1 on the stack, nothing written that was there before, its room as the claim has it -/
theorem lw_ret {p : Program} {l : Launch} {e : Env} {s : State} {m : MethodId} {below : List Frame} {meth : Method} {c : Code} {b : Nat} (hx : p.tables.exec = Jvm.exec) (hb : c.code = code) (hr : meth.sig.returnType = ret) (hlocks : meth.locks = false) {pc : Nat} {H : Heap} {ls : Array Slot} (hdg : decode code pc = .ok (.ireturn, 1)) : W p l e room_1 s m #[Value.ref b] below meth c H [] 601024 7293034 (lw_Z below #[Value.ref b] s) (F0 m pc ls [.int 1]) := by
  intro T hT X
  obtain ⟨fs, hret, hrun, hended, hW, hframe⟩ := X.leave (v := some (.int 1)) (hlocks := hlocks) (fun h => by rw [hr] at h; cases h)
  have hmeth' : T.vm.method? m = some meth := X.method'
  refine ⟨T.setFrames fs, ?_, .returned (some (.int 1)), hrun, hended, rfl, ⟨_, rfl⟩, hW, hframe⟩
  jvm_step X.here [X.here.top, hx, hb, hdg, hmeth', hr, ret, narrow_b1]
  (try refine ⟨rfl, ?_⟩); (try refine ⟨rfl, ?_⟩)
  first | (intro acts; rw [hret _ acts rfl rfl rfl]) | rw [hret _ _ rfl rfl rfl]
  exact Steps.refl _
/-- what holds at the law's entry: the machine, the code, the tables' words (any of lw_tbl by 'hts w (by decide +kernel)'), the script of L ints xs at the cell b, what the Statement gives of the start (any of its parts by flat_of_before) -/
def lw_At (p : Program) (s : State) (m : MethodId) (meth : Method) (c : Code) (b L : Nat) (xs : Nat → Int32) : Prop :=
  p.tables.exec = Jvm.exec ∧ c.code = code ∧ meth.sig.returnType = ret ∧ c.maxLocals = 7 ∧ s.vm.findClass R_law = some m.cls ∧ (∀ w ∈ lw_tbl, w.before #[Value.ref b] s = true) ∧ va_X b L xs s s.heap ∧ b < s.heap.size ∧ meth.locks = false ∧ (Jvm.Cond.and given_1 narrow_1).before #[Value.ref b] s = true

/-! the initial world -/
def X00 : GX := ((fun _ => 0, 0, 0, fun _ _ => 0, 0, fun _ => 0, fun _ => 0), (fun _ => 0, 0, 0, fun _ _ => 0, 0, fun _ => 0, fun _ => 0), 0, fun _ => 0, -1, 0)
theorem fm_ref : ∀ q ∈ refL, (q.1 < 81 ∧ (13 ≤ (LY.1 q.1).1 ∨ (0 ≤ q.2.1 ∧ q.2.1 < (LY.1 q.1).2))) ∧ FM q.1 q.2.1 = q.2.2 := by decide +kernel
theorem REL_0 {M : Mem} (hF : ∀ (h : Nat) (j : Int), h < 81 → inR h j → M h j = FM h j) : REL M X00 0 := by
  have ar : ∀ (h : Nat) (j : Int), h < 81 → 13 ≤ (LY.1 h).1 → (fmT.all (fun p => !(p.1 == h))) = true → M h j = 0 := fun h j h1 h2 h3 => (hF h j h1 (.inl h2)).trans (fm_0 h3 j)
  have ob : ∀ (h : Nat) (j v : Int), (h < 81 ∧ (0 ≤ j ∧ j < (LY.1 h).2)) ∧ FM h j = v → M h j = v := fun h j v e => (hF h j e.1.1 (.inr e.1.2)).trans e.2
  have hG : GR M := ⟨fun q hq => by
    have e := fm_ref q hq
    exact (hF _ _ e.1.1 e.1.2).trans e.2, fun c hc k _ => by
    have z : ∀ c ∈ stC, (c < 81 ∧ 13 ≤ (LY.1 c).1) ∧ (fmT.all (fun p => !(p.1 == c))) = true := by decide +kernel
    have e := z c hc
    exact ar c k e.1.1 e.1.2 e.2⟩
  have ok0 : OKs X00.a 0 := ⟨⟨z_SP.1, by show (0 : Int) ≤ 90 * 0; decide⟩, ⟨⟨by decide, by decide⟩, by decide, by decide⟩, fun i a b => absurd b (by show ¬ i < 0; omega), ⟨by decide, by decide⟩, fun i a b => ⟨Int.le_refl 0, Int.le_refl 0⟩⟩
  refine ⟨hG, ⟨fun h => absurd (ob 0 10 0 (by decide +kernel)) h, ⟨funext fun j => ar 4 j (by decide) (by decide +kernel) (by decide +kernel), ⟨ob 5 3 0 (by decide +kernel), ob 5 4 0 (by decide +kernel)⟩, fun i a b => absurd b (by show ¬ i < 0; omega), ob 2 3 0 (by decide +kernel), fun i a b => ar 9 i (by decide) (by decide +kernel) (by decide +kernel), fun i a b => ar 10 i (by decide) (by decide +kernel) (by decide +kernel)⟩, ⟨ob 0 1 0 (by decide +kernel), fun j a b => absurd b (by show ¬ j < 0; omega)⟩, ob 0 2 (-1) (by decide +kernel), ob 0 5 0 (by decide +kernel), fun h => absurd rfl h⟩,
    ⟨⟨fun k k0 k1 => ?_, ⟨⟨⟨by decide, by decide⟩, by decide, by decide⟩, ⟨ob 57 7 0 (by decide +kernel), ob 57 8 0 (by decide +kernel)⟩, fun i a b => absurd b (by show ¬ i < 0; omega)⟩, ob 57 9 0 (by decide +kernel), fun i a b => ar 60 i (by decide) (by decide +kernel) (by decide +kernel), fun i a b => ar 61 i (by decide) (by decide +kernel) (by decide +kernel)⟩, ⟨ob 57 16 0 (by decide +kernel), fun j a b => absurd b (by show ¬ j < 0; omega)⟩, ob 57 17 (-1) (by decide +kernel), ob 57 13 0 (by decide +kernel), fun h => absurd rfl h⟩,
    ok0, ⟨by decide, by decide⟩, .inl rfl, fun h => absurd rfl h⟩
  have r : ∀ j, M 58 j = 0 := fun j => ar 58 j (by decide) (by decide +kernel) (by decide +kernel)
  have r9 : ∀ j, M 59 j = 0 := fun j => ar 59 j (by decide) (by decide +kernel) (by decide +kernel)
  have a5 : M 57 5 = 0 := ob 57 5 0 (by decide +kernel)
  have a6 : M 57 6 = 0 := ob 57 6 0 (by decide +kernel)
  have a14 : M 57 14 = 0 := ob 57 14 0 (by decide +kernel)
  show ms M 0 k = 0
  unfold ms
  simp only [r, r9, a5, a6, a14, ite_self]
def lsC (n : Nat) (ls : List (Option V)) : Bool := ls.all (fun o => match o with
  | some (.inr (.inr h)) => decide (h < n) || decide (1000 ≤ h)
  | _ => true)
theorem lsC_h {n : Nat} {ls : List (Option V)} (e : lsC n ls = true) : ∀ v, some v ∈ ls → hOK n v := fun v hv => by
  have z := List.all_eq_true.mp e _ hv
  rcases v with i | i | k
  · trivial
  · trivial
  · exact ((Bool.or_eq_true _ _).mp z).elim (fun q => .inl (of_decide_eq_true q)) (fun q => .inr (of_decide_eq_true q))
section LAW0
variable {g g' : Nat → Nat} {q : Gq} {C : Cx}
theorem SCR.ga {n L : Nat} {xs : Nat → Int32} (e : GA g g' n) (h : SCR (g, q) C xs L) : SCR (g', q) C xs L := by
  have z : g' 1030 = g 1030 := e 1030 (.inr (by decide))
  unfold SCR at h ⊢
  show va_X (g' 1030) L xs _ _ ∧ g' 1030 < _ ∧ ¬ aA (g, q) (g' 1030) ∧ L ≤ 3072
  rw [z]
  exact h
theorem law_run {Z : State → Prop} {L : Nat} {xs : Nat → Int32} (hC : CxOK (g, q) mL_law C) (hX : SCR (g, q) C xs L) (hrm : C.2.2.2.1 = room_1) (hNc : va_Nc eI eN C.2.2.2.2.1) (hlt : C.2.1.stackTraces = false)
    (hend : ∀ (g' : Nat → Nat) (k w : Nat) (ls : List (Option V)) (M : Mem), CxOK (g', q) mL_law C → k ≤ 601024 → w ≤ 7293034 → RZ (g', q) LY C Z k w 82 1314 ls [] M) : RZ (g, q) LY C Z 0 0 0 0 [some (vR 1030), none, none, none, none, none, none] [] (fun _ _ => 0) := by
  have rb0 : RB LY 0 (fun _ _ => 0) := fun h k hh => absurd hh (Nat.not_lt_zero h)
  refine R_newO (N := 16) hC (by decide +kernel) cl_11 (Ts_in (in_t1 _ (List.mem_of_getElem? (i := 26) rfl)) rfl) (Ts_in (in_t1 _ (List.mem_of_getElem? (i := 27) rfl)) rfl) (Ts_in (in_t1 _ (List.mem_of_getElem? (i := 1) rfl)) rfl) rfl (by decide +kernel) (by decide) rb0 (lsC_h (by decide)) (stOK_h (by decide)) (by rw [hrm]; exact Nat.le_of_ble_eq_true rfl) (by rw [hrm]; exact Nat.le_of_ble_eq_true rfl) (fun g1 ga1 => ?_)
  have hC1 := CxOK.ga ga1 hC
  have hX1 := SCR.ga ga1 hX
  have rb1 := RB.set (f := dfl LY 11) rb0 (fun j => (dfl_b j).2)
  refine R_dup hC1 (by decide +kernel) rfl ?_
  refine R_callN (as := []) hC1 (by decide +kernel) mi_11 (Ts_in (in_t1 _ (List.mem_of_getElem? (i := 28) rfl)) rfl) (c11_init_0 rb1 (fun j => setR_s)) rfl rfl (by rw [hrm]; exact ⟨by decide, by decide, by decide, by decide⟩) (by decide) (lsC_h (by decide)) (stOK_h (by decide)) (fun g2 M2 ga2 hb2 rb2 => ?_)
  have hC2 := CxOK.ga ga2 hC1
  have hX2 := SCR.ga ga2 hX1
  refine R_astore_1 hC2 (by decide +kernel) rfl ?_
  refine R_newO (N := 55) hC2 (by decide +kernel) cl_12 (Ts_in (in_t6 _ (List.mem_of_getElem? (i := 127) rfl)) rfl) (Ts_in (in_t6 _ (List.mem_of_getElem? (i := 128) rfl)) rfl) (Ts_in (in_t1 _ (List.mem_of_getElem? (i := 13) rfl)) rfl) rfl (by decide +kernel) (by decide) rb2 (lsC_h (by decide)) (stOK_h (by decide)) (by rw [hrm]; exact Nat.le_of_ble_eq_true rfl) (by rw [hrm]; exact Nat.le_of_ble_eq_true rfl) (fun g3 ga3 => ?_)
  have hC3 := CxOK.ga ga3 hC2
  have hX3 := SCR.ga ga3 hX2
  have rb3 := RB.set (f := dfl LY 12) rb2 (fun j => (dfl_b j).2)
  refine R_dup hC3 (by decide +kernel) rfl ?_
  refine R_callN (as := []) hC3 (by decide +kernel) mi_12 (Ts_in (in_t6 _ (List.mem_of_getElem? (i := 129) rfl)) rfl) (c12_init_57 rb3 (fun j => setR_s)) rfl rfl (by rw [hrm]; exact ⟨by decide, by decide, by decide, by decide⟩) (by decide) (lsC_h (by decide)) (stOK_h (by decide)) (fun g4 M4 ga4 hb4 rb4 => ?_)
  have hC4 := CxOK.ga ga4 hC3
  have hX4 := SCR.ga ga4 hX3
  refine R_astore_2 hC4 (by decide +kernel) rfl ?_
  refine R_iconst (c := 1) hC4 (by decide +kernel) ⟨by decide, by decide⟩ ?_
  refine R_newA (kd := 21) (N := 1) (atype := .long) hC4 (by decide +kernel) rfl ⟨by decide, by decide⟩ (Ts_in (in_t1 _ (List.mem_of_getElem? (i := 80) rfl)) rfl) rfl (by decide +kernel) (by decide +kernel) (by decide +kernel) (by decide) rb4 (lsC_h (by decide)) (stOK_h (by decide)) (by rw [hrm]; exact Nat.le_of_ble_eq_true rfl) (by rw [hrm]; exact Nat.le_of_ble_eq_true rfl) (fun g5 ga5 => ?_)
  have hC5 := CxOK.ga ga5 hC4
  have hX5 := SCR.ga ga5 hX4
  refine R_astore_3 hC5 (by decide +kernel) rfl ?_
  refine R_iconst (c := 0) hC5 (by decide +kernel) ⟨by decide, by decide⟩ ?_
  refine R_istore_4 hC5 (by decide +kernel) rfl ?_
  have hF : ∀ (h : Nat) (j : Int), h < 81 → inR h j → setR M4 81 (fun _ => 0) h j = FM h j := fun h j h1 h2 => by
    rw [setR_o (by omega)]
    by_cases e : h < 57
    · rw [hb4.1 h j e, setR_o (by omega)]
      exact hb2.2 h j (Nat.zero_le h) e h2
    · exact hb4.2 h j (by omega) h1 h2
  have z := law_loop (G := (g5, q)) (k0 := 82) (w0 := 14196) hC5 hX5 hrm hNc (by decide) (by decide) (STEPS_all hlt) (fun k w ls M a b => hend g5 k w ls M hC5 a b) 512 0 _ X00 (by have := hX.2.2.2; omega) (by decide) (REL_0 hF)
  exact z
end LAW0

