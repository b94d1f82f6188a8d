theorem kk_cls {args : Array Value} {s : State} (hts : ∀ w ∈ lw_tbl, w.before args s = true) : ∃ D : va_G, ∀ (c : Nat) (q : vw_C), vwCl[c]? = some q → u_Kn s q.1 q.2.1 q.2.2 (D.1 c) (D.2 c) := by
  have hT : ∀ w ∈ Ts, w.before args s = true := fun w hw => hts w (List.mem_filter.mp hw).1
  have h : ∀ c : Nat, ∃ p : ClassId × (Nat → Nat), ∀ q : vw_C, vwCl[c]? = some q → u_Kn s q.1 q.2.1 q.2.2 p.1 p.2 := by
    intro c
    by_cases hc : 13 ≤ c
    · exact ⟨((0 : Nat), fun _ => 0), fun q h => by rw [List.getElem?_eq_none hc] at h; cases h⟩
    have e : c = 0 ∨ c = 1 ∨ c = 2 ∨ c = 3 ∨ c = 4 ∨ c = 5 ∨ c = 6 ∨ c = 7 ∨ c = 8 ∨ c = 9 ∨ c = 10 ∨ c = 11 ∨ c = 12 := by omega
    rcases e with rfl | rfl | rfl | rfl | rfl | rfl | rfl | rfl | rfl | rfl | rfl | rfl | rfl
    · obtain ⟨a, b, h⟩ := u_known hT (cl_0.2.1) (hts _ (in_t1 _ (List.mem_of_getElem? (i := 58) rfl)))
      exact ⟨(a, b), fun q e => by cases e; exact h⟩
    · obtain ⟨a, b, h⟩ := u_known hT (cl_1.2.1) (hts _ (in_t2 _ (List.mem_of_getElem? (i := 117) rfl)))
      exact ⟨(a, b), fun q e => by cases e; exact h⟩
    · obtain ⟨a, b, h⟩ := u_known hT (cl_2.2.1) (hts _ (in_t2 _ (List.mem_of_getElem? (i := 84) rfl)))
      exact ⟨(a, b), fun q e => by cases e; exact h⟩
    · obtain ⟨a, b, h⟩ := u_known hT (cl_3.2.1) (hts _ (in_t2 _ (List.mem_of_getElem? (i := 58) rfl)))
      exact ⟨(a, b), fun q e => by cases e; exact h⟩
    · obtain ⟨a, b, h⟩ := u_known hT (cl_4.2.1) (hts _ (in_t1 _ (List.mem_of_getElem? (i := 236) rfl)))
      exact ⟨(a, b), fun q e => by cases e; exact h⟩
    · obtain ⟨a, b, h⟩ := u_known hT (cl_5.2.1) (hts _ (in_t1 _ (List.mem_of_getElem? (i := 212) rfl)))
      exact ⟨(a, b), fun q e => by cases e; exact h⟩
    · obtain ⟨a, b, h⟩ := u_known hT (cl_6.2.1) (hts _ (in_t1 _ (List.mem_of_getElem? (i := 140) rfl)))
      exact ⟨(a, b), fun q e => by cases e; exact h⟩
    · obtain ⟨a, b, h⟩ := u_known hT (cl_7.2.1) (hts _ (in_t1 _ (List.mem_of_getElem? (i := 35) rfl)))
      exact ⟨(a, b), fun q e => by cases e; exact h⟩
    · obtain ⟨a, b, h⟩ := u_known hT (cl_8.2.1) (hts _ (in_t1 _ (List.mem_of_getElem? (i := 41) rfl)))
      exact ⟨(a, b), fun q e => by cases e; exact h⟩
    · obtain ⟨a, b, h⟩ := u_known hT (cl_9.2.1) (hts _ (in_t1 _ (List.mem_of_getElem? (i := 105) rfl)))
      exact ⟨(a, b), fun q e => by cases e; exact h⟩
    · obtain ⟨a, b, h⟩ := u_known hT (cl_10.2.1) (hts _ (in_t2 _ (List.mem_of_getElem? (i := 19) rfl)))
      exact ⟨(a, b), fun q e => by cases e; exact h⟩
    · obtain ⟨a, b, h⟩ := u_known hT (cl_11.2.1) (hts _ (in_t1 _ (List.mem_of_getElem? (i := 27) rfl)))
      exact ⟨(a, b), fun q e => by cases e; exact h⟩
    · obtain ⟨a, b, h⟩ := u_known hT (cl_12.2.1) (hts _ (in_t6 _ (List.mem_of_getElem? (i := 128) rfl)))
      exact ⟨(a, b), fun q e => by cases e; exact h⟩
  obtain ⟨f, hf⟩ := Classical.axiomOfChoice h
  exact ⟨(fun c => (f c).1, fun c => (f c).2), fun c q e => hf c q e⟩
theorem kk_arr {args : Array Value} {s : State} {ty : FieldType} (h : (Cond.arrayClass ty).before args s = true) (ht : ty = .int ∨ ty = .long ∨ ty = .byte ∨ ty = .boolean) : ∃ cA : ClassId, ArrOfT s cA ty ∧ va_RA s cA ty := by
  obtain ⟨cA, kA, comp, h1, h2, h3⟩ := Cond.arrayClass_spec h
  rcases ht with rfl | rfl | rfl | rfl
  · exact ⟨cA, fun n z => ⟨fun k h => (by cases h), kA, h2, comp, h3⟩, h1⟩
  · exact ⟨cA, fun n z => ⟨fun k h => (by cases h), kA, h2, comp, h3⟩, h1⟩
  · exact ⟨cA, fun n z => ⟨fun k h => (by cases h), kA, h2, comp, h3⟩, h1⟩
  · exact ⟨cA, fun n z => ⟨fun k h => (by cases h), kA, h2, comp, h3⟩, h1⟩
def kkT (i : Nat) : Term := Term.string "CopyKeeper$TextReader" ([79, 88, 93, 98, 103].getD i 0)
set_option maxRecDepth 100000 in
theorem kk_ex {b0 : Addr} {s : State} (hts : ∀ w ∈ lw_tbl, w.before #[Value.ref b0] s = true) (hgv : (Jvm.Cond.and given_1 narrow_1).before #[Value.ref b0] s = true) : ∃ G : Gl, G.2.1 = s.heap.size ∧ G.1 1030 = b0 ∧ KK G s ∧ va_Nc eI eN s := by
  have hs := flat_of_before _ hgv
  obtain ⟨D, hD⟩ := kk_cls hts
  obtain ⟨cI, hI⟩ := kk_arr (hts _ (in_t1 _ (List.mem_of_getElem? (i := 56) rfl))) (.inl rfl)
  obtain ⟨cJ, hJ⟩ := kk_arr (hts _ (in_t1 _ (List.mem_of_getElem? (i := 80) rfl))) (.inr (.inl rfl))
  obtain ⟨cB, hB⟩ := kk_arr (hts _ (in_t1 _ (List.mem_of_getElem? (i := 55) rfl))) (.inr (.inr (.inl rfl)))
  obtain ⟨cZ, hZ⟩ := kk_arr (hts _ (in_t2 _ (List.mem_of_getElem? (i := 115) rfl))) (.inr (.inr (.inr rfl)))
  have hA : ∀ a : Nat, a < s.heap.size → ¬ (s.heap.size ≤ a) := fun a h => by omega
  obtain ⟨adK, adV, hS, hT⟩ := vk_Sof (args := #[Value.ref b0]) (s := s) (N := 5) (tm := kkT) (len := lenS) (byt := bytS) (A := fun q => s.heap.size ≤ q) (by decide) 
    (fun i hi => hs _ ((by decide +kernel : ∀ i : Nat, i < 5 → Cond.exactly (kkT i) "java/lang/String" ∈ flatC (Jvm.Cond.and given_1 narrow_1)) i hi))
    (fun i hi => hs _ ((by decide +kernel : ∀ i : Nat, i < 5 → Cond.eq (.field (kkT i) "java/lang/String" "coder" "B") (.int 0) ∈ flatC (Jvm.Cond.and given_1 narrow_1)) i hi))
    (fun i hi => hs _ ((by decide +kernel : ∀ i : Nat, i < 5 → Cond.arrayOf (.field (kkT i) "java/lang/String" "value" "[B") .byte ∈ flatC (Jvm.Cond.and given_1 narrow_1)) i hi))
    (fun i hi => hs _ ((by decide +kernel : ∀ i : Nat, i < 5 → Cond.eq (.length (.field (kkT i) "java/lang/String" "value" "[B")) (.int (Int32.ofNat (lenS.getD i 0))) ∈ flatC (Jvm.Cond.and given_1 narrow_1)) i hi))
    (fun i hi j hj => hs _ ((by decide +kernel : ∀ i : Nat, i < 5 → ∀ j : Nat, j < lenS.getD i 0 → Cond.eq (.elem (.field (kkT i) "java/lang/String" "value" "[B") (.int (Int32.ofNat j))) (.int ((bytS.getD i []).getD j 0)) ∈ flatC (Jvm.Cond.and given_1 narrow_1)) i hi j hj))
    (fun i j hi hj hne => ((by decide +kernel : ∀ i : Nat, i < 5 → ∀ j : Nat, j < 5 → i ≠ j → Cond.not (Cond.eq (kkT i) (kkT j)) ∈ flatC (Jvm.Cond.and given_1 narrow_1) ∨ Cond.not (Cond.eq (kkT j) (kkT i)) ∈ flatC (Jvm.Cond.and given_1 narrow_1)) i hi j hj hne).imp (fun h => hs _ h) (fun h => hs _ h)) hA
  obtain ⟨kn, hk1, hk2⟩ := va_Tof (args := #[Value.ref b0]) (s := s) (tm := Term.static "CopyKeeperModel" "KNOWN" "[B") (ty := .byte) (N := 33) (f := fun j => .int (knB.getD j 0)) (A := fun q => s.heap.size ≤ q) (by decide) (hs _ (by decide +kernel)) (va_eqt (hs _ (by decide +kernel)))
    (fun j hj => va_eqt (hs _ ((by decide +kernel : ∀ j : Nat, j < 33 → Cond.eq (.elem (Term.static "CopyKeeperModel" "KNOWN" "[B") (.int (Int32.ofNat j))) (.int (knB.getD j 0)) ∈ flatC (Jvm.Cond.and given_1 narrow_1)) j hj))) hA
  have hNc : va_Nc eI eN s := va_Nc.of (args := #[Value.ref b0]) (hs _ (by decide +kernel))
  refine ⟨(fun h => if h = 1030 then b0 else if h = 1020 then kn else if h < 1010 then adK (h - 1000) else adV (h - 1010), s.heap.size, D, fun k => if k = 20 then cI else if k = 21 then cJ else if k = 22 then cB else cZ), rfl, rfl, ⟨⟨hD, fun k q hk => ?_⟩, fun w hw e => ?_, trivial, ?_, ?_, ⟨⟨?_, ?_⟩, ?_, ?_⟩, ?_, ?_, ?_, ?_⟩, hNc⟩
  · have e : k = 0 ∨ k = 1 ∨ k = 2 ∨ k = 3 ∨ 4 ≤ k := by omega
    rcases e with rfl | rfl | rfl | rfl | e
    · cases hk; exact hI
    · cases hk; exact hJ
    · cases hk; exact hB
    · cases hk; exact hZ
    · exact absurd (List.getElem?_eq_some_iff.mp hk).1 (Nat.not_lt.mpr e)
  · have hq := hts w hw
    cases w <;> first | exact va_Nw.of rfl hq | cases e
  · exact vx_Zqof (hts _ (in_t4 _ (List.mem_of_getElem? (i := 25) rfl))) (hts _ (in_t1 _ (List.mem_of_getElem? (i := 14) rfl))) (hs _ (by decide +kernel)) hA
  · exact vx_Zqof (hts _ (in_t4 _ (List.mem_of_getElem? (i := 27) rfl))) (hts _ (in_t1 _ (List.mem_of_getElem? (i := 14) rfl))) (hs _ (by decide +kernel)) hA
  · intro i hi
    have e1 : (if 1000 + i = 1030 then b0 else if 1000 + i = 1020 then kn else if 1000 + i < 1010 then adK (1000 + i - 1000) else adV (1000 + i - 1010)) = adK i := by rw [if_neg (by omega), if_neg (by omega), if_pos (by omega), show 1000 + i - 1000 = i by omega]
    have e2 : (if 1010 + i = 1030 then b0 else if 1010 + i = 1020 then kn else if 1010 + i < 1010 then adK (1010 + i - 1000) else adV (1010 + i - 1010)) = adV i := by rw [if_neg (by omega), if_neg (by omega), if_neg (by omega), show 1010 + i - 1010 = i by omega]
    have z := hS.1 i hi
    rw [← e1, ← e2] at z
    exact z
  · intro i j hi hj e
    have e1 : ∀ i, i < 5 → (if 1000 + i = 1030 then b0 else if 1000 + i = 1020 then kn else if 1000 + i < 1010 then adK (1000 + i - 1000) else adV (1000 + i - 1010)) = adK i := fun i hi => by rw [if_neg (by omega), if_neg (by omega), if_pos (by omega), show 1000 + i - 1000 = i by omega]
    exact hS.2 i j hi hj ((e1 i hi).symm.trans (e.trans (e1 j hj)))
  · exact va_Zof (hts _ (in_t4 _ (List.mem_of_getElem? (i := 101) rfl))) (hts _ (in_t1 _ (List.mem_of_getElem? (i := 19) rfl))) (va_eqi (hs _ (by decide +kernel))) hA
  · exact va_Zqof (hts _ (in_t4 _ (List.mem_of_getElem? (i := 117) rfl))) (hts _ (in_t1 _ (List.mem_of_getElem? (i := 21) rfl))) (hs _ (by decide +kernel)) hA
  · intro q hq
    have z : ∀ i, i < 5 → (kkT i).eval #[Value.ref b0] s none [] s = some (.ref (adK i)) := hT
    simp only [txS, List.mem_cons, List.not_mem_nil, or_false] at hq
    rcases hq with rfl | rfl | rfl | rfl | rfl
    · exact vk_R.of (A := #[Value.ref b0]) (hts _ (in_t4 _ (List.mem_of_getElem? (i := 87) rfl))) (z 0 (by decide))
    · exact vk_R.of (A := #[Value.ref b0]) (hts _ (in_t4 _ (List.mem_of_getElem? (i := 165) rfl))) (z 1 (by decide))
    · exact vk_R.of (A := #[Value.ref b0]) (hts _ (in_t4 _ (List.mem_of_getElem? (i := 175) rfl))) (z 2 (by decide))
    · exact vk_R.of (A := #[Value.ref b0]) (hts _ (in_t4 _ (List.mem_of_getElem? (i := 184) rfl))) (z 3 (by decide))
    · exact vk_R.of (A := #[Value.ref b0]) (hts _ (in_t4 _ (List.mem_of_getElem? (i := 189) rfl))) (z 4 (by decide))
  · exact va_Zof (hts _ (in_t7 _ (List.mem_of_getElem? (i := 91) rfl))) (hts _ (in_t1 _ (List.mem_of_getElem? (i := 13) rfl))) hk1 hA
  · exact hk2
  · refine exB_al (a := #[Value.ref b0]) (Vm.Alike.refl _) (fun w hw => ?_)
    simp only [exB, List.mem_cons, List.not_mem_nil, or_false] at hw
    rcases hw with rfl | rfl | rfl | rfl | rfl
    · exact (hts _ (in_t4 _ (List.mem_of_getElem? (i := 0) rfl)))
    · exact (hts _ (in_t5 _ (List.mem_of_getElem? (i := 134) rfl)))
    · exact (hts _ (in_t4 _ (List.mem_of_getElem? (i := 1) rfl)))
    · exact (hts _ (in_t4 _ (List.mem_of_getElem? (i := 3) rfl)))
    · exact (hts _ (in_t4 _ (List.mem_of_getElem? (i := 5) rfl)))

