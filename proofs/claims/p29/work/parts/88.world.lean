/-! the fixed facts -/
theorem kk_Ts {args : Array Value} {s : State} (hts : ∀ w ∈ lw_tbl, w.before args s = true) : ∀ w ∈ Ts, w.before args s = true := fun w hw => by
  have h := (List.mem_filter.mp hw).1
  rcases List.mem_append.mp h with h | h
  · exact hts w h
  · unfold xsel xprv at h
    simp only [List.map_cons, List.map_nil, List.mem_cons, List.not_mem_nil, or_false] at h
    have h0 : (Cond.selects RJ4 ({ cls := "java/lang/AbstractStringBuilder", name := "isLatin1", desc := "()Z" } : Jvm.MethodName) ({ cls := "java/lang/AbstractStringBuilder", name := "isLatin1", desc := "()Z" } : Jvm.MethodName)).before args s = true := (hts _ (in_t5 _ (List.mem_of_getElem? (i := 115) rfl)))
    rcases h with rfl | rfl | rfl | rfl
    · exact sel_up (x0 := ({ cls := "java/lang/AbstractStringBuilder", name := "isLatin1", desc := "()Z" } : Jvm.MethodName)) ⟨by decide +kernel, by decide +kernel⟩ rfl h0 (hts _ (in_t5 _ (List.mem_of_getElem? (i := 84) rfl))) (hts _ (in_t5 _ (List.mem_of_getElem? (i := 85) rfl)))
    · exact sel_up (x0 := ({ cls := "java/lang/AbstractStringBuilder", name := "isLatin1", desc := "()Z" } : Jvm.MethodName)) ⟨by decide +kernel, by decide +kernel⟩ rfl h0 (hts _ (in_t5 _ (List.mem_of_getElem? (i := 88) rfl))) (hts _ (in_t5 _ (List.mem_of_getElem? (i := 89) rfl)))
    · exact sel_up (x0 := ({ cls := "java/lang/AbstractStringBuilder", name := "isLatin1", desc := "()Z" } : Jvm.MethodName)) ⟨by decide +kernel, by decide +kernel⟩ rfl h0 (hts _ (in_t5 _ (List.mem_of_getElem? (i := 134) rfl))) (hts _ (in_t5 _ (List.mem_of_getElem? (i := 135) rfl)))
    · exact sel_up (x0 := ({ cls := "java/lang/AbstractStringBuilder", name := "isLatin1", desc := "()Z" } : Jvm.MethodName)) ⟨by decide +kernel, by decide +kernel⟩ rfl h0 (hts _ (in_t5 _ (List.mem_of_getElem? (i := 138) rfl))) (hts _ (in_t5 _ (List.mem_of_getElem? (i := 139) rfl)))
theorem kk_cls {args : Array Value} {s : State} (hts : ∀ w ∈ lw_tbl, w.before args s = true) : ∃ D : va_G, ∀ (c : Nat) (q : vw_C), vwCl[c]? = some q → u_Kn s q.1 q.2.1 q.2.2 (D.1 c) (D.2 c) := by
  have hT : ∀ w ∈ Ts, w.before args s = true := kk_Ts hts
  have h : ∀ c : Nat, ∃ p : ClassId × (Nat → Nat), ∀ q : vw_C, vwCl[c]? = some q → u_Kn s q.1 q.2.1 q.2.2 p.1 p.2 := by
    intro c
    by_cases hc : 14 ≤ c
    · exact ⟨((0 : Nat), fun _ => 0), fun q h => by rw [List.getElem?_eq_none hc] at h; cases h⟩
    have e : c = 0 ∨ c = 1 ∨ c = 2 ∨ c = 3 ∨ c = 4 ∨ c = 5 ∨ c = 6 ∨ c = 7 ∨ c = 8 ∨ c = 9 ∨ c = 10 ∨ c = 11 ∨ c = 12 ∨ c = 13 := by omega
    rcases e with rfl | rfl | rfl | rfl | rfl | rfl | rfl | rfl | rfl | rfl | rfl | rfl | rfl | rfl
    · obtain ⟨a, b, h⟩ := u_known hT (cl_0.2.1) (hts _ (in_t1 _ (List.mem_of_getElem? (i := 61) rfl)))
      exact ⟨(a, b), fun q e => by cases e; exact h⟩
    · obtain ⟨a, b, h⟩ := u_known hT (cl_1.2.1) (hts _ (in_t2 _ (List.mem_of_getElem? (i := 107) rfl)))
      exact ⟨(a, b), fun q e => by cases e; exact h⟩
    · obtain ⟨a, b, h⟩ := u_known hT (cl_2.2.1) (hts _ (in_t2 _ (List.mem_of_getElem? (i := 82) rfl)))
      exact ⟨(a, b), fun q e => by cases e; exact h⟩
    · obtain ⟨a, b, h⟩ := u_known hT (cl_3.2.1) (hts _ (in_t2 _ (List.mem_of_getElem? (i := 56) rfl)))
      exact ⟨(a, b), fun q e => by cases e; exact h⟩
    · obtain ⟨a, b, h⟩ := u_known hT (cl_4.2.1) (hts _ (in_t1 _ (List.mem_of_getElem? (i := 236) rfl)))
      exact ⟨(a, b), fun q e => by cases e; exact h⟩
    · obtain ⟨a, b, h⟩ := u_known hT (cl_5.2.1) (hts _ (in_t1 _ (List.mem_of_getElem? (i := 214) rfl)))
      exact ⟨(a, b), fun q e => by cases e; exact h⟩
    · obtain ⟨a, b, h⟩ := u_known hT (cl_6.2.1) (hts _ (in_t1 _ (List.mem_of_getElem? (i := 142) rfl)))
      exact ⟨(a, b), fun q e => by cases e; exact h⟩
    · obtain ⟨a, b, h⟩ := u_known hT (cl_7.2.1) (hts _ (in_t1 _ (List.mem_of_getElem? (i := 39) rfl)))
      exact ⟨(a, b), fun q e => by cases e; exact h⟩
    · obtain ⟨a, b, h⟩ := u_known hT (cl_8.2.1) (hts _ (in_t1 _ (List.mem_of_getElem? (i := 45) rfl)))
      exact ⟨(a, b), fun q e => by cases e; exact h⟩
    · obtain ⟨a, b, h⟩ := u_known hT (cl_9.2.1) (hts _ (in_t1 _ (List.mem_of_getElem? (i := 107) rfl)))
      exact ⟨(a, b), fun q e => by cases e; exact h⟩
    · obtain ⟨a, b, h⟩ := u_known hT (cl_10.2.1) (hts _ (in_t2 _ (List.mem_of_getElem? (i := 19) rfl)))
      exact ⟨(a, b), fun q e => by cases e; exact h⟩
    · obtain ⟨a, b, h⟩ := u_known hT (cl_11.2.1) (hts _ (in_t1 _ (List.mem_of_getElem? (i := 31) rfl)))
      exact ⟨(a, b), fun q e => by cases e; exact h⟩
    · obtain ⟨a, b, h⟩ := u_known hT (cl_12.2.1) (hts _ (in_t5 _ (List.mem_of_getElem? (i := 199) rfl)))
      exact ⟨(a, b), fun q e => by cases e; exact h⟩
    · obtain ⟨a, b, h⟩ := u_known hT (cl_13.2.1) (hts _ (in_t5 _ (List.mem_of_getElem? (i := 43) rfl)))
      exact ⟨(a, b), fun q e => by cases e; exact h⟩
  obtain ⟨f, hf⟩ := Classical.axiomOfChoice h
  exact ⟨(fun c => (f c).1, fun c => (f c).2), fun c q e => hf c q e⟩
theorem kk_arr {args : Array Value} {s : State} {ty : FieldType} (h : (Cond.arrayClass ty).before args s = true) (ht : ty = .int ∨ ty = .long ∨ ty = .byte ∨ ty = .boolean) : ∃ cA : ClassId, ArrOfT s cA ty ∧ va_RA s cA ty := by
  obtain ⟨cA, kA, comp, h1, h2, h3⟩ := Cond.arrayClass_spec h
  rcases ht with rfl | rfl | rfl | rfl
  · exact ⟨cA, fun n z => ⟨fun k h => (by cases h), kA, h2, comp, h3⟩, h1⟩
  · exact ⟨cA, fun n z => ⟨fun k h => (by cases h), kA, h2, comp, h3⟩, h1⟩
  · exact ⟨cA, fun n z => ⟨fun k h => (by cases h), kA, h2, comp, h3⟩, h1⟩
  · exact ⟨cA, fun n z => ⟨fun k h => (by cases h), kA, h2, comp, h3⟩, h1⟩
def kkC (i : Nat) : String := if i < 5 then "CopyKeeper$TextReader" else "CopyKeeperLaw"
def kkT (i : Nat) : Term := Term.string (kkC i) ([79, 88, 93, 98, 103, 38, 51, 56, 62, 64, 69, 75, 80].getD i 0)
def kkP (i : Nat) : Nat := [217, 228, 237, 248, 262, 275, 284, 302, 314, 327, 346, 365, 386].getD i 0
theorem kf_ex : ∀ i : Nat, i < 13 → (flatC (Jvm.Cond.and given_1 narrow_1))[kkP i]? = some (Cond.exactly (kkT i) "java/lang/String") := by decide +kernel
theorem kf_co : ∀ i : Nat, i < 13 → (flatC (Jvm.Cond.and given_1 narrow_1))[kkP i + 1]? = some (Cond.eq (.field (kkT i) "java/lang/String" "coder" "B") (.int 0)) := by decide +kernel
theorem kf_ar : ∀ i : Nat, i < 13 → (flatC (Jvm.Cond.and given_1 narrow_1))[kkP i + 2]? = some (Cond.arrayOf (.field (kkT i) "java/lang/String" "value" "[B") .byte) := by decide +kernel
theorem kf_le : ∀ i : Nat, i < 13 → (flatC (Jvm.Cond.and given_1 narrow_1))[kkP i + 3]? = some (Cond.eq (.length (.field (kkT i) "java/lang/String" "value" "[B")) (.int (Int32.ofNat (lenS.getD i 0)))) := by decide +kernel
theorem kf_el : ∀ i : Nat, i < 13 → ∀ j : Nat, j < lenS.getD i 0 → (flatC (Jvm.Cond.and given_1 narrow_1))[kkP i + 4 + j]? = some (Cond.eq (.elem (.field (kkT i) "java/lang/String" "value" "[B") (.int (Int32.ofNat j))) (.int ((bytS.getD i []).getD j 0))) := by decide +kernel
theorem kf_ne : ∀ j : Nat, j < 13 → ∀ i : Nat, i < j → (flatC (Jvm.Cond.and given_1 narrow_1))[kkP j + 4 + lenS.getD j 0 + i]? = some (Cond.not (Cond.eq (kkT i) (kkT j))) := by decide +kernel
theorem kf_d1 : ∀ j : Nat, j < 100 → (flatC (Jvm.Cond.and given_1 narrow_1))[14 + j]? = some (Cond.eq (.elem (Term.static "java/lang/Integer" "DigitOnes" "[B") (.int (Int32.ofNat j))) (.int (nI (48 + j % 10)))) := by decide +kernel
theorem kf_d2 : ∀ j : Nat, j < 100 → (flatC (Jvm.Cond.and given_1 narrow_1))[117 + j]? = some (Cond.eq (.elem (Term.static "java/lang/Integer" "DigitTens" "[B") (.int (Int32.ofNat j))) (.int (nI (48 + j / 10)))) := by decide +kernel
theorem kf_1 : (flatC (Jvm.Cond.and given_1 narrow_1))[12]? = some (Cond.arrayOf (Term.static "java/lang/Integer" "DigitOnes" "[B") .byte) := by decide +kernel
theorem kf_2 : (flatC (Jvm.Cond.and given_1 narrow_1))[13]? = some (Cond.eq (.length (Term.static "java/lang/Integer" "DigitOnes" "[B")) (.int 100)) := by decide +kernel
theorem kf_3 : (flatC (Jvm.Cond.and given_1 narrow_1))[115]? = some (Cond.arrayOf (Term.static "java/lang/Integer" "DigitTens" "[B") .byte) := by decide +kernel
theorem kf_4 : (flatC (Jvm.Cond.and given_1 narrow_1))[116]? = some (Cond.eq (.length (Term.static "java/lang/Integer" "DigitTens" "[B")) (.int 100)) := by decide +kernel
theorem kf_5 : (flatC (Jvm.Cond.and given_1 narrow_1))[6]? = some (Cond.eq (Term.static "java/lang/String" "COMPACT_STRINGS" "Z") (.int 1)) := by decide +kernel
theorem kf_6 : (flatC (Jvm.Cond.and given_1 narrow_1))[7]? = some (Cond.isRef (Term.static "jdk/internal/util/Preconditions" "SIOOBE_FORMATTER" "Ljava/util/function/BiFunction;")) := by decide +kernel
theorem kk_dig {s : State} {b0 : Addr} {nm : String} {f : Nat → Nat} (hs : ∀ w ∈ flatC (Jvm.Cond.and given_1 narrow_1), w.before #[Value.ref b0] s = true) (h1 : Cond.arrayOf (Term.static "java/lang/Integer" nm "[B") .byte ∈ flatC (Jvm.Cond.and given_1 narrow_1)) (h2 : Cond.eq (.length (Term.static "java/lang/Integer" nm "[B")) (.int 100) ∈ flatC (Jvm.Cond.and given_1 narrow_1)) (h3 : ∀ j : Nat, j < 100 → Cond.eq (.elem (Term.static "java/lang/Integer" nm "[B") (.int (Int32.ofNat j))) (.int (nI (f j))) ∈ flatC (Jvm.Cond.and given_1 narrow_1)) (hA : ∀ a : Nat, a < s.heap.size → ¬ (s.heap.size ≤ a)) : ∃ t : Nat, (Term.static "java/lang/Integer" nm "[B").eval #[Value.ref b0] s none [] s = some (.ref t) ∧ va_T .byte t 100 (fun j => .int (nI (f j))) (fun q => s.heap.size ≤ q) s s.heap :=
  va_Tof (args := #[Value.ref b0]) (s := s) (tm := Term.static "java/lang/Integer" nm "[B") (ty := .byte) (N := 100) (f := fun j => .int (nI (f j))) (A := fun q => s.heap.size ≤ q) (by decide) (hs _ h1) (va_eqt (hs _ h2)) (fun j hj => va_eqt (hs _ (h3 j hj))) hA
set_option maxRecDepth 100000 in
theorem kk_ex {b0 : Addr} {L : Nat} {xs : Nat → Int32} {s : State} (hL : L ≤ 260) (hX : va_X b0 L xs s s.heap) (hbl : b0 < s.heap.size) (hts : ∀ w ∈ lw_tbl, w.before #[Value.ref b0] s = true) (hgv : (Jvm.Cond.and given_1 narrow_1).before #[Value.ref b0] s = true) : ∃ G : Gl, (∀ q : Nat, G.2.1 q ↔ s.heap.size ≤ q) ∧ G.1 1030 = b0 ∧ KK G s := by
  have hs := flat_of_before _ hgv
  obtain ⟨D, hD⟩ := kk_cls hts
  obtain ⟨cI, hI⟩ := kk_arr (hts _ (in_t1 _ (List.mem_of_getElem? (i := 59) rfl))) (.inl rfl)
  obtain ⟨cJ, hJ⟩ := kk_arr (hts _ (in_t1 _ (List.mem_of_getElem? (i := 83) rfl))) (.inr (.inl rfl))
  obtain ⟨cB, hB⟩ := kk_arr (hts _ (in_t1 _ (List.mem_of_getElem? (i := 58) rfl))) (.inr (.inr (.inl rfl)))
  obtain ⟨cZ, hZ⟩ := kk_arr (hts _ (in_t2 _ (List.mem_of_getElem? (i := 105) rfl))) (.inr (.inr (.inr rfl)))
  have hA : ∀ a : Nat, a < s.heap.size → ¬ (s.heap.size ≤ a) := fun a h => by omega
  obtain ⟨adK, adV, hS, hT⟩ := vk_Sof (args := #[Value.ref b0]) (s := s) (N := 13) (tm := kkT) (len := lenS) (byt := bytS) (A := fun q => s.heap.size ≤ q) (by decide) 
    (fun i hi => hs _ (List.mem_of_getElem? (kf_ex i hi)))
    (fun i hi => hs _ (List.mem_of_getElem? (kf_co i hi)))
    (fun i hi => hs _ (List.mem_of_getElem? (kf_ar i hi)))
    (fun i hi => hs _ (List.mem_of_getElem? (kf_le i hi)))
    (fun i hi j hj => hs _ (List.mem_of_getElem? (kf_el i hi j hj)))
    (fun i j hi hj hne => (Nat.lt_or_gt_of_ne hne).elim (fun h => .inl (hs _ (List.mem_of_getElem? (kf_ne j hj i h)))) (fun h => .inr (hs _ (List.mem_of_getElem? (kf_ne i hi j h))))) hA
  obtain ⟨k1, hk1, hk2⟩ := kk_dig (nm := "DigitOnes") (f := fun j => 48 + j % 10) hs (List.mem_of_getElem? kf_1) (List.mem_of_getElem? kf_2) (fun j hj => List.mem_of_getElem? (kf_d1 j hj)) hA
  obtain ⟨k2, hk3, hk4⟩ := kk_dig (nm := "DigitTens") (f := fun j => 48 + j / 10) hs (List.mem_of_getElem? kf_3) (List.mem_of_getElem? kf_4) (fun j hj => List.mem_of_getElem? (kf_d2 j hj)) hA
  have hSc : va_T .int b0 L (fun j => .int (xs j)) (fun q => s.heap.size ≤ q) s s.heap := by
    obtain ⟨scr, x1, x2, x3, x4, x5⟩ := hX
    exact ⟨scr, x1, x2, x3, by omega, by rw [x4], x5, hA _ hbl⟩
  refine ⟨((fun h => if h = 1030 then b0 else if h = 1020 then k1 else if h = 1021 then k2 else if h = 1999 then L else if 2000 ≤ h then (xs (h - 2000)).toUInt32.toNat else if h < 1020 then adK (h - 1000) else adV (h - 1050)), fun q => s.heap.size ≤ q, D, fun k => if k = 20 then cI else if k = 21 then cJ else if k = 22 then cB else cZ), fun q => Iff.rfl, rfl, ⟨⟨hD, fun k q hk => ?_⟩, fun w hw e => ?_, trivial, ⟨⟨?_, ?_⟩, ?_, ?_⟩, ?_, ⟨?_, ?_⟩, ⟨?_, ?_⟩, ?_, ?_⟩⟩
  · have e : k = 0 ∨ k = 1 ∨ k = 2 ∨ k = 3 ∨ 4 ≤ k := by omega
    rcases e with rfl | rfl | rfl | rfl | e
    · cases hk; exact hI
    · cases hk; exact hJ
    · cases hk; exact hB
    · cases hk; exact hZ
    · exact absurd (List.getElem?_eq_some_iff.mp hk).1 (Nat.not_lt.mpr e)
  · have hq := hts w hw
    cases w <;> first | exact va_Nw.of rfl hq | cases e
  · intro i hi
    have e1 : (fun h => if h = 1030 then b0 else if h = 1020 then k1 else if h = 1021 then k2 else if h = 1999 then L else if 2000 ≤ h then (xs (h - 2000)).toUInt32.toNat else if h < 1020 then adK (h - 1000) else adV (h - 1050)) (1000 + i) = adK i := by
      show (if 1000 + i = 1030 then b0 else if 1000 + i = 1020 then k1 else if 1000 + i = 1021 then k2 else if 1000 + i = 1999 then L else if 2000 ≤ 1000 + i then (xs (1000 + i - 2000)).toUInt32.toNat else if 1000 + i < 1020 then adK (1000 + i - 1000) else adV (1000 + i - 1050)) = adK i
      rw [if_neg (by omega), if_neg (by omega), if_neg (by omega), if_neg (by omega), if_neg (by omega), if_pos (by omega), show 1000 + i - 1000 = i by omega]
    have e2 : (fun h => if h = 1030 then b0 else if h = 1020 then k1 else if h = 1021 then k2 else if h = 1999 then L else if 2000 ≤ h then (xs (h - 2000)).toUInt32.toNat else if h < 1020 then adK (h - 1000) else adV (h - 1050)) (1050 + i) = adV i := by
      show (if 1050 + i = 1030 then b0 else if 1050 + i = 1020 then k1 else if 1050 + i = 1021 then k2 else if 1050 + i = 1999 then L else if 2000 ≤ 1050 + i then (xs (1050 + i - 2000)).toUInt32.toNat else if 1050 + i < 1020 then adK (1050 + i - 1000) else adV (1050 + i - 1050)) = adV i
      rw [if_neg (by omega), if_neg (by omega), if_neg (by omega), if_neg (by omega), if_neg (by omega), if_neg (by omega), show 1050 + i - 1050 = i by omega]
    have z := hS.1 i hi
    rw [← e1, ← e2] at z
    exact z
  · intro i j hi hj e
    have e1 : ∀ i, i < 13 → (fun h => if h = 1030 then b0 else if h = 1020 then k1 else if h = 1021 then k2 else if h = 1999 then L else if 2000 ≤ h then (xs (h - 2000)).toUInt32.toNat else if h < 1020 then adK (h - 1000) else adV (h - 1050)) (1000 + i) = adK i := fun i hi => by
      show (if 1000 + i = 1030 then b0 else if 1000 + i = 1020 then k1 else if 1000 + i = 1021 then k2 else if 1000 + i = 1999 then L else if 2000 ≤ 1000 + i then (xs (1000 + i - 2000)).toUInt32.toNat else if 1000 + i < 1020 then adK (1000 + i - 1000) else adV (1000 + i - 1050)) = adK i
      rw [if_neg (by omega), if_neg (by omega), if_neg (by omega), if_neg (by omega), if_neg (by omega), if_pos (by omega), show 1000 + i - 1000 = i by omega]
    exact hS.2 i j hi hj ((e1 i hi).symm.trans (e.trans (e1 j hj)))
  · exact va_Zof (hts _ (in_t4 _ (List.mem_of_getElem? (i := 112) rfl))) (hts _ (in_t1 _ (List.mem_of_getElem? (i := 15) rfl))) (va_eqi (hs _ (List.mem_of_getElem? kf_5))) hA
  · exact va_Zqof (hts _ (in_t4 _ (List.mem_of_getElem? (i := 128) rfl))) (hts _ (in_t1 _ (List.mem_of_getElem? (i := 21) rfl))) (hs _ (List.mem_of_getElem? kf_6)) hA
  · intro q hq
    have z : ∀ i, i < 13 → (kkT i).eval #[Value.ref b0] s none [] s = some (.ref (adK i)) := hT
    simp only [txS, List.mem_cons, List.not_mem_nil, or_false] at hq
    rcases hq with rfl | rfl | rfl | rfl | rfl | rfl | rfl | rfl | rfl | rfl | rfl | rfl | rfl
    · exact vk_R.of (A := #[Value.ref b0]) (hts _ (in_t4 _ (List.mem_of_getElem? (i := 205) rfl))) (z 0 (by decide))
    · exact vk_R.of (A := #[Value.ref b0]) (hts _ (in_t4 _ (List.mem_of_getElem? (i := 237) rfl))) (z 1 (by decide))
    · exact vk_R.of (A := #[Value.ref b0]) (hts _ (in_t5 _ (List.mem_of_getElem? (i := 7) rfl))) (z 2 (by decide))
    · exact vk_R.of (A := #[Value.ref b0]) (hts _ (in_t5 _ (List.mem_of_getElem? (i := 16) rfl))) (z 3 (by decide))
    · exact vk_R.of (A := #[Value.ref b0]) (hts _ (in_t5 _ (List.mem_of_getElem? (i := 21) rfl))) (z 4 (by decide))
    · exact vk_R.of (A := #[Value.ref b0]) (hts _ (in_t5 _ (List.mem_of_getElem? (i := 34) rfl))) (z 5 (by decide))
    · exact vk_R.of (A := #[Value.ref b0]) (hts _ (in_t5 _ (List.mem_of_getElem? (i := 167) rfl))) (z 6 (by decide))
    · exact vk_R.of (A := #[Value.ref b0]) (hts _ (in_t5 _ (List.mem_of_getElem? (i := 193) rfl))) (z 7 (by decide))
    · exact vk_R.of (A := #[Value.ref b0]) (hts _ (in_t6 _ (List.mem_of_getElem? (i := 11) rfl))) (z 8 (by decide))
    · exact vk_R.of (A := #[Value.ref b0]) (hts _ (in_t6 _ (List.mem_of_getElem? (i := 12) rfl))) (z 9 (by decide))
    · exact vk_R.of (A := #[Value.ref b0]) (hts _ (in_t6 _ (List.mem_of_getElem? (i := 16) rfl))) (z 10 (by decide))
    · exact vk_R.of (A := #[Value.ref b0]) (hts _ (in_t6 _ (List.mem_of_getElem? (i := 20) rfl))) (z 11 (by decide))
    · exact vk_R.of (A := #[Value.ref b0]) (hts _ (in_t6 _ (List.mem_of_getElem? (i := 24) rfl))) (z 12 (by decide))
  · exact va_Zof (hts _ (in_t5 _ (List.mem_of_getElem? (i := 182) rfl))) (hts _ (in_t1 _ (List.mem_of_getElem? (i := 24) rfl))) hk1 hA
  · exact hk2
  · exact va_Zof (hts _ (in_t5 _ (List.mem_of_getElem? (i := 184) rfl))) (hts _ (in_t1 _ (List.mem_of_getElem? (i := 24) rfl))) hk3 hA
  · exact hk4
  · have e : ∀ j, Int32.ofNat ((fun h => if h = 1030 then b0 else if h = 1020 then k1 else if h = 1021 then k2 else if h = 1999 then L else if 2000 ≤ h then (xs (h - 2000)).toUInt32.toNat else if h < 1020 then adK (h - 1000) else adV (h - 1050)) (2000 + j)) = xs j := fun j => by
      show Int32.ofNat (if 2000 + j = 1030 then b0 else if 2000 + j = 1020 then k1 else if 2000 + j = 1021 then k2 else if 2000 + j = 1999 then L else if 2000 ≤ 2000 + j then (xs (2000 + j - 2000)).toUInt32.toNat else if 2000 + j < 1020 then adK (2000 + j - 1000) else adV (2000 + j - 1050)) = xs j
      rw [if_neg (by omega), if_neg (by omega), if_neg (by omega), if_neg (by omega), if_pos (by omega), show 2000 + j - 2000 = j by omega]
      show Int32.ofUInt32 (UInt32.ofNat (xs j).toUInt32.toNat) = xs j
      rw [UInt32.ofNat_toNat]
    have z : (fun j => Value.int (xs j)) = fun j => Value.int (Int32.ofNat ((fun h => if h = 1030 then b0 else if h = 1020 then k1 else if h = 1021 then k2 else if h = 1999 then L else if 2000 ≤ h then (xs (h - 2000)).toUInt32.toNat else if h < 1020 then adK (h - 1000) else adV (h - 1050)) (2000 + j))) := funext fun j => by rw [e]
    rw [z] at hSc
    exact hSc
  · exact hL
