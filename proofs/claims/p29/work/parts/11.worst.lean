/-! constants, bitCount -/
section RULES3
variable {G : Gl} {S : Sh} {C : Cx} {Z : State → Prop} {k w n : Nat} {pc : Nat} {ls : List (Option V)} {st : List V} {M : Mem} {y : Mt}
theorem R_ldc (hC : CxOK G y C) {idx : Nat} {c : Int} {v : Int32} (hd : decode y.2.1 pc = .ok (.ldc idx, 2)) (hk : Cond.constant y.1.cls idx v ∈ Ts) (hv : v = Int32.ofInt c) (hc : inI c) (kk : RZ G S C Z k w n (pc + 2) ls (vI c :: st) M) : RZ G S C Z k w n pc ls st M := by
  subst hv
  intro H locs ar hp hs hm hl hv ha
  exact lv_ldc hC.1 hC.2.1 hC.2.2.2.1 (hC.2.2.2.2.1 _ hk) hd (kk H locs ar hp hs hm hl ⟨hc, hv⟩ ha)
theorem R_ldc_w (hC : CxOK G y C) {idx : Nat} {c : Int} {v : Int32} (hd : decode y.2.1 pc = .ok (.ldc_w idx, 3)) (hk : Cond.constant y.1.cls idx v ∈ Ts) (hv : v = Int32.ofInt c) (hc : inI c) (kk : RZ G S C Z k w n (pc + 3) ls (vI c :: st) M) : RZ G S C Z k w n pc ls st M := by
  subst hv
  intro H locs ar hp hs hm hl hv ha
  exact lv_ldcw hC.1 hC.2.1 hC.2.2.2.1 (hC.2.2.2.2.1 _ hk) hd (kk H locs ar hp hs hm hl ⟨hc, hv⟩ ha)
end RULES3
abbrev RX106 : String := RJ6
abbrev cX106_bitCount : ByteArray := cJ6_bitCount_0f7a4
abbrev yX106_bitCount : MethodName := yJ6_bitCount_0f7a4
abbrev m106_bitCount : Mt := (yX106_bitCount, cX106_bitCount, 1, some .int)
/-- how many of a set -/
def bc (t : Int) : Int := ss (fun _ => 1) t
theorem ck_106_265 : Cond.constant RX106 265 (1431655765 : Int32) ∈ Ts := Ts_in (in_t3 _ (List.mem_of_getElem? (i := 124) rfl)) rfl
theorem ck_106_266 : Cond.constant RX106 266 (858993459 : Int32) ∈ Ts := Ts_in (in_t3 _ (List.mem_of_getElem? (i := 125) rfl)) rfl
theorem ck_106_267 : Cond.constant RX106 267 (252645135 : Int32) ∈ Ts := Ts_in (in_t3 _ (List.mem_of_getElem? (i := 126) rfl)) rfl
theorem ml_6_103 : Cond.methodLink RX6 103 yX106_bitCount ∈ Ts := Ts_in (in_t3 _ (List.mem_of_getElem? (i := 121) rfl)) rfl
theorem mo_106_bitCount : MO m106_bitCount 1 true := ⟨Ts_in (in_t3 _ (List.mem_of_getElem? (i := 123) rfl)) rfl, Ts_in (in_t1 _ (List.mem_of_getElem? (i := 24) rfl)) rfl, ⟨by decide +kernel, by decide +kernel, by decide +kernel⟩, Ts_in (in_t3 _ (List.mem_of_getElem? (i := 122) rfl)) rfl⟩
theorem bc_bd {t : Int} (h0 : 0 ≤ t) (h1 : t < 32) : 0 ≤ bc t ∧ bc t ≤ 5 := by
  unfold bc
  rw [ss_e]
  omega
/-- the set that lacks the most among those up to n, and its lack: of like ones the one with fewest, then the least -/
noncomputable def wsF (I : Ins) : Nat → Int × Int
  | 0 => (0, 0)
  | n + 1 => if (wsF I n).2 < lackI I ((n + 1 : Nat) : Int) ∨ (lackI I ((n + 1 : Nat) : Int) = (wsF I n).2 ∧ bc ((n + 1 : Nat) : Int) < bc (wsF I n).1) then (((n + 1 : Nat) : Int), lackI I ((n + 1 : Nat) : Int)) else wsF I n
noncomputable def worst (I : Ins) : Int := (wsF I (fullS I).toNat).1
theorem wsF_bd (I : Ins) : ∀ n : Nat, 0 ≤ (wsF I n).1 ∧ (wsF I n).1 ≤ n
  | 0 => ⟨Int.le_refl _, Int.le_refl _⟩
  | n + 1 => by
    have := wsF_bd I n
    rw [wsF]
    split
    · exact ⟨by simp only; omega, Int.le_refl _⟩
    · omega
theorem wsF_s {I : Ins} {i : Int} (h : 1 ≤ i) : wsF I i.toNat = if (wsF I (i - 1).toNat).2 < lackI I i ∨ (lackI I i = (wsF I (i - 1).toNat).2 ∧ bc i < bc (wsF I (i - 1).toNat).1) then (i, lackI I i) else wsF I (i - 1).toNat := by
  have e : i.toNat = (i - 1).toNat + 1 := by omega
  have e2 : (((i - 1).toNat + 1 : Nat) : Int) = i := by omega
  rw [e, wsF, e2]
theorem IB.wb {I : Ins} (h : IB I) : 0 ≤ worst I ∧ worst I < 2 ^ (iL I).toNat := by
  have := wsF_bd I (fullS I).toNat
  have := h.fs
  unfold worst
  omega

theorem dX106_bitCount_0 : decode cX106_bitCount 0 = .ok (.iload_n 0, 1) := by decide +kernel
theorem dX106_bitCount_1 : decode cX106_bitCount 1 = .ok (.iload_n 0, 1) := by decide +kernel
theorem dX106_bitCount_2 : decode cX106_bitCount 2 = .ok (.iconst 1, 1) := by decide +kernel
theorem dX106_bitCount_3 : decode cX106_bitCount 3 = .ok (.iushr, 1) := by decide +kernel
theorem dX106_bitCount_4 : decode cX106_bitCount 4 = .ok (.ldc_w 265, 3) := by decide +kernel
theorem dX106_bitCount_7 : decode cX106_bitCount 7 = .ok (.iand, 1) := by decide +kernel
theorem dX106_bitCount_8 : decode cX106_bitCount 8 = .ok (.isub, 1) := by decide +kernel
theorem dX106_bitCount_9 : decode cX106_bitCount 9 = .ok (.istore_n 0, 1) := by decide +kernel
theorem dX106_bitCount_10 : decode cX106_bitCount 10 = .ok (.iload_n 0, 1) := by decide +kernel
theorem dX106_bitCount_11 : decode cX106_bitCount 11 = .ok (.ldc_w 266, 3) := by decide +kernel
theorem dX106_bitCount_14 : decode cX106_bitCount 14 = .ok (.iand, 1) := by decide +kernel
theorem dX106_bitCount_15 : decode cX106_bitCount 15 = .ok (.iload_n 0, 1) := by decide +kernel
theorem dX106_bitCount_16 : decode cX106_bitCount 16 = .ok (.iconst 2, 1) := by decide +kernel
theorem dX106_bitCount_17 : decode cX106_bitCount 17 = .ok (.iushr, 1) := by decide +kernel
theorem dX106_bitCount_18 : decode cX106_bitCount 18 = .ok (.ldc_w 266, 3) := by decide +kernel
theorem dX106_bitCount_21 : decode cX106_bitCount 21 = .ok (.iand, 1) := by decide +kernel
theorem dX106_bitCount_22 : decode cX106_bitCount 22 = .ok (.iadd, 1) := by decide +kernel
theorem dX106_bitCount_23 : decode cX106_bitCount 23 = .ok (.istore_n 0, 1) := by decide +kernel
theorem dX106_bitCount_24 : decode cX106_bitCount 24 = .ok (.iload_n 0, 1) := by decide +kernel
theorem dX106_bitCount_25 : decode cX106_bitCount 25 = .ok (.iload_n 0, 1) := by decide +kernel
theorem dX106_bitCount_26 : decode cX106_bitCount 26 = .ok (.iconst 4, 1) := by decide +kernel
theorem dX106_bitCount_27 : decode cX106_bitCount 27 = .ok (.iushr, 1) := by decide +kernel
theorem dX106_bitCount_28 : decode cX106_bitCount 28 = .ok (.iadd, 1) := by decide +kernel
theorem dX106_bitCount_29 : decode cX106_bitCount 29 = .ok (.ldc_w 267, 3) := by decide +kernel
theorem dX106_bitCount_32 : decode cX106_bitCount 32 = .ok (.iand, 1) := by decide +kernel
theorem dX106_bitCount_33 : decode cX106_bitCount 33 = .ok (.istore_n 0, 1) := by decide +kernel
theorem dX106_bitCount_34 : decode cX106_bitCount 34 = .ok (.iload_n 0, 1) := by decide +kernel
theorem dX106_bitCount_35 : decode cX106_bitCount 35 = .ok (.iload_n 0, 1) := by decide +kernel
theorem dX106_bitCount_36 : decode cX106_bitCount 36 = .ok (.bipush 8, 2) := by decide +kernel
theorem dX106_bitCount_38 : decode cX106_bitCount 38 = .ok (.iushr, 1) := by decide +kernel
theorem dX106_bitCount_39 : decode cX106_bitCount 39 = .ok (.iadd, 1) := by decide +kernel
theorem dX106_bitCount_40 : decode cX106_bitCount 40 = .ok (.istore_n 0, 1) := by decide +kernel
theorem dX106_bitCount_41 : decode cX106_bitCount 41 = .ok (.iload_n 0, 1) := by decide +kernel
theorem dX106_bitCount_42 : decode cX106_bitCount 42 = .ok (.iload_n 0, 1) := by decide +kernel
theorem dX106_bitCount_43 : decode cX106_bitCount 43 = .ok (.bipush 16, 2) := by decide +kernel
theorem dX106_bitCount_45 : decode cX106_bitCount 45 = .ok (.iushr, 1) := by decide +kernel
theorem dX106_bitCount_46 : decode cX106_bitCount 46 = .ok (.iadd, 1) := by decide +kernel
theorem dX106_bitCount_47 : decode cX106_bitCount 47 = .ok (.istore_n 0, 1) := by decide +kernel
theorem dX106_bitCount_48 : decode cX106_bitCount 48 = .ok (.iload_n 0, 1) := by decide +kernel
theorem dX106_bitCount_49 : decode cX106_bitCount 49 = .ok (.bipush 63, 2) := by decide +kernel
theorem dX106_bitCount_51 : decode cX106_bitCount 51 = .ok (.iand, 1) := by decide +kernel
theorem dX106_bitCount_52 : decode cX106_bitCount 52 = .ok (.ireturn, 1) := by decide +kernel
set_option maxHeartbeats 2000000 in
theorem c106_bitCount {G : Gl} {l : Launch}  {M : Mem} {t : Int} (ht0 : 0 ≤ t) (ht1 : t < 32) : Ct G LY 57 l 0 m106_bitCount [vI t] M (Ret (vI (bc t)) M) := by
  refine R_start (by decide +kernel) (Nat.le_of_ble_eq_true rfl) (fun C hC hRm hlau => ?_)
  have hx : t = 0 ∨ t = 1 ∨ t = 2 ∨ t = 3 ∨ t = 4 ∨ t = 5 ∨ t = 6 ∨ t = 7 ∨ t = 8 ∨ t = 9 ∨ t = 10 ∨ t = 11 ∨ t = 12 ∨ t = 13 ∨ t = 14 ∨ t = 15 ∨ t = 16 ∨ t = 17 ∨ t = 18 ∨ t = 19 ∨ t = 20 ∨ t = 21 ∨ t = 22 ∨ t = 23 ∨ t = 24 ∨ t = 25 ∨ t = 26 ∨ t = 27 ∨ t = 28 ∨ t = 29 ∨ t = 30 ∨ t = 31 := by omega
  rcases hx with rfl | rfl | rfl | rfl | rfl | rfl | rfl | rfl | rfl | rfl | rfl | rfl | rfl | rfl | rfl | rfl | rfl | rfl | rfl | rfl | rfl | rfl | rfl | rfl | rfl | rfl | rfl | rfl | rfl | rfl | rfl | rfl
  all_goals
    show RZ G LY C _ _ _ _ _ [some (vI _)] _ _
    refine R_iload_0 hC dX106_bitCount_0 ?_
    refine R_iload_0 hC dX106_bitCount_1 ?_
    refine R_iconst hC dX106_bitCount_2 ⟨by decide, by decide⟩ ?_
    refine R_iushr hC dX106_bitCount_3 (by decide +kernel) (by decide +kernel) ?_
    refine R_ldc_w hC dX106_bitCount_4 ck_106_265 (c := 1431655765) (by decide +kernel) ⟨by decide, by decide⟩ ?_
    refine R_iand hC dX106_bitCount_7 (by decide +kernel) (by decide +kernel) ?_
    refine R_isub hC dX106_bitCount_8 (⟨by decide +kernel, by decide +kernel⟩) ?_
    refine R_istore_0 hC dX106_bitCount_9 ?_
    refine R_iload_0 hC dX106_bitCount_10 ?_
    refine R_ldc_w hC dX106_bitCount_11 ck_106_266 (c := 858993459) (by decide +kernel) ⟨by decide, by decide⟩ ?_
    refine R_iand hC dX106_bitCount_14 (by decide +kernel) (by decide +kernel) ?_
    refine R_iload_0 hC dX106_bitCount_15 ?_
    refine R_iconst hC dX106_bitCount_16 ⟨by decide, by decide⟩ ?_
    refine R_iushr hC dX106_bitCount_17 (by decide +kernel) (by decide +kernel) ?_
    refine R_ldc_w hC dX106_bitCount_18 ck_106_266 (c := 858993459) (by decide +kernel) ⟨by decide, by decide⟩ ?_
    refine R_iand hC dX106_bitCount_21 (by decide +kernel) (by decide +kernel) ?_
    refine R_iadd hC dX106_bitCount_22 (⟨by decide +kernel, by decide +kernel⟩) ?_
    refine R_istore_0 hC dX106_bitCount_23 ?_
    refine R_iload_0 hC dX106_bitCount_24 ?_
    refine R_iload_0 hC dX106_bitCount_25 ?_
    refine R_iconst hC dX106_bitCount_26 ⟨by decide, by decide⟩ ?_
    refine R_iushr hC dX106_bitCount_27 (by decide +kernel) (by decide +kernel) ?_
    refine R_iadd hC dX106_bitCount_28 (⟨by decide +kernel, by decide +kernel⟩) ?_
    refine R_ldc_w hC dX106_bitCount_29 ck_106_267 (c := 252645135) (by decide +kernel) ⟨by decide, by decide⟩ ?_
    refine R_iand hC dX106_bitCount_32 (by decide +kernel) (by decide +kernel) ?_
    refine R_istore_0 hC dX106_bitCount_33 ?_
    refine R_iload_0 hC dX106_bitCount_34 ?_
    refine R_iload_0 hC dX106_bitCount_35 ?_
    refine R_bipush hC dX106_bitCount_36 (by decide +kernel) ⟨by decide, by decide⟩ ?_
    refine R_iushr hC dX106_bitCount_38 (by decide +kernel) (by decide +kernel) ?_
    refine R_iadd hC dX106_bitCount_39 (⟨by decide +kernel, by decide +kernel⟩) ?_
    refine R_istore_0 hC dX106_bitCount_40 ?_
    refine R_iload_0 hC dX106_bitCount_41 ?_
    refine R_iload_0 hC dX106_bitCount_42 ?_
    refine R_bipush hC dX106_bitCount_43 (by decide +kernel) ⟨by decide, by decide⟩ ?_
    refine R_iushr hC dX106_bitCount_45 (by decide +kernel) (by decide +kernel) ?_
    refine R_iadd hC dX106_bitCount_46 (⟨by decide +kernel, by decide +kernel⟩) ?_
    refine R_istore_0 hC dX106_bitCount_47 ?_
    refine R_iload_0 hC dX106_bitCount_48 ?_
    refine R_bipush hC dX106_bitCount_49 (by decide +kernel) ⟨by decide, by decide⟩ ?_
    refine R_iandm hC dX106_bitCount_51 (m := 6) (by decide) (by decide) ?_
    exact R_ireturn hC dX106_bitCount_52 rfl (ret_I (by decide +kernel))
theorem dX6_worstSet_0 : decode cX6_worstSet 0 = .ok (.iconst 0, 1) := by decide +kernel
theorem dX6_worstSet_1 : decode cX6_worstSet 1 = .ok (.istore_n 1, 1) := by decide +kernel
theorem dX6_worstSet_2 : decode cX6_worstSet 2 = .ok (.iconst 0, 1) := by decide +kernel
theorem dX6_worstSet_3 : decode cX6_worstSet 3 = .ok (.istore_n 2, 1) := by decide +kernel
theorem dX6_worstSet_4 : decode cX6_worstSet 4 = .ok (.iconst 1, 1) := by decide +kernel
theorem dX6_worstSet_5 : decode cX6_worstSet 5 = .ok (.istore_n 3, 1) := by decide +kernel
theorem dX6_worstSet_6 : decode cX6_worstSet 6 = .ok (.iload_n 3, 1) := by decide +kernel
theorem dX6_worstSet_7 : decode cX6_worstSet 7 = .ok (.aload_n 0, 1) := by decide +kernel
theorem dX6_worstSet_8 : decode cX6_worstSet 8 = .ok (.getfield 45, 3) := by decide +kernel
theorem dX6_worstSet_11 : decode cX6_worstSet 11 = .ok (.if_icmp .ge 56, 3) := by decide +kernel
theorem dX6_worstSet_14 : decode cX6_worstSet 14 = .ok (.aload_n 0, 1) := by decide +kernel
theorem dX6_worstSet_15 : decode cX6_worstSet 15 = .ok (.iload_n 3, 1) := by decide +kernel
theorem dX6_worstSet_16 : decode cX6_worstSet 16 = .ok (.invokevirtual 100, 3) := by decide +kernel
theorem dX6_worstSet_19 : decode cX6_worstSet 19 = .ok (.istore 4, 2) := by decide +kernel
theorem dX6_worstSet_21 : decode cX6_worstSet 21 = .ok (.iload_n 3, 1) := by decide +kernel
theorem dX6_worstSet_22 : decode cX6_worstSet 22 = .ok (.invokestatic 103, 3) := by decide +kernel
theorem dX6_worstSet_25 : decode cX6_worstSet 25 = .ok (.iload_n 1, 1) := by decide +kernel
theorem dX6_worstSet_26 : decode cX6_worstSet 26 = .ok (.invokestatic 103, 3) := by decide +kernel
theorem dX6_worstSet_29 : decode cX6_worstSet 29 = .ok (.if_icmp .ge 7, 3) := by decide +kernel
theorem dX6_worstSet_32 : decode cX6_worstSet 32 = .ok (.iconst 1, 1) := by decide +kernel
theorem dX6_worstSet_33 : decode cX6_worstSet 33 = .ok (.goto 4, 3) := by decide +kernel
theorem dX6_worstSet_36 : decode cX6_worstSet 36 = .ok (.iconst 0, 1) := by decide +kernel
theorem dX6_worstSet_37 : decode cX6_worstSet 37 = .ok (.istore 5, 2) := by decide +kernel
theorem dX6_worstSet_39 : decode cX6_worstSet 39 = .ok (.iload 4, 2) := by decide +kernel
theorem dX6_worstSet_41 : decode cX6_worstSet 41 = .ok (.iload_n 2, 1) := by decide +kernel
theorem dX6_worstSet_42 : decode cX6_worstSet 42 = .ok (.if_icmp .gt 14, 3) := by decide +kernel
theorem dX6_worstSet_45 : decode cX6_worstSet 45 = .ok (.iload 4, 2) := by decide +kernel
theorem dX6_worstSet_47 : decode cX6_worstSet 47 = .ok (.iload_n 2, 1) := by decide +kernel
theorem dX6_worstSet_48 : decode cX6_worstSet 48 = .ok (.if_icmp .ne 13, 3) := by decide +kernel
theorem dX6_worstSet_51 : decode cX6_worstSet 51 = .ok (.iload 5, 2) := by decide +kernel
theorem dX6_worstSet_53 : decode cX6_worstSet 53 = .ok (.ifCond .eq 8, 3) := by decide +kernel
theorem dX6_worstSet_56 : decode cX6_worstSet 56 = .ok (.iload_n 3, 1) := by decide +kernel
theorem dX6_worstSet_57 : decode cX6_worstSet 57 = .ok (.istore_n 1, 1) := by decide +kernel
theorem dX6_worstSet_58 : decode cX6_worstSet 58 = .ok (.iload 4, 2) := by decide +kernel
theorem dX6_worstSet_60 : decode cX6_worstSet 60 = .ok (.istore_n 2, 1) := by decide +kernel
theorem dX6_worstSet_61 : decode cX6_worstSet 61 = .ok (.iinc 3 1, 3) := by decide +kernel
theorem dX6_worstSet_64 : decode cX6_worstSet 64 = .ok (.goto (-58), 3) := by decide +kernel
theorem dX6_worstSet_67 : decode cX6_worstSet 67 = .ok (.iload_n 1, 1) := by decide +kernel
theorem dX6_worstSet_68 : decode cX6_worstSet 68 = .ok (.ireturn, 1) := by decide +kernel
set_option maxHeartbeats 400000 in
theorem c6_worstSet {G : Gl} {l : Launch}  {M : Mem} {I : Ins} (hG : GR M) (hI : SC M I) (hIb : IB I) : Ct G LY 57 l 2 m6_worstSet [vR 24] M (Ret (vI (worst I)) M) := by
  refine R_start (by decide +kernel) (Nat.le_of_ble_eq_true rfl) (fun C hC hRm hlau => ?_)
  show RZ G LY C (Zn G LY 57 C (Ret (vI (worst I)) M)) 0 0 57 0 [some (vR 24), none, none, none, none, none] [] M
  have hLb := hIb.1
  have hWb := hIb.2.1
  have h11 := hI.1.1
  have h12 := hI.1.2.1
  have h13 := hI.1.2.2
  have hpw := hIb.pw
  refine R_iconst hC dX6_worstSet_0 ⟨by decide, by decide⟩ ?_
  refine R_istore_1 hC dX6_worstSet_1 rfl ?_
  refine R_iconst hC dX6_worstSet_2 ⟨by decide, by decide⟩ ?_
  refine R_istore_2 hC dX6_worstSet_3 rfl ?_
  refine R_iconst hC dX6_worstSet_4 ⟨by decide, by decide⟩ ?_
  refine R_istore_3 hC dX6_worstSet_5 rfl ?_
  have L6 : ∀ (mq : Nat) (a : Int) (g : Int) (i : Int), (1 ≤ i) → (i ≤ 2 ^ (iL I).toNat) → (wsF I (i - 1).toNat = (a, g)) → (2 ^ (iL I).toNat - i).toNat < mq → RZ G LY C (Zn G LY 57 C (Ret (vI (worst I)) M)) 0 0 57 6 [some (vR 24), some (vI a), some (vI g), some (vI i), none, none] [] M := by
    intro mq
    induction mq with
    | zero =>
      intro a g i hi0 hi1 hw hm
      exact absurd hm (Nat.not_lt_zero _)
    | succ mq ih6 =>
      intro a g i hi0 hi1 hw hm6
      have ba := wsF_bd I (i - 1).toNat
      rw [hw] at ba
      have ba : 0 ≤ a ∧ a ≤ ((i - 1).toNat : Int) := ba
      refine R_iload_3 hC dX6_worstSet_6 ?_
      refine R_aload_0 hC dX6_worstSet_7 ?_
      refine R_getI hC dX6_worstSet_8 fl_6_45 (by decide) rfl (by decide) (by decide) (fi := 13) rfl ?_
      refine R_icmp_ge hC dX6_worstSet_11 (tgt := 67) (by decide) (fun hb11 => ?_) (fun hb11 => ?_)
      · skip
        refine R_iload_1 hC dX6_worstSet_67 ?_
        exact R_ireturn hC dX6_worstSet_68 rfl (ret_I (by unfold worst fullS; rw [show 2 ^ (iL I).toNat - 1 = i - 1 by omega, hw]))
      · skip
        refine R_aload_0 hC dX6_worstSet_14 ?_
        refine R_iload_3 hC dX6_worstSet_15 ?_
        refine R_callVq (as := [vI _]) hC dX6_worstSet_16 mo_6_lackOf ml_6_100 (by decide) rfl rfl (c6_lackOf  hG hI hIb (by omega) (by omega)) rfl rfl hRm (by decide) (by decide) (Nat.le_of_ble_eq_true rfl) ?_
        have e16_1 := IB.lk (t := i) hIb (by omega) (by omega)
        refine R_istore_4 hC dX6_worstSet_19 rfl ?_
        refine R_iload_3 hC dX6_worstSet_21 ?_
        have bci := bc_bd (show 0 ≤ i by omega) (show i < 32 by omega)
        have bca := bc_bd (show 0 ≤ a by omega) (show a < 32 by omega)
        refine R_callSq (as := [vI _]) hC dX6_worstSet_22 mo_106_bitCount ml_6_103 (c106_bitCount  (by omega) (by omega)) rfl rfl hRm (by decide) (by decide) (Nat.le_of_ble_eq_true rfl) ?_
        refine R_iload_1 hC dX6_worstSet_25 ?_
        refine R_callSq (as := [vI _]) hC dX6_worstSet_26 mo_106_bitCount ml_6_103 (c106_bitCount  (by omega) (by omega)) rfl rfl hRm (by decide) (by decide) (Nat.le_of_ble_eq_true rfl) ?_
        have L39 : ∀ (f : Int), ((f = 0 ∧ ¬ bc i < bc a) ∨ (f = 1 ∧ bc i < bc a)) → RZ G LY C (Zn G LY 57 C (Ret (vI (worst I)) M)) 0 0 57 39 [some (vR 24), some (vI a), some (vI g), some (vI i), some (vI (lackI I i)), some (vI f)] [] M := by
          intro f hf
          have L61 : ∀ (a2 : Int) (g2 : Int), (wsF I (i + 1 - 1).toNat = (a2, g2)) → RZ G LY C (Zn G LY 57 C (Ret (vI (worst I)) M)) 0 0 57 61 [some (vR 24), some (vI a2), some (vI g2), some (vI i), none, none] [] M := by
            intro a2 g2 hw2
            refine R_iinc_3 hC dX6_worstSet_61 rfl ⟨by omega, by omega⟩ ?_
            refine R_goto hC dX6_worstSet_64 (tgt := 6) (by decide) ?_
            exact ih6 _ _ _ (by omega) (by omega) hw2 (by omega)
          refine R_iload_4 hC dX6_worstSet_39 ?_
          refine R_iload_2 hC dX6_worstSet_41 ?_
          refine R_icmp_gt hC dX6_worstSet_42 (tgt := 56) (by decide) (fun hb42 => ?_) (fun hb42 => ?_)
          · skip
            refine R_iload_3 hC dX6_worstSet_56 ?_
            refine R_istore_1 hC dX6_worstSet_57 rfl ?_
            refine R_iload_4 hC dX6_worstSet_58 ?_
            refine R_istore_2 hC dX6_worstSet_60 rfl ?_
            refine R_weak (subL_c (subL_c (subL_c (subL_c (subL_d (subL_d subL_n)))))) ?_
            exact L61 _ _ (by first | (rw [show i + 1 - 1 = i by omega, wsF_s hi0, hw, if_pos (by simp only; omega)]) | (rw [show i + 1 - 1 = i by omega, wsF_s hi0, hw, if_neg (by simp only; omega)]))
          · skip
            refine R_iload_4 hC dX6_worstSet_45 ?_
            refine R_iload_2 hC dX6_worstSet_47 ?_
            refine R_icmp_ne hC dX6_worstSet_48 (tgt := 61) (by decide) (fun hb48 => ?_) (fun hb48 => ?_)
            · skip
              refine R_weak (subL_c (subL_c (subL_c (subL_c (subL_d (subL_d subL_n)))))) ?_
              exact L61 _ _ (by first | (rw [show i + 1 - 1 = i by omega, wsF_s hi0, hw, if_pos (by simp only; omega)]) | (rw [show i + 1 - 1 = i by omega, wsF_s hi0, hw, if_neg (by simp only; omega)]))
            · skip
              refine R_iload_5 hC dX6_worstSet_51 ?_
              refine R_if_eq hC dX6_worstSet_53 (tgt := 61) (by decide) (fun hb53 => ?_) (fun hb53 => ?_)
              · skip
                refine R_weak (subL_c (subL_c (subL_c (subL_c (subL_d (subL_d subL_n)))))) ?_
                exact L61 _ _ (by first | (rw [show i + 1 - 1 = i by omega, wsF_s hi0, hw, if_pos (by simp only; omega)]) | (rw [show i + 1 - 1 = i by omega, wsF_s hi0, hw, if_neg (by simp only; omega)]))
              · skip
                refine R_iload_3 hC dX6_worstSet_56 ?_
                refine R_istore_1 hC dX6_worstSet_57 rfl ?_
                refine R_iload_4 hC dX6_worstSet_58 ?_
                refine R_istore_2 hC dX6_worstSet_60 rfl ?_
                refine R_weak (subL_c (subL_c (subL_c (subL_c (subL_d (subL_d subL_n)))))) ?_
                exact L61 _ _ (by first | (rw [show i + 1 - 1 = i by omega, wsF_s hi0, hw, if_pos (by simp only; omega)]) | (rw [show i + 1 - 1 = i by omega, wsF_s hi0, hw, if_neg (by simp only; omega)]))
        refine R_icmp_ge hC dX6_worstSet_29 (tgt := 36) (by decide) (fun hb29 => ?_) (fun hb29 => ?_)
        · skip
          refine R_iconst hC dX6_worstSet_36 ⟨by decide, by decide⟩ ?_
          refine R_istore_5 hC dX6_worstSet_37 rfl ?_
          have L61 : ∀ (a2 : Int) (g2 : Int), (wsF I (i + 1 - 1).toNat = (a2, g2)) → RZ G LY C (Zn G LY 57 C (Ret (vI (worst I)) M)) 0 0 57 61 [some (vR 24), some (vI a2), some (vI g2), some (vI i), none, none] [] M := by
            intro a2 g2 hw2
            refine R_iinc_3 hC dX6_worstSet_61 rfl ⟨by omega, by omega⟩ ?_
            refine R_goto hC dX6_worstSet_64 (tgt := 6) (by decide) ?_
            exact ih6 _ _ _ (by omega) (by omega) hw2 (by omega)
          exact L39 _ (by omega)
        · skip
          refine R_iconst hC dX6_worstSet_32 ⟨by decide, by decide⟩ ?_
          refine R_goto hC dX6_worstSet_33 (tgt := 37) (by decide) ?_
          refine R_istore_5 hC dX6_worstSet_37 rfl ?_
          have L61 : ∀ (a2 : Int) (g2 : Int), (wsF I (i + 1 - 1).toNat = (a2, g2)) → RZ G LY C (Zn G LY 57 C (Ret (vI (worst I)) M)) 0 0 57 61 [some (vR 24), some (vI a2), some (vI g2), some (vI i), none, none] [] M := by
            intro a2 g2 hw2
            refine R_iinc_3 hC dX6_worstSet_61 rfl ⟨by omega, by omega⟩ ?_
            refine R_goto hC dX6_worstSet_64 (tgt := 6) (by decide) ?_
            exact ih6 _ _ _ (by omega) (by omega) hw2 (by omega)
          exact L39 _ (by omega)
  exact L6 _ _ _ _ (by omega) (by omega) rfl (Nat.lt_succ_self _)
