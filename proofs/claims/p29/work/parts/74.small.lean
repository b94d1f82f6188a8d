/-! the script, and the law's small methods -/
def scv (g : Nat → Nat) (j : Int) : Int := (Int32.ofNat (g (2000 + j.toNat))).toInt
/-- cell(s, k) -/
def scK (g : Nat → Nat) (k : Int) : Int := if k < g 1999 then scv g k else 0
def frI (v a b : Int) : Int := a + v % 2 ^ 31 % (b - a + 1)
def libsN (g : Nat → Nat) : Int := frI (scK g 0) 1 3
def worksN (g : Nat → Nat) : Int := frI (scK g 0 / 2 ^ 5) 1 3
def holdsN (g : Nat → Nat) (x w : Int) : Int := scK g (1 + x) / 2 ^ (3 * w).toNat % 2 ^ 2
def muchN (g : Nat → Nat) (x w : Int) : Int := if scK g (1 + x) / 2 ^ (12 + 2 * w).toNat % 2 ^ 2 = 3 then 1 + scK g (1 + x) / 2 ^ (20 + w).toNat % 2 ^ 1 else 0
theorem scv_in (g : Nat → Nat) (j : Int) : inI (scv g j) := inI_of _
theorem scK_in (g : Nat → Nat) (k : Int) : inI (scK g k) := by
  unfold scK
  split
  · exact scv_in g k
  · exact ⟨by decide, by decide⟩
theorem frI_b {v a b : Int} (h : a ≤ b) : a ≤ frI v a b ∧ frI v a b ≤ b := by
  unfold frI
  have h1 := Int.emod_nonneg (v % 2 ^ 31) (show b - a + 1 ≠ 0 by omega)
  have h2 := Int.emod_lt_of_pos (v % 2 ^ 31) (show 0 < b - a + 1 by omega)
  omega
theorem libsN_b (g : Nat → Nat) : 1 ≤ libsN g ∧ libsN g ≤ 3 := frI_b (by decide)
theorem worksN_b (g : Nat → Nat) : 1 ≤ worksN g ∧ worksN g ≤ 3 := frI_b (by decide)
theorem holdsN_b (g : Nat → Nat) (x w : Int) : 0 ≤ holdsN g x w ∧ holdsN g x w ≤ 3 := by
  unfold holdsN
  have h1 := Int.emod_nonneg (scK g (1 + x) / 2 ^ (3 * w).toNat) (show (2 : Int) ^ 2 ≠ 0 by decide)
  have h2 := Int.emod_lt_of_pos (scK g (1 + x) / 2 ^ (3 * w).toNat) (show (0 : Int) < 2 ^ 2 by decide)
  exact ⟨h1, by have : (2 : Int) ^ 2 = 4 := rfl; omega⟩
theorem muchN_b (g : Nat → Nat) (x w : Int) : 0 ≤ muchN g x w ∧ muchN g x w ≤ 2 := by
  unfold muchN
  split
  · have h1 := Int.emod_nonneg (scK g (1 + x) / 2 ^ (20 + w).toNat) (show (2 : Int) ^ 1 ≠ 0 by decide)
    have h2 := Int.emod_lt_of_pos (scK g (1 + x) / 2 ^ (20 + w).toNat) (show (0 : Int) < 2 ^ 1 by decide)
    have : (2 : Int) ^ 1 = 2 := rfl
    omega
  · exact ⟨by decide, by decide⟩
/-- the same constants -/
def KA (g0 g : Nat → Nat) : Prop := ∀ h, 1000 ≤ h → g h = g0 h
theorem GA.ka {g0 g : Nat → Nat} {n : Nat} (h : GA g0 g n) : KA g0 g := fun a z => h a (.inr z)
theorem KA.rf {g : Nat → Nat} : KA g g := fun _ _ => rfl
theorem KA.tr {g0 g g1 : Nat → Nat} (h : KA g0 g) (k : KA g g1) : KA g0 g1 := fun a z => (k a z).trans (h a z)
section SCR
variable {G : Gl} {S : Sh} {C : Cx} {Z : State → Prop} {k w n : Nat} {pc : Nat} {ls : List (Option V)} {st : List V} {M : Mem} {y : Mt} {g0 : Nat → Nat}
theorem R_sclen (hC : CxOK G y C) (ga : KA g0 G.1) (hd : decode y.2.1 pc = .ok (.arraylength, 1)) (kk : RZ G S C Z k w n (pc + 1) ls (vI (g0 1999 : Int) :: st) M) : RZ G S C Z k w n pc ls (vR 1030 :: st) M := by
  intro H locs ar hp hs hm hl hv ha
  have hX := (XW_of hC).2.2.2.2
  have e : G.1 1999 = g0 1999 := ga _ (by decide)
  rw [e] at hX
  exact va_tlen hC.1 hC.2.1 hX.1 hs (nI_ofInt (g0 1999)) hd (kk H locs ar hp hs hm hl ⟨show inI _ from ⟨by omega, by have := hX.2; omega⟩, hv.2⟩ ha)
theorem R_scld (hC : CxOK G y C) (ga : KA g0 G.1) {j : Int} (hd : decode y.2.1 pc = .ok (.iaload, 1)) (h0 : 0 ≤ j) (h1 : j < g0 1999) (kk : RZ G S C Z k w n (pc + 1) ls (vI (scv g0 j) :: st) M) : RZ G S C Z k w n pc ls (vI j :: vR 1030 :: st) M := by
  intro H locs ar hp hs hm hl hv ha
  have hX := (XW_of hC).2.2.2.2
  have e : G.1 1999 = g0 1999 := ga _ (by decide)
  rw [e] at hX
  refine va_ti hC.1 hC.2.1 hX.1 hs (i_in hv.1 h0 h1) (v := .int (Int32.ofInt (scv g0 j))) ?_ hd (kk H locs ar hp hs hm hl ⟨scv_in _ _, hv.2.2⟩ ha)
  rw [i_cl hv.1]
  show Value.int _ = Value.int _
  unfold scv
  rw [Int32.ofInt_toInt, ga _ (by omega)]
end SCR

theorem dW_cell_12 : decode cL_cell 12 = .ok (.iconst 0, 1) := by decide +kernel
theorem dW_cell_13 : decode cL_cell 13 = .ok (.ireturn, 1) := by decide +kernel
abbrev mW_cell : Mt := (yL_cell, cL_cell, 2, (some FieldType.int))
theorem dW_cell_0 : decode cL_cell 0 = .ok (.iload_n 1, 1) := by decide +kernel
theorem dW_cell_1 : decode cL_cell 1 = .ok (.aload_n 0, 1) := by decide +kernel
theorem dW_cell_2 : decode cL_cell 2 = .ok (.arraylength, 1) := by decide +kernel
theorem dW_cell_3 : decode cL_cell 3 = .ok (.if_icmp .ge 9, 3) := by decide +kernel
theorem dW_cell_6 : decode cL_cell 6 = .ok (.aload_n 0, 1) := by decide +kernel
theorem dW_cell_7 : decode cL_cell 7 = .ok (.iload_n 1, 1) := by decide +kernel
theorem dW_cell_8 : decode cL_cell 8 = .ok (.iaload, 1) := by decide +kernel
theorem dW_cell_9 : decode cL_cell 9 = .ok (.goto 4, 3) := by decide +kernel
theorem ckW_7 : Cond.constant RL 7 (2147483647 : Int32) ∈ Ts := Ts_in (in_t5 _ (List.mem_of_getElem? (i := 41) rfl)) rfl
abbrev mW_from : Mt := (yL_from, cL_from, 3, (some FieldType.int))
theorem dW_from_0 : decode cL_from 0 = .ok (.iload_n 1, 1) := by decide +kernel
theorem dW_from_1 : decode cL_from 1 = .ok (.iload_n 0, 1) := by decide +kernel
theorem dW_from_2 : decode cL_from 2 = .ok (.ldc 7, 2) := by decide +kernel
theorem dW_from_4 : decode cL_from 4 = .ok (.iand, 1) := by decide +kernel
theorem dW_from_5 : decode cL_from 5 = .ok (.iload_n 2, 1) := by decide +kernel
theorem dW_from_6 : decode cL_from 6 = .ok (.iload_n 1, 1) := by decide +kernel
theorem dW_from_7 : decode cL_from 7 = .ok (.isub, 1) := by decide +kernel
theorem dW_from_8 : decode cL_from 8 = .ok (.iconst 1, 1) := by decide +kernel
theorem dW_from_9 : decode cL_from 9 = .ok (.iadd, 1) := by decide +kernel
theorem dW_from_10 : decode cL_from 10 = .ok (.irem, 1) := by decide +kernel
theorem dW_from_11 : decode cL_from 11 = .ok (.iadd, 1) := by decide +kernel
theorem dW_from_12 : decode cL_from 12 = .ok (.ireturn, 1) := by decide +kernel
theorem momW_cell : MO mW_cell 2 true := ⟨Ts_in (in_t4 _ (List.mem_of_getElem? (i := 99) rfl)) rfl, Ts_in (in_t1 _ (List.mem_of_getElem? (i := 0) rfl)) rfl, ⟨by decide +kernel, by decide +kernel, by decide +kernel⟩, Ts_in (in_t4 _ (List.mem_of_getElem? (i := 98) rfl)) rfl⟩
theorem mlW_28 : Cond.methodLink RL 28 mW_cell.1 ∈ Ts := Ts_in (in_t4 _ (List.mem_of_getElem? (i := 97) rfl)) rfl
theorem momW_from : MO mW_from 3 true := ⟨Ts_in (in_t5 _ (List.mem_of_getElem? (i := 40) rfl)) rfl, Ts_in (in_t1 _ (List.mem_of_getElem? (i := 0) rfl)) rfl, ⟨by decide +kernel, by decide +kernel, by decide +kernel⟩, Ts_in (in_t5 _ (List.mem_of_getElem? (i := 39) rfl)) rfl⟩
theorem mlW_34 : Cond.methodLink RL 34 mW_from.1 ∈ Ts := Ts_in (in_t5 _ (List.mem_of_getElem? (i := 38) rfl)) rfl
abbrev mW_libraries : Mt := (yL_libraries, cL_libraries, 1, (some FieldType.int))
theorem dW_libraries_0 : decode cL_libraries 0 = .ok (.aload_n 0, 1) := by decide +kernel
theorem dW_libraries_1 : decode cL_libraries 1 = .ok (.iconst 0, 1) := by decide +kernel
theorem dW_libraries_2 : decode cL_libraries 2 = .ok (.invokestatic 28, 3) := by decide +kernel
theorem dW_libraries_5 : decode cL_libraries 5 = .ok (.iconst 1, 1) := by decide +kernel
theorem dW_libraries_6 : decode cL_libraries 6 = .ok (.iconst 3, 1) := by decide +kernel
theorem dW_libraries_7 : decode cL_libraries 7 = .ok (.invokestatic 34, 3) := by decide +kernel
theorem dW_libraries_10 : decode cL_libraries 10 = .ok (.ireturn, 1) := by decide +kernel
abbrev mW_works : Mt := (yL_works, cL_works, 1, (some FieldType.int))
theorem dW_works_0 : decode cL_works 0 = .ok (.aload_n 0, 1) := by decide +kernel
theorem dW_works_1 : decode cL_works 1 = .ok (.iconst 0, 1) := by decide +kernel
theorem dW_works_2 : decode cL_works 2 = .ok (.invokestatic 28, 3) := by decide +kernel
theorem dW_works_5 : decode cL_works 5 = .ok (.iconst 5, 1) := by decide +kernel
theorem dW_works_6 : decode cL_works 6 = .ok (.ishr, 1) := by decide +kernel
theorem dW_works_7 : decode cL_works 7 = .ok (.iconst 1, 1) := by decide +kernel
theorem dW_works_8 : decode cL_works 8 = .ok (.iconst 3, 1) := by decide +kernel
theorem dW_works_9 : decode cL_works 9 = .ok (.invokestatic 34, 3) := by decide +kernel
theorem dW_works_12 : decode cL_works 12 = .ok (.ireturn, 1) := by decide +kernel
abbrev mW_holds : Mt := (yL_holds, cL_holds, 3, (some FieldType.int))
theorem dW_holds_0 : decode cL_holds 0 = .ok (.aload_n 0, 1) := by decide +kernel
theorem dW_holds_1 : decode cL_holds 1 = .ok (.iconst 1, 1) := by decide +kernel
theorem dW_holds_2 : decode cL_holds 2 = .ok (.iload_n 1, 1) := by decide +kernel
theorem dW_holds_3 : decode cL_holds 3 = .ok (.iadd, 1) := by decide +kernel
theorem dW_holds_4 : decode cL_holds 4 = .ok (.invokestatic 28, 3) := by decide +kernel
theorem dW_holds_7 : decode cL_holds 7 = .ok (.iconst 3, 1) := by decide +kernel
theorem dW_holds_8 : decode cL_holds 8 = .ok (.iload_n 2, 1) := by decide +kernel
theorem dW_holds_9 : decode cL_holds 9 = .ok (.imul, 1) := by decide +kernel
theorem dW_holds_10 : decode cL_holds 10 = .ok (.ishr, 1) := by decide +kernel
theorem dW_holds_11 : decode cL_holds 11 = .ok (.iconst 3, 1) := by decide +kernel
theorem dW_holds_12 : decode cL_holds 12 = .ok (.iand, 1) := by decide +kernel
theorem dW_holds_13 : decode cL_holds 13 = .ok (.ireturn, 1) := by decide +kernel
theorem dW_much_39 : decode cL_much 39 = .ok (.iconst 0, 1) := by decide +kernel
theorem dW_much_40 : decode cL_much 40 = .ok (.ireturn, 1) := by decide +kernel
abbrev mW_much : Mt := (yL_much, cL_much, 3, (some FieldType.int))
theorem dW_much_0 : decode cL_much 0 = .ok (.aload_n 0, 1) := by decide +kernel
theorem dW_much_1 : decode cL_much 1 = .ok (.iconst 1, 1) := by decide +kernel
theorem dW_much_2 : decode cL_much 2 = .ok (.iload_n 1, 1) := by decide +kernel
theorem dW_much_3 : decode cL_much 3 = .ok (.iadd, 1) := by decide +kernel
theorem dW_much_4 : decode cL_much 4 = .ok (.invokestatic 28, 3) := by decide +kernel
theorem dW_much_7 : decode cL_much 7 = .ok (.bipush 12, 2) := by decide +kernel
theorem dW_much_9 : decode cL_much 9 = .ok (.iconst 2, 1) := by decide +kernel
theorem dW_much_10 : decode cL_much 10 = .ok (.iload_n 2, 1) := by decide +kernel
theorem dW_much_11 : decode cL_much 11 = .ok (.imul, 1) := by decide +kernel
theorem dW_much_12 : decode cL_much 12 = .ok (.iadd, 1) := by decide +kernel
theorem dW_much_13 : decode cL_much 13 = .ok (.ishr, 1) := by decide +kernel
theorem dW_much_14 : decode cL_much 14 = .ok (.iconst 3, 1) := by decide +kernel
theorem dW_much_15 : decode cL_much 15 = .ok (.iand, 1) := by decide +kernel
theorem dW_much_16 : decode cL_much 16 = .ok (.iconst 3, 1) := by decide +kernel
theorem dW_much_17 : decode cL_much 17 = .ok (.if_icmp .ne 22, 3) := by decide +kernel
theorem dW_much_20 : decode cL_much 20 = .ok (.iconst 1, 1) := by decide +kernel
theorem dW_much_21 : decode cL_much 21 = .ok (.aload_n 0, 1) := by decide +kernel
theorem dW_much_22 : decode cL_much 22 = .ok (.iconst 1, 1) := by decide +kernel
theorem dW_much_23 : decode cL_much 23 = .ok (.iload_n 1, 1) := by decide +kernel
theorem dW_much_24 : decode cL_much 24 = .ok (.iadd, 1) := by decide +kernel
theorem dW_much_25 : decode cL_much 25 = .ok (.invokestatic 28, 3) := by decide +kernel
theorem dW_much_28 : decode cL_much 28 = .ok (.bipush 20, 2) := by decide +kernel
theorem dW_much_30 : decode cL_much 30 = .ok (.iload_n 2, 1) := by decide +kernel
theorem dW_much_31 : decode cL_much 31 = .ok (.iadd, 1) := by decide +kernel
theorem dW_much_32 : decode cL_much 32 = .ok (.ishr, 1) := by decide +kernel
theorem dW_much_33 : decode cL_much 33 = .ok (.iconst 1, 1) := by decide +kernel
theorem dW_much_34 : decode cL_much 34 = .ok (.iand, 1) := by decide +kernel
theorem dW_much_35 : decode cL_much 35 = .ok (.iadd, 1) := by decide +kernel
theorem dW_much_36 : decode cL_much 36 = .ok (.goto 4, 3) := by decide +kernel
theorem l_cell {G : Gl} {S : Sh} {n : Nat} {l : Launch} {M : Mem} {g0 : Nat → Nat} (ga : KA g0 G.1) {k : Int} (h0 : 0 ≤ k) : Ct G S n l 0 mW_cell [vR 1030, vI k] M (Ret (vI (scK g0 k)) M) := by
  refine R_start (by decide +kernel) (Nat.le_of_ble_eq_true rfl) (fun C hC hRm hlau => ?_)
  show RZ G S C (Zn G S n C (Ret (vI (scK g0 k)) M)) 0 0 n 0 [some (vR 1030), some (vI k)] [] M
  refine R_iload_1 hC dW_cell_0 ?_
  refine R_aload_0 hC dW_cell_1 ?_
  refine R_sclen hC ga dW_cell_2 ?_
  refine R_icmp_ge hC dW_cell_3 (tgt := 12) (by decide) (fun hj => ?_) (fun hj => ?_)
  · skip
    refine R_iconst hC dW_cell_12 ⟨by decide, by decide⟩ ?_
    exact R_ireturn hC dW_cell_13 rfl (ret_I (by unfold scK; rw [if_neg (by omega)]))
  refine R_aload_0 hC dW_cell_6 ?_
  refine R_iload_1 hC dW_cell_7 ?_
  refine R_scld hC ga dW_cell_8 h0 (by omega) ?_
  refine R_goto hC dW_cell_9 (tgt := 13) (by decide) ?_
  exact R_ireturn hC dW_cell_13 rfl (ret_I (by unfold scK; rw [if_pos (by omega)]))
theorem l_from {G : Gl} {S : Sh} {n : Nat} {l : Launch} {M : Mem} {g0 : Nat → Nat} (ga : KA g0 G.1) {v a b : Int} (hv : inI v) (h0 : 0 ≤ a) (h1 : a ≤ b) (h2 : b ≤ 1000) : Ct G S n l 0 mW_from [vI v, vI a, vI b] M (Ret (vI (frI v a b)) M) := by
  refine R_start (by decide +kernel) (Nat.le_of_ble_eq_true rfl) (fun C hC hRm hlau => ?_)
  show RZ G S C (Zn G S n C (Ret (vI (frI v a b)) M)) 0 0 n 0 [some (vI v), some (vI a), some (vI b)] [] M
  refine R_iload_1 hC dW_from_0 ?_
  refine R_iload_0 hC dW_from_1 ?_
  refine R_ldc hC dW_from_2 ckW_7 (c := 2147483647) (by decide +kernel) ⟨by decide, by decide⟩ ?_
  refine R_iandm hC dW_from_4 (m := 31) (by decide) (by decide) ?_
  refine R_iload_2 hC dW_from_5 ?_
  refine R_iload_1 hC dW_from_6 ?_
  refine R_isub hC dW_from_7 ⟨by omega, by omega⟩ ?_
  refine R_iconst hC dW_from_8 ⟨by decide, by decide⟩ ?_
  refine R_iadd hC dW_from_9 ⟨by omega, by omega⟩ ?_
  have hz1 := Int.emod_nonneg (v % 2 ^ 31) (show b - a + 1 ≠ 0 by omega)
  have hz2 := Int.emod_lt_of_pos (v % 2 ^ 31) (show 0 < b - a + 1 by omega)
  refine R_irem hC dW_from_10 (Int.emod_nonneg v (show (2 : Int) ^ 31 ≠ 0 by decide)) (by omega) ?_
  refine R_iadd hC dW_from_11 ⟨by omega, by omega⟩ ?_
  exact R_ireturn hC dW_from_12 rfl (ret_I rfl)
theorem l_libs {G : Gl} {S : Sh} {n : Nat} {l : Launch} {M : Mem} {g0 : Nat → Nat} (ga : KA g0 G.1)  : Ct G S n l 1 mW_libraries [vR 1030] M (Ret (vI (libsN g0)) M) := by
  refine R_start (by decide +kernel) (Nat.le_of_ble_eq_true rfl) (fun C hC hRm hlau => ?_)
  show RZ G S C (Zn G S n C (Ret (vI (libsN g0)) M)) 0 0 n 0 [some (vR 1030)] [] M
  refine R_aload_0 hC dW_libraries_0 ?_
  refine R_iconst hC dW_libraries_1 ⟨by decide, by decide⟩ ?_
  refine R_callSq (as := [vR 1030, vI 0]) hC dW_libraries_2 momW_cell mlW_28 (l_cell ga (by decide)) rfl rfl hRm (by decide) (by decide) (Nat.le_of_ble_eq_true rfl) ?_
  refine R_iconst hC dW_libraries_5 ⟨by decide, by decide⟩ ?_
  refine R_iconst hC dW_libraries_6 ⟨by decide, by decide⟩ ?_
  refine R_callSq (as := [vI _, vI 1, vI 3]) hC dW_libraries_7 momW_from mlW_34 (l_from (G := G) ga (scK_in _ _) (by decide) (by decide) (by decide)) rfl rfl hRm (by decide) (by decide) (Nat.le_of_ble_eq_true rfl) ?_
  exact R_ireturn hC dW_libraries_10 rfl (ret_I rfl)
theorem l_works {G : Gl} {S : Sh} {n : Nat} {l : Launch} {M : Mem} {g0 : Nat → Nat} (ga : KA g0 G.1)  : Ct G S n l 1 mW_works [vR 1030] M (Ret (vI (worksN g0)) M) := by
  refine R_start (by decide +kernel) (Nat.le_of_ble_eq_true rfl) (fun C hC hRm hlau => ?_)
  show RZ G S C (Zn G S n C (Ret (vI (worksN g0)) M)) 0 0 n 0 [some (vR 1030)] [] M
  refine R_aload_0 hC dW_works_0 ?_
  refine R_iconst hC dW_works_1 ⟨by decide, by decide⟩ ?_
  refine R_callSq (as := [vR 1030, vI 0]) hC dW_works_2 momW_cell mlW_28 (l_cell ga (by decide)) rfl rfl hRm (by decide) (by decide) (Nat.le_of_ble_eq_true rfl) ?_
  refine R_iconst hC dW_works_5 ⟨by decide, by decide⟩ ?_
  refine R_ishr hC dW_works_6 (by decide) (by decide) ?_
  refine R_iconst hC dW_works_7 ⟨by decide, by decide⟩ ?_
  refine R_iconst hC dW_works_8 ⟨by decide, by decide⟩ ?_
  refine R_callSq (as := [vI _, vI 1, vI 3]) hC dW_works_9 momW_from mlW_34 (l_from (G := G) ga (inI_shr (scK_in _ _) 5) (by decide) (by decide) (by decide)) rfl rfl hRm (by decide) (by decide) (Nat.le_of_ble_eq_true rfl) ?_
  exact R_ireturn hC dW_works_12 rfl (ret_I rfl)
theorem lx_holds {G : Gl} {S : Sh} {n : Nat} {l : Launch} {M : Mem} {g0 : Nat → Nat} (ga : KA g0 G.1) {x w : Int} (x0 : 0 ≤ x) (x1 : x < 3) (w0 : 0 ≤ w) (w1 : w < 3) : Ct G S n l 1 mW_holds [vR 1030, vI x, vI w] M (Ret (vI (holdsN g0 x w)) M) := by
  refine R_start (by decide +kernel) (Nat.le_of_ble_eq_true rfl) (fun C hC hRm hlau => ?_)
  show RZ G S C (Zn G S n C (Ret (vI (holdsN g0 x w)) M)) 0 0 n 0 [some (vR 1030), some (vI x), some (vI w)] [] M
  refine R_aload_0 hC dW_holds_0 ?_
  refine R_iconst hC dW_holds_1 ⟨by decide, by decide⟩ ?_
  refine R_iload_1 hC dW_holds_2 ?_
  refine R_iadd hC dW_holds_3 ⟨by omega, by omega⟩ ?_
  refine R_callSq (as := [vR 1030, vI _]) hC dW_holds_4 momW_cell mlW_28 (l_cell ga (by omega)) rfl rfl hRm (by decide) (by decide) (Nat.le_of_ble_eq_true rfl) ?_
  refine R_iconst hC dW_holds_7 ⟨by decide, by decide⟩ ?_
  refine R_iload_2 hC dW_holds_8 ?_
  refine R_imul hC dW_holds_9 ⟨by omega, by omega⟩ ?_
  refine R_ishr hC dW_holds_10 (by omega) (by omega) ?_
  refine R_iconst hC dW_holds_11 ⟨by decide, by decide⟩ ?_
  refine R_iandm hC dW_holds_12 (m := 2) (by decide) (by decide) ?_
  exact R_ireturn hC dW_holds_13 rfl (ret_I rfl)
theorem l_much {G : Gl} {S : Sh} {n : Nat} {l : Launch} {M : Mem} {g0 : Nat → Nat} (ga : KA g0 G.1) {x w : Int} (x0 : 0 ≤ x) (x1 : x < 3) (w0 : 0 ≤ w) (w1 : w < 3) : Ct G S n l 1 mW_much [vR 1030, vI x, vI w] M (Ret (vI (muchN g0 x w)) M) := by
  refine R_start (by decide +kernel) (Nat.le_of_ble_eq_true rfl) (fun C hC hRm hlau => ?_)
  show RZ G S C (Zn G S n C (Ret (vI (muchN g0 x w)) M)) 0 0 n 0 [some (vR 1030), some (vI x), some (vI w)] [] M
  refine R_aload_0 hC dW_much_0 ?_
  refine R_iconst hC dW_much_1 ⟨by decide, by decide⟩ ?_
  refine R_iload_1 hC dW_much_2 ?_
  refine R_iadd hC dW_much_3 ⟨by omega, by omega⟩ ?_
  refine R_callSq (as := [vR 1030, vI _]) hC dW_much_4 momW_cell mlW_28 (l_cell ga (by omega)) rfl rfl hRm (by decide) (by decide) (Nat.le_of_ble_eq_true rfl) ?_
  refine R_bipush hC dW_much_7 (by decide +kernel) ⟨by decide, by decide⟩ ?_
  refine R_iconst hC dW_much_9 ⟨by decide, by decide⟩ ?_
  refine R_iload_2 hC dW_much_10 ?_
  refine R_imul hC dW_much_11 ⟨by omega, by omega⟩ ?_
  refine R_iadd hC dW_much_12 ⟨by omega, by omega⟩ ?_
  refine R_ishr hC dW_much_13 (by omega) (by omega) ?_
  refine R_iconst hC dW_much_14 ⟨by decide, by decide⟩ ?_
  refine R_iandm hC dW_much_15 (m := 2) (by decide) (by decide) ?_
  refine R_iconst hC dW_much_16 ⟨by decide, by decide⟩ ?_
  refine R_icmp_ne hC dW_much_17 (tgt := 39) (by decide) (fun hj => ?_) (fun hj => ?_)
  · skip
    refine R_iconst hC dW_much_39 ⟨by decide, by decide⟩ ?_
    exact R_ireturn hC dW_much_40 rfl (ret_I (by unfold muchN; rw [if_neg hj]))
  refine R_iconst hC dW_much_20 ⟨by decide, by decide⟩ ?_
  refine R_aload_0 hC dW_much_21 ?_
  refine R_iconst hC dW_much_22 ⟨by decide, by decide⟩ ?_
  refine R_iload_1 hC dW_much_23 ?_
  refine R_iadd hC dW_much_24 ⟨by omega, by omega⟩ ?_
  refine R_callSq (as := [vR 1030, vI _]) hC dW_much_25 momW_cell mlW_28 (l_cell ga (by omega)) rfl rfl hRm (by decide) (by decide) (Nat.le_of_ble_eq_true rfl) ?_
  refine R_bipush hC dW_much_28 (by decide +kernel) ⟨by decide, by decide⟩ ?_
  refine R_iload_2 hC dW_much_30 ?_
  refine R_iadd hC dW_much_31 ⟨by omega, by omega⟩ ?_
  refine R_ishr hC dW_much_32 (by omega) (by omega) ?_
  refine R_iconst hC dW_much_33 ⟨by decide, by decide⟩ ?_
  refine R_iandm hC dW_much_34 (m := 1) (by decide) (by decide) ?_
  have hz1 := Int.emod_nonneg (scK g0 (1 + x) / 2 ^ (20 + w).toNat) (show (2 : Int) ^ 1 ≠ 0 by decide)
  have hz2 := Int.emod_lt_of_pos (scK g0 (1 + x) / 2 ^ (20 + w).toNat) (show (0 : Int) < 2 ^ 1 by decide)
  have hz3 : (2 : Int) ^ 1 = 2 := rfl
  refine R_iadd hC dW_much_35 ⟨by omega, by omega⟩ ?_
  refine R_goto hC dW_much_36 (tgt := 40) (by decide) ?_
  exact R_ireturn hC dW_much_40 rfl (ret_I (by unfold muchN; rw [if_pos hj]))
