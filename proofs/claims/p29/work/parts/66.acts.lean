/-! the desk's acts -/
def ACTC (M M' : Mem) (f n p b s c v : Int) (e : Int → Int) : Prop := Fr [25, 26, 27, 28, 29, 30, 31, 32, 33, 34, 35, 37, 40, 42, 43, 44, 47, 48, 50, 51, 54, 56, 4, 6, 7, 8] [(24, 11), (24, 12), (24, 13), (36, 2), (36, 3), (0, 10), (38, 2), (38, 3), (41, 3), (41, 5), (41, 6), (41, 7), (41, 8), (45, 3), (45, 4), (49, 3), (49, 4), (49, 5), (49, 6), (52, 1), (52, 3), (53, 2), (53, 3), (5, 3), (5, 4)] M M' ∧ GR M' ∧ M' 0 10 = 0 ∧ M' 4 = e ∧ M' 5 3 = nfF f n ∧ M' 5 4 = nnF n + 1 ∧ M' 6 = upd1 (upd1 (M 6) (2 * slt (nfF f n) (nnF n)) p) (2 * slt (nfF f n) (nnF n) + 1) s ∧ M' 7 = upd1 (upd1 (M 7) (2 * slt (nfF f n) (nnF n)) b) (2 * slt (nfF f n) (nnF n) + 1) c ∧ M' 8 = upd1 (M 8) (slt (nfF f n) (nnF n)) v
def REFC (M M' : Mem) (d : Int → Int) (k : Int) : Prop := Fr [10, 25, 26, 27, 28, 29, 30, 31, 32, 33, 34, 35, 37, 40, 42, 43, 44, 47, 48, 50, 51, 54, 56] [(24, 11), (24, 12), (24, 13), (36, 2), (36, 3), (0, 10), (38, 2), (38, 3), (41, 3), (41, 5), (41, 6), (41, 7), (41, 8), (45, 3), (45, 4), (49, 3), (49, 4), (49, 5), (49, 6), (52, 1), (52, 3), (53, 2), (53, 3)] M M' ∧ GR M' ∧ FP M' d ∧ M' 10 k = M 10 k + 1 ∧ ∀ j, j ≠ k → M' 10 j = M 10 j
theorem uM_row0 {M : Mem} {h a : Nat} {k x : Int} (e : h ≠ a) : uM M a k x h = M h := funext fun _ => uM_h e

theorem dX11_own_0 : decode cX11_own 0 = .ok (.aload_n 0, 1) := by decide +kernel
theorem dX11_own_1 : decode cX11_own 1 = .ok (.getfield 23, 3) := by decide +kernel
theorem dX11_own_4 : decode cX11_own 4 = .ok (.getfield 122, 3) := by decide +kernel
theorem dX11_own_7 : decode cX11_own 7 = .ok (.astore 4, 2) := by decide +kernel
theorem dX11_own_9 : decode cX11_own 9 = .ok (.aload 4, 2) := by decide +kernel
theorem dX11_own_11 : decode cX11_own 11 = .ok (.iload_n 1, 1) := by decide +kernel
theorem dX11_own_12 : decode cX11_own 12 = .ok (.iload_n 2, 1) := by decide +kernel
theorem dX11_own_13 : decode cX11_own 13 = .ok (.invokevirtual 319, 3) := by decide +kernel
theorem dX11_own_16 : decode cX11_own 16 = .ok (.ifCond .eq 12, 3) := by decide +kernel
theorem dX11_own_19 : decode cX11_own 19 = .ok (.iload_n 3, 1) := by decide +kernel
theorem dX11_own_20 : decode cX11_own 20 = .ok (.ifCond .lt 8, 3) := by decide +kernel
theorem dX11_own_23 : decode cX11_own 23 = .ok (.iload_n 3, 1) := by decide +kernel
theorem dX11_own_24 : decode cX11_own 24 = .ok (.iconst 3, 1) := by decide +kernel
theorem dX11_own_25 : decode cX11_own 25 = .ok (.if_icmp .le 8, 3) := by decide +kernel
theorem dX11_own_28 : decode cX11_own 28 = .ok (.aload_n 0, 1) := by decide +kernel
theorem dX11_own_29 : decode cX11_own 29 = .ok (.invokevirtual 357, 3) := by decide +kernel
theorem dX11_own_32 : decode cX11_own 32 = .ok (.ireturn, 1) := by decide +kernel
theorem dX11_own_33 : decode cX11_own 33 = .ok (.aload 4, 2) := by decide +kernel
theorem dX11_own_35 : decode cX11_own 35 = .ok (.iload_n 1, 1) := by decide +kernel
theorem dX11_own_36 : decode cX11_own 36 = .ok (.iload_n 2, 1) := by decide +kernel
theorem dX11_own_37 : decode cX11_own 37 = .ok (.invokevirtual 323, 3) := by decide +kernel
theorem dX11_own_40 : decode cX11_own 40 = .ok (.istore 5, 2) := by decide +kernel
theorem dX11_own_42 : decode cX11_own 42 = .ok (.iload_n 3, 1) := by decide +kernel
theorem dX11_own_43 : decode cX11_own 43 = .ok (.iload 5, 2) := by decide +kernel
theorem dX11_own_45 : decode cX11_own 45 = .ok (.if_icmp .ne 8, 3) := by decide +kernel
theorem dX11_own_48 : decode cX11_own 48 = .ok (.aload_n 0, 1) := by decide +kernel
theorem dX11_own_49 : decode cX11_own 49 = .ok (.invokevirtual 357, 3) := by decide +kernel
theorem dX11_own_52 : decode cX11_own 52 = .ok (.ireturn, 1) := by decide +kernel
theorem dX11_own_53 : decode cX11_own 53 = .ok (.aload_n 0, 1) := by decide +kernel
theorem dX11_own_54 : decode cX11_own 54 = .ok (.bipush 28, 2) := by decide +kernel
theorem dX11_own_56 : decode cX11_own 56 = .ok (.iload_n 1, 1) := by decide +kernel
theorem dX11_own_57 : decode cX11_own 57 = .ok (.iload_n 2, 1) := by decide +kernel
theorem dX11_own_58 : decode cX11_own 58 = .ok (.invokestatic 342, 3) := by decide +kernel
theorem dX11_own_61 : decode cX11_own 61 = .ok (.iadd, 1) := by decide +kernel
theorem dX11_own_62 : decode cX11_own 62 = .ok (.iload_n 3, 1) := by decide +kernel
theorem dX11_own_63 : decode cX11_own 63 = .ok (.iconst (-1), 1) := by decide +kernel
theorem dX11_own_64 : decode cX11_own 64 = .ok (.iconst 0, 1) := by decide +kernel
theorem dX11_own_65 : decode cX11_own 65 = .ok (.invokevirtual 360, 3) := by decide +kernel
theorem dX11_own_68 : decode cX11_own 68 = .ok (.iload 5, 2) := by decide +kernel
theorem dX11_own_70 : decode cX11_own 70 = .ok (.ireturn, 1) := by decide +kernel
set_option maxHeartbeats 400000 in
theorem c11_own {G : Gl} {l : Launch}  {M : Mem} {d : Int → Int} {x w m : Int} {f n : Int} (hG : GR M) (hD : M 4 = d) (hSP : SP d) (hf : M 5 3 = f) (hf0 : 0 ≤ f) (hf1 : f < 40) (hn : M 5 4 = n) (hn0 : 0 ≤ n) (hn1 : n ≤ 40) (hFP : FP M d) (hr0 : 0 ≤ M 10 1) (hr1 : M 10 1 ≤ 1000000000) : Ct G LY 57 l 3 m11_own [vR 0, vI x, vI w, vI m] M (RP (fun v M' => ((((0 ≤ x ∧ x < d 121) ∧ 0 ≤ w ∧ w < d 122) ∧ (0 ≤ m ∧ m ≤ 3) ∧ d (28 + x * 6 + w) ≠ m) ∧ ACTC M M' f n (28 + (x * 6 + w)) (d (28 + (x * 6 + w))) (-1) 0 0 (upd1 d (28 + (x * 6 + w)) (m)) ∧ v = d (28 + x * 6 + w)) ∨ (¬ (((0 ≤ x ∧ x < d 121) ∧ 0 ≤ w ∧ w < d 122) ∧ (0 ≤ m ∧ m ≤ 3) ∧ d (28 + x * 6 + w) ≠ m) ∧ REFC M M' d 1 ∧ v = -1))) := by
  refine R_start (by decide +kernel) (Nat.le_of_ble_eq_true rfl) (fun C hC hRm hlau => ?_)
  show RZ G LY C (Zn G LY 57 C (RP (fun v M' => ((((0 ≤ x ∧ x < d 121) ∧ 0 ≤ w ∧ w < d 122) ∧ (0 ≤ m ∧ m ≤ 3) ∧ d (28 + x * 6 + w) ≠ m) ∧ ACTC M M' f n (28 + (x * 6 + w)) (d (28 + (x * 6 + w))) (-1) 0 0 (upd1 d (28 + (x * 6 + w)) (m)) ∧ v = d (28 + x * 6 + w)) ∨ (¬ (((0 ≤ x ∧ x < d 121) ∧ 0 ≤ w ∧ w < d 122) ∧ (0 ≤ m ∧ m ≤ 3) ∧ d (28 + x * 6 + w) ≠ m) ∧ REFC M M' d 1 ∧ v = -1)))) 0 0 57 0 [some (vR 0), some (vI x), some (vI w), some (vI m), none, none] [] M
  have hB9 := hSP.B
  have hL0 := hSP.1.1.1
  have hL1 := hSP.1.1.2
  have hW0 := hSP.1.2.1
  have hW1 := hSP.1.2.2
  refine R_aload_0 hC dX11_own_0 ?_
  refine R_getR hC dX11_own_1 fl_11_23 (by decide) rfl (by decide) (by decide) (fi := 3) rfl (r := 2) (gr_0_3 hG) ?_
  refine R_getR hC dX11_own_4 fl_11_122 (by decide) rfl (by decide) (by decide) (fi := 0) rfl (r := 3) (gr_2_0 hG) ?_
  refine R_astore_4 hC dX11_own_7 rfl ?_
  refine R_aload_4 hC dX11_own_9 ?_
  refine R_iload_1 hC dX11_own_11 ?_
  refine R_iload_2 hC dX11_own_12 ?_
  refine R_callVq (as := [vI _, vI _]) hC dX11_own_13 mo_8_isPair ml_11_319 (by decide) rfl rfl (c8_isPair_d  hD hG sh_3) rfl rfl hRm (by decide) (by decide) (Nat.le_of_ble_eq_true rfl) ?_
  refine R_if_eq hC dX11_own_16 (tgt := 28) (by decide) (fun hb16 => ?_) (fun hb16 => ?_)
  · skip
    replace hb16 := bP_z hb16
    refine R_aload_0 hC dX11_own_28 ?_
    refine R_callVp (as := []) hC dX11_own_29 mo_11_refuseAct ml_11_357 (by decide) rfl rfl (c11_refuseAct  hG (by omega) (by omega)) rfl rfl hRm (by decide) (by decide) (Nat.le_of_ble_eq_true rfl) (fun v3 Mc1 hq2 => ?_)
    have hG4 : GR Mc1 := (GR.fr hG hq2.1 (by decide +kernel))
    exact R_ireturn hC dX11_own_32 rfl (ret_P (.inr ⟨fun z => by first | exact hb16 z.1 | omega, ⟨hq2.1.mo (by simp) (by simp), hG4, hFP.fr hq2.1 (by decide +kernel), by (rw [hq2.2.1]; exact uM_same), fun j e => by (rw [hq2.2.1]; exact uM_k e)⟩, hq2.2.2⟩))
  · skip
    replace hb16 := bP_nz hb16
    refine R_iload_3 hC dX11_own_19 ?_
    refine R_if_lt hC dX11_own_20 (tgt := 28) (by decide) (fun hb20 => ?_) (fun hb20 => ?_)
    · skip
      refine R_aload_0 hC dX11_own_28 ?_
      refine R_callVp (as := []) hC dX11_own_29 mo_11_refuseAct ml_11_357 (by decide) rfl rfl (c11_refuseAct  hG (by omega) (by omega)) rfl rfl hRm (by decide) (by decide) (Nat.le_of_ble_eq_true rfl) (fun v7 Mc5 hq6 => ?_)
      have hG8 : GR Mc5 := (GR.fr hG hq6.1 (by decide +kernel))
      exact R_ireturn hC dX11_own_32 rfl (ret_P (.inr ⟨fun z => by first | exact hb16 z.1 | omega, ⟨hq6.1.mo (by simp) (by simp), hG8, hFP.fr hq6.1 (by decide +kernel), by (rw [hq6.2.1]; exact uM_same), fun j e => by (rw [hq6.2.1]; exact uM_k e)⟩, hq6.2.2⟩))
    · skip
      refine R_iload_3 hC dX11_own_23 ?_
      refine R_iconst hC dX11_own_24 ⟨by decide, by decide⟩ ?_
      refine R_icmp_le hC dX11_own_25 (tgt := 33) (by decide) (fun hb25 => ?_) (fun hb25 => ?_)
      · skip
        refine R_aload_4 hC dX11_own_33 ?_
        refine R_iload_1 hC dX11_own_35 ?_
        refine R_iload_2 hC dX11_own_36 ?_
        refine R_callVq (as := [vI _, vI _]) hC dX11_own_37 mo_8_heldIn ml_11_323 (by decide) rfl rfl (c8_heldIn_d  hD hG sh_3 (by omega) (by omega) (by omega) (by omega)) rfl rfl hRm (by decide) (by decide) (Nat.le_of_ble_eq_true rfl) ?_
        refine R_istore_5 hC dX11_own_40 rfl ?_
        refine R_iload_3 hC dX11_own_42 ?_
        refine R_iload_5 hC dX11_own_43 ?_
        refine R_icmp_ne hC dX11_own_45 (tgt := 53) (by decide) (fun hb45 => ?_) (fun hb45 => ?_)
        · skip
          refine R_aload_0 hC dX11_own_53 ?_
          refine R_bipush hC dX11_own_54 (by decide +kernel) ⟨by decide, by decide⟩ ?_
          refine R_iload_1 hC dX11_own_56 ?_
          refine R_iload_2 hC dX11_own_57 ?_
          refine R_callSq (as := [vI _, vI _]) hC dX11_own_58 mo_11_pairOf ml_11_342 (c11_pairOf  (by omega) (by omega) (by omega) (by omega)) rfl rfl hRm (by decide) (by decide) (Nat.le_of_ble_eq_true rfl) ?_
          refine R_iadd hC dX11_own_61 ⟨by omega, by omega⟩ ?_
          refine R_iload_3 hC dX11_own_62 ?_
          refine R_iconst hC dX11_own_63 ⟨by decide, by decide⟩ ?_
          refine R_iconst hC dX11_own_64 ⟨by decide, by decide⟩ ?_
          refine R_callVv (as := [vI _, vI _, vI _, vI _]) hC dX11_own_65 mo_11_act ml_11_360 (by decide) rfl rfl (c11_act  hG hD hSP hf (by omega) (by omega) hn (by omega) (by omega) (by omega) (by omega) (by omega)) rfl rfl hRm (by decide) (by decide) (Nat.le_of_ble_eq_true rfl) (fun Mc9 hq10 => ?_)
          have hG11 := hq10.2.1
          refine R_iload_5 hC dX11_own_68 ?_
          exact R_ireturn hC dX11_own_70 rfl (ret_P (.inl ⟨⟨hb16, by omega, by omega⟩, (⟨hq10.1.mo (by simp) (by simp), hq10.2.1, hq10.2.2.1, hq10.2.2.2.1.trans (if_pos (by decide)), hq10.2.2.2.2⟩ : ACTC M Mc9 f n (28 + (x * 6 + w)) (d (28 + (x * 6 + w))) (-1) 0 0 (upd1 d (28 + (x * 6 + w)) (m))), rfl⟩))
        · skip
          refine R_aload_0 hC dX11_own_48 ?_
          refine R_callVp (as := []) hC dX11_own_49 mo_11_refuseAct ml_11_357 (by decide) rfl rfl (c11_refuseAct  hG (by omega) (by omega)) rfl rfl hRm (by decide) (by decide) (Nat.le_of_ble_eq_true rfl) (fun v14 Mc12 hq13 => ?_)
          have hG15 : GR Mc12 := (GR.fr hG hq13.1 (by decide +kernel))
          exact R_ireturn hC dX11_own_52 rfl (ret_P (.inr ⟨fun z => z.2.2 (by omega), ⟨hq13.1.mo (by simp) (by simp), hG15, hFP.fr hq13.1 (by decide +kernel), by (rw [hq13.2.1]; exact uM_same), fun j e => by (rw [hq13.2.1]; exact uM_k e)⟩, hq13.2.2⟩))
      · skip
        refine R_aload_0 hC dX11_own_28 ?_
        refine R_callVp (as := []) hC dX11_own_29 mo_11_refuseAct ml_11_357 (by decide) rfl rfl (c11_refuseAct  hG (by omega) (by omega)) rfl rfl hRm (by decide) (by decide) (Nat.le_of_ble_eq_true rfl) (fun v18 Mc16 hq17 => ?_)
        have hG19 : GR Mc16 := (GR.fr hG hq17.1 (by decide +kernel))
        exact R_ireturn hC dX11_own_32 rfl (ret_P (.inr ⟨fun z => by first | exact hb16 z.1 | omega, ⟨hq17.1.mo (by simp) (by simp), hG19, hFP.fr hq17.1 (by decide +kernel), by (rw [hq17.2.1]; exact uM_same), fun j e => by (rw [hq17.2.1]; exact uM_k e)⟩, hq17.2.2⟩))
theorem dX11_promise_0 : decode cX11_promise 0 = .ok (.aload_n 0, 1) := by decide +kernel
theorem dX11_promise_1 : decode cX11_promise 1 = .ok (.getfield 23, 3) := by decide +kernel
theorem dX11_promise_4 : decode cX11_promise 4 = .ok (.getfield 122, 3) := by decide +kernel
theorem dX11_promise_7 : decode cX11_promise 7 = .ok (.astore 5, 2) := by decide +kernel
theorem dX11_promise_9 : decode cX11_promise 9 = .ok (.aload 5, 2) := by decide +kernel
theorem dX11_promise_11 : decode cX11_promise 11 = .ok (.iload_n 1, 1) := by decide +kernel
theorem dX11_promise_12 : decode cX11_promise 12 = .ok (.iload_n 2, 1) := by decide +kernel
theorem dX11_promise_13 : decode cX11_promise 13 = .ok (.invokevirtual 319, 3) := by decide +kernel
theorem dX11_promise_16 : decode cX11_promise 16 = .ok (.ifCond .eq 12, 3) := by decide +kernel
theorem dX11_promise_19 : decode cX11_promise 19 = .ok (.iload_n 3, 1) := by decide +kernel
theorem dX11_promise_20 : decode cX11_promise 20 = .ok (.ifCond .lt 8, 3) := by decide +kernel
theorem dX11_promise_23 : decode cX11_promise 23 = .ok (.iload_n 3, 1) := by decide +kernel
theorem dX11_promise_24 : decode cX11_promise 24 = .ok (.iconst 3, 1) := by decide +kernel
theorem dX11_promise_25 : decode cX11_promise 25 = .ok (.if_icmp .le 8, 3) := by decide +kernel
theorem dX11_promise_28 : decode cX11_promise 28 = .ok (.aload_n 0, 1) := by decide +kernel
theorem dX11_promise_29 : decode cX11_promise 29 = .ok (.invokevirtual 357, 3) := by decide +kernel
theorem dX11_promise_32 : decode cX11_promise 32 = .ok (.ireturn, 1) := by decide +kernel
theorem dX11_promise_33 : decode cX11_promise 33 = .ok (.aload 5, 2) := by decide +kernel
theorem dX11_promise_35 : decode cX11_promise 35 = .ok (.iload_n 1, 1) := by decide +kernel
theorem dX11_promise_36 : decode cX11_promise 36 = .ok (.iload_n 2, 1) := by decide +kernel
theorem dX11_promise_37 : decode cX11_promise 37 = .ok (.invokevirtual 327, 3) := by decide +kernel
theorem dX11_promise_40 : decode cX11_promise 40 = .ok (.istore 6, 2) := by decide +kernel
theorem dX11_promise_42 : decode cX11_promise 42 = .ok (.iload_n 3, 1) := by decide +kernel
theorem dX11_promise_43 : decode cX11_promise 43 = .ok (.ifCond .ne 16, 3) := by decide +kernel
theorem dX11_promise_46 : decode cX11_promise 46 = .ok (.iload 6, 2) := by decide +kernel
theorem dX11_promise_48 : decode cX11_promise 48 = .ok (.ifCond .le 7, 3) := by decide +kernel
theorem dX11_promise_51 : decode cX11_promise 51 = .ok (.iconst 1, 1) := by decide +kernel
theorem dX11_promise_52 : decode cX11_promise 52 = .ok (.goto 24, 3) := by decide +kernel
theorem dX11_promise_55 : decode cX11_promise 55 = .ok (.iconst 0, 1) := by decide +kernel
theorem dX11_promise_56 : decode cX11_promise 56 = .ok (.goto 20, 3) := by decide +kernel
theorem dX11_promise_59 : decode cX11_promise 59 = .ok (.iload 4, 2) := by decide +kernel
theorem dX11_promise_61 : decode cX11_promise 61 = .ok (.ifCond .lt 14, 3) := by decide +kernel
theorem dX11_promise_64 : decode cX11_promise 64 = .ok (.iload 4, 2) := by decide +kernel
theorem dX11_promise_66 : decode cX11_promise 66 = .ok (.bipush 60, 2) := by decide +kernel
theorem dX11_promise_68 : decode cX11_promise 68 = .ok (.if_icmp .gt 7, 3) := by decide +kernel
theorem dX11_promise_71 : decode cX11_promise 71 = .ok (.iconst 1, 1) := by decide +kernel
theorem dX11_promise_72 : decode cX11_promise 72 = .ok (.goto 4, 3) := by decide +kernel
theorem dX11_promise_75 : decode cX11_promise 75 = .ok (.iconst 0, 1) := by decide +kernel
theorem dX11_promise_76 : decode cX11_promise 76 = .ok (.istore 7, 2) := by decide +kernel
theorem dX11_promise_78 : decode cX11_promise 78 = .ok (.iload 7, 2) := by decide +kernel
theorem dX11_promise_80 : decode cX11_promise 80 = .ok (.ifCond .ne 8, 3) := by decide +kernel
theorem dX11_promise_83 : decode cX11_promise 83 = .ok (.aload_n 0, 1) := by decide +kernel
theorem dX11_promise_84 : decode cX11_promise 84 = .ok (.invokevirtual 357, 3) := by decide +kernel
theorem dX11_promise_87 : decode cX11_promise 87 = .ok (.ireturn, 1) := by decide +kernel
theorem dX11_promise_88 : decode cX11_promise 88 = .ok (.iload_n 1, 1) := by decide +kernel
theorem dX11_promise_89 : decode cX11_promise 89 = .ok (.iload_n 2, 1) := by decide +kernel
theorem dX11_promise_90 : decode cX11_promise 90 = .ok (.invokestatic 342, 3) := by decide +kernel
theorem dX11_promise_93 : decode cX11_promise 93 = .ok (.istore 8, 2) := by decide +kernel
theorem dX11_promise_95 : decode cX11_promise 95 = .ok (.aload_n 0, 1) := by decide +kernel
theorem dX11_promise_96 : decode cX11_promise 96 = .ok (.bipush 58, 2) := by decide +kernel
theorem dX11_promise_98 : decode cX11_promise 98 = .ok (.iload 8, 2) := by decide +kernel
theorem dX11_promise_100 : decode cX11_promise 100 = .ok (.iadd, 1) := by decide +kernel
theorem dX11_promise_101 : decode cX11_promise 101 = .ok (.iload_n 3, 1) := by decide +kernel
theorem dX11_promise_102 : decode cX11_promise 102 = .ok (.bipush 88, 2) := by decide +kernel
theorem dX11_promise_104 : decode cX11_promise 104 = .ok (.iload 8, 2) := by decide +kernel
theorem dX11_promise_106 : decode cX11_promise 106 = .ok (.iadd, 1) := by decide +kernel
theorem dX11_promise_107 : decode cX11_promise 107 = .ok (.iload_n 3, 1) := by decide +kernel
theorem dX11_promise_108 : decode cX11_promise 108 = .ok (.ifCond .ne 7, 3) := by decide +kernel
theorem dX11_promise_111 : decode cX11_promise 111 = .ok (.iconst 0, 1) := by decide +kernel
theorem dX11_promise_112 : decode cX11_promise 112 = .ok (.goto 5, 3) := by decide +kernel
theorem dX11_promise_115 : decode cX11_promise 115 = .ok (.iload 4, 2) := by decide +kernel
theorem dX11_promise_117 : decode cX11_promise 117 = .ok (.invokevirtual 360, 3) := by decide +kernel
theorem dX11_promise_120 : decode cX11_promise 120 = .ok (.iload 6, 2) := by decide +kernel
theorem dX11_promise_122 : decode cX11_promise 122 = .ok (.ireturn, 1) := by decide +kernel
set_option maxHeartbeats 400000 in
theorem c11_promise {G : Gl} {l : Launch}  {M : Mem} {d : Int → Int} {x w m y : Int} {f n : Int} (hG : GR M) (hD : M 4 = d) (hSP : SP d) (hf : M 5 3 = f) (hf0 : 0 ≤ f) (hf1 : f < 40) (hn : M 5 4 = n) (hn0 : 0 ≤ n) (hn1 : n ≤ 40) (hFP : FP M d) (hr0 : 0 ≤ M 10 1) (hr1 : M 10 1 ≤ 1000000000) : Ct G LY 57 l 3 m11_promise [vR 0, vI x, vI w, vI m, vI y] M (RP (fun v M' => ((((0 ≤ x ∧ x < d 121) ∧ 0 ≤ w ∧ w < d 122) ∧ (0 ≤ m ∧ m ≤ 3) ∧ (0 < m → 0 ≤ y ∧ y ≤ 60) ∧ (m = 0 → d (58 + x * 6 + w) ≠ 0)) ∧ ACTC M M' f n (58 + (x * 6 + w)) (d (58 + (x * 6 + w))) (88 + (x * 6 + w)) (d (88 + (x * 6 + w))) 0 (upd1 (upd1 d (58 + (x * 6 + w)) (m)) (88 + (x * 6 + w)) ((if m = 0 then 0 else y))) ∧ v = d (58 + x * 6 + w)) ∨ (¬ (((0 ≤ x ∧ x < d 121) ∧ 0 ≤ w ∧ w < d 122) ∧ (0 ≤ m ∧ m ≤ 3) ∧ (0 < m → 0 ≤ y ∧ y ≤ 60) ∧ (m = 0 → d (58 + x * 6 + w) ≠ 0)) ∧ REFC M M' d 1 ∧ v = -1))) := by
  refine R_start (by decide +kernel) (Nat.le_of_ble_eq_true rfl) (fun C hC hRm hlau => ?_)
  show RZ G LY C (Zn G LY 57 C (RP (fun v M' => ((((0 ≤ x ∧ x < d 121) ∧ 0 ≤ w ∧ w < d 122) ∧ (0 ≤ m ∧ m ≤ 3) ∧ (0 < m → 0 ≤ y ∧ y ≤ 60) ∧ (m = 0 → d (58 + x * 6 + w) ≠ 0)) ∧ ACTC M M' f n (58 + (x * 6 + w)) (d (58 + (x * 6 + w))) (88 + (x * 6 + w)) (d (88 + (x * 6 + w))) 0 (upd1 (upd1 d (58 + (x * 6 + w)) (m)) (88 + (x * 6 + w)) ((if m = 0 then 0 else y))) ∧ v = d (58 + x * 6 + w)) ∨ (¬ (((0 ≤ x ∧ x < d 121) ∧ 0 ≤ w ∧ w < d 122) ∧ (0 ≤ m ∧ m ≤ 3) ∧ (0 < m → 0 ≤ y ∧ y ≤ 60) ∧ (m = 0 → d (58 + x * 6 + w) ≠ 0)) ∧ REFC M M' d 1 ∧ v = -1)))) 0 0 57 0 [some (vR 0), some (vI x), some (vI w), some (vI m), some (vI y), none, none, none, none] [] M
  have hB9 := hSP.B
  have hL0 := hSP.1.1.1
  have hL1 := hSP.1.1.2
  have hW0 := hSP.1.2.1
  have hW1 := hSP.1.2.2
  have hpp := fun (x w : Int) (a : 0 ≤ x) (b : x < 5) (c : 0 ≤ w) (e : w < 6) => (hSP.h a b c e).2.1.1
  refine R_aload_0 hC dX11_promise_0 ?_
  refine R_getR hC dX11_promise_1 fl_11_23 (by decide) rfl (by decide) (by decide) (fi := 3) rfl (r := 2) (gr_0_3 hG) ?_
  refine R_getR hC dX11_promise_4 fl_11_122 (by decide) rfl (by decide) (by decide) (fi := 0) rfl (r := 3) (gr_2_0 hG) ?_
  refine R_astore_5 hC dX11_promise_7 rfl ?_
  refine R_aload_5 hC dX11_promise_9 ?_
  refine R_iload_1 hC dX11_promise_11 ?_
  refine R_iload_2 hC dX11_promise_12 ?_
  refine R_callVq (as := [vI _, vI _]) hC dX11_promise_13 mo_8_isPair ml_11_319 (by decide) rfl rfl (c8_isPair_d  hD hG sh_3) rfl rfl hRm (by decide) (by decide) (Nat.le_of_ble_eq_true rfl) ?_
  refine R_if_eq hC dX11_promise_16 (tgt := 28) (by decide) (fun hb16 => ?_) (fun hb16 => ?_)
  · skip
    replace hb16 := bP_z hb16
    refine R_aload_0 hC dX11_promise_28 ?_
    refine R_callVp (as := []) hC dX11_promise_29 mo_11_refuseAct ml_11_357 (by decide) rfl rfl (c11_refuseAct  hG (by omega) (by omega)) rfl rfl hRm (by decide) (by decide) (Nat.le_of_ble_eq_true rfl) (fun v3 Mc1 hq2 => ?_)
    have hG4 : GR Mc1 := (GR.fr hG hq2.1 (by decide +kernel))
    exact R_ireturn hC dX11_promise_32 rfl (ret_P (.inr ⟨fun z => by first | exact hb16 z.1 | omega, ⟨hq2.1.mo (by simp) (by simp), hG4, hFP.fr hq2.1 (by decide +kernel), by (rw [hq2.2.1]; exact uM_same), fun j e => by (rw [hq2.2.1]; exact uM_k e)⟩, hq2.2.2⟩))
  · skip
    replace hb16 := bP_nz hb16
    refine R_iload_3 hC dX11_promise_19 ?_
    refine R_if_lt hC dX11_promise_20 (tgt := 28) (by decide) (fun hb20 => ?_) (fun hb20 => ?_)
    · skip
      refine R_aload_0 hC dX11_promise_28 ?_
      refine R_callVp (as := []) hC dX11_promise_29 mo_11_refuseAct ml_11_357 (by decide) rfl rfl (c11_refuseAct  hG (by omega) (by omega)) rfl rfl hRm (by decide) (by decide) (Nat.le_of_ble_eq_true rfl) (fun v7 Mc5 hq6 => ?_)
      have hG8 : GR Mc5 := (GR.fr hG hq6.1 (by decide +kernel))
      exact R_ireturn hC dX11_promise_32 rfl (ret_P (.inr ⟨fun z => by first | exact hb16 z.1 | omega, ⟨hq6.1.mo (by simp) (by simp), hG8, hFP.fr hq6.1 (by decide +kernel), by (rw [hq6.2.1]; exact uM_same), fun j e => by (rw [hq6.2.1]; exact uM_k e)⟩, hq6.2.2⟩))
    · skip
      refine R_iload_3 hC dX11_promise_23 ?_
      refine R_iconst hC dX11_promise_24 ⟨by decide, by decide⟩ ?_
      refine R_icmp_le hC dX11_promise_25 (tgt := 33) (by decide) (fun hb25 => ?_) (fun hb25 => ?_)
      · skip
        refine R_aload_5 hC dX11_promise_33 ?_
        refine R_iload_1 hC dX11_promise_35 ?_
        refine R_iload_2 hC dX11_promise_36 ?_
        refine R_callVq (as := [vI _, vI _]) hC dX11_promise_37 mo_8_muchOf ml_11_327 (by decide) rfl rfl (c8_muchOf_d  hD hG sh_3 (by omega) (by omega) (by omega) (by omega)) rfl rfl hRm (by decide) (by decide) (Nat.le_of_ble_eq_true rfl) ?_
        have hbp := hpp x w (by omega) (by omega) (by omega) (by omega)
        refine R_istore_6 hC dX11_promise_40 rfl ?_
        refine R_iload_3 hC dX11_promise_42 ?_
        refine R_if_ne hC dX11_promise_43 (tgt := 59) (by decide) (fun hb43 => ?_) (fun hb43 => ?_)
        · skip
          refine R_iload_4 hC dX11_promise_59 ?_
          refine R_if_lt hC dX11_promise_61 (tgt := 75) (by decide) (fun hb61 => ?_) (fun hb61 => ?_)
          · skip
            refine R_iconst hC dX11_promise_75 ⟨by decide, by decide⟩ ?_
            refine R_istore_7 hC dX11_promise_76 rfl ?_
            refine R_iload_7 hC dX11_promise_78 ?_
            refine R_if_ne hC dX11_promise_80 (tgt := 88) (by decide) (fun hb80 => ?_) (fun hb80 => ?_)
            · skip
              refine R_iload_1 hC dX11_promise_88 ?_
              refine R_iload_2 hC dX11_promise_89 ?_
              refine R_callSq (as := [vI _, vI _]) hC dX11_promise_90 mo_11_pairOf ml_11_342 (c11_pairOf  (by omega) (by omega) (by omega) (by omega)) rfl rfl hRm (by decide) (by decide) (Nat.le_of_ble_eq_true rfl) ?_
              refine R_istore_8 hC dX11_promise_93 rfl ?_
              refine R_aload_0 hC dX11_promise_95 ?_
              refine R_bipush hC dX11_promise_96 (by decide +kernel) ⟨by decide, by decide⟩ ?_
              refine R_iload_8 hC dX11_promise_98 ?_
              refine R_iadd hC dX11_promise_100 ⟨by omega, by omega⟩ ?_
              refine R_iload_3 hC dX11_promise_101 ?_
              refine R_bipush hC dX11_promise_102 (by decide +kernel) ⟨by decide, by decide⟩ ?_
              refine R_iload_8 hC dX11_promise_104 ?_
              refine R_iadd hC dX11_promise_106 ⟨by omega, by omega⟩ ?_
              refine R_iload_3 hC dX11_promise_107 ?_
              have L117 : ∀ (u : Int), (u = (if m = 0 then 0 else y)) → RZ G LY C (Zn G LY 57 C (RP (fun v M' => ((((0 ≤ x ∧ x < d 121) ∧ 0 ≤ w ∧ w < d 122) ∧ (0 ≤ m ∧ m ≤ 3) ∧ (0 < m → 0 ≤ y ∧ y ≤ 60) ∧ (m = 0 → d (58 + x * 6 + w) ≠ 0)) ∧ ACTC M M' f n (58 + (x * 6 + w)) (d (58 + (x * 6 + w))) (88 + (x * 6 + w)) (d (88 + (x * 6 + w))) 0 (upd1 (upd1 d (58 + (x * 6 + w)) (m)) (88 + (x * 6 + w)) ((if m = 0 then 0 else y))) ∧ v = d (58 + x * 6 + w)) ∨ (¬ (((0 ≤ x ∧ x < d 121) ∧ 0 ≤ w ∧ w < d 122) ∧ (0 ≤ m ∧ m ≤ 3) ∧ (0 < m → 0 ≤ y ∧ y ≤ 60) ∧ (m = 0 → d (58 + x * 6 + w) ≠ 0)) ∧ REFC M M' d 1 ∧ v = -1)))) 0 0 57 117 [some (vR 0), some (vI x), some (vI w), some (vI m), some (vI y), some (vR 3), some (vI (d (58 + x * 6 + w))), some (vI 0), some (vI (x * 6 + w))] [vI u, vI (88 + (x * 6 + w)), vI m, vI (58 + (x * 6 + w)), vR 0] M := by
                intro u hu
                refine R_callVv (as := [vI _, vI _, vI _, vI _]) hC dX11_promise_117 mo_11_act ml_11_360 (by decide) rfl rfl (c11_act  hG hD hSP hf (by omega) (by omega) hn (by omega) (by omega) (by omega) (by omega) (by omega)) rfl rfl hRm (by decide) (by decide) (Nat.le_of_ble_eq_true rfl) (fun Mc9 hq10 => ?_)
                have hG11 := hq10.2.1
                refine R_iload_6 hC dX11_promise_120 ?_
                exact R_ireturn hC dX11_promise_122 rfl (ret_P (.inl ⟨⟨hb16, by omega, by omega, by omega⟩, (hu ▸ (by
                    have z := hq10.2
                    rw [if_neg (show ¬ ((88 + (x * 6 + w)) : Int) < 0 by omega), if_neg (show ¬ ((88 + (x * 6 + w)) : Int) < 0 by omega)] at z
                    exact ⟨hq10.1.mo (by simp) (by simp), z⟩ : ACTC M Mc9 f n (58 + (x * 6 + w)) (d (58 + (x * 6 + w))) (88 + (x * 6 + w)) (d (88 + (x * 6 + w))) 0 (upd1 (upd1 d (58 + (x * 6 + w)) (m)) (88 + (x * 6 + w)) (u)))), rfl⟩))
              refine R_if_ne hC dX11_promise_108 (tgt := 115) (by decide) (fun hb108 => ?_) (fun hb108 => ?_)
              · skip
                refine R_iload_4 hC dX11_promise_115 ?_
                exact L117 _ (by first | exact (if_pos (by omega)).symm | exact (if_neg (by omega)).symm)
              · skip
                refine R_iconst hC dX11_promise_111 ⟨by decide, by decide⟩ ?_
                refine R_goto hC dX11_promise_112 (tgt := 117) (by decide) ?_
                exact L117 _ (by first | exact (if_pos (by omega)).symm | exact (if_neg (by omega)).symm)
            · skip
              refine R_aload_0 hC dX11_promise_83 ?_
              refine R_callVp (as := []) hC dX11_promise_84 mo_11_refuseAct ml_11_357 (by decide) rfl rfl (c11_refuseAct  hG (by omega) (by omega)) rfl rfl hRm (by decide) (by decide) (Nat.le_of_ble_eq_true rfl) (fun v14 Mc12 hq13 => ?_)
              have hG15 : GR Mc12 := (GR.fr hG hq13.1 (by decide +kernel))
              exact R_ireturn hC dX11_promise_87 rfl (ret_P (by first | exact .inr ⟨fun z => by omega, ⟨hq13.1.mo (by simp) (by simp), hG15, hFP.fr hq13.1 (by decide +kernel), by (rw [hq13.2.1]; exact uM_same), fun j e => by (rw [hq13.2.1]; exact uM_k e)⟩, hq13.2.2⟩ | (exfalso; omega)))
          · skip
            refine R_iload_4 hC dX11_promise_64 ?_
            refine R_bipush hC dX11_promise_66 (by decide +kernel) ⟨by decide, by decide⟩ ?_
            refine R_icmp_gt hC dX11_promise_68 (tgt := 75) (by decide) (fun hb68 => ?_) (fun hb68 => ?_)
            · skip
              refine R_iconst hC dX11_promise_75 ⟨by decide, by decide⟩ ?_
              refine R_istore_7 hC dX11_promise_76 rfl ?_
              refine R_iload_7 hC dX11_promise_78 ?_
              refine R_if_ne hC dX11_promise_80 (tgt := 88) (by decide) (fun hb80 => ?_) (fun hb80 => ?_)
              · skip
                refine R_iload_1 hC dX11_promise_88 ?_
                refine R_iload_2 hC dX11_promise_89 ?_
                refine R_callSq (as := [vI _, vI _]) hC dX11_promise_90 mo_11_pairOf ml_11_342 (c11_pairOf  (by omega) (by omega) (by omega) (by omega)) rfl rfl hRm (by decide) (by decide) (Nat.le_of_ble_eq_true rfl) ?_
                refine R_istore_8 hC dX11_promise_93 rfl ?_
                refine R_aload_0 hC dX11_promise_95 ?_
                refine R_bipush hC dX11_promise_96 (by decide +kernel) ⟨by decide, by decide⟩ ?_
                refine R_iload_8 hC dX11_promise_98 ?_
                refine R_iadd hC dX11_promise_100 ⟨by omega, by omega⟩ ?_
                refine R_iload_3 hC dX11_promise_101 ?_
                refine R_bipush hC dX11_promise_102 (by decide +kernel) ⟨by decide, by decide⟩ ?_
                refine R_iload_8 hC dX11_promise_104 ?_
                refine R_iadd hC dX11_promise_106 ⟨by omega, by omega⟩ ?_
                refine R_iload_3 hC dX11_promise_107 ?_
                have L117 : ∀ (u : Int), (u = (if m = 0 then 0 else y)) → RZ G LY C (Zn G LY 57 C (RP (fun v M' => ((((0 ≤ x ∧ x < d 121) ∧ 0 ≤ w ∧ w < d 122) ∧ (0 ≤ m ∧ m ≤ 3) ∧ (0 < m → 0 ≤ y ∧ y ≤ 60) ∧ (m = 0 → d (58 + x * 6 + w) ≠ 0)) ∧ ACTC M M' f n (58 + (x * 6 + w)) (d (58 + (x * 6 + w))) (88 + (x * 6 + w)) (d (88 + (x * 6 + w))) 0 (upd1 (upd1 d (58 + (x * 6 + w)) (m)) (88 + (x * 6 + w)) ((if m = 0 then 0 else y))) ∧ v = d (58 + x * 6 + w)) ∨ (¬ (((0 ≤ x ∧ x < d 121) ∧ 0 ≤ w ∧ w < d 122) ∧ (0 ≤ m ∧ m ≤ 3) ∧ (0 < m → 0 ≤ y ∧ y ≤ 60) ∧ (m = 0 → d (58 + x * 6 + w) ≠ 0)) ∧ REFC M M' d 1 ∧ v = -1)))) 0 0 57 117 [some (vR 0), some (vI x), some (vI w), some (vI m), some (vI y), some (vR 3), some (vI (d (58 + x * 6 + w))), some (vI 0), some (vI (x * 6 + w))] [vI u, vI (88 + (x * 6 + w)), vI m, vI (58 + (x * 6 + w)), vR 0] M := by
                  intro u hu
                  refine R_callVv (as := [vI _, vI _, vI _, vI _]) hC dX11_promise_117 mo_11_act ml_11_360 (by decide) rfl rfl (c11_act  hG hD hSP hf (by omega) (by omega) hn (by omega) (by omega) (by omega) (by omega) (by omega)) rfl rfl hRm (by decide) (by decide) (Nat.le_of_ble_eq_true rfl) (fun Mc16 hq17 => ?_)
                  have hG18 := hq17.2.1
                  refine R_iload_6 hC dX11_promise_120 ?_
                  exact R_ireturn hC dX11_promise_122 rfl (ret_P (.inl ⟨⟨hb16, by omega, by omega, by omega⟩, (hu ▸ (by
                      have z := hq17.2
                      rw [if_neg (show ¬ ((88 + (x * 6 + w)) : Int) < 0 by omega), if_neg (show ¬ ((88 + (x * 6 + w)) : Int) < 0 by omega)] at z
                      exact ⟨hq17.1.mo (by simp) (by simp), z⟩ : ACTC M Mc16 f n (58 + (x * 6 + w)) (d (58 + (x * 6 + w))) (88 + (x * 6 + w)) (d (88 + (x * 6 + w))) 0 (upd1 (upd1 d (58 + (x * 6 + w)) (m)) (88 + (x * 6 + w)) (u)))), rfl⟩))
                refine R_if_ne hC dX11_promise_108 (tgt := 115) (by decide) (fun hb108 => ?_) (fun hb108 => ?_)
                · skip
                  refine R_iload_4 hC dX11_promise_115 ?_
                  exact L117 _ (by first | exact (if_pos (by omega)).symm | exact (if_neg (by omega)).symm)
                · skip
                  refine R_iconst hC dX11_promise_111 ⟨by decide, by decide⟩ ?_
                  refine R_goto hC dX11_promise_112 (tgt := 117) (by decide) ?_
                  exact L117 _ (by first | exact (if_pos (by omega)).symm | exact (if_neg (by omega)).symm)
              · skip
                refine R_aload_0 hC dX11_promise_83 ?_
                refine R_callVp (as := []) hC dX11_promise_84 mo_11_refuseAct ml_11_357 (by decide) rfl rfl (c11_refuseAct  hG (by omega) (by omega)) rfl rfl hRm (by decide) (by decide) (Nat.le_of_ble_eq_true rfl) (fun v21 Mc19 hq20 => ?_)
                have hG22 : GR Mc19 := (GR.fr hG hq20.1 (by decide +kernel))
                exact R_ireturn hC dX11_promise_87 rfl (ret_P (by first | exact .inr ⟨fun z => by omega, ⟨hq20.1.mo (by simp) (by simp), hG22, hFP.fr hq20.1 (by decide +kernel), by (rw [hq20.2.1]; exact uM_same), fun j e => by (rw [hq20.2.1]; exact uM_k e)⟩, hq20.2.2⟩ | (exfalso; omega)))
            · skip
              refine R_iconst hC dX11_promise_71 ⟨by decide, by decide⟩ ?_
              refine R_goto hC dX11_promise_72 (tgt := 76) (by decide) ?_
              refine R_istore_7 hC dX11_promise_76 rfl ?_
              refine R_iload_7 hC dX11_promise_78 ?_
              refine R_if_ne hC dX11_promise_80 (tgt := 88) (by decide) (fun hb80 => ?_) (fun hb80 => ?_)
              · skip
                refine R_iload_1 hC dX11_promise_88 ?_
                refine R_iload_2 hC dX11_promise_89 ?_
                refine R_callSq (as := [vI _, vI _]) hC dX11_promise_90 mo_11_pairOf ml_11_342 (c11_pairOf  (by omega) (by omega) (by omega) (by omega)) rfl rfl hRm (by decide) (by decide) (Nat.le_of_ble_eq_true rfl) ?_
                refine R_istore_8 hC dX11_promise_93 rfl ?_
                refine R_aload_0 hC dX11_promise_95 ?_
                refine R_bipush hC dX11_promise_96 (by decide +kernel) ⟨by decide, by decide⟩ ?_
                refine R_iload_8 hC dX11_promise_98 ?_
                refine R_iadd hC dX11_promise_100 ⟨by omega, by omega⟩ ?_
                refine R_iload_3 hC dX11_promise_101 ?_
                refine R_bipush hC dX11_promise_102 (by decide +kernel) ⟨by decide, by decide⟩ ?_
                refine R_iload_8 hC dX11_promise_104 ?_
                refine R_iadd hC dX11_promise_106 ⟨by omega, by omega⟩ ?_
                refine R_iload_3 hC dX11_promise_107 ?_
                have L117 : ∀ (u : Int), (u = (if m = 0 then 0 else y)) → RZ G LY C (Zn G LY 57 C (RP (fun v M' => ((((0 ≤ x ∧ x < d 121) ∧ 0 ≤ w ∧ w < d 122) ∧ (0 ≤ m ∧ m ≤ 3) ∧ (0 < m → 0 ≤ y ∧ y ≤ 60) ∧ (m = 0 → d (58 + x * 6 + w) ≠ 0)) ∧ ACTC M M' f n (58 + (x * 6 + w)) (d (58 + (x * 6 + w))) (88 + (x * 6 + w)) (d (88 + (x * 6 + w))) 0 (upd1 (upd1 d (58 + (x * 6 + w)) (m)) (88 + (x * 6 + w)) ((if m = 0 then 0 else y))) ∧ v = d (58 + x * 6 + w)) ∨ (¬ (((0 ≤ x ∧ x < d 121) ∧ 0 ≤ w ∧ w < d 122) ∧ (0 ≤ m ∧ m ≤ 3) ∧ (0 < m → 0 ≤ y ∧ y ≤ 60) ∧ (m = 0 → d (58 + x * 6 + w) ≠ 0)) ∧ REFC M M' d 1 ∧ v = -1)))) 0 0 57 117 [some (vR 0), some (vI x), some (vI w), some (vI m), some (vI y), some (vR 3), some (vI (d (58 + x * 6 + w))), some (vI 1), some (vI (x * 6 + w))] [vI u, vI (88 + (x * 6 + w)), vI m, vI (58 + (x * 6 + w)), vR 0] M := by
                  intro u hu
                  refine R_callVv (as := [vI _, vI _, vI _, vI _]) hC dX11_promise_117 mo_11_act ml_11_360 (by decide) rfl rfl (c11_act  hG hD hSP hf (by omega) (by omega) hn (by omega) (by omega) (by omega) (by omega) (by omega)) rfl rfl hRm (by decide) (by decide) (Nat.le_of_ble_eq_true rfl) (fun Mc23 hq24 => ?_)
                  have hG25 := hq24.2.1
                  refine R_iload_6 hC dX11_promise_120 ?_
                  exact R_ireturn hC dX11_promise_122 rfl (ret_P (.inl ⟨⟨hb16, by omega, by omega, by omega⟩, (hu ▸ (by
                      have z := hq24.2
                      rw [if_neg (show ¬ ((88 + (x * 6 + w)) : Int) < 0 by omega), if_neg (show ¬ ((88 + (x * 6 + w)) : Int) < 0 by omega)] at z
                      exact ⟨hq24.1.mo (by simp) (by simp), z⟩ : ACTC M Mc23 f n (58 + (x * 6 + w)) (d (58 + (x * 6 + w))) (88 + (x * 6 + w)) (d (88 + (x * 6 + w))) 0 (upd1 (upd1 d (58 + (x * 6 + w)) (m)) (88 + (x * 6 + w)) (u)))), rfl⟩))
                refine R_if_ne hC dX11_promise_108 (tgt := 115) (by decide) (fun hb108 => ?_) (fun hb108 => ?_)
                · skip
                  refine R_iload_4 hC dX11_promise_115 ?_
                  exact L117 _ (by first | exact (if_pos (by omega)).symm | exact (if_neg (by omega)).symm)
                · skip
                  refine R_iconst hC dX11_promise_111 ⟨by decide, by decide⟩ ?_
                  refine R_goto hC dX11_promise_112 (tgt := 117) (by decide) ?_
                  exact L117 _ (by first | exact (if_pos (by omega)).symm | exact (if_neg (by omega)).symm)
              · skip
                refine R_aload_0 hC dX11_promise_83 ?_
                refine R_callVp (as := []) hC dX11_promise_84 mo_11_refuseAct ml_11_357 (by decide) rfl rfl (c11_refuseAct  hG (by omega) (by omega)) rfl rfl hRm (by decide) (by decide) (Nat.le_of_ble_eq_true rfl) (fun v28 Mc26 hq27 => ?_)
                have hG29 : GR Mc26 := (GR.fr hG hq27.1 (by decide +kernel))
                exact R_ireturn hC dX11_promise_87 rfl (ret_P (by first | exact .inr ⟨fun z => by omega, ⟨hq27.1.mo (by simp) (by simp), hG29, hFP.fr hq27.1 (by decide +kernel), by (rw [hq27.2.1]; exact uM_same), fun j e => by (rw [hq27.2.1]; exact uM_k e)⟩, hq27.2.2⟩ | (exfalso; omega)))
        · skip
          refine R_iload_6 hC dX11_promise_46 ?_
          refine R_if_le hC dX11_promise_48 (tgt := 55) (by decide) (fun hb48 => ?_) (fun hb48 => ?_)
          · skip
            refine R_iconst hC dX11_promise_55 ⟨by decide, by decide⟩ ?_
            refine R_goto hC dX11_promise_56 (tgt := 76) (by decide) ?_
            refine R_istore_7 hC dX11_promise_76 rfl ?_
            refine R_iload_7 hC dX11_promise_78 ?_
            refine R_if_ne hC dX11_promise_80 (tgt := 88) (by decide) (fun hb80 => ?_) (fun hb80 => ?_)
            · skip
              refine R_iload_1 hC dX11_promise_88 ?_
              refine R_iload_2 hC dX11_promise_89 ?_
              refine R_callSq (as := [vI _, vI _]) hC dX11_promise_90 mo_11_pairOf ml_11_342 (c11_pairOf  (by omega) (by omega) (by omega) (by omega)) rfl rfl hRm (by decide) (by decide) (Nat.le_of_ble_eq_true rfl) ?_
              refine R_istore_8 hC dX11_promise_93 rfl ?_
              refine R_aload_0 hC dX11_promise_95 ?_
              refine R_bipush hC dX11_promise_96 (by decide +kernel) ⟨by decide, by decide⟩ ?_
              refine R_iload_8 hC dX11_promise_98 ?_
              refine R_iadd hC dX11_promise_100 ⟨by omega, by omega⟩ ?_
              refine R_iload_3 hC dX11_promise_101 ?_
              refine R_bipush hC dX11_promise_102 (by decide +kernel) ⟨by decide, by decide⟩ ?_
              refine R_iload_8 hC dX11_promise_104 ?_
              refine R_iadd hC dX11_promise_106 ⟨by omega, by omega⟩ ?_
              refine R_iload_3 hC dX11_promise_107 ?_
              have L117 : ∀ (u : Int), (u = (if m = 0 then 0 else y)) → RZ G LY C (Zn G LY 57 C (RP (fun v M' => ((((0 ≤ x ∧ x < d 121) ∧ 0 ≤ w ∧ w < d 122) ∧ (0 ≤ m ∧ m ≤ 3) ∧ (0 < m → 0 ≤ y ∧ y ≤ 60) ∧ (m = 0 → d (58 + x * 6 + w) ≠ 0)) ∧ ACTC M M' f n (58 + (x * 6 + w)) (d (58 + (x * 6 + w))) (88 + (x * 6 + w)) (d (88 + (x * 6 + w))) 0 (upd1 (upd1 d (58 + (x * 6 + w)) (m)) (88 + (x * 6 + w)) ((if m = 0 then 0 else y))) ∧ v = d (58 + x * 6 + w)) ∨ (¬ (((0 ≤ x ∧ x < d 121) ∧ 0 ≤ w ∧ w < d 122) ∧ (0 ≤ m ∧ m ≤ 3) ∧ (0 < m → 0 ≤ y ∧ y ≤ 60) ∧ (m = 0 → d (58 + x * 6 + w) ≠ 0)) ∧ REFC M M' d 1 ∧ v = -1)))) 0 0 57 117 [some (vR 0), some (vI x), some (vI w), some (vI m), some (vI y), some (vR 3), some (vI (d (58 + x * 6 + w))), some (vI 0), some (vI (x * 6 + w))] [vI u, vI (88 + (x * 6 + w)), vI m, vI (58 + (x * 6 + w)), vR 0] M := by
                intro u hu
                refine R_callVv (as := [vI _, vI _, vI _, vI _]) hC dX11_promise_117 mo_11_act ml_11_360 (by decide) rfl rfl (c11_act  hG hD hSP hf (by omega) (by omega) hn (by omega) (by omega) (by omega) (by omega) (by omega)) rfl rfl hRm (by decide) (by decide) (Nat.le_of_ble_eq_true rfl) (fun Mc30 hq31 => ?_)
                have hG32 := hq31.2.1
                refine R_iload_6 hC dX11_promise_120 ?_
                exact R_ireturn hC dX11_promise_122 rfl (ret_P (.inl ⟨⟨hb16, by omega, by omega, by omega⟩, (hu ▸ (by
                    have z := hq31.2
                    rw [if_neg (show ¬ ((88 + (x * 6 + w)) : Int) < 0 by omega), if_neg (show ¬ ((88 + (x * 6 + w)) : Int) < 0 by omega)] at z
                    exact ⟨hq31.1.mo (by simp) (by simp), z⟩ : ACTC M Mc30 f n (58 + (x * 6 + w)) (d (58 + (x * 6 + w))) (88 + (x * 6 + w)) (d (88 + (x * 6 + w))) 0 (upd1 (upd1 d (58 + (x * 6 + w)) (m)) (88 + (x * 6 + w)) (u)))), rfl⟩))
              refine R_if_ne hC dX11_promise_108 (tgt := 115) (by decide) (fun hb108 => ?_) (fun hb108 => ?_)
              · skip
                refine R_iload_4 hC dX11_promise_115 ?_
                exact L117 _ (by first | exact (if_pos (by omega)).symm | exact (if_neg (by omega)).symm)
              · skip
                refine R_iconst hC dX11_promise_111 ⟨by decide, by decide⟩ ?_
                refine R_goto hC dX11_promise_112 (tgt := 117) (by decide) ?_
                exact L117 _ (by first | exact (if_pos (by omega)).symm | exact (if_neg (by omega)).symm)
            · skip
              refine R_aload_0 hC dX11_promise_83 ?_
              refine R_callVp (as := []) hC dX11_promise_84 mo_11_refuseAct ml_11_357 (by decide) rfl rfl (c11_refuseAct  hG (by omega) (by omega)) rfl rfl hRm (by decide) (by decide) (Nat.le_of_ble_eq_true rfl) (fun v35 Mc33 hq34 => ?_)
              have hG36 : GR Mc33 := (GR.fr hG hq34.1 (by decide +kernel))
              exact R_ireturn hC dX11_promise_87 rfl (ret_P (by first | exact .inr ⟨fun z => by omega, ⟨hq34.1.mo (by simp) (by simp), hG36, hFP.fr hq34.1 (by decide +kernel), by (rw [hq34.2.1]; exact uM_same), fun j e => by (rw [hq34.2.1]; exact uM_k e)⟩, hq34.2.2⟩ | (exfalso; omega)))
          · skip
            refine R_iconst hC dX11_promise_51 ⟨by decide, by decide⟩ ?_
            refine R_goto hC dX11_promise_52 (tgt := 76) (by decide) ?_
            refine R_istore_7 hC dX11_promise_76 rfl ?_
            refine R_iload_7 hC dX11_promise_78 ?_
            refine R_if_ne hC dX11_promise_80 (tgt := 88) (by decide) (fun hb80 => ?_) (fun hb80 => ?_)
            · skip
              refine R_iload_1 hC dX11_promise_88 ?_
              refine R_iload_2 hC dX11_promise_89 ?_
              refine R_callSq (as := [vI _, vI _]) hC dX11_promise_90 mo_11_pairOf ml_11_342 (c11_pairOf  (by omega) (by omega) (by omega) (by omega)) rfl rfl hRm (by decide) (by decide) (Nat.le_of_ble_eq_true rfl) ?_
              refine R_istore_8 hC dX11_promise_93 rfl ?_
              refine R_aload_0 hC dX11_promise_95 ?_
              refine R_bipush hC dX11_promise_96 (by decide +kernel) ⟨by decide, by decide⟩ ?_
              refine R_iload_8 hC dX11_promise_98 ?_
              refine R_iadd hC dX11_promise_100 ⟨by omega, by omega⟩ ?_
              refine R_iload_3 hC dX11_promise_101 ?_
              refine R_bipush hC dX11_promise_102 (by decide +kernel) ⟨by decide, by decide⟩ ?_
              refine R_iload_8 hC dX11_promise_104 ?_
              refine R_iadd hC dX11_promise_106 ⟨by omega, by omega⟩ ?_
              refine R_iload_3 hC dX11_promise_107 ?_
              have L117 : ∀ (u : Int), (u = (if m = 0 then 0 else y)) → RZ G LY C (Zn G LY 57 C (RP (fun v M' => ((((0 ≤ x ∧ x < d 121) ∧ 0 ≤ w ∧ w < d 122) ∧ (0 ≤ m ∧ m ≤ 3) ∧ (0 < m → 0 ≤ y ∧ y ≤ 60) ∧ (m = 0 → d (58 + x * 6 + w) ≠ 0)) ∧ ACTC M M' f n (58 + (x * 6 + w)) (d (58 + (x * 6 + w))) (88 + (x * 6 + w)) (d (88 + (x * 6 + w))) 0 (upd1 (upd1 d (58 + (x * 6 + w)) (m)) (88 + (x * 6 + w)) ((if m = 0 then 0 else y))) ∧ v = d (58 + x * 6 + w)) ∨ (¬ (((0 ≤ x ∧ x < d 121) ∧ 0 ≤ w ∧ w < d 122) ∧ (0 ≤ m ∧ m ≤ 3) ∧ (0 < m → 0 ≤ y ∧ y ≤ 60) ∧ (m = 0 → d (58 + x * 6 + w) ≠ 0)) ∧ REFC M M' d 1 ∧ v = -1)))) 0 0 57 117 [some (vR 0), some (vI x), some (vI w), some (vI m), some (vI y), some (vR 3), some (vI (d (58 + x * 6 + w))), some (vI 1), some (vI (x * 6 + w))] [vI u, vI (88 + (x * 6 + w)), vI m, vI (58 + (x * 6 + w)), vR 0] M := by
                intro u hu
                refine R_callVv (as := [vI _, vI _, vI _, vI _]) hC dX11_promise_117 mo_11_act ml_11_360 (by decide) rfl rfl (c11_act  hG hD hSP hf (by omega) (by omega) hn (by omega) (by omega) (by omega) (by omega) (by omega)) rfl rfl hRm (by decide) (by decide) (Nat.le_of_ble_eq_true rfl) (fun Mc37 hq38 => ?_)
                have hG39 := hq38.2.1
                refine R_iload_6 hC dX11_promise_120 ?_
                exact R_ireturn hC dX11_promise_122 rfl (ret_P (.inl ⟨⟨hb16, by omega, by omega, by omega⟩, (hu ▸ (by
                    have z := hq38.2
                    rw [if_neg (show ¬ ((88 + (x * 6 + w)) : Int) < 0 by omega), if_neg (show ¬ ((88 + (x * 6 + w)) : Int) < 0 by omega)] at z
                    exact ⟨hq38.1.mo (by simp) (by simp), z⟩ : ACTC M Mc37 f n (58 + (x * 6 + w)) (d (58 + (x * 6 + w))) (88 + (x * 6 + w)) (d (88 + (x * 6 + w))) 0 (upd1 (upd1 d (58 + (x * 6 + w)) (m)) (88 + (x * 6 + w)) (u)))), rfl⟩))
              refine R_if_ne hC dX11_promise_108 (tgt := 115) (by decide) (fun hb108 => ?_) (fun hb108 => ?_)
              · skip
                refine R_iload_4 hC dX11_promise_115 ?_
                exact L117 _ (by first | exact (if_pos (by omega)).symm | exact (if_neg (by omega)).symm)
              · skip
                refine R_iconst hC dX11_promise_111 ⟨by decide, by decide⟩ ?_
                refine R_goto hC dX11_promise_112 (tgt := 117) (by decide) ?_
                exact L117 _ (by first | exact (if_pos (by omega)).symm | exact (if_neg (by omega)).symm)
            · skip
              refine R_aload_0 hC dX11_promise_83 ?_
              refine R_callVp (as := []) hC dX11_promise_84 mo_11_refuseAct ml_11_357 (by decide) rfl rfl (c11_refuseAct  hG (by omega) (by omega)) rfl rfl hRm (by decide) (by decide) (Nat.le_of_ble_eq_true rfl) (fun v42 Mc40 hq41 => ?_)
              have hG43 : GR Mc40 := (GR.fr hG hq41.1 (by decide +kernel))
              exact R_ireturn hC dX11_promise_87 rfl (ret_P (by first | exact .inr ⟨fun z => by omega, ⟨hq41.1.mo (by simp) (by simp), hG43, hFP.fr hq41.1 (by decide +kernel), by (rw [hq41.2.1]; exact uM_same), fun j e => by (rw [hq41.2.1]; exact uM_k e)⟩, hq41.2.2⟩ | (exfalso; omega)))
      · skip
        refine R_aload_0 hC dX11_promise_28 ?_
        refine R_callVp (as := []) hC dX11_promise_29 mo_11_refuseAct ml_11_357 (by decide) rfl rfl (c11_refuseAct  hG (by omega) (by omega)) rfl rfl hRm (by decide) (by decide) (Nat.le_of_ble_eq_true rfl) (fun v46 Mc44 hq45 => ?_)
        have hG47 : GR Mc44 := (GR.fr hG hq45.1 (by decide +kernel))
        exact R_ireturn hC dX11_promise_32 rfl (ret_P (.inr ⟨fun z => by first | exact hb16 z.1 | omega, ⟨hq45.1.mo (by simp) (by simp), hG47, hFP.fr hq45.1 (by decide +kernel), by (rw [hq45.2.1]; exact uM_same), fun j e => by (rw [hq45.2.1]; exact uM_k e)⟩, hq45.2.2⟩))
theorem dX11_keep_0 : decode cX11_keep 0 = .ok (.aload_n 0, 1) := by decide +kernel
theorem dX11_keep_1 : decode cX11_keep 1 = .ok (.getfield 23, 3) := by decide +kernel
theorem dX11_keep_4 : decode cX11_keep 4 = .ok (.getfield 122, 3) := by decide +kernel
theorem dX11_keep_7 : decode cX11_keep 7 = .ok (.astore_n 3, 1) := by decide +kernel
theorem dX11_keep_8 : decode cX11_keep 8 = .ok (.aload_n 3, 1) := by decide +kernel
theorem dX11_keep_9 : decode cX11_keep 9 = .ok (.iload_n 1, 1) := by decide +kernel
theorem dX11_keep_10 : decode cX11_keep 10 = .ok (.invokevirtual 285, 3) := by decide +kernel
theorem dX11_keep_13 : decode cX11_keep 13 = .ok (.ifCond .eq 13, 3) := by decide +kernel
theorem dX11_keep_16 : decode cX11_keep 16 = .ok (.iload_n 2, 1) := by decide +kernel
theorem dX11_keep_17 : decode cX11_keep 17 = .ok (.ifCond .lt 9, 3) := by decide +kernel
theorem dX11_keep_20 : decode cX11_keep 20 = .ok (.iload_n 2, 1) := by decide +kernel
theorem dX11_keep_21 : decode cX11_keep 21 = .ok (.bipush 15, 2) := by decide +kernel
theorem dX11_keep_23 : decode cX11_keep 23 = .ok (.if_icmp .le 8, 3) := by decide +kernel
theorem dX11_keep_26 : decode cX11_keep 26 = .ok (.aload_n 0, 1) := by decide +kernel
theorem dX11_keep_27 : decode cX11_keep 27 = .ok (.invokevirtual 357, 3) := by decide +kernel
theorem dX11_keep_30 : decode cX11_keep 30 = .ok (.ireturn, 1) := by decide +kernel
theorem dX11_keep_31 : decode cX11_keep 31 = .ok (.aload_n 3, 1) := by decide +kernel
theorem dX11_keep_32 : decode cX11_keep 32 = .ok (.iload_n 1, 1) := by decide +kernel
theorem dX11_keep_33 : decode cX11_keep 33 = .ok (.invokevirtual 291, 3) := by decide +kernel
theorem dX11_keep_36 : decode cX11_keep 36 = .ok (.istore 4, 2) := by decide +kernel
theorem dX11_keep_38 : decode cX11_keep 38 = .ok (.aload_n 0, 1) := by decide +kernel
theorem dX11_keep_39 : decode cX11_keep 39 = .ok (.bipush 16, 2) := by decide +kernel
theorem dX11_keep_41 : decode cX11_keep 41 = .ok (.iload_n 1, 1) := by decide +kernel
theorem dX11_keep_42 : decode cX11_keep 42 = .ok (.iadd, 1) := by decide +kernel
theorem dX11_keep_43 : decode cX11_keep 43 = .ok (.iload_n 2, 1) := by decide +kernel
theorem dX11_keep_44 : decode cX11_keep 44 = .ok (.iconst (-1), 1) := by decide +kernel
theorem dX11_keep_45 : decode cX11_keep 45 = .ok (.iconst 0, 1) := by decide +kernel
theorem dX11_keep_46 : decode cX11_keep 46 = .ok (.invokevirtual 360, 3) := by decide +kernel
theorem dX11_keep_49 : decode cX11_keep 49 = .ok (.iload 4, 2) := by decide +kernel
theorem dX11_keep_51 : decode cX11_keep 51 = .ok (.ireturn, 1) := by decide +kernel
set_option maxHeartbeats 400000 in
theorem c11_keep {G : Gl} {l : Launch}  {M : Mem} {d : Int → Int} {w m : Int} {f n : Int} (hG : GR M) (hD : M 4 = d) (hSP : SP d) (hf : M 5 3 = f) (hf0 : 0 ≤ f) (hf1 : f < 40) (hn : M 5 4 = n) (hn0 : 0 ≤ n) (hn1 : n ≤ 40) (hFP : FP M d) (hr0 : 0 ≤ M 10 1) (hr1 : M 10 1 ≤ 1000000000) : Ct G LY 57 l 3 m11_keep [vR 0, vI w, vI m] M (RP (fun v M' => (((0 ≤ w ∧ w < d 122) ∧ 0 ≤ m ∧ m ≤ 15) ∧ ACTC M M' f n (16 + w) (d (16 + w)) (-1) 0 0 (upd1 d (16 + w) (m)) ∧ v = d (16 + w)) ∨ (¬ ((0 ≤ w ∧ w < d 122) ∧ 0 ≤ m ∧ m ≤ 15) ∧ REFC M M' d 1 ∧ v = -1))) := by
  refine R_start (by decide +kernel) (Nat.le_of_ble_eq_true rfl) (fun C hC hRm hlau => ?_)
  show RZ G LY C (Zn G LY 57 C (RP (fun v M' => (((0 ≤ w ∧ w < d 122) ∧ 0 ≤ m ∧ m ≤ 15) ∧ ACTC M M' f n (16 + w) (d (16 + w)) (-1) 0 0 (upd1 d (16 + w) (m)) ∧ v = d (16 + w)) ∨ (¬ ((0 ≤ w ∧ w < d 122) ∧ 0 ≤ m ∧ m ≤ 15) ∧ REFC M M' d 1 ∧ v = -1)))) 0 0 57 0 [some (vR 0), some (vI w), some (vI m), none, none] [] M
  have hB9 := hSP.B
  have hL0 := hSP.1.1.1
  have hL1 := hSP.1.1.2
  have hW0 := hSP.1.2.1
  have hW1 := hSP.1.2.2
  refine R_aload_0 hC dX11_keep_0 ?_
  refine R_getR hC dX11_keep_1 fl_11_23 (by decide) rfl (by decide) (by decide) (fi := 3) rfl (r := 2) (gr_0_3 hG) ?_
  refine R_getR hC dX11_keep_4 fl_11_122 (by decide) rfl (by decide) (by decide) (fi := 0) rfl (r := 3) (gr_2_0 hG) ?_
  refine R_astore_3 hC dX11_keep_7 rfl ?_
  refine R_aload_3 hC dX11_keep_8 ?_
  refine R_iload_1 hC dX11_keep_9 ?_
  refine R_callVq (as := [vI _]) hC dX11_keep_10 mo_8_isWork ml_11_285 (by decide) rfl rfl (c8_isWork_d  hD hG sh_3) rfl rfl hRm (by decide) (by decide) (Nat.le_of_ble_eq_true rfl) ?_
  refine R_if_eq hC dX11_keep_13 (tgt := 26) (by decide) (fun hb13 => ?_) (fun hb13 => ?_)
  · skip
    replace hb13 := bP_z hb13
    refine R_aload_0 hC dX11_keep_26 ?_
    refine R_callVp (as := []) hC dX11_keep_27 mo_11_refuseAct ml_11_357 (by decide) rfl rfl (c11_refuseAct  hG (by omega) (by omega)) rfl rfl hRm (by decide) (by decide) (Nat.le_of_ble_eq_true rfl) (fun v3 Mc1 hq2 => ?_)
    have hG4 : GR Mc1 := (GR.fr hG hq2.1 (by decide +kernel))
    exact R_ireturn hC dX11_keep_30 rfl (ret_P (.inr ⟨fun z => by first | exact hb13 z.1 | omega, ⟨hq2.1.mo (by simp) (by simp), hG4, hFP.fr hq2.1 (by decide +kernel), by (rw [hq2.2.1]; exact uM_same), fun j e => by (rw [hq2.2.1]; exact uM_k e)⟩, hq2.2.2⟩))
  · skip
    replace hb13 := bP_nz hb13
    refine R_iload_2 hC dX11_keep_16 ?_
    refine R_if_lt hC dX11_keep_17 (tgt := 26) (by decide) (fun hb17 => ?_) (fun hb17 => ?_)
    · skip
      refine R_aload_0 hC dX11_keep_26 ?_
      refine R_callVp (as := []) hC dX11_keep_27 mo_11_refuseAct ml_11_357 (by decide) rfl rfl (c11_refuseAct  hG (by omega) (by omega)) rfl rfl hRm (by decide) (by decide) (Nat.le_of_ble_eq_true rfl) (fun v7 Mc5 hq6 => ?_)
      have hG8 : GR Mc5 := (GR.fr hG hq6.1 (by decide +kernel))
      exact R_ireturn hC dX11_keep_30 rfl (ret_P (.inr ⟨fun z => by first | exact hb13 z.1 | omega, ⟨hq6.1.mo (by simp) (by simp), hG8, hFP.fr hq6.1 (by decide +kernel), by (rw [hq6.2.1]; exact uM_same), fun j e => by (rw [hq6.2.1]; exact uM_k e)⟩, hq6.2.2⟩))
    · skip
      refine R_iload_2 hC dX11_keep_20 ?_
      refine R_bipush hC dX11_keep_21 (by decide +kernel) ⟨by decide, by decide⟩ ?_
      refine R_icmp_le hC dX11_keep_23 (tgt := 31) (by decide) (fun hb23 => ?_) (fun hb23 => ?_)
      · skip
        refine R_aload_3 hC dX11_keep_31 ?_
        refine R_iload_1 hC dX11_keep_32 ?_
        refine R_callVq (as := [vI _]) hC dX11_keep_33 mo_8_keepOf ml_11_291 (by decide) rfl rfl (c8_keepOf_d  hD hG sh_3 (by omega) (by omega)) rfl rfl hRm (by decide) (by decide) (Nat.le_of_ble_eq_true rfl) ?_
        refine R_istore_4 hC dX11_keep_36 rfl ?_
        refine R_aload_0 hC dX11_keep_38 ?_
        refine R_bipush hC dX11_keep_39 (by decide +kernel) ⟨by decide, by decide⟩ ?_
        refine R_iload_1 hC dX11_keep_41 ?_
        refine R_iadd hC dX11_keep_42 ⟨by omega, by omega⟩ ?_
        refine R_iload_2 hC dX11_keep_43 ?_
        refine R_iconst hC dX11_keep_44 ⟨by decide, by decide⟩ ?_
        refine R_iconst hC dX11_keep_45 ⟨by decide, by decide⟩ ?_
        refine R_callVv (as := [vI _, vI _, vI _, vI _]) hC dX11_keep_46 mo_11_act ml_11_360 (by decide) rfl rfl (c11_act  hG hD hSP hf (by omega) (by omega) hn (by omega) (by omega) (by omega) (by omega) (by omega)) rfl rfl hRm (by decide) (by decide) (Nat.le_of_ble_eq_true rfl) (fun Mc9 hq10 => ?_)
        have hG11 := hq10.2.1
        refine R_iload_4 hC dX11_keep_49 ?_
        exact R_ireturn hC dX11_keep_51 rfl (ret_P (.inl ⟨⟨hb13, by omega⟩, (⟨hq10.1.mo (by simp) (by simp), hq10.2.1, hq10.2.2.1, hq10.2.2.2.1.trans (if_pos (by decide)), hq10.2.2.2.2⟩ : ACTC M Mc9 f n (16 + w) (d (16 + w)) (-1) 0 0 (upd1 d (16 + w) (m))), rfl⟩))
      · skip
        refine R_aload_0 hC dX11_keep_26 ?_
        refine R_callVp (as := []) hC dX11_keep_27 mo_11_refuseAct ml_11_357 (by decide) rfl rfl (c11_refuseAct  hG (by omega) (by omega)) rfl rfl hRm (by decide) (by decide) (Nat.le_of_ble_eq_true rfl) (fun v14 Mc12 hq13 => ?_)
        have hG15 : GR Mc12 := (GR.fr hG hq13.1 (by decide +kernel))
        exact R_ireturn hC dX11_keep_30 rfl (ret_P (.inr ⟨fun z => by first | exact hb13 z.1 | omega, ⟨hq13.1.mo (by simp) (by simp), hG15, hFP.fr hq13.1 (by decide +kernel), by (rw [hq13.2.1]; exact uM_same), fun j e => by (rw [hq13.2.1]; exact uM_k e)⟩, hq13.2.2⟩))
theorem dX11_room_0 : decode cX11_room 0 = .ok (.aload_n 0, 1) := by decide +kernel
theorem dX11_room_1 : decode cX11_room 1 = .ok (.getfield 23, 3) := by decide +kernel
theorem dX11_room_4 : decode cX11_room 4 = .ok (.getfield 122, 3) := by decide +kernel
theorem dX11_room_7 : decode cX11_room 7 = .ok (.iload_n 1, 1) := by decide +kernel
theorem dX11_room_8 : decode cX11_room 8 = .ok (.invokevirtual 234, 3) := by decide +kernel
theorem dX11_room_11 : decode cX11_room 11 = .ok (.ifCond .eq 16, 3) := by decide +kernel
theorem dX11_room_14 : decode cX11_room 14 = .ok (.iload_n 2, 1) := by decide +kernel
theorem dX11_room_15 : decode cX11_room 15 = .ok (.ifCond .eq 8, 3) := by decide +kernel
theorem dX11_room_18 : decode cX11_room 18 = .ok (.iload_n 2, 1) := by decide +kernel
theorem dX11_room_19 : decode cX11_room 19 = .ok (.iconst 1, 1) := by decide +kernel
theorem dX11_room_20 : decode cX11_room 20 = .ok (.if_icmp .ne 7, 3) := by decide +kernel
theorem dX11_room_23 : decode cX11_room 23 = .ok (.iconst 1, 1) := by decide +kernel
theorem dX11_room_24 : decode cX11_room 24 = .ok (.goto 4, 3) := by decide +kernel
theorem dX11_room_27 : decode cX11_room 27 = .ok (.iconst 0, 1) := by decide +kernel
theorem dX11_room_28 : decode cX11_room 28 = .ok (.istore 4, 2) := by decide +kernel
theorem dX11_room_30 : decode cX11_room 30 = .ok (.iload 4, 2) := by decide +kernel
theorem dX11_room_32 : decode cX11_room 32 = .ok (.ifCond .eq 13, 3) := by decide +kernel
theorem dX11_room_35 : decode cX11_room 35 = .ok (.iload_n 3, 1) := by decide +kernel
theorem dX11_room_36 : decode cX11_room 36 = .ok (.ifCond .lt 9, 3) := by decide +kernel
theorem dX11_room_39 : decode cX11_room 39 = .ok (.iload_n 3, 1) := by decide +kernel
theorem dX11_room_40 : decode cX11_room 40 = .ok (.bipush 20, 2) := by decide +kernel
theorem dX11_room_42 : decode cX11_room 42 = .ok (.if_icmp .le 8, 3) := by decide +kernel
theorem dX11_room_45 : decode cX11_room 45 = .ok (.aload_n 0, 1) := by decide +kernel
theorem dX11_room_46 : decode cX11_room 46 = .ok (.invokevirtual 357, 3) := by decide +kernel
theorem dX11_room_49 : decode cX11_room 49 = .ok (.ireturn, 1) := by decide +kernel
theorem dX11_room_50 : decode cX11_room 50 = .ok (.iload_n 2, 1) := by decide +kernel
theorem dX11_room_51 : decode cX11_room 51 = .ok (.ifCond .ne 7, 3) := by decide +kernel
theorem dX11_room_54 : decode cX11_room 54 = .ok (.iconst 0, 1) := by decide +kernel
theorem dX11_room_55 : decode cX11_room 55 = .ok (.goto 4, 3) := by decide +kernel
theorem dX11_room_58 : decode cX11_room 58 = .ok (.iconst 5, 1) := by decide +kernel
theorem dX11_room_59 : decode cX11_room 59 = .ok (.iload_n 1, 1) := by decide +kernel
theorem dX11_room_60 : decode cX11_room 60 = .ok (.iadd, 1) := by decide +kernel
theorem dX11_room_61 : decode cX11_room 61 = .ok (.istore 5, 2) := by decide +kernel
theorem dX11_room_63 : decode cX11_room 63 = .ok (.aload_n 0, 1) := by decide +kernel
theorem dX11_room_64 : decode cX11_room 64 = .ok (.getfield 23, 3) := by decide +kernel
theorem dX11_room_67 : decode cX11_room 67 = .ok (.getfield 122, 3) := by decide +kernel
theorem dX11_room_70 : decode cX11_room 70 = .ok (.getfield 192, 3) := by decide +kernel
theorem dX11_room_73 : decode cX11_room 73 = .ok (.iload 5, 2) := by decide +kernel
theorem dX11_room_75 : decode cX11_room 75 = .ok (.iaload, 1) := by decide +kernel
theorem dX11_room_76 : decode cX11_room 76 = .ok (.istore 6, 2) := by decide +kernel
theorem dX11_room_78 : decode cX11_room 78 = .ok (.aload_n 0, 1) := by decide +kernel
theorem dX11_room_79 : decode cX11_room 79 = .ok (.iload 5, 2) := by decide +kernel
theorem dX11_room_81 : decode cX11_room 81 = .ok (.iload_n 3, 1) := by decide +kernel
theorem dX11_room_82 : decode cX11_room 82 = .ok (.iconst (-1), 1) := by decide +kernel
theorem dX11_room_83 : decode cX11_room 83 = .ok (.iconst 0, 1) := by decide +kernel
theorem dX11_room_84 : decode cX11_room 84 = .ok (.invokevirtual 360, 3) := by decide +kernel
theorem dX11_room_87 : decode cX11_room 87 = .ok (.iload 6, 2) := by decide +kernel
theorem dX11_room_89 : decode cX11_room 89 = .ok (.ireturn, 1) := by decide +kernel
set_option maxHeartbeats 400000 in
theorem c11_room {G : Gl} {l : Launch}  {M : Mem} {d : Int → Int} {x y m : Int} {f n : Int} (hG : GR M) (hD : M 4 = d) (hSP : SP d) (hf : M 5 3 = f) (hf0 : 0 ≤ f) (hf1 : f < 40) (hn : M 5 4 = n) (hn0 : 0 ≤ n) (hn1 : n ≤ 40) (hFP : FP M d) (hr0 : 0 ≤ M 10 1) (hr1 : M 10 1 ≤ 1000000000) : Ct G LY 57 l 3 m11_room [vR 0, vI x, vI y, vI m] M (RP (fun v M' => (((0 ≤ x ∧ x < d 121) ∧ (0 ≤ y ∧ y ≤ 1) ∧ 0 ≤ m ∧ m ≤ 20) ∧ ACTC M M' f n ((if y = 0 then 0 else 5) + x) (d ((if y = 0 then 0 else 5) + x)) (-1) 0 0 (upd1 d ((if y = 0 then 0 else 5) + x) (m)) ∧ v = d ((if y = 0 then 0 else 5) + x)) ∨ (¬ ((0 ≤ x ∧ x < d 121) ∧ (0 ≤ y ∧ y ≤ 1) ∧ 0 ≤ m ∧ m ≤ 20) ∧ REFC M M' d 1 ∧ v = -1))) := by
  refine R_start (by decide +kernel) (Nat.le_of_ble_eq_true rfl) (fun C hC hRm hlau => ?_)
  show RZ G LY C (Zn G LY 57 C (RP (fun v M' => (((0 ≤ x ∧ x < d 121) ∧ (0 ≤ y ∧ y ≤ 1) ∧ 0 ≤ m ∧ m ≤ 20) ∧ ACTC M M' f n ((if y = 0 then 0 else 5) + x) (d ((if y = 0 then 0 else 5) + x)) (-1) 0 0 (upd1 d ((if y = 0 then 0 else 5) + x) (m)) ∧ v = d ((if y = 0 then 0 else 5) + x)) ∨ (¬ ((0 ≤ x ∧ x < d 121) ∧ (0 ≤ y ∧ y ≤ 1) ∧ 0 ≤ m ∧ m ≤ 20) ∧ REFC M M' d 1 ∧ v = -1)))) 0 0 57 0 [some (vR 0), some (vI x), some (vI y), some (vI m), none, none, none] [] M
  have hB9 := hSP.B
  have hL0 := hSP.1.1.1
  have hL1 := hSP.1.1.2
  have hW0 := hSP.1.2.1
  have hW1 := hSP.1.2.2
  refine R_aload_0 hC dX11_room_0 ?_
  refine R_getR hC dX11_room_1 fl_11_23 (by decide) rfl (by decide) (by decide) (fi := 3) rfl (r := 2) (gr_0_3 hG) ?_
  refine R_getR hC dX11_room_4 fl_11_122 (by decide) rfl (by decide) (by decide) (fi := 0) rfl (r := 3) (gr_2_0 hG) ?_
  have L28 : ∀ (t : Int), (t = bP ((0 ≤ x ∧ x < d 121) ∧ 0 ≤ y ∧ y ≤ 1)) → RZ G LY C (Zn G LY 57 C (RP (fun v M' => (((0 ≤ x ∧ x < d 121) ∧ (0 ≤ y ∧ y ≤ 1) ∧ 0 ≤ m ∧ m ≤ 20) ∧ ACTC M M' f n ((if y = 0 then 0 else 5) + x) (d ((if y = 0 then 0 else 5) + x)) (-1) 0 0 (upd1 d ((if y = 0 then 0 else 5) + x) (m)) ∧ v = d ((if y = 0 then 0 else 5) + x)) ∨ (¬ ((0 ≤ x ∧ x < d 121) ∧ (0 ≤ y ∧ y ≤ 1) ∧ 0 ≤ m ∧ m ≤ 20) ∧ REFC M M' d 1 ∧ v = -1)))) 0 0 57 28 [some (vR 0), some (vI x), some (vI y), some (vI m), none, none, none] [vI t] M := by
    intro t ht
    refine R_istore_4 hC dX11_room_28 rfl ?_
    refine R_iload_4 hC dX11_room_30 ?_
    refine R_if_eq hC dX11_room_32 (tgt := 45) (by decide) (fun hb32 => ?_) (fun hb32 => ?_)
    · skip
      have hnk := bP_z (ht.symm.trans hb32)
      refine R_aload_0 hC dX11_room_45 ?_
      refine R_callVp (as := []) hC dX11_room_46 mo_11_refuseAct ml_11_357 (by decide) rfl rfl (c11_refuseAct  hG (by omega) (by omega)) rfl rfl hRm (by decide) (by decide) (Nat.le_of_ble_eq_true rfl) (fun v3 Mc1 hq2 => ?_)
      have hG4 : GR Mc1 := (GR.fr hG hq2.1 (by decide +kernel))
      exact R_ireturn hC dX11_room_49 rfl (ret_P (.inr ⟨fun z => by first | exact hnk ⟨z.1, z.2.1⟩ | omega, ⟨hq2.1.mo (by simp) (by simp), hG4, hFP.fr hq2.1 (by decide +kernel), by (rw [hq2.2.1]; exact uM_same), fun j e => by (rw [hq2.2.1]; exact uM_k e)⟩, hq2.2.2⟩))
    · skip
      have hok := bP_nz (fun z => hb32 (ht.trans z))
      refine R_iload_3 hC dX11_room_35 ?_
      refine R_if_lt hC dX11_room_36 (tgt := 45) (by decide) (fun hb36 => ?_) (fun hb36 => ?_)
      · skip
        refine R_aload_0 hC dX11_room_45 ?_
        refine R_callVp (as := []) hC dX11_room_46 mo_11_refuseAct ml_11_357 (by decide) rfl rfl (c11_refuseAct  hG (by omega) (by omega)) rfl rfl hRm (by decide) (by decide) (Nat.le_of_ble_eq_true rfl) (fun v7 Mc5 hq6 => ?_)
        have hG8 : GR Mc5 := (GR.fr hG hq6.1 (by decide +kernel))
        exact R_ireturn hC dX11_room_49 rfl (ret_P (.inr ⟨fun z => by first | exact hnk ⟨z.1, z.2.1⟩ | omega, ⟨hq6.1.mo (by simp) (by simp), hG8, hFP.fr hq6.1 (by decide +kernel), by (rw [hq6.2.1]; exact uM_same), fun j e => by (rw [hq6.2.1]; exact uM_k e)⟩, hq6.2.2⟩))
      · skip
        refine R_iload_3 hC dX11_room_39 ?_
        refine R_bipush hC dX11_room_40 (by decide +kernel) ⟨by decide, by decide⟩ ?_
        refine R_icmp_le hC dX11_room_42 (tgt := 50) (by decide) (fun hb42 => ?_) (fun hb42 => ?_)
        · skip
          have L59 : ∀ (b : Int), (b = if y = 0 then 0 else 5) → RZ G LY C (Zn G LY 57 C (RP (fun v M' => (((0 ≤ x ∧ x < d 121) ∧ (0 ≤ y ∧ y ≤ 1) ∧ 0 ≤ m ∧ m ≤ 20) ∧ ACTC M M' f n ((if y = 0 then 0 else 5) + x) (d ((if y = 0 then 0 else 5) + x)) (-1) 0 0 (upd1 d ((if y = 0 then 0 else 5) + x) (m)) ∧ v = d ((if y = 0 then 0 else 5) + x)) ∨ (¬ ((0 ≤ x ∧ x < d 121) ∧ (0 ≤ y ∧ y ≤ 1) ∧ 0 ≤ m ∧ m ≤ 20) ∧ REFC M M' d 1 ∧ v = -1)))) 0 0 57 59 [some (vR 0), some (vI x), some (vI y), some (vI m), some (vI t), none, none] [vI b] M := by
            intro b hbb
            have hb5 : b = 0 ∨ b = 5 := by rw [hbb]; split; (exact .inl rfl); exact .inr rfl
            refine R_iload_1 hC dX11_room_59 ?_
            refine R_iadd hC dX11_room_60 ⟨by omega, by omega⟩ ?_
            refine R_istore_5 hC dX11_room_61 rfl ?_
            refine R_aload_0 hC dX11_room_63 ?_
            refine R_getR hC dX11_room_64 fl_11_23 (by decide) rfl (by decide) (by decide) (fi := 3) rfl (r := 2) (gr_0_3 hG) ?_
            refine R_getR hC dX11_room_67 fl_11_122 (by decide) rfl (by decide) (by decide) (fi := 0) rfl (r := 3) (gr_2_0 hG) ?_
            refine R_getR hC dX11_room_70 fl_11_192 (by decide) rfl (by decide) (by decide) (fi := 0) rfl (r := 4) (gr_3_0 hG) ?_
            refine R_iload_5 hC dX11_room_73 ?_
            refine R_ialoadE hC dX11_room_75 (by decide) rfl (by omega) (by omega) (congrFun hD _) ?_
            refine R_istore_6 hC dX11_room_76 rfl ?_
            refine R_aload_0 hC dX11_room_78 ?_
            refine R_iload_5 hC dX11_room_79 ?_
            refine R_iload_3 hC dX11_room_81 ?_
            refine R_iconst hC dX11_room_82 ⟨by decide, by decide⟩ ?_
            refine R_iconst hC dX11_room_83 ⟨by decide, by decide⟩ ?_
            refine R_callVv (as := [vI _, vI _, vI _, vI _]) hC dX11_room_84 mo_11_act ml_11_360 (by decide) rfl rfl (c11_act  hG hD hSP hf (by omega) (by omega) hn (by omega) (by omega) (by omega) (by omega) (by omega)) rfl rfl hRm (by decide) (by decide) (Nat.le_of_ble_eq_true rfl) (fun Mc9 hq10 => ?_)
            have hG11 := hq10.2.1
            refine R_iload_6 hC dX11_room_87 ?_
            exact R_ireturn hC dX11_room_89 rfl (ret_P (.inl ⟨⟨hok.1, hok.2, by omega⟩, (hbb ▸ (⟨hq10.1.mo (by simp) (by simp), hq10.2.1, hq10.2.2.1, hq10.2.2.2.1.trans (if_pos (by decide)), hq10.2.2.2.2⟩ : ACTC M Mc9 f n (b + x) (d (b + x)) (-1) 0 0 (upd1 d (b + x) (m)))), congrArg (fun q => d (q + x)) hbb⟩))
          refine R_iload_2 hC dX11_room_50 ?_
          refine R_if_ne hC dX11_room_51 (tgt := 58) (by decide) (fun hb51 => ?_) (fun hb51 => ?_)
          · skip
            refine R_iconst hC dX11_room_58 ⟨by decide, by decide⟩ ?_
            exact L59 _ (by first | exact (if_pos (by omega)).symm | exact (if_neg (by omega)).symm)
          · skip
            refine R_iconst hC dX11_room_54 ⟨by decide, by decide⟩ ?_
            refine R_goto hC dX11_room_55 (tgt := 59) (by decide) ?_
            exact L59 _ (by first | exact (if_pos (by omega)).symm | exact (if_neg (by omega)).symm)
        · skip
          refine R_aload_0 hC dX11_room_45 ?_
          refine R_callVp (as := []) hC dX11_room_46 mo_11_refuseAct ml_11_357 (by decide) rfl rfl (c11_refuseAct  hG (by omega) (by omega)) rfl rfl hRm (by decide) (by decide) (Nat.le_of_ble_eq_true rfl) (fun v14 Mc12 hq13 => ?_)
          have hG15 : GR Mc12 := (GR.fr hG hq13.1 (by decide +kernel))
          exact R_ireturn hC dX11_room_49 rfl (ret_P (.inr ⟨fun z => by first | exact hnk ⟨z.1, z.2.1⟩ | omega, ⟨hq13.1.mo (by simp) (by simp), hG15, hFP.fr hq13.1 (by decide +kernel), by (rw [hq13.2.1]; exact uM_same), fun j e => by (rw [hq13.2.1]; exact uM_k e)⟩, hq13.2.2⟩))
  refine R_iload_1 hC dX11_room_7 ?_
  refine R_callVq (as := [vI _]) hC dX11_room_8 mo_8_isLibrary ml_11_234 (by decide) rfl rfl (c8_isLibrary_d  hD hG sh_3) rfl rfl hRm (by decide) (by decide) (Nat.le_of_ble_eq_true rfl) ?_
  refine R_if_eq hC dX11_room_11 (tgt := 27) (by decide) (fun hb11 => ?_) (fun hb11 => ?_)
  · skip
    replace hb11 := bP_z hb11
    refine R_iconst hC dX11_room_27 ⟨by decide, by decide⟩ ?_
    exact L28 _ (by first | exact (bP_pos ⟨hb11, by omega⟩).symm | exact (bP_neg (fun z => hb11 z.1)).symm | exact (bP_neg (fun z => by omega)).symm)
  · skip
    replace hb11 := bP_nz hb11
    refine R_iload_2 hC dX11_room_14 ?_
    refine R_if_eq hC dX11_room_15 (tgt := 23) (by decide) (fun hb15 => ?_) (fun hb15 => ?_)
    · skip
      refine R_iconst hC dX11_room_23 ⟨by decide, by decide⟩ ?_
      refine R_goto hC dX11_room_24 (tgt := 28) (by decide) ?_
      exact L28 _ (by first | exact (bP_pos ⟨hb11, by omega⟩).symm | exact (bP_neg (fun z => hb11 z.1)).symm | exact (bP_neg (fun z => by omega)).symm)
    · skip
      refine R_iload_2 hC dX11_room_18 ?_
      refine R_iconst hC dX11_room_19 ⟨by decide, by decide⟩ ?_
      refine R_icmp_ne hC dX11_room_20 (tgt := 27) (by decide) (fun hb20 => ?_) (fun hb20 => ?_)
      · skip
        refine R_iconst hC dX11_room_27 ⟨by decide, by decide⟩ ?_
        exact L28 _ (by first | exact (bP_pos ⟨hb11, by omega⟩).symm | exact (bP_neg (fun z => hb11 z.1)).symm | exact (bP_neg (fun z => by omega)).symm)
      · skip
        refine R_iconst hC dX11_room_23 ⟨by decide, by decide⟩ ?_
        refine R_goto hC dX11_room_24 (tgt := 28) (by decide) ?_
        exact L28 _ (by first | exact (bP_pos ⟨hb11, by omega⟩).symm | exact (bP_neg (fun z => hb11 z.1)).symm | exact (bP_neg (fun z => by omega)).symm)
theorem dX11_go_0 : decode cX11_go 0 = .ok (.aload_n 0, 1) := by decide +kernel
theorem dX11_go_1 : decode cX11_go 1 = .ok (.getfield 23, 3) := by decide +kernel
theorem dX11_go_4 : decode cX11_go 4 = .ok (.getfield 122, 3) := by decide +kernel
theorem dX11_go_7 : decode cX11_go 7 = .ok (.astore_n 3, 1) := by decide +kernel
theorem dX11_go_8 : decode cX11_go 8 = .ok (.aload_n 3, 1) := by decide +kernel
theorem dX11_go_9 : decode cX11_go 9 = .ok (.iload_n 1, 1) := by decide +kernel
theorem dX11_go_10 : decode cX11_go 10 = .ok (.iload_n 2, 1) := by decide +kernel
theorem dX11_go_11 : decode cX11_go 11 = .ok (.invokevirtual 319, 3) := by decide +kernel
theorem dX11_go_14 : decode cX11_go 14 = .ok (.ifCond .eq 12, 3) := by decide +kernel
theorem dX11_go_17 : decode cX11_go 17 = .ok (.aload_n 3, 1) := by decide +kernel
theorem dX11_go_18 : decode cX11_go 18 = .ok (.iload_n 1, 1) := by decide +kernel
theorem dX11_go_19 : decode cX11_go 19 = .ok (.iload_n 2, 1) := by decide +kernel
theorem dX11_go_20 : decode cX11_go 20 = .ok (.invokevirtual 364, 3) := by decide +kernel
theorem dX11_go_23 : decode cX11_go 23 = .ok (.ifCond .ne 8, 3) := by decide +kernel
theorem dX11_go_26 : decode cX11_go 26 = .ok (.aload_n 0, 1) := by decide +kernel
theorem dX11_go_27 : decode cX11_go 27 = .ok (.invokevirtual 357, 3) := by decide +kernel
theorem dX11_go_30 : decode cX11_go 30 = .ok (.ireturn, 1) := by decide +kernel
theorem dX11_go_31 : decode cX11_go 31 = .ok (.bipush 28, 2) := by decide +kernel
theorem dX11_go_33 : decode cX11_go 33 = .ok (.iload_n 1, 1) := by decide +kernel
theorem dX11_go_34 : decode cX11_go 34 = .ok (.iload_n 2, 1) := by decide +kernel
theorem dX11_go_35 : decode cX11_go 35 = .ok (.invokestatic 342, 3) := by decide +kernel
theorem dX11_go_38 : decode cX11_go 38 = .ok (.iadd, 1) := by decide +kernel
theorem dX11_go_39 : decode cX11_go 39 = .ok (.istore 4, 2) := by decide +kernel
theorem dX11_go_41 : decode cX11_go 41 = .ok (.aload_n 0, 1) := by decide +kernel
theorem dX11_go_42 : decode cX11_go 42 = .ok (.iload 4, 2) := by decide +kernel
theorem dX11_go_44 : decode cX11_go 44 = .ok (.aload_n 3, 1) := by decide +kernel
theorem dX11_go_45 : decode cX11_go 45 = .ok (.getfield 192, 3) := by decide +kernel
theorem dX11_go_48 : decode cX11_go 48 = .ok (.iload 4, 2) := by decide +kernel
theorem dX11_go_50 : decode cX11_go 50 = .ok (.iaload, 1) := by decide +kernel
theorem dX11_go_51 : decode cX11_go 51 = .ok (.iconst 1, 1) := by decide +kernel
theorem dX11_go_52 : decode cX11_go 52 = .ok (.isub, 1) := by decide +kernel
theorem dX11_go_53 : decode cX11_go 53 = .ok (.bipush 119, 2) := by decide +kernel
theorem dX11_go_55 : decode cX11_go 55 = .ok (.aload_n 3, 1) := by decide +kernel
theorem dX11_go_56 : decode cX11_go 56 = .ok (.getfield 192, 3) := by decide +kernel
theorem dX11_go_59 : decode cX11_go 59 = .ok (.bipush 119, 2) := by decide +kernel
theorem dX11_go_61 : decode cX11_go 61 = .ok (.iaload, 1) := by decide +kernel
theorem dX11_go_62 : decode cX11_go 62 = .ok (.iconst 1, 1) := by decide +kernel
theorem dX11_go_63 : decode cX11_go 63 = .ok (.iadd, 1) := by decide +kernel
theorem dX11_go_64 : decode cX11_go 64 = .ok (.invokevirtual 360, 3) := by decide +kernel
theorem dX11_go_67 : decode cX11_go 67 = .ok (.aload_n 3, 1) := by decide +kernel
theorem dX11_go_68 : decode cX11_go 68 = .ok (.iload_n 2, 1) := by decide +kernel
theorem dX11_go_69 : decode cX11_go 69 = .ok (.invokevirtual 297, 3) := by decide +kernel
theorem dX11_go_72 : decode cX11_go 72 = .ok (.ireturn, 1) := by decide +kernel
set_option maxHeartbeats 400000 in
theorem c11_go {G : Gl} {l : Launch}  {M : Mem} {d : Int → Int} {x w : Int} {f n : Int} (hG : GR M) (hD : M 4 = d) (hSP : SP d) (hf : M 5 3 = f) (hf0 : 0 ≤ f) (hf1 : f < 40) (hn : M 5 4 = n) (hn0 : 0 ≤ n) (hn1 : n ≤ 40) (hFP : FP M d) (hr0 : 0 ≤ M 10 1) (hr1 : M 10 1 ≤ 1000000000) (hb9 : d 119 ≤ 89900) : Ct G LY 57 l 3 m11_go [vR 0, vI x, vI w] M (RP (fun v M' => ((((0 ≤ x ∧ x < d 121) ∧ 0 ≤ w ∧ w < d 122) ∧ mayGo d x w) ∧ ACTC M M' f n (28 + (x * 6 + w)) (d (28 + (x * 6 + w))) (119) (d (119)) 0 (upd1 (upd1 d (28 + (x * 6 + w)) (d (28 + (x * 6 + w)) - 1)) (119) (d 119 + 1)) ∧ v = spr (upd1 (upd1 d (28 + (x * 6 + w)) (d (28 + (x * 6 + w)) - 1)) 119 (d 119 + 1)) w) ∨ (¬ (((0 ≤ x ∧ x < d 121) ∧ 0 ≤ w ∧ w < d 122) ∧ mayGo d x w) ∧ REFC M M' d 1 ∧ v = -1))) := by
  refine R_start (by decide +kernel) (Nat.le_of_ble_eq_true rfl) (fun C hC hRm hlau => ?_)
  show RZ G LY C (Zn G LY 57 C (RP (fun v M' => ((((0 ≤ x ∧ x < d 121) ∧ 0 ≤ w ∧ w < d 122) ∧ mayGo d x w) ∧ ACTC M M' f n (28 + (x * 6 + w)) (d (28 + (x * 6 + w))) (119) (d (119)) 0 (upd1 (upd1 d (28 + (x * 6 + w)) (d (28 + (x * 6 + w)) - 1)) (119) (d 119 + 1)) ∧ v = spr (upd1 (upd1 d (28 + (x * 6 + w)) (d (28 + (x * 6 + w)) - 1)) 119 (d 119 + 1)) w) ∨ (¬ (((0 ≤ x ∧ x < d 121) ∧ 0 ≤ w ∧ w < d 122) ∧ mayGo d x w) ∧ REFC M M' d 1 ∧ v = -1)))) 0 0 57 0 [some (vR 0), some (vI x), some (vI w), none, none] [] M
  have hB9 := hSP.B
  have hL0 := hSP.1.1.1
  have hL1 := hSP.1.1.2
  have hW0 := hSP.1.2.1
  have hW1 := hSP.1.2.2
  have h119 := hSP.2.2.2.2.1.2.1
  refine R_aload_0 hC dX11_go_0 ?_
  refine R_getR hC dX11_go_1 fl_11_23 (by decide) rfl (by decide) (by decide) (fi := 3) rfl (r := 2) (gr_0_3 hG) ?_
  refine R_getR hC dX11_go_4 fl_11_122 (by decide) rfl (by decide) (by decide) (fi := 0) rfl (r := 3) (gr_2_0 hG) ?_
  refine R_astore_3 hC dX11_go_7 rfl ?_
  refine R_aload_3 hC dX11_go_8 ?_
  refine R_iload_1 hC dX11_go_9 ?_
  refine R_iload_2 hC dX11_go_10 ?_
  refine R_callVq (as := [vI _, vI _]) hC dX11_go_11 mo_8_isPair ml_11_319 (by decide) rfl rfl (c8_isPair_d  hD hG sh_3) rfl rfl hRm (by decide) (by decide) (Nat.le_of_ble_eq_true rfl) ?_
  refine R_if_eq hC dX11_go_14 (tgt := 26) (by decide) (fun hb14 => ?_) (fun hb14 => ?_)
  · skip
    replace hb14 := bP_z hb14
    refine R_aload_0 hC dX11_go_26 ?_
    refine R_callVp (as := []) hC dX11_go_27 mo_11_refuseAct ml_11_357 (by decide) rfl rfl (c11_refuseAct  hG (by omega) (by omega)) rfl rfl hRm (by decide) (by decide) (Nat.le_of_ble_eq_true rfl) (fun v3 Mc1 hq2 => ?_)
    have hG4 : GR Mc1 := (GR.fr hG hq2.1 (by decide +kernel))
    exact R_ireturn hC dX11_go_30 rfl (ret_P (.inr ⟨fun z => by first | exact hb14 z.1 | exact hb23 z.2, ⟨hq2.1.mo (by simp) (by simp), hG4, hFP.fr hq2.1 (by decide +kernel), by (rw [hq2.2.1]; exact uM_same), fun j e => by (rw [hq2.2.1]; exact uM_k e)⟩, hq2.2.2⟩))
  · skip
    replace hb14 := bP_nz hb14
    refine R_aload_3 hC dX11_go_17 ?_
    refine R_iload_1 hC dX11_go_18 ?_
    refine R_iload_2 hC dX11_go_19 ?_
    refine R_callVq (as := [vI _, vI _]) hC dX11_go_20 mo_8_mayGo ml_11_364 (by decide) rfl rfl (c8_mayGo_d  hD hG sh_3 hSP.B (by omega) (by omega) (by omega) (by omega)) rfl rfl hRm (by decide) (by decide) (Nat.le_of_ble_eq_true rfl) ?_
    refine R_if_ne hC dX11_go_23 (tgt := 31) (by decide) (fun hb23 => ?_) (fun hb23 => ?_)
    · skip
      replace hb23 := bP_nz hb23
      have hdp := hSP.2.2.2.1 (x * 6 + w) (by omega) (by omega)
      have hgo := hb23
      have hof := (hSP.off (x := x) (w := w) (by omega) (by omega) (by omega) (by omega)).2
      have hoo := hgo.1
      have hcx : d (28 + (x * 6 + w)) = d (28 + x * 6 + w) := congrArg d (by omega)
      have hSn : SB (upd1 (upd1 d (28 + (x * 6 + w)) (d (28 + (x * 6 + w)) - 1)) 119 (d 119 + 1)) := (((hSP.cell (p := x * 6 + w) (v := d (28 + (x * 6 + w)) - 1) (by omega) (by omega) (by omega) (by omega)).went (v := d 119 + 1) (by omega) (by omega))).B
      refine R_bipush hC dX11_go_31 (by decide +kernel) ⟨by decide, by decide⟩ ?_
      refine R_iload_1 hC dX11_go_33 ?_
      refine R_iload_2 hC dX11_go_34 ?_
      refine R_callSq (as := [vI _, vI _]) hC dX11_go_35 mo_11_pairOf ml_11_342 (c11_pairOf  (by omega) (by omega) (by omega) (by omega)) rfl rfl hRm (by decide) (by decide) (Nat.le_of_ble_eq_true rfl) ?_
      refine R_iadd hC dX11_go_38 ⟨by omega, by omega⟩ ?_
      refine R_istore_4 hC dX11_go_39 rfl ?_
      refine R_aload_0 hC dX11_go_41 ?_
      refine R_iload_4 hC dX11_go_42 ?_
      refine R_aload_3 hC dX11_go_44 ?_
      refine R_getR hC dX11_go_45 fl_11_192 (by decide) rfl (by decide) (by decide) (fi := 0) rfl (r := 4) (gr_3_0 hG) ?_
      refine R_iload_4 hC dX11_go_48 ?_
      refine R_ialoadE hC dX11_go_50 (by decide) rfl (by omega) (by omega) (congrFun hD _) ?_
      refine R_iconst hC dX11_go_51 ⟨by decide, by decide⟩ ?_
      refine R_isub hC dX11_go_52 ⟨by omega, by omega⟩ ?_
      refine R_bipush hC dX11_go_53 (by decide +kernel) ⟨by decide, by decide⟩ ?_
      refine R_aload_3 hC dX11_go_55 ?_
      refine R_getR hC dX11_go_56 fl_11_192 (by decide) rfl (by decide) (by decide) (fi := 0) rfl (r := 4) (gr_3_0 hG) ?_
      refine R_bipush hC dX11_go_59 (by decide +kernel) ⟨by decide, by decide⟩ ?_
      refine R_ialoadE hC dX11_go_61 (by decide) rfl (by omega) (by omega) (congrFun hD _) ?_
      refine R_iconst hC dX11_go_62 ⟨by decide, by decide⟩ ?_
      refine R_iadd hC dX11_go_63 ⟨by omega, by omega⟩ ?_
      refine R_callVv (as := [vI _, vI _, vI _, vI _]) hC dX11_go_64 mo_11_act ml_11_360 (by decide) rfl rfl (c11_act  hG hD hSP hf (by omega) (by omega) hn (by omega) (by omega) (by omega) (by omega) (by omega)) rfl rfl hRm (by decide) (by decide) (Nat.le_of_ble_eq_true rfl) (fun Mc5 hq6 => ?_)
      have hG7 := hq6.2.1
      have hr8 : Mc5 4 = (upd1 (upd1 d (28 + (x * 6 + w)) (d (28 + (x * 6 + w)) - 1)) 119 (d 119 + 1)) := hq6.2.2.2.1.trans (if_neg (by decide))
      have hA : ACTC M Mc5 f n (28 + (x * 6 + w)) (d (28 + (x * 6 + w))) 119 (d 119) 0 (upd1 (upd1 d (28 + (x * 6 + w)) (d (28 + (x * 6 + w)) - 1)) 119 (d 119 + 1)) := by
          have z := hq6.2
          rw [if_neg (show ¬ ((119) : Int) < 0 by decide), if_neg (show ¬ ((119) : Int) < 0 by decide)] at z
          exact ⟨hq6.1.mo (by simp) (by simp), z⟩
      have h4n := hA.2.2.2.1
      refine R_aload_3 hC dX11_go_67 ?_
      refine R_iload_2 hC dX11_go_68 ?_
      refine R_callVq (as := [vI _]) hC dX11_go_69 mo_8_spareOf ml_11_297 (by decide) rfl rfl (c8_spareOf_d  hr8 hG7 sh_3 hSn (by omega) (by omega)) rfl rfl hRm (by decide) (by decide) (Nat.le_of_ble_eq_true rfl) ?_
      have e69_9 := spr_bd (w := w) hSn (by omega) (by omega)
      exact R_ireturn hC dX11_go_72 rfl (ret_P (.inl ⟨⟨hb14, hgo⟩, hA, rfl⟩))
    · skip
      replace hb23 := bP_z hb23
      refine R_aload_0 hC dX11_go_26 ?_
      refine R_callVp (as := []) hC dX11_go_27 mo_11_refuseAct ml_11_357 (by decide) rfl rfl (c11_refuseAct  hG (by omega) (by omega)) rfl rfl hRm (by decide) (by decide) (Nat.le_of_ble_eq_true rfl) (fun v12 Mc10 hq11 => ?_)
      have hG13 : GR Mc10 := (GR.fr hG hq11.1 (by decide +kernel))
      exact R_ireturn hC dX11_go_30 rfl (ret_P (.inr ⟨fun z => by first | exact hb14 z.1 | exact hb23 z.2, ⟨hq11.1.mo (by simp) (by simp), hG13, hFP.fr hq11.1 (by decide +kernel), by (rw [hq11.2.1]; exact uM_same), fun j e => by (rw [hq11.2.1]; exact uM_k e)⟩, hq11.2.2⟩))
theorem dX11_give_0 : decode cX11_give 0 = .ok (.aload_n 0, 1) := by decide +kernel
theorem dX11_give_1 : decode cX11_give 1 = .ok (.getfield 23, 3) := by decide +kernel
theorem dX11_give_4 : decode cX11_give 4 = .ok (.getfield 122, 3) := by decide +kernel
theorem dX11_give_7 : decode cX11_give 7 = .ok (.astore 4, 2) := by decide +kernel
theorem dX11_give_9 : decode cX11_give 9 = .ok (.aload 4, 2) := by decide +kernel
theorem dX11_give_11 : decode cX11_give 11 = .ok (.iload_n 1, 1) := by decide +kernel
theorem dX11_give_12 : decode cX11_give 12 = .ok (.iload_n 3, 1) := by decide +kernel
theorem dX11_give_13 : decode cX11_give 13 = .ok (.invokevirtual 319, 3) := by decide +kernel
theorem dX11_give_16 : decode cX11_give 16 = .ok (.ifCond .eq 23, 3) := by decide +kernel
theorem dX11_give_19 : decode cX11_give 19 = .ok (.aload 4, 2) := by decide +kernel
theorem dX11_give_21 : decode cX11_give 21 = .ok (.iload_n 2, 1) := by decide +kernel
theorem dX11_give_22 : decode cX11_give 22 = .ok (.invokevirtual 234, 3) := by decide +kernel
theorem dX11_give_25 : decode cX11_give 25 = .ok (.ifCond .eq 14, 3) := by decide +kernel
theorem dX11_give_28 : decode cX11_give 28 = .ok (.aload 4, 2) := by decide +kernel
theorem dX11_give_30 : decode cX11_give 30 = .ok (.iload_n 1, 1) := by decide +kernel
theorem dX11_give_31 : decode cX11_give 31 = .ok (.iload_n 2, 1) := by decide +kernel
theorem dX11_give_32 : decode cX11_give 32 = .ok (.iload_n 3, 1) := by decide +kernel
theorem dX11_give_33 : decode cX11_give 33 = .ok (.invokevirtual 367, 3) := by decide +kernel
theorem dX11_give_36 : decode cX11_give 36 = .ok (.ifCond .ne 8, 3) := by decide +kernel
theorem dX11_give_39 : decode cX11_give 39 = .ok (.aload_n 0, 1) := by decide +kernel
theorem dX11_give_40 : decode cX11_give 40 = .ok (.invokevirtual 357, 3) := by decide +kernel
theorem dX11_give_43 : decode cX11_give 43 = .ok (.ireturn, 1) := by decide +kernel
theorem dX11_give_44 : decode cX11_give 44 = .ok (.bipush 28, 2) := by decide +kernel
theorem dX11_give_46 : decode cX11_give 46 = .ok (.iload_n 1, 1) := by decide +kernel
theorem dX11_give_47 : decode cX11_give 47 = .ok (.iload_n 3, 1) := by decide +kernel
theorem dX11_give_48 : decode cX11_give 48 = .ok (.invokestatic 342, 3) := by decide +kernel
theorem dX11_give_51 : decode cX11_give 51 = .ok (.iadd, 1) := by decide +kernel
theorem dX11_give_52 : decode cX11_give 52 = .ok (.istore 5, 2) := by decide +kernel
theorem dX11_give_54 : decode cX11_give 54 = .ok (.bipush 28, 2) := by decide +kernel
theorem dX11_give_56 : decode cX11_give 56 = .ok (.iload_n 2, 1) := by decide +kernel
theorem dX11_give_57 : decode cX11_give 57 = .ok (.iload_n 3, 1) := by decide +kernel
theorem dX11_give_58 : decode cX11_give 58 = .ok (.invokestatic 342, 3) := by decide +kernel
theorem dX11_give_61 : decode cX11_give 61 = .ok (.iadd, 1) := by decide +kernel
theorem dX11_give_62 : decode cX11_give 62 = .ok (.istore 6, 2) := by decide +kernel
theorem dX11_give_64 : decode cX11_give 64 = .ok (.aload_n 0, 1) := by decide +kernel
theorem dX11_give_65 : decode cX11_give 65 = .ok (.iload 5, 2) := by decide +kernel
theorem dX11_give_67 : decode cX11_give 67 = .ok (.aload 4, 2) := by decide +kernel
theorem dX11_give_69 : decode cX11_give 69 = .ok (.getfield 192, 3) := by decide +kernel
theorem dX11_give_72 : decode cX11_give 72 = .ok (.iload 5, 2) := by decide +kernel
theorem dX11_give_74 : decode cX11_give 74 = .ok (.iaload, 1) := by decide +kernel
theorem dX11_give_75 : decode cX11_give 75 = .ok (.iconst 1, 1) := by decide +kernel
theorem dX11_give_76 : decode cX11_give 76 = .ok (.isub, 1) := by decide +kernel
theorem dX11_give_77 : decode cX11_give 77 = .ok (.iload 6, 2) := by decide +kernel
theorem dX11_give_79 : decode cX11_give 79 = .ok (.aload 4, 2) := by decide +kernel
theorem dX11_give_81 : decode cX11_give 81 = .ok (.getfield 192, 3) := by decide +kernel
theorem dX11_give_84 : decode cX11_give 84 = .ok (.iload 6, 2) := by decide +kernel
theorem dX11_give_86 : decode cX11_give 86 = .ok (.iaload, 1) := by decide +kernel
theorem dX11_give_87 : decode cX11_give 87 = .ok (.iconst 1, 1) := by decide +kernel
theorem dX11_give_88 : decode cX11_give 88 = .ok (.iadd, 1) := by decide +kernel
theorem dX11_give_89 : decode cX11_give 89 = .ok (.invokevirtual 360, 3) := by decide +kernel
theorem dX11_give_92 : decode cX11_give 92 = .ok (.aload 4, 2) := by decide +kernel
theorem dX11_give_94 : decode cX11_give 94 = .ok (.getfield 192, 3) := by decide +kernel
theorem dX11_give_97 : decode cX11_give 97 = .ok (.iload 6, 2) := by decide +kernel
theorem dX11_give_99 : decode cX11_give 99 = .ok (.iaload, 1) := by decide +kernel
theorem dX11_give_100 : decode cX11_give 100 = .ok (.ireturn, 1) := by decide +kernel
set_option maxHeartbeats 400000 in
theorem c11_give {G : Gl} {l : Launch}  {M : Mem} {d : Int → Int} {x t w : Int} {f n : Int} (hG : GR M) (hD : M 4 = d) (hSP : SP d) (hf : M 5 3 = f) (hf0 : 0 ≤ f) (hf1 : f < 40) (hn : M 5 4 = n) (hn0 : 0 ≤ n) (hn1 : n ≤ 40) (hFP : FP M d) (hr0 : 0 ≤ M 10 1) (hr1 : M 10 1 ≤ 1000000000) : Ct G LY 57 l 3 m11_give [vR 0, vI x, vI t, vI w] M (RP (fun v M' => ((((0 ≤ x ∧ x < d 121) ∧ 0 ≤ w ∧ w < d 122) ∧ (0 ≤ t ∧ t < d 121) ∧ mayGive d x t w) ∧ ACTC M M' f n (28 + (x * 6 + w)) (d (28 + (x * 6 + w))) (28 + (t * 6 + w)) (d (28 + (t * 6 + w))) 0 (upd1 (upd1 d (28 + (x * 6 + w)) (d (28 + (x * 6 + w)) - 1)) (28 + (t * 6 + w)) (d (28 + (t * 6 + w)) + 1)) ∧ v = d (28 + (t * 6 + w)) + 1) ∨ (¬ (((0 ≤ x ∧ x < d 121) ∧ 0 ≤ w ∧ w < d 122) ∧ (0 ≤ t ∧ t < d 121) ∧ mayGive d x t w) ∧ REFC M M' d 1 ∧ v = -1))) := by
  refine R_start (by decide +kernel) (Nat.le_of_ble_eq_true rfl) (fun C hC hRm hlau => ?_)
  show RZ G LY C (Zn G LY 57 C (RP (fun v M' => ((((0 ≤ x ∧ x < d 121) ∧ 0 ≤ w ∧ w < d 122) ∧ (0 ≤ t ∧ t < d 121) ∧ mayGive d x t w) ∧ ACTC M M' f n (28 + (x * 6 + w)) (d (28 + (x * 6 + w))) (28 + (t * 6 + w)) (d (28 + (t * 6 + w))) 0 (upd1 (upd1 d (28 + (x * 6 + w)) (d (28 + (x * 6 + w)) - 1)) (28 + (t * 6 + w)) (d (28 + (t * 6 + w)) + 1)) ∧ v = d (28 + (t * 6 + w)) + 1) ∨ (¬ (((0 ≤ x ∧ x < d 121) ∧ 0 ≤ w ∧ w < d 122) ∧ (0 ≤ t ∧ t < d 121) ∧ mayGive d x t w) ∧ REFC M M' d 1 ∧ v = -1)))) 0 0 57 0 [some (vR 0), some (vI x), some (vI t), some (vI w), none, none, none] [] M
  have hB9 := hSP.B
  have hL0 := hSP.1.1.1
  have hL1 := hSP.1.1.2
  have hW0 := hSP.1.2.1
  have hW1 := hSP.1.2.2
  refine R_aload_0 hC dX11_give_0 ?_
  refine R_getR hC dX11_give_1 fl_11_23 (by decide) rfl (by decide) (by decide) (fi := 3) rfl (r := 2) (gr_0_3 hG) ?_
  refine R_getR hC dX11_give_4 fl_11_122 (by decide) rfl (by decide) (by decide) (fi := 0) rfl (r := 3) (gr_2_0 hG) ?_
  refine R_astore_4 hC dX11_give_7 rfl ?_
  refine R_aload_4 hC dX11_give_9 ?_
  refine R_iload_1 hC dX11_give_11 ?_
  refine R_iload_3 hC dX11_give_12 ?_
  refine R_callVq (as := [vI _, vI _]) hC dX11_give_13 mo_8_isPair ml_11_319 (by decide) rfl rfl (c8_isPair_d  hD hG sh_3) rfl rfl hRm (by decide) (by decide) (Nat.le_of_ble_eq_true rfl) ?_
  refine R_if_eq hC dX11_give_16 (tgt := 39) (by decide) (fun hb16 => ?_) (fun hb16 => ?_)
  · skip
    replace hb16 := bP_z hb16
    refine R_aload_0 hC dX11_give_39 ?_
    refine R_callVp (as := []) hC dX11_give_40 mo_11_refuseAct ml_11_357 (by decide) rfl rfl (c11_refuseAct  hG (by omega) (by omega)) rfl rfl hRm (by decide) (by decide) (Nat.le_of_ble_eq_true rfl) (fun v3 Mc1 hq2 => ?_)
    have hG4 : GR Mc1 := (GR.fr hG hq2.1 (by decide +kernel))
    exact R_ireturn hC dX11_give_43 rfl (ret_P (.inr ⟨fun z => by first | exact hb16 z.1 | exact hb25 z.2.1 | exact hb36 z.2.2, ⟨hq2.1.mo (by simp) (by simp), hG4, hFP.fr hq2.1 (by decide +kernel), by (rw [hq2.2.1]; exact uM_same), fun j e => by (rw [hq2.2.1]; exact uM_k e)⟩, hq2.2.2⟩))
  · skip
    replace hb16 := bP_nz hb16
    refine R_aload_4 hC dX11_give_19 ?_
    refine R_iload_2 hC dX11_give_21 ?_
    refine R_callVq (as := [vI _]) hC dX11_give_22 mo_8_isLibrary ml_11_234 (by decide) rfl rfl (c8_isLibrary_d  hD hG sh_3) rfl rfl hRm (by decide) (by decide) (Nat.le_of_ble_eq_true rfl) ?_
    refine R_if_eq hC dX11_give_25 (tgt := 39) (by decide) (fun hb25 => ?_) (fun hb25 => ?_)
    · skip
      replace hb25 := bP_z hb25
      refine R_aload_0 hC dX11_give_39 ?_
      refine R_callVp (as := []) hC dX11_give_40 mo_11_refuseAct ml_11_357 (by decide) rfl rfl (c11_refuseAct  hG (by omega) (by omega)) rfl rfl hRm (by decide) (by decide) (Nat.le_of_ble_eq_true rfl) (fun v7 Mc5 hq6 => ?_)
      have hG8 : GR Mc5 := (GR.fr hG hq6.1 (by decide +kernel))
      exact R_ireturn hC dX11_give_43 rfl (ret_P (.inr ⟨fun z => by first | exact hb16 z.1 | exact hb25 z.2.1 | exact hb36 z.2.2, ⟨hq6.1.mo (by simp) (by simp), hG8, hFP.fr hq6.1 (by decide +kernel), by (rw [hq6.2.1]; exact uM_same), fun j e => by (rw [hq6.2.1]; exact uM_k e)⟩, hq6.2.2⟩))
    · skip
      replace hb25 := bP_nz hb25
      refine R_aload_4 hC dX11_give_28 ?_
      refine R_iload_1 hC dX11_give_30 ?_
      refine R_iload_2 hC dX11_give_31 ?_
      refine R_iload_3 hC dX11_give_32 ?_
      refine R_callVq (as := [vI _, vI _, vI _]) hC dX11_give_33 mo_8_mayGive ml_11_367 (by decide) rfl rfl (c8_mayGive_d  hD hG sh_3 hSP.B (by omega) (by omega) (by omega) (by omega) (by omega) (by omega)) rfl rfl hRm (by decide) (by decide) (Nat.le_of_ble_eq_true rfl) ?_
      refine R_if_ne hC dX11_give_36 (tgt := 44) (by decide) (fun hb36 => ?_) (fun hb36 => ?_)
      · skip
        replace hb36 := bP_nz hb36
        have hdp := hSP.2.2.2.1 (x * 6 + w) (by omega) (by omega)
        have hgo := hb36
        have hdt := hSP.2.2.2.1 (t * 6 + w) (by omega) (by omega)
        refine R_bipush hC dX11_give_44 (by decide +kernel) ⟨by decide, by decide⟩ ?_
        refine R_iload_1 hC dX11_give_46 ?_
        refine R_iload_3 hC dX11_give_47 ?_
        refine R_callSq (as := [vI _, vI _]) hC dX11_give_48 mo_11_pairOf ml_11_342 (c11_pairOf  (by omega) (by omega) (by omega) (by omega)) rfl rfl hRm (by decide) (by decide) (Nat.le_of_ble_eq_true rfl) ?_
        refine R_iadd hC dX11_give_51 ⟨by omega, by omega⟩ ?_
        refine R_istore_5 hC dX11_give_52 rfl ?_
        refine R_bipush hC dX11_give_54 (by decide +kernel) ⟨by decide, by decide⟩ ?_
        refine R_iload_2 hC dX11_give_56 ?_
        refine R_iload_3 hC dX11_give_57 ?_
        refine R_callSq (as := [vI _, vI _]) hC dX11_give_58 mo_11_pairOf ml_11_342 (c11_pairOf  (by omega) (by omega) (by omega) (by omega)) rfl rfl hRm (by decide) (by decide) (Nat.le_of_ble_eq_true rfl) ?_
        refine R_iadd hC dX11_give_61 ⟨by omega, by omega⟩ ?_
        refine R_istore_6 hC dX11_give_62 rfl ?_
        refine R_aload_0 hC dX11_give_64 ?_
        refine R_iload_5 hC dX11_give_65 ?_
        refine R_aload_4 hC dX11_give_67 ?_
        refine R_getR hC dX11_give_69 fl_11_192 (by decide) rfl (by decide) (by decide) (fi := 0) rfl (r := 4) (gr_3_0 hG) ?_
        refine R_iload_5 hC dX11_give_72 ?_
        refine R_ialoadE hC dX11_give_74 (by decide) rfl (by omega) (by omega) (congrFun hD _) ?_
        refine R_iconst hC dX11_give_75 ⟨by decide, by decide⟩ ?_
        refine R_isub hC dX11_give_76 ⟨by omega, by omega⟩ ?_
        refine R_iload_6 hC dX11_give_77 ?_
        refine R_aload_4 hC dX11_give_79 ?_
        refine R_getR hC dX11_give_81 fl_11_192 (by decide) rfl (by decide) (by decide) (fi := 0) rfl (r := 4) (gr_3_0 hG) ?_
        refine R_iload_6 hC dX11_give_84 ?_
        refine R_ialoadE hC dX11_give_86 (by decide) rfl (by omega) (by omega) (congrFun hD _) ?_
        refine R_iconst hC dX11_give_87 ⟨by decide, by decide⟩ ?_
        refine R_iadd hC dX11_give_88 ⟨by omega, by omega⟩ ?_
        refine R_callVv (as := [vI _, vI _, vI _, vI _]) hC dX11_give_89 mo_11_act ml_11_360 (by decide) rfl rfl (c11_act  hG hD hSP hf (by omega) (by omega) hn (by omega) (by omega) (by omega) (by omega) (by omega)) rfl rfl hRm (by decide) (by decide) (Nat.le_of_ble_eq_true rfl) (fun Mc9 hq10 => ?_)
        have hG11 := hq10.2.1
        have hr12 : Mc9 4 = (upd1 (upd1 d (28 + (x * 6 + w)) (d (28 + (x * 6 + w)) - 1)) (28 + (t * 6 + w)) (d (28 + (t * 6 + w)) + 1)) := hq10.2.2.2.1.trans (if_neg (by omega))
        have hA : ACTC M Mc9 f n (28 + (x * 6 + w)) (d (28 + (x * 6 + w))) (28 + (t * 6 + w)) (d (28 + (t * 6 + w))) 0 (upd1 (upd1 d (28 + (x * 6 + w)) (d (28 + (x * 6 + w)) - 1)) (28 + (t * 6 + w)) (d (28 + (t * 6 + w)) + 1)) := by
            have z := hq10.2
            rw [if_neg (show ¬ ((28 + (t * 6 + w)) : Int) < 0 by omega), if_neg (show ¬ ((28 + (t * 6 + w)) : Int) < 0 by omega)] at z
            exact ⟨hq10.1.mo (by simp) (by simp), z⟩
        refine R_aload_4 hC dX11_give_92 ?_
        refine R_getR hC dX11_give_94 fl_11_192 (by decide) rfl (by decide) (by decide) (fi := 0) rfl (r := 4) (gr_3_0 hG11) ?_
        refine R_iload_6 hC dX11_give_97 ?_
        refine R_ialoadE hC dX11_give_99 (by decide) rfl (by omega) (by omega) (congrFun hr12 _) ?_
        exact R_ireturn hC dX11_give_100 rfl (ret_P (.inl ⟨⟨hb16, hb25, hgo⟩, hA, upd1_e⟩))
      · skip
        replace hb36 := bP_z hb36
        refine R_aload_0 hC dX11_give_39 ?_
        refine R_callVp (as := []) hC dX11_give_40 mo_11_refuseAct ml_11_357 (by decide) rfl rfl (c11_refuseAct  hG (by omega) (by omega)) rfl rfl hRm (by decide) (by decide) (Nat.le_of_ble_eq_true rfl) (fun v15 Mc13 hq14 => ?_)
        have hG16 : GR Mc13 := (GR.fr hG hq14.1 (by decide +kernel))
        exact R_ireturn hC dX11_give_43 rfl (ret_P (.inr ⟨fun z => by first | exact hb16 z.1 | exact hb25 z.2.1 | exact hb36 z.2.2, ⟨hq14.1.mo (by simp) (by simp), hG16, hFP.fr hq14.1 (by decide +kernel), by (rw [hq14.2.1]; exact uM_same), fun j e => by (rw [hq14.2.1]; exact uM_k e)⟩, hq14.2.2⟩))
theorem dX11_send_0 : decode cX11_send 0 = .ok (.aload_n 0, 1) := by decide +kernel
theorem dX11_send_1 : decode cX11_send 1 = .ok (.getfield 23, 3) := by decide +kernel
theorem dX11_send_4 : decode cX11_send 4 = .ok (.getfield 122, 3) := by decide +kernel
theorem dX11_send_7 : decode cX11_send 7 = .ok (.astore_n 3, 1) := by decide +kernel
theorem dX11_send_8 : decode cX11_send 8 = .ok (.aload_n 3, 1) := by decide +kernel
theorem dX11_send_9 : decode cX11_send 9 = .ok (.iload_n 1, 1) := by decide +kernel
theorem dX11_send_10 : decode cX11_send 10 = .ok (.iload_n 2, 1) := by decide +kernel
theorem dX11_send_11 : decode cX11_send 11 = .ok (.invokevirtual 319, 3) := by decide +kernel
theorem dX11_send_14 : decode cX11_send 14 = .ok (.ifCond .eq 12, 3) := by decide +kernel
theorem dX11_send_17 : decode cX11_send 17 = .ok (.aload_n 3, 1) := by decide +kernel
theorem dX11_send_18 : decode cX11_send 18 = .ok (.iload_n 1, 1) := by decide +kernel
theorem dX11_send_19 : decode cX11_send 19 = .ok (.iload_n 2, 1) := by decide +kernel
theorem dX11_send_20 : decode cX11_send 20 = .ok (.invokevirtual 371, 3) := by decide +kernel
theorem dX11_send_23 : decode cX11_send 23 = .ok (.ifCond .ne 8, 3) := by decide +kernel
theorem dX11_send_26 : decode cX11_send 26 = .ok (.aload_n 0, 1) := by decide +kernel
theorem dX11_send_27 : decode cX11_send 27 = .ok (.invokevirtual 357, 3) := by decide +kernel
theorem dX11_send_30 : decode cX11_send 30 = .ok (.ireturn, 1) := by decide +kernel
theorem dX11_send_31 : decode cX11_send 31 = .ok (.bipush 28, 2) := by decide +kernel
theorem dX11_send_33 : decode cX11_send 33 = .ok (.iload_n 1, 1) := by decide +kernel
theorem dX11_send_34 : decode cX11_send 34 = .ok (.iload_n 2, 1) := by decide +kernel
theorem dX11_send_35 : decode cX11_send 35 = .ok (.invokestatic 342, 3) := by decide +kernel
theorem dX11_send_38 : decode cX11_send 38 = .ok (.iadd, 1) := by decide +kernel
theorem dX11_send_39 : decode cX11_send 39 = .ok (.istore 4, 2) := by decide +kernel
theorem dX11_send_41 : decode cX11_send 41 = .ok (.bipush 22, 2) := by decide +kernel
theorem dX11_send_43 : decode cX11_send 43 = .ok (.iload_n 2, 1) := by decide +kernel
theorem dX11_send_44 : decode cX11_send 44 = .ok (.iadd, 1) := by decide +kernel
theorem dX11_send_45 : decode cX11_send 45 = .ok (.istore 5, 2) := by decide +kernel
theorem dX11_send_47 : decode cX11_send 47 = .ok (.aload_n 0, 1) := by decide +kernel
theorem dX11_send_48 : decode cX11_send 48 = .ok (.iload 4, 2) := by decide +kernel
theorem dX11_send_50 : decode cX11_send 50 = .ok (.aload_n 3, 1) := by decide +kernel
theorem dX11_send_51 : decode cX11_send 51 = .ok (.getfield 192, 3) := by decide +kernel
theorem dX11_send_54 : decode cX11_send 54 = .ok (.iload 4, 2) := by decide +kernel
theorem dX11_send_56 : decode cX11_send 56 = .ok (.iaload, 1) := by decide +kernel
theorem dX11_send_57 : decode cX11_send 57 = .ok (.iconst 1, 1) := by decide +kernel
theorem dX11_send_58 : decode cX11_send 58 = .ok (.isub, 1) := by decide +kernel
theorem dX11_send_59 : decode cX11_send 59 = .ok (.iload 5, 2) := by decide +kernel
theorem dX11_send_61 : decode cX11_send 61 = .ok (.aload_n 3, 1) := by decide +kernel
theorem dX11_send_62 : decode cX11_send 62 = .ok (.getfield 192, 3) := by decide +kernel
theorem dX11_send_65 : decode cX11_send 65 = .ok (.iload 5, 2) := by decide +kernel
theorem dX11_send_67 : decode cX11_send 67 = .ok (.iaload, 1) := by decide +kernel
theorem dX11_send_68 : decode cX11_send 68 = .ok (.iconst 1, 1) := by decide +kernel
theorem dX11_send_69 : decode cX11_send 69 = .ok (.iadd, 1) := by decide +kernel
theorem dX11_send_70 : decode cX11_send 70 = .ok (.invokevirtual 360, 3) := by decide +kernel
theorem dX11_send_73 : decode cX11_send 73 = .ok (.aload_n 3, 1) := by decide +kernel
theorem dX11_send_74 : decode cX11_send 74 = .ok (.getfield 192, 3) := by decide +kernel
theorem dX11_send_77 : decode cX11_send 77 = .ok (.iload 5, 2) := by decide +kernel
theorem dX11_send_79 : decode cX11_send 79 = .ok (.iaload, 1) := by decide +kernel
theorem dX11_send_80 : decode cX11_send 80 = .ok (.ireturn, 1) := by decide +kernel
set_option maxHeartbeats 400000 in
theorem c11_send {G : Gl} {l : Launch}  {M : Mem} {d : Int → Int} {x w : Int} {f n : Int} (hG : GR M) (hD : M 4 = d) (hSP : SP d) (hf : M 5 3 = f) (hf0 : 0 ≤ f) (hf1 : f < 40) (hn : M 5 4 = n) (hn0 : 0 ≤ n) (hn1 : n ≤ 40) (hFP : FP M d) (hr0 : 0 ≤ M 10 1) (hr1 : M 10 1 ≤ 1000000000) : Ct G LY 57 l 3 m11_send [vR 0, vI x, vI w] M (RP (fun v M' => ((((0 ≤ x ∧ x < d 121) ∧ 0 ≤ w ∧ w < d 122) ∧ maySend d x w) ∧ ACTC M M' f n (28 + (x * 6 + w)) (d (28 + (x * 6 + w))) (22 + w) (d (22 + w)) 0 (upd1 (upd1 d (28 + (x * 6 + w)) (d (28 + (x * 6 + w)) - 1)) (22 + w) (d (22 + w) + 1)) ∧ v = d (22 + w) + 1) ∨ (¬ (((0 ≤ x ∧ x < d 121) ∧ 0 ≤ w ∧ w < d 122) ∧ maySend d x w) ∧ REFC M M' d 1 ∧ v = -1))) := by
  refine R_start (by decide +kernel) (Nat.le_of_ble_eq_true rfl) (fun C hC hRm hlau => ?_)
  show RZ G LY C (Zn G LY 57 C (RP (fun v M' => ((((0 ≤ x ∧ x < d 121) ∧ 0 ≤ w ∧ w < d 122) ∧ maySend d x w) ∧ ACTC M M' f n (28 + (x * 6 + w)) (d (28 + (x * 6 + w))) (22 + w) (d (22 + w)) 0 (upd1 (upd1 d (28 + (x * 6 + w)) (d (28 + (x * 6 + w)) - 1)) (22 + w) (d (22 + w) + 1)) ∧ v = d (22 + w) + 1) ∨ (¬ (((0 ≤ x ∧ x < d 121) ∧ 0 ≤ w ∧ w < d 122) ∧ maySend d x w) ∧ REFC M M' d 1 ∧ v = -1)))) 0 0 57 0 [some (vR 0), some (vI x), some (vI w), none, none, none] [] M
  have hB9 := hSP.B
  have hL0 := hSP.1.1.1
  have hL1 := hSP.1.1.2
  have hW0 := hSP.1.2.1
  have hW1 := hSP.1.2.2
  refine R_aload_0 hC dX11_send_0 ?_
  refine R_getR hC dX11_send_1 fl_11_23 (by decide) rfl (by decide) (by decide) (fi := 3) rfl (r := 2) (gr_0_3 hG) ?_
  refine R_getR hC dX11_send_4 fl_11_122 (by decide) rfl (by decide) (by decide) (fi := 0) rfl (r := 3) (gr_2_0 hG) ?_
  refine R_astore_3 hC dX11_send_7 rfl ?_
  refine R_aload_3 hC dX11_send_8 ?_
  refine R_iload_1 hC dX11_send_9 ?_
  refine R_iload_2 hC dX11_send_10 ?_
  refine R_callVq (as := [vI _, vI _]) hC dX11_send_11 mo_8_isPair ml_11_319 (by decide) rfl rfl (c8_isPair_d  hD hG sh_3) rfl rfl hRm (by decide) (by decide) (Nat.le_of_ble_eq_true rfl) ?_
  refine R_if_eq hC dX11_send_14 (tgt := 26) (by decide) (fun hb14 => ?_) (fun hb14 => ?_)
  · skip
    replace hb14 := bP_z hb14
    refine R_aload_0 hC dX11_send_26 ?_
    refine R_callVp (as := []) hC dX11_send_27 mo_11_refuseAct ml_11_357 (by decide) rfl rfl (c11_refuseAct  hG (by omega) (by omega)) rfl rfl hRm (by decide) (by decide) (Nat.le_of_ble_eq_true rfl) (fun v3 Mc1 hq2 => ?_)
    have hG4 : GR Mc1 := (GR.fr hG hq2.1 (by decide +kernel))
    exact R_ireturn hC dX11_send_30 rfl (ret_P (.inr ⟨fun z => by first | exact hb14 z.1 | exact hb23 z.2, ⟨hq2.1.mo (by simp) (by simp), hG4, hFP.fr hq2.1 (by decide +kernel), by (rw [hq2.2.1]; exact uM_same), fun j e => by (rw [hq2.2.1]; exact uM_k e)⟩, hq2.2.2⟩))
  · skip
    replace hb14 := bP_nz hb14
    refine R_aload_3 hC dX11_send_17 ?_
    refine R_iload_1 hC dX11_send_18 ?_
    refine R_iload_2 hC dX11_send_19 ?_
    refine R_callVq (as := [vI _, vI _]) hC dX11_send_20 mo_8_maySend ml_11_371 (by decide) rfl rfl (c8_maySend_d  hD hG sh_3 hSP.B (by omega) (by omega) (by omega) (by omega)) rfl rfl hRm (by decide) (by decide) (Nat.le_of_ble_eq_true rfl) ?_
    refine R_if_ne hC dX11_send_23 (tgt := 31) (by decide) (fun hb23 => ?_) (fun hb23 => ?_)
    · skip
      replace hb23 := bP_nz hb23
      have hdp := hSP.2.2.2.1 (x * 6 + w) (by omega) (by omega)
      have hgo := hb23
      have hdw := hSP.2.2.1 w (by omega) (by omega)
      refine R_bipush hC dX11_send_31 (by decide +kernel) ⟨by decide, by decide⟩ ?_
      refine R_iload_1 hC dX11_send_33 ?_
      refine R_iload_2 hC dX11_send_34 ?_
      refine R_callSq (as := [vI _, vI _]) hC dX11_send_35 mo_11_pairOf ml_11_342 (c11_pairOf  (by omega) (by omega) (by omega) (by omega)) rfl rfl hRm (by decide) (by decide) (Nat.le_of_ble_eq_true rfl) ?_
      refine R_iadd hC dX11_send_38 ⟨by omega, by omega⟩ ?_
      refine R_istore_4 hC dX11_send_39 rfl ?_
      refine R_bipush hC dX11_send_41 (by decide +kernel) ⟨by decide, by decide⟩ ?_
      refine R_iload_2 hC dX11_send_43 ?_
      refine R_iadd hC dX11_send_44 ⟨by omega, by omega⟩ ?_
      refine R_istore_5 hC dX11_send_45 rfl ?_
      refine R_aload_0 hC dX11_send_47 ?_
      refine R_iload_4 hC dX11_send_48 ?_
      refine R_aload_3 hC dX11_send_50 ?_
      refine R_getR hC dX11_send_51 fl_11_192 (by decide) rfl (by decide) (by decide) (fi := 0) rfl (r := 4) (gr_3_0 hG) ?_
      refine R_iload_4 hC dX11_send_54 ?_
      refine R_ialoadE hC dX11_send_56 (by decide) rfl (by omega) (by omega) (congrFun hD _) ?_
      refine R_iconst hC dX11_send_57 ⟨by decide, by decide⟩ ?_
      refine R_isub hC dX11_send_58 ⟨by omega, by omega⟩ ?_
      refine R_iload_5 hC dX11_send_59 ?_
      refine R_aload_3 hC dX11_send_61 ?_
      refine R_getR hC dX11_send_62 fl_11_192 (by decide) rfl (by decide) (by decide) (fi := 0) rfl (r := 4) (gr_3_0 hG) ?_
      refine R_iload_5 hC dX11_send_65 ?_
      refine R_ialoadE hC dX11_send_67 (by decide) rfl (by omega) (by omega) (congrFun hD _) ?_
      refine R_iconst hC dX11_send_68 ⟨by decide, by decide⟩ ?_
      refine R_iadd hC dX11_send_69 ⟨by omega, by omega⟩ ?_
      refine R_callVv (as := [vI _, vI _, vI _, vI _]) hC dX11_send_70 mo_11_act ml_11_360 (by decide) rfl rfl (c11_act  hG hD hSP hf (by omega) (by omega) hn (by omega) (by omega) (by omega) (by omega) (by omega)) rfl rfl hRm (by decide) (by decide) (Nat.le_of_ble_eq_true rfl) (fun Mc5 hq6 => ?_)
      have hG7 := hq6.2.1
      have hr8 : Mc5 4 = (upd1 (upd1 d (28 + (x * 6 + w)) (d (28 + (x * 6 + w)) - 1)) (22 + w) (d (22 + w) + 1)) := hq6.2.2.2.1.trans (if_neg (by omega))
      have hA : ACTC M Mc5 f n (28 + (x * 6 + w)) (d (28 + (x * 6 + w))) (22 + w) (d (22 + w)) 0 (upd1 (upd1 d (28 + (x * 6 + w)) (d (28 + (x * 6 + w)) - 1)) (22 + w) (d (22 + w) + 1)) := by
          have z := hq6.2
          rw [if_neg (show ¬ ((22 + w) : Int) < 0 by omega), if_neg (show ¬ ((22 + w) : Int) < 0 by omega)] at z
          exact ⟨hq6.1.mo (by simp) (by simp), z⟩
      refine R_aload_3 hC dX11_send_73 ?_
      refine R_getR hC dX11_send_74 fl_11_192 (by decide) rfl (by decide) (by decide) (fi := 0) rfl (r := 4) (gr_3_0 hG7) ?_
      refine R_iload_5 hC dX11_send_77 ?_
      refine R_ialoadE hC dX11_send_79 (by decide) rfl (by omega) (by omega) (congrFun hr8 _) ?_
      exact R_ireturn hC dX11_send_80 rfl (ret_P (.inl ⟨⟨hb14, hgo⟩, hA, upd1_e⟩))
    · skip
      replace hb23 := bP_z hb23
      refine R_aload_0 hC dX11_send_26 ?_
      refine R_callVp (as := []) hC dX11_send_27 mo_11_refuseAct ml_11_357 (by decide) rfl rfl (c11_refuseAct  hG (by omega) (by omega)) rfl rfl hRm (by decide) (by decide) (Nat.le_of_ble_eq_true rfl) (fun v11 Mc9 hq10 => ?_)
      have hG12 : GR Mc9 := (GR.fr hG hq10.1 (by decide +kernel))
      exact R_ireturn hC dX11_send_30 rfl (ret_P (.inr ⟨fun z => by first | exact hb14 z.1 | exact hb23 z.2, ⟨hq10.1.mo (by simp) (by simp), hG12, hFP.fr hq10.1 (by decide +kernel), by (rw [hq10.2.1]; exact uM_same), fun j e => by (rw [hq10.2.1]; exact uM_k e)⟩, hq10.2.2⟩))
theorem dX11_years_0 : decode cX11_years 0 = .ok (.aload_n 0, 1) := by decide +kernel
theorem dX11_years_1 : decode cX11_years 1 = .ok (.getfield 23, 3) := by decide +kernel
theorem dX11_years_4 : decode cX11_years 4 = .ok (.getfield 122, 3) := by decide +kernel
theorem dX11_years_7 : decode cX11_years 7 = .ok (.getfield 192, 3) := by decide +kernel
theorem dX11_years_10 : decode cX11_years 10 = .ok (.bipush 118, 2) := by decide +kernel
theorem dX11_years_12 : decode cX11_years 12 = .ok (.iaload, 1) := by decide +kernel
theorem dX11_years_13 : decode cX11_years 13 = .ok (.istore_n 2, 1) := by decide +kernel
theorem dX11_years_14 : decode cX11_years 14 = .ok (.iload_n 1, 1) := by decide +kernel
theorem dX11_years_15 : decode cX11_years 15 = .ok (.iconst 1, 1) := by decide +kernel
theorem dX11_years_16 : decode cX11_years 16 = .ok (.if_icmp .lt 17, 3) := by decide +kernel
theorem dX11_years_19 : decode cX11_years 19 = .ok (.iload_n 1, 1) := by decide +kernel
theorem dX11_years_20 : decode cX11_years 20 = .ok (.bipush 9, 2) := by decide +kernel
theorem dX11_years_22 : decode cX11_years 22 = .ok (.if_icmp .gt 11, 3) := by decide +kernel
theorem dX11_years_25 : decode cX11_years 25 = .ok (.iload_n 2, 1) := by decide +kernel
theorem dX11_years_26 : decode cX11_years 26 = .ok (.iload_n 1, 1) := by decide +kernel
theorem dX11_years_27 : decode cX11_years 27 = .ok (.iadd, 1) := by decide +kernel
theorem dX11_years_28 : decode cX11_years 28 = .ok (.bipush 60, 2) := by decide +kernel
theorem dX11_years_30 : decode cX11_years 30 = .ok (.if_icmp .le 8, 3) := by decide +kernel
theorem dX11_years_33 : decode cX11_years 33 = .ok (.aload_n 0, 1) := by decide +kernel
theorem dX11_years_34 : decode cX11_years 34 = .ok (.invokevirtual 357, 3) := by decide +kernel
theorem dX11_years_37 : decode cX11_years 37 = .ok (.ireturn, 1) := by decide +kernel
theorem dX11_years_38 : decode cX11_years 38 = .ok (.aload_n 0, 1) := by decide +kernel
theorem dX11_years_39 : decode cX11_years 39 = .ok (.bipush 118, 2) := by decide +kernel
theorem dX11_years_41 : decode cX11_years 41 = .ok (.iload_n 2, 1) := by decide +kernel
theorem dX11_years_42 : decode cX11_years 42 = .ok (.iload_n 1, 1) := by decide +kernel
theorem dX11_years_43 : decode cX11_years 43 = .ok (.iadd, 1) := by decide +kernel
theorem dX11_years_44 : decode cX11_years 44 = .ok (.iconst (-1), 1) := by decide +kernel
theorem dX11_years_45 : decode cX11_years 45 = .ok (.iconst 0, 1) := by decide +kernel
theorem dX11_years_46 : decode cX11_years 46 = .ok (.invokevirtual 360, 3) := by decide +kernel
theorem dX11_years_49 : decode cX11_years 49 = .ok (.iload_n 2, 1) := by decide +kernel
theorem dX11_years_50 : decode cX11_years 50 = .ok (.iload_n 1, 1) := by decide +kernel
theorem dX11_years_51 : decode cX11_years 51 = .ok (.iadd, 1) := by decide +kernel
theorem dX11_years_52 : decode cX11_years 52 = .ok (.ireturn, 1) := by decide +kernel
set_option maxHeartbeats 400000 in
theorem c11_years {G : Gl} {l : Launch}  {M : Mem} {d : Int → Int} {m : Int} {f n : Int} (hG : GR M) (hD : M 4 = d) (hSP : SP d) (hf : M 5 3 = f) (hf0 : 0 ≤ f) (hf1 : f < 40) (hn : M 5 4 = n) (hn0 : 0 ≤ n) (hn1 : n ≤ 40) (hFP : FP M d) (hr0 : 0 ≤ M 10 1) (hr1 : M 10 1 ≤ 1000000000) : Ct G LY 57 l 3 m11_years [vR 0, vI m] M (RP (fun v M' => (((1 ≤ m ∧ m ≤ 9) ∧ d 118 + m ≤ 60) ∧ ACTC M M' f n (118) (d (118)) (-1) 0 0 (upd1 d (118) (d 118 + m)) ∧ v = d 118 + m) ∨ (¬ ((1 ≤ m ∧ m ≤ 9) ∧ d 118 + m ≤ 60) ∧ REFC M M' d 1 ∧ v = -1))) := by
  refine R_start (by decide +kernel) (Nat.le_of_ble_eq_true rfl) (fun C hC hRm hlau => ?_)
  show RZ G LY C (Zn G LY 57 C (RP (fun v M' => (((1 ≤ m ∧ m ≤ 9) ∧ d 118 + m ≤ 60) ∧ ACTC M M' f n (118) (d (118)) (-1) 0 0 (upd1 d (118) (d 118 + m)) ∧ v = d 118 + m) ∨ (¬ ((1 ≤ m ∧ m ≤ 9) ∧ d 118 + m ≤ 60) ∧ REFC M M' d 1 ∧ v = -1)))) 0 0 57 0 [some (vR 0), some (vI m), none] [] M
  have hB9 := hSP.B
  have hL0 := hSP.1.1.1
  have hL1 := hSP.1.1.2
  have hW0 := hSP.1.2.1
  have hW1 := hSP.1.2.2
  have h118 := hSP.2.2.2.2.1.1
  refine R_aload_0 hC dX11_years_0 ?_
  refine R_getR hC dX11_years_1 fl_11_23 (by decide) rfl (by decide) (by decide) (fi := 3) rfl (r := 2) (gr_0_3 hG) ?_
  refine R_getR hC dX11_years_4 fl_11_122 (by decide) rfl (by decide) (by decide) (fi := 0) rfl (r := 3) (gr_2_0 hG) ?_
  refine R_getR hC dX11_years_7 fl_11_192 (by decide) rfl (by decide) (by decide) (fi := 0) rfl (r := 4) (gr_3_0 hG) ?_
  refine R_bipush hC dX11_years_10 (by decide +kernel) ⟨by decide, by decide⟩ ?_
  refine R_ialoadE hC dX11_years_12 (by decide) rfl (by omega) (by omega) (congrFun hD _) ?_
  refine R_istore_2 hC dX11_years_13 rfl ?_
  refine R_iload_1 hC dX11_years_14 ?_
  refine R_iconst hC dX11_years_15 ⟨by decide, by decide⟩ ?_
  refine R_icmp_lt hC dX11_years_16 (tgt := 33) (by decide) (fun hb16 => ?_) (fun hb16 => ?_)
  · skip
    refine R_aload_0 hC dX11_years_33 ?_
    refine R_callVp (as := []) hC dX11_years_34 mo_11_refuseAct ml_11_357 (by decide) rfl rfl (c11_refuseAct  hG (by omega) (by omega)) rfl rfl hRm (by decide) (by decide) (Nat.le_of_ble_eq_true rfl) (fun v3 Mc1 hq2 => ?_)
    have hG4 : GR Mc1 := (GR.fr hG hq2.1 (by decide +kernel))
    exact R_ireturn hC dX11_years_37 rfl (ret_P (.inr ⟨fun z => by omega, ⟨hq2.1.mo (by simp) (by simp), hG4, hFP.fr hq2.1 (by decide +kernel), by (rw [hq2.2.1]; exact uM_same), fun j e => by (rw [hq2.2.1]; exact uM_k e)⟩, hq2.2.2⟩))
  · skip
    refine R_iload_1 hC dX11_years_19 ?_
    refine R_bipush hC dX11_years_20 (by decide +kernel) ⟨by decide, by decide⟩ ?_
    refine R_icmp_gt hC dX11_years_22 (tgt := 33) (by decide) (fun hb22 => ?_) (fun hb22 => ?_)
    · skip
      refine R_aload_0 hC dX11_years_33 ?_
      refine R_callVp (as := []) hC dX11_years_34 mo_11_refuseAct ml_11_357 (by decide) rfl rfl (c11_refuseAct  hG (by omega) (by omega)) rfl rfl hRm (by decide) (by decide) (Nat.le_of_ble_eq_true rfl) (fun v7 Mc5 hq6 => ?_)
      have hG8 : GR Mc5 := (GR.fr hG hq6.1 (by decide +kernel))
      exact R_ireturn hC dX11_years_37 rfl (ret_P (.inr ⟨fun z => by omega, ⟨hq6.1.mo (by simp) (by simp), hG8, hFP.fr hq6.1 (by decide +kernel), by (rw [hq6.2.1]; exact uM_same), fun j e => by (rw [hq6.2.1]; exact uM_k e)⟩, hq6.2.2⟩))
    · skip
      refine R_iload_2 hC dX11_years_25 ?_
      refine R_iload_1 hC dX11_years_26 ?_
      refine R_iadd hC dX11_years_27 ⟨by omega, by omega⟩ ?_
      refine R_bipush hC dX11_years_28 (by decide +kernel) ⟨by decide, by decide⟩ ?_
      refine R_icmp_le hC dX11_years_30 (tgt := 38) (by decide) (fun hb30 => ?_) (fun hb30 => ?_)
      · skip
        refine R_aload_0 hC dX11_years_38 ?_
        refine R_bipush hC dX11_years_39 (by decide +kernel) ⟨by decide, by decide⟩ ?_
        refine R_iload_2 hC dX11_years_41 ?_
        refine R_iload_1 hC dX11_years_42 ?_
        refine R_iadd hC dX11_years_43 ⟨by omega, by omega⟩ ?_
        refine R_iconst hC dX11_years_44 ⟨by decide, by decide⟩ ?_
        refine R_iconst hC dX11_years_45 ⟨by decide, by decide⟩ ?_
        refine R_callVv (as := [vI _, vI _, vI _, vI _]) hC dX11_years_46 mo_11_act ml_11_360 (by decide) rfl rfl (c11_act  hG hD hSP hf (by omega) (by omega) hn (by omega) (by omega) (by omega) (by omega) (by omega)) rfl rfl hRm (by decide) (by decide) (Nat.le_of_ble_eq_true rfl) (fun Mc9 hq10 => ?_)
        have hG11 := hq10.2.1
        refine R_iload_2 hC dX11_years_49 ?_
        refine R_iload_1 hC dX11_years_50 ?_
        refine R_iadd hC dX11_years_51 ⟨by omega, by omega⟩ ?_
        exact R_ireturn hC dX11_years_52 rfl (ret_P (.inl ⟨⟨by omega, by omega⟩, (⟨hq10.1.mo (by simp) (by simp), hq10.2.1, hq10.2.2.1, hq10.2.2.2.1.trans (if_pos (by decide)), hq10.2.2.2.2⟩ : ACTC M Mc9 f n (118) (d (118)) (-1) 0 0 (upd1 d (118) (d 118 + m))), rfl⟩))
      · skip
        refine R_aload_0 hC dX11_years_33 ?_
        refine R_callVp (as := []) hC dX11_years_34 mo_11_refuseAct ml_11_357 (by decide) rfl rfl (c11_refuseAct  hG (by omega) (by omega)) rfl rfl hRm (by decide) (by decide) (Nat.le_of_ble_eq_true rfl) (fun v14 Mc12 hq13 => ?_)
        have hG15 : GR Mc12 := (GR.fr hG hq13.1 (by decide +kernel))
        exact R_ireturn hC dX11_years_37 rfl (ret_P (.inr ⟨fun z => by omega, ⟨hq13.1.mo (by simp) (by simp), hG15, hFP.fr hq13.1 (by decide +kernel), by (rw [hq13.2.1]; exact uM_same), fun j e => by (rw [hq13.2.1]; exact uM_k e)⟩, hq13.2.2⟩))
theorem dX11_carry_0 : decode cX11_carry 0 = .ok (.aload_n 0, 1) := by decide +kernel
theorem dX11_carry_1 : decode cX11_carry 1 = .ok (.invokevirtual 207, 3) := by decide +kernel
theorem dX11_carry_4 : decode cX11_carry 4 = .ok (.aload_n 0, 1) := by decide +kernel
theorem dX11_carry_5 : decode cX11_carry 5 = .ok (.getfield 60, 3) := by decide +kernel
theorem dX11_carry_8 : decode cX11_carry 8 = .ok (.getfield 250, 3) := by decide +kernel
theorem dX11_carry_11 : decode cX11_carry 11 = .ok (.ifCond .ne 8, 3) := by decide +kernel
theorem dX11_carry_14 : decode cX11_carry 14 = .ok (.aload_n 0, 1) := by decide +kernel
theorem dX11_carry_15 : decode cX11_carry 15 = .ok (.invokevirtual 357, 3) := by decide +kernel
theorem dX11_carry_18 : decode cX11_carry 18 = .ok (.ireturn, 1) := by decide +kernel
theorem dX11_carry_19 : decode cX11_carry 19 = .ok (.aload_n 0, 1) := by decide +kernel
theorem dX11_carry_20 : decode cX11_carry 20 = .ok (.getfield 23, 3) := by decide +kernel
theorem dX11_carry_23 : decode cX11_carry 23 = .ok (.getfield 122, 3) := by decide +kernel
theorem dX11_carry_26 : decode cX11_carry 26 = .ok (.astore_n 1, 1) := by decide +kernel
theorem dX11_carry_27 : decode cX11_carry 27 = .ok (.aload_n 0, 1) := by decide +kernel
theorem dX11_carry_28 : decode cX11_carry 28 = .ok (.getfield 60, 3) := by decide +kernel
theorem dX11_carry_31 : decode cX11_carry 31 = .ok (.invokevirtual 374, 3) := by decide +kernel
theorem dX11_carry_34 : decode cX11_carry 34 = .ok (.lstore_n 2, 1) := by decide +kernel
theorem dX11_carry_35 : decode cX11_carry 35 = .ok (.aload_n 0, 1) := by decide +kernel
theorem dX11_carry_36 : decode cX11_carry 36 = .ok (.getfield 60, 3) := by decide +kernel
theorem dX11_carry_39 : decode cX11_carry 39 = .ok (.getfield 378, 3) := by decide +kernel
theorem dX11_carry_42 : decode cX11_carry 42 = .ok (.istore 4, 2) := by decide +kernel
theorem dX11_carry_44 : decode cX11_carry 44 = .ok (.aload_n 0, 1) := by decide +kernel
theorem dX11_carry_45 : decode cX11_carry 45 = .ok (.getfield 23, 3) := by decide +kernel
theorem dX11_carry_48 : decode cX11_carry 48 = .ok (.getfield 129, 3) := by decide +kernel
theorem dX11_carry_51 : decode cX11_carry 51 = .ok (.bipush 119, 2) := by decide +kernel
theorem dX11_carry_53 : decode cX11_carry 53 = .ok (.aload_n 1, 1) := by decide +kernel
theorem dX11_carry_54 : decode cX11_carry 54 = .ok (.getfield 192, 3) := by decide +kernel
theorem dX11_carry_57 : decode cX11_carry 57 = .ok (.bipush 119, 2) := by decide +kernel
theorem dX11_carry_59 : decode cX11_carry 59 = .ok (.iaload, 1) := by decide +kernel
theorem dX11_carry_60 : decode cX11_carry 60 = .ok (.iconst (-1), 1) := by decide +kernel
theorem dX11_carry_61 : decode cX11_carry 61 = .ok (.iconst 0, 1) := by decide +kernel
theorem dX11_carry_62 : decode cX11_carry 62 = .ok (.lload_n 2, 1) := by decide +kernel
theorem dX11_carry_63 : decode cX11_carry 63 = .ok (.invokevirtual 381, 3) := by decide +kernel
theorem dX11_carry_66 : decode cX11_carry 66 = .ok (.aload_n 1, 1) := by decide +kernel
theorem dX11_carry_67 : decode cX11_carry 67 = .ok (.lload_n 2, 1) := by decide +kernel
theorem dX11_carry_68 : decode cX11_carry 68 = .ok (.invokevirtual 385, 3) := by decide +kernel
theorem dX11_carry_71 : decode cX11_carry 71 = .ok (.aload_n 1, 1) := by decide +kernel
theorem dX11_carry_72 : decode cX11_carry 72 = .ok (.getfield 192, 3) := by decide +kernel
theorem dX11_carry_75 : decode cX11_carry 75 = .ok (.bipush 119, 2) := by decide +kernel
theorem dX11_carry_77 : decode cX11_carry 77 = .ok (.dup2, 1) := by decide +kernel
theorem dX11_carry_78 : decode cX11_carry 78 = .ok (.iaload, 1) := by decide +kernel
theorem dX11_carry_79 : decode cX11_carry 79 = .ok (.iload 4, 2) := by decide +kernel
theorem dX11_carry_81 : decode cX11_carry 81 = .ok (.iadd, 1) := by decide +kernel
theorem dX11_carry_82 : decode cX11_carry 82 = .ok (.iastore, 1) := by decide +kernel
theorem dX11_carry_83 : decode cX11_carry 83 = .ok (.aload_n 0, 1) := by decide +kernel
theorem dX11_carry_84 : decode cX11_carry 84 = .ok (.iconst 0, 1) := by decide +kernel
theorem dX11_carry_85 : decode cX11_carry 85 = .ok (.putfield 64, 3) := by decide +kernel
theorem dX11_carry_88 : decode cX11_carry 88 = .ok (.iload 4, 2) := by decide +kernel
theorem dX11_carry_90 : decode cX11_carry 90 = .ok (.ireturn, 1) := by decide +kernel
set_option maxHeartbeats 2000000 in
theorem c11_carry {G : Gl} {l : Launch}  {M : Mem} {d : Int → Int} {f n : Int} (hG : GR M) (hD : M 4 = d) (hSP : SP d) (hf : M 5 3 = f) (hf0 : 0 ≤ f) (hf1 : f < 40) (hn : M 5 4 = n) (hn0 : 0 ≤ n) (hn1 : n ≤ 40) (hFP : FP M d) (hr0 : 0 ≤ M 10 1) (hr1 : M 10 1 ≤ 1000000000) (hb9 : d 119 ≤ 89900) : Ct G LY 57 l 5 m11_carry [vR 0] M (RP (fun v M' => ((planI (insOf d)) ∧ ACTC M M' f n 119 (d 119) (-1) 0 (pkF (plT (insOf d)) 30) (upd1 (coP d) 119 (d 119 + plC (insOf d))) ∧ v = plC (insOf d)) ∨ (¬ (planI (insOf d)) ∧ REFC M M' d 1 ∧ v = -1))) := by
  refine R_start (by decide +kernel) (Nat.le_of_ble_eq_true rfl) (fun C hC hRm hlau => ?_)
  show RZ G LY C (Zn G LY 57 C (RP (fun v M' => ((planI (insOf d)) ∧ ACTC M M' f n 119 (d 119) (-1) 0 (pkF (plT (insOf d)) 30) (upd1 (coP d) 119 (d 119 + plC (insOf d))) ∧ v = plC (insOf d)) ∨ (¬ (planI (insOf d)) ∧ REFC M M' d 1 ∧ v = -1)))) 0 0 57 0 [some (vR 0), none, none, none, none] [] M
  have hB9 := hSP.B
  have hL0 := hSP.1.1.1
  have hL1 := hSP.1.1.2
  have hW0 := hSP.1.2.1
  have hW1 := hSP.1.2.2
  have h119 := hSP.2.2.2.2.1.2.1
  have hpc := plC_bd (SP.I hSP)
  refine R_aload_0 hC dX11_carry_0 ?_
  refine R_callVv (as := []) hC dX11_carry_1 mo_11_refreshPlan ml_11_207 (by decide) rfl rfl (c11_refreshPlan  hG hD hSP hFP) rfl rfl hRm (by decide) (by decide) (Nat.le_of_ble_eq_true rfl) (fun Mc1 hq2 => ?_)
  have hF0 : Fr [25, 26, 27, 28, 29, 30, 31, 32, 33, 34, 35, 37, 40, 42, 43, 44, 47, 48, 50, 51, 54, 56, 4, 6, 7, 8] [(24, 11), (24, 12), (24, 13), (36, 2), (36, 3), (0, 10), (38, 2), (38, 3), (41, 3), (41, 5), (41, 6), (41, 7), (41, 8), (45, 3), (45, 4), (49, 3), (49, 4), (49, 5), (49, 6), (52, 1), (52, 3), (53, 2), (53, 3), (5, 3), (5, 4)] M Mc1 := hq2.1.mo (by simp) (by simp)
  have hpt := hq2.2.1.t hSP
  have hpp := hq2.2.1.p
  have hp7 := hq2.2.1.2.1
  have hp3 := hq2.2.1.2.2
  have h101 : Mc1 10 1 = M 10 1 := hq2.1 10 1 (by decide) (by decide)
  have hpk : pkF (Mc1 37) 30 = (pkF (plT (insOf d)) 30) := pk_c 30 (fun q a b => hp7 q a (by omega))
  have hf5 := (hq2.1 5 3 (by decide) (by decide)).trans hf
  have hn5 := (hq2.1 5 4 (by decide) (by decide)).trans hn
  have hw9 : wdR d (pkF (plT (insOf d)) 30) (-1) = coP d := by
    rw [wdR_F (fun q a b => plT_3 (SP.I hSP) a)]
    rfl
  refine R_aload_0 hC dX11_carry_4 ?_
  have hG3 : GR Mc1 := (GR.fr hG hq2.1 (by decide +kernel))
  refine R_getR hC dX11_carry_5 fl_11_60 (by decide) rfl (by decide) (by decide) (fi := 9) rfl (r := 36) (gr_0_9 hG3) ?_
  refine R_getIE hC dX11_carry_8 fl_11_250 (by decide) rfl (by decide) (by decide) (fi := 2) rfl hq2.2.1.1 ?_
  refine R_if_ne hC dX11_carry_11 (tgt := 19) (by decide) (fun hb11 => ?_) (fun hb11 => ?_)
  · skip
    replace hb11 := bP_nz hb11
    have hpl := hb11
    refine R_aload_0 hC dX11_carry_19 ?_
    refine R_getR hC dX11_carry_20 fl_11_23 (by decide) rfl (by decide) (by decide) (fi := 3) rfl (r := 2) (gr_0_3 hG3) ?_
    refine R_getR hC dX11_carry_23 fl_11_122 (by decide) rfl (by decide) (by decide) (fi := 0) rfl (r := 3) (gr_2_0 hG3) ?_
    refine R_astore_1 hC dX11_carry_26 rfl ?_
    refine R_aload_0 hC dX11_carry_27 ?_
    refine R_getR hC dX11_carry_28 fl_11_60 (by decide) rfl (by decide) (by decide) (fi := 9) rfl (r := 36) (gr_0_9 hG3) ?_
    refine R_callVq (as := []) hC dX11_carry_31 mo_5_packed ml_11_374 (by decide) rfl rfl (c5_packed  hG3 ph_36) rfl rfl hRm (by decide) (by decide) (Nat.le_of_ble_eq_true rfl) ?_
    refine R_lstore_2 hC dX11_carry_34 rfl ?_
    refine R_aload_0 hC dX11_carry_35 ?_
    refine R_getR hC dX11_carry_36 fl_11_60 (by decide) rfl (by decide) (by decide) (fi := 9) rfl (r := 36) (gr_0_9 hG3) ?_
    refine R_getIE hC dX11_carry_39 fl_11_378 (by decide) rfl (by decide) (by decide) (fi := 3) rfl hp3 ?_
    refine R_istore_4 hC dX11_carry_42 rfl ?_
    refine R_aload_0 hC dX11_carry_44 ?_
    refine R_getR hC dX11_carry_45 fl_11_23 (by decide) rfl (by decide) (by decide) (fi := 3) rfl (r := 2) (gr_0_3 hG3) ?_
    refine R_getR hC dX11_carry_48 fl_11_129 (by decide) rfl (by decide) (by decide) (fi := 1) rfl (r := 5) (gr_2_1 hG3) ?_
    refine R_bipush hC dX11_carry_51 (by decide +kernel) ⟨by decide, by decide⟩ ?_
    refine R_aload_1 hC dX11_carry_53 ?_
    refine R_getR hC dX11_carry_54 fl_11_192 (by decide) rfl (by decide) (by decide) (fi := 0) rfl (r := 4) (gr_3_0 hG3) ?_
    refine R_bipush hC dX11_carry_57 (by decide +kernel) ⟨by decide, by decide⟩ ?_
    have hr4 : Mc1 4 = d := ((hq2.1.row (by decide) (by decide)).trans hD)
    refine R_ialoadE hC dX11_carry_59 (by decide) rfl (by omega) (by omega) (congrFun hr4 _) ?_
    refine R_iconst hC dX11_carry_60 ⟨by decide, by decide⟩ ?_
    refine R_iconst hC dX11_carry_61 ⟨by decide, by decide⟩ ?_
    refine R_lload_2 hC dX11_carry_62 ?_
    refine R_callVv (as := [vI _, vI _, vI _, vI _, vL _]) hC dX11_carry_63 mo_0_add ml_11_381 (by decide) rfl rfl (c0_add  hG3 hf5 (by omega) (by omega) hn5 (by omega) (by omega)) rfl rfl hRm (by decide) (by decide) (Nat.le_of_ble_eq_true rfl) (fun Mc5 hq6 => ?_)
    have hF1 : Fr [25, 26, 27, 28, 29, 30, 31, 32, 33, 34, 35, 37, 40, 42, 43, 44, 47, 48, 50, 51, 54, 56, 4, 6, 7, 8] [(24, 11), (24, 12), (24, 13), (36, 2), (36, 3), (0, 10), (38, 2), (38, 3), (41, 3), (41, 5), (41, 6), (41, 7), (41, 8), (45, 3), (45, 4), (49, 3), (49, 4), (49, 5), (49, 6), (52, 1), (52, 3), (53, 2), (53, 3), (5, 3), (5, 4)] M Mc5 := Fr.tt hF0 (hq6.1.mo (by simp) (by simp))
    refine R_aload_1 hC dX11_carry_66 ?_
    refine R_lload_2 hC dX11_carry_67 ?_
    have hG7 : GR Mc5 := (GR.fr hG3 hq6.1 (by decide +kernel))
    have hr8 : Mc5 4 = d := ((hq6.1.row (by decide) (by decide)).trans hr4)
    refine R_callVv (as := [vL _]) hC dX11_carry_68 mo_8_withdraw ml_11_385 (by decide) rfl rfl (c8_withdraw  hG7 sh_3 hr8 hSP.B) rfl rfl hRm (by decide) (by decide) (Nat.le_of_ble_eq_true rfl) (fun Mc9 hq10 => ?_)
    have hG11 := hq10.2.1
    have hr12 := hq10.2.2
    have hr13 : Mc9 4 = (coP d) := hq10.2.2.trans (by rw [hpk, hw9])
    have hF2 : Fr [25, 26, 27, 28, 29, 30, 31, 32, 33, 34, 35, 37, 40, 42, 43, 44, 47, 48, 50, 51, 54, 56, 4, 6, 7, 8] [(24, 11), (24, 12), (24, 13), (36, 2), (36, 3), (0, 10), (38, 2), (38, 3), (41, 3), (41, 5), (41, 6), (41, 7), (41, 8), (45, 3), (45, 4), (49, 3), (49, 4), (49, 5), (49, 6), (52, 1), (52, 3), (53, 2), (53, 3), (5, 3), (5, 4)] M Mc9 := Fr.tt hF1 (hq10.1.mo (by simp) (by simp))
    have h4w := hr13
    have hc9 : coP d 119 = d 119 := if_neg (by decide)
    refine R_aload_1 hC dX11_carry_71 ?_
    refine R_getR hC dX11_carry_72 fl_11_192 (by decide) rfl (by decide) (by decide) (fi := 0) rfl (r := 4) (gr_3_0 hG11) ?_
    refine R_bipush hC dX11_carry_75 (by decide +kernel) ⟨by decide, by decide⟩ ?_
    refine R_dup2 hC dX11_carry_77 rfl rfl ?_
    refine R_ialoadE hC dX11_carry_78 (by decide) rfl (by omega) (by omega) (congrFun hr13 _) ?_
    refine R_iload_4 hC dX11_carry_79 ?_
    refine R_iadd hC dX11_carry_81 ⟨by omega, by omega⟩ ?_
    refine R_iastore hC dX11_carry_82 (by decide) rfl (by omega) (by omega) ?_
    have hr14 : (uM Mc9 4 119 (((coP d) 119) + (plC (insOf d)))) 4 = (upd1 (coP d) 119 (d 119 + plC (insOf d))) := uM_row.trans (by rw [h4w, show coP d 119 = d 119 from if_neg (by decide)]; rfl)
    refine R_aload_0 hC dX11_carry_83 ?_
    refine R_iconst hC dX11_carry_84 ⟨by decide, by decide⟩ ?_
    refine R_putZ hC dX11_carry_85 fl_11_64 (by decide) rfl (by decide) (by decide) (.inl rfl) (fi := 10) rfl ?_
    refine R_iload_4 hC dX11_carry_88 ?_
    have hG15 : GR (uM (uM Mc9 4 119 (((coP d) 119) + (plC (insOf d)))) 0 10 0) := (GR.uF (GR.uA hG11 (by decide +kernel) (.inr ⟨by omega, by omega⟩)) (by decide +kernel) (by decide))
    have hr16 : (uM (uM Mc9 4 119 (((coP d) 119) + (plC (insOf d)))) 0 10 0) 4 = (upd1 (coP d) 119 (d 119 + plC (insOf d))) := ((uM_ne (by decide)).trans hr14)
    exact R_ireturn hC dX11_carry_90 rfl (ret_P (.inl ⟨hpl, ⟨Fr.uB (Fr.uA hF2 (by decide)) (by decide), hG15, uM_same, hr16, ((uM_h (by decide)).trans (uM_h (by decide))).trans ((hq10.1 5 3 (by decide) (by decide)).trans hq6.2.1), ((uM_h (by decide)).trans (uM_h (by decide))).trans ((hq10.1 5 4 (by decide) (by decide)).trans hq6.2.2.1), (funext fun j => ((uM_h (by decide)).trans (uM_h (by decide)))).trans ((hq10.1.row (by decide) (by decide)).trans (hq6.2.2.2.1.trans (by rw [hq2.1.row (h := 6) (by decide) (by decide)]))), (funext fun j => ((uM_h (by decide)).trans (uM_h (by decide)))).trans ((hq10.1.row (by decide) (by decide)).trans (hq6.2.2.2.2.1.trans (by rw [hq2.1.row (h := 7) (by decide) (by decide)]))), (funext fun j => ((uM_h (by decide)).trans (uM_h (by decide)))).trans ((hq10.1.row (by decide) (by decide)).trans (hq6.2.2.2.2.2.trans (by rw [hq2.1.row (h := 8) (by decide) (by decide), hpk])))⟩, rfl⟩))
  · skip
    replace hb11 := bP_z hb11
    have hnp := hb11
    refine R_aload_0 hC dX11_carry_14 ?_
    refine R_callVp (as := []) hC dX11_carry_15 mo_11_refuseAct ml_11_357 (by decide) rfl rfl (c11_refuseAct  hG3 (by omega) (by omega)) rfl rfl hRm (by decide) (by decide) (Nat.le_of_ble_eq_true rfl) (fun v19 Mc17 hq18 => ?_)
    have hG20 : GR Mc17 := (GR.fr hG3 hq18.1 (by decide +kernel))
    exact R_ireturn hC dX11_carry_18 rfl (ret_P (.inr ⟨hnp, ⟨Fr.tt (hq2.1.mo (by simp) (by simp)) (hq18.1.mo (by simp) (by simp)), hG20, hq2.2.2.fr hq18.1 (by decide +kernel), by (rw [hq18.2.1]; exact uM_same.trans (congrArg (· + 1) (hq2.1 10 1 (by decide) (by decide)))), fun j e => by (rw [hq18.2.1]; exact (uM_k e).trans (hq2.1 10 j (by decide) (by simp)))⟩, hq18.2.2⟩))
theorem dX11_undo_0 : decode cX11_undo 0 = .ok (.aload_n 0, 1) := by decide +kernel
theorem dX11_undo_1 : decode cX11_undo 1 = .ok (.getfield 23, 3) := by decide +kernel
theorem dX11_undo_4 : decode cX11_undo 4 = .ok (.getfield 129, 3) := by decide +kernel
theorem dX11_undo_7 : decode cX11_undo 7 = .ok (.getfield 231, 3) := by decide +kernel
theorem dX11_undo_10 : decode cX11_undo 10 = .ok (.ifCond .ne 5, 3) := by decide +kernel
theorem dX11_undo_13 : decode cX11_undo 13 = .ok (.iconst (-1), 1) := by decide +kernel
theorem dX11_undo_14 : decode cX11_undo 14 = .ok (.ireturn, 1) := by decide +kernel
theorem dX11_undo_15 : decode cX11_undo 15 = .ok (.aload_n 0, 1) := by decide +kernel
theorem dX11_undo_16 : decode cX11_undo 16 = .ok (.getfield 23, 3) := by decide +kernel
theorem dX11_undo_19 : decode cX11_undo 19 = .ok (.getfield 129, 3) := by decide +kernel
theorem dX11_undo_22 : decode cX11_undo 22 = .ok (.aload_n 0, 1) := by decide +kernel
theorem dX11_undo_23 : decode cX11_undo 23 = .ok (.getfield 23, 3) := by decide +kernel
theorem dX11_undo_26 : decode cX11_undo 26 = .ok (.getfield 122, 3) := by decide +kernel
theorem dX11_undo_29 : decode cX11_undo 29 = .ok (.invokevirtual 389, 3) := by decide +kernel
theorem dX11_undo_32 : decode cX11_undo 32 = .ok (.aload_n 0, 1) := by decide +kernel
theorem dX11_undo_33 : decode cX11_undo 33 = .ok (.iconst 0, 1) := by decide +kernel
theorem dX11_undo_34 : decode cX11_undo 34 = .ok (.putfield 64, 3) := by decide +kernel
theorem dX11_undo_37 : decode cX11_undo 37 = .ok (.aload_n 0, 1) := by decide +kernel
theorem dX11_undo_38 : decode cX11_undo 38 = .ok (.getfield 23, 3) := by decide +kernel
theorem dX11_undo_41 : decode cX11_undo 41 = .ok (.getfield 129, 3) := by decide +kernel
theorem dX11_undo_44 : decode cX11_undo 44 = .ok (.getfield 231, 3) := by decide +kernel
theorem dX11_undo_47 : decode cX11_undo 47 = .ok (.ireturn, 1) := by decide +kernel
set_option maxHeartbeats 400000 in
theorem c11_undo {G : Gl} {l : Launch}  {M : Mem} {d : Int → Int} {f n : Int} (hG : GR M) (hD : M 4 = d) (hSP : SP d) (hf : M 5 3 = f) (hf0 : 0 ≤ f) (hf1 : f < 40) (hn : M 5 4 = n) (hn0 : 0 ≤ n) (hn1 : n ≤ 40) (hB2 : n ≠ 0 → SB (pbR (M 6) (M 7) (pbR (M 6) (M 7) d (2 * slt f (n - 1))) (2 * slt f (n - 1) + 1))) : Ct G LY 57 l 2 m11_undo [vR 0] M (RP (fun v M' => (n = 0 ∧ M' = M ∧ v = -1) ∨ (n ≠ 0 ∧ (Fr [4] [(5, 4), (0, 10)] M M' ∧ GR M' ∧ M' 0 10 = 0 ∧ M' 5 4 = n - 1 ∧ M' 4 = (unR (M 6) (M 7) (M 8) (slt f (n - 1)) d)) ∧ v = n - 1))) := by
  refine R_start (by decide +kernel) (Nat.le_of_ble_eq_true rfl) (fun C hC hRm hlau => ?_)
  show RZ G LY C (Zn G LY 57 C (RP (fun v M' => (n = 0 ∧ M' = M ∧ v = -1) ∨ (n ≠ 0 ∧ (Fr [4] [(5, 4), (0, 10)] M M' ∧ GR M' ∧ M' 0 10 = 0 ∧ M' 5 4 = n - 1 ∧ M' 4 = (unR (M 6) (M 7) (M 8) (slt f (n - 1)) d)) ∧ v = n - 1)))) 0 0 57 0 [some (vR 0)] [] M
  have hB9 := hSP.B
  have hL0 := hSP.1.1.1
  have hL1 := hSP.1.1.2
  have hW0 := hSP.1.2.1
  have hW1 := hSP.1.2.2
  refine R_aload_0 hC dX11_undo_0 ?_
  refine R_getR hC dX11_undo_1 fl_11_23 (by decide) rfl (by decide) (by decide) (fi := 3) rfl (r := 2) (gr_0_3 hG) ?_
  refine R_getR hC dX11_undo_4 fl_11_129 (by decide) rfl (by decide) (by decide) (fi := 1) rfl (r := 5) (gr_2_1 hG) ?_
  refine R_getIE hC dX11_undo_7 fl_11_231 (by decide) rfl (by decide) (by decide) (fi := 4) rfl hn ?_
  refine R_if_ne hC dX11_undo_10 (tgt := 15) (by decide) (fun hb10 => ?_) (fun hb10 => ?_)
  · skip
    refine R_aload_0 hC dX11_undo_15 ?_
    refine R_getR hC dX11_undo_16 fl_11_23 (by decide) rfl (by decide) (by decide) (fi := 3) rfl (r := 2) (gr_0_3 hG) ?_
    refine R_getR hC dX11_undo_19 fl_11_129 (by decide) rfl (by decide) (by decide) (fi := 1) rfl (r := 5) (gr_2_1 hG) ?_
    refine R_aload_0 hC dX11_undo_22 ?_
    refine R_getR hC dX11_undo_23 fl_11_23 (by decide) rfl (by decide) (by decide) (fi := 3) rfl (r := 2) (gr_0_3 hG) ?_
    refine R_getR hC dX11_undo_26 fl_11_122 (by decide) rfl (by decide) (by decide) (fi := 0) rfl (r := 3) (gr_2_0 hG) ?_
    refine R_callVv (as := [vR _]) hC dX11_undo_29 mo_0_undoLast ml_11_389 (by decide) rfl rfl (c0_undoLast  hG hD hf (by omega) (by omega) hn (by omega) (by omega) (hB2 hb10)) rfl rfl hRm (by decide) (by decide) (Nat.le_of_ble_eq_true rfl) (fun Mc1 hq2 => ?_)
    have hG3 := hq2.2.1
    refine R_aload_0 hC dX11_undo_32 ?_
    refine R_iconst hC dX11_undo_33 ⟨by decide, by decide⟩ ?_
    refine R_putZ hC dX11_undo_34 fl_11_64 (by decide) rfl (by decide) (by decide) (.inl rfl) (fi := 10) rfl ?_
    refine R_aload_0 hC dX11_undo_37 ?_
    have hG4 : GR (uM Mc1 0 10 0) := (GR.uF hG3 (by decide +kernel) (by decide))
    refine R_getR hC dX11_undo_38 fl_11_23 (by decide) rfl (by decide) (by decide) (fi := 3) rfl (r := 2) (gr_0_3 hG4) ?_
    refine R_getR hC dX11_undo_41 fl_11_129 (by decide) rfl (by decide) (by decide) (fi := 1) rfl (r := 5) (gr_2_1 hG4) ?_
    refine R_getIE hC dX11_undo_44 fl_11_231 (by decide) rfl (by decide) (by decide) (fi := 4) rfl ((uM_h (by decide)).trans hq2.2.2.1) ?_
    exact R_ireturn hC dX11_undo_47 rfl (ret_P (.inr ⟨hb10, ⟨Fr.uB (hq2.1.mo (by simp) (by simp)) (by decide), hG4, uM_same, (uM_h (by decide)).trans hq2.2.2.1, (uM_row0 (by decide)).trans hq2.2.2.2⟩, rfl⟩))
  · skip
    refine R_iconst hC dX11_undo_13 ⟨by decide, by decide⟩ ?_
    exact R_ireturn hC dX11_undo_14 rfl (ret_P (.inl ⟨hb10, rfl, rfl⟩))
theorem dX11_image_0 : decode cX11_image 0 = .ok (.aload_n 0, 1) := by decide +kernel
theorem dX11_image_1 : decode cX11_image 1 = .ok (.getfield 27, 3) := by decide +kernel
theorem dX11_image_4 : decode cX11_image 4 = .ok (.aload_n 0, 1) := by decide +kernel
theorem dX11_image_5 : decode cX11_image 5 = .ok (.getfield 23, 3) := by decide +kernel
theorem dX11_image_8 : decode cX11_image 8 = .ok (.invokevirtual 424, 3) := by decide +kernel
theorem dX11_image_11 : decode cX11_image 11 = .ok (.aload_n 0, 1) := by decide +kernel
theorem dX11_image_12 : decode cX11_image 12 = .ok (.iconst 1, 1) := by decide +kernel
theorem dX11_image_13 : decode cX11_image 13 = .ok (.putfield 30, 3) := by decide +kernel
theorem dX11_image_16 : decode cX11_image 16 = .ok (.return_, 1) := by decide +kernel
set_option maxHeartbeats 400000 in
theorem c11_image {G : Gl} {l : Launch}  {M : Mem} {d : Int → Int} (hG : GR M) (hD : M 4 = d) (hSP : SP d) : Ct G LY 57 l 3 m11_image [vR 0] M (RV (fun M' => Fr [13, 15, 16, 17, 18, 19] [(14, 3), (14, 4), (11, 3), (0, 5)] M M' ∧ GR M' ∧ M' 0 5 = 1 ∧ M' 13 = d ∧ (∀ k, 0 ≤ k → k < 80 → M' 15 k = M 6 k) ∧ (∀ k, 0 ≤ k → k < 80 → M' 16 k = M 7 k) ∧ (∀ k, 0 ≤ k → k < 40 → M' 17 k = M 8 k) ∧ M' 14 3 = M 5 3 ∧ M' 14 4 = M 5 4 ∧ (∀ k, 0 ≤ k → k < 6 → M' 18 k = M 9 k) ∧ M' 11 3 = M 2 3 ∧ ∀ k, 0 ≤ k → k < 3 → M' 19 k = M 10 k)) := by
  refine R_start (by decide +kernel) (Nat.le_of_ble_eq_true rfl) (fun C hC hRm hlau => ?_)
  show RZ G LY C (Zn G LY 57 C (RV (fun M' => Fr [13, 15, 16, 17, 18, 19] [(14, 3), (14, 4), (11, 3), (0, 5)] M M' ∧ GR M' ∧ M' 0 5 = 1 ∧ M' 13 = d ∧ (∀ k, 0 ≤ k → k < 80 → M' 15 k = M 6 k) ∧ (∀ k, 0 ≤ k → k < 80 → M' 16 k = M 7 k) ∧ (∀ k, 0 ≤ k → k < 40 → M' 17 k = M 8 k) ∧ M' 14 3 = M 5 3 ∧ M' 14 4 = M 5 4 ∧ (∀ k, 0 ≤ k → k < 6 → M' 18 k = M 9 k) ∧ M' 11 3 = M 2 3 ∧ ∀ k, 0 ≤ k → k < 3 → M' 19 k = M 10 k))) 0 0 57 0 [some (vR 0)] [] M
  have hB9 := hSP.B
  have hL0 := hSP.1.1.1
  have hL1 := hSP.1.1.2
  have hW0 := hSP.1.2.1
  have hW1 := hSP.1.2.2
  refine R_aload_0 hC dX11_image_0 ?_
  refine R_getR hC dX11_image_1 fl_11_27 (by decide) rfl (by decide) (by decide) (fi := 4) rfl (r := 11) (gr_0_4 hG) ?_
  refine R_aload_0 hC dX11_image_4 ?_
  refine R_getR hC dX11_image_5 fl_11_23 (by decide) rfl (by decide) (by decide) (fi := 3) rfl (r := 2) (gr_0_3 hG) ?_
  refine R_callVv (as := [vR _]) hC dX11_image_8 mo_7_copyFrom ml_11_424 (by decide) rfl rfl (c7_copyFrom_11_2  hG hD) rfl rfl hRm (by decide) (by decide) (Nat.le_of_ble_eq_true rfl) (fun Mc1 hq2 => ?_)
  have hG3 := hq2.2.1
  refine R_aload_0 hC dX11_image_11 ?_
  refine R_iconst hC dX11_image_12 ⟨by decide, by decide⟩ ?_
  refine R_putZ hC dX11_image_13 fl_11_30 (by decide) rfl (by decide) (by decide) (.inr rfl) (fi := 5) rfl ?_
  have hG4 : GR (uM Mc1 0 5 1) := (GR.uF hG3 (by decide +kernel) (by decide))
  exact R_return hC dX11_image_16 rfl (ret_V ⟨Fr.uB (hq2.1.mo (by simp) (by simp)) (by decide), hG4, uM_same, (uM_row0 (by decide)).trans hq2.2.2.1, ⟨fun k a b => (uM_h (by decide)).trans (hq2.2.2.2.1 k a b), fun k a b => (uM_h (by decide)).trans (hq2.2.2.2.2.1 k a b), fun k a b => (uM_h (by decide)).trans (hq2.2.2.2.2.2.1 k a b), (uM_h (by decide)).trans hq2.2.2.2.2.2.2.1, (uM_h (by decide)).trans hq2.2.2.2.2.2.2.2.1, fun k a b => (uM_h (by decide)).trans (hq2.2.2.2.2.2.2.2.2.1 k a b), (uM_h (by decide)).trans hq2.2.2.2.2.2.2.2.2.2.1, fun k a b => (uM_h (by decide)).trans (hq2.2.2.2.2.2.2.2.2.2.2 k a b)⟩⟩)
theorem dX11_restore_0 : decode cX11_restore 0 = .ok (.aload_n 0, 1) := by decide +kernel
theorem dX11_restore_1 : decode cX11_restore 1 = .ok (.getfield 30, 3) := by decide +kernel
theorem dX11_restore_4 : decode cX11_restore 4 = .ok (.ifCond .ne 5, 3) := by decide +kernel
theorem dX11_restore_7 : decode cX11_restore 7 = .ok (.iconst 0, 1) := by decide +kernel
theorem dX11_restore_8 : decode cX11_restore 8 = .ok (.ireturn, 1) := by decide +kernel
theorem dX11_restore_9 : decode cX11_restore 9 = .ok (.aload_n 0, 1) := by decide +kernel
theorem dX11_restore_10 : decode cX11_restore 10 = .ok (.getfield 23, 3) := by decide +kernel
theorem dX11_restore_13 : decode cX11_restore 13 = .ok (.aload_n 0, 1) := by decide +kernel
theorem dX11_restore_14 : decode cX11_restore 14 = .ok (.getfield 27, 3) := by decide +kernel
theorem dX11_restore_17 : decode cX11_restore 17 = .ok (.invokevirtual 424, 3) := by decide +kernel
theorem dX11_restore_20 : decode cX11_restore 20 = .ok (.aload_n 0, 1) := by decide +kernel
theorem dX11_restore_21 : decode cX11_restore 21 = .ok (.iconst 0, 1) := by decide +kernel
theorem dX11_restore_22 : decode cX11_restore 22 = .ok (.putfield 64, 3) := by decide +kernel
theorem dX11_restore_25 : decode cX11_restore 25 = .ok (.iconst 1, 1) := by decide +kernel
theorem dX11_restore_26 : decode cX11_restore 26 = .ok (.ireturn, 1) := by decide +kernel
set_option maxHeartbeats 400000 in
theorem c11_restore {G : Gl} {l : Launch}  {M : Mem} {d : Int → Int} (hG : GR M) (hD : M 13 = d) : Ct G LY 57 l 3 m11_restore [vR 0] M (RP (fun v M' => (M 0 5 = 0 ∧ M' = M ∧ v = 0) ∨ (M 0 5 ≠ 0 ∧ (Fr [4, 6, 7, 8, 9, 10] [(5, 3), (5, 4), (2, 3), (0, 10)] M M' ∧ GR M' ∧ M' 0 10 = 0 ∧ M' 4 = d ∧ (∀ k, 0 ≤ k → k < 80 → M' 6 k = M 15 k) ∧ (∀ k, 0 ≤ k → k < 80 → M' 7 k = M 16 k) ∧ (∀ k, 0 ≤ k → k < 40 → M' 8 k = M 17 k) ∧ M' 5 3 = M 14 3 ∧ M' 5 4 = M 14 4 ∧ (∀ k, 0 ≤ k → k < 6 → M' 9 k = M 18 k) ∧ M' 2 3 = M 11 3 ∧ ∀ k, 0 ≤ k → k < 3 → M' 10 k = M 19 k) ∧ v = 1))) := by
  refine R_start (by decide +kernel) (Nat.le_of_ble_eq_true rfl) (fun C hC hRm hlau => ?_)
  show RZ G LY C (Zn G LY 57 C (RP (fun v M' => (M 0 5 = 0 ∧ M' = M ∧ v = 0) ∨ (M 0 5 ≠ 0 ∧ (Fr [4, 6, 7, 8, 9, 10] [(5, 3), (5, 4), (2, 3), (0, 10)] M M' ∧ GR M' ∧ M' 0 10 = 0 ∧ M' 4 = d ∧ (∀ k, 0 ≤ k → k < 80 → M' 6 k = M 15 k) ∧ (∀ k, 0 ≤ k → k < 80 → M' 7 k = M 16 k) ∧ (∀ k, 0 ≤ k → k < 40 → M' 8 k = M 17 k) ∧ M' 5 3 = M 14 3 ∧ M' 5 4 = M 14 4 ∧ (∀ k, 0 ≤ k → k < 6 → M' 9 k = M 18 k) ∧ M' 2 3 = M 11 3 ∧ ∀ k, 0 ≤ k → k < 3 → M' 10 k = M 19 k) ∧ v = 1)))) 0 0 57 0 [some (vR 0)] [] M
  refine R_aload_0 hC dX11_restore_0 ?_
  refine R_getI hC dX11_restore_1 fl_11_30 (by decide) rfl (by decide) (by decide) (fi := 5) rfl ?_
  refine R_if_ne hC dX11_restore_4 (tgt := 9) (by decide) (fun hb4 => ?_) (fun hb4 => ?_)
  · skip
    refine R_aload_0 hC dX11_restore_9 ?_
    refine R_getR hC dX11_restore_10 fl_11_23 (by decide) rfl (by decide) (by decide) (fi := 3) rfl (r := 2) (gr_0_3 hG) ?_
    refine R_aload_0 hC dX11_restore_13 ?_
    refine R_getR hC dX11_restore_14 fl_11_27 (by decide) rfl (by decide) (by decide) (fi := 4) rfl (r := 11) (gr_0_4 hG) ?_
    refine R_callVv (as := [vR _]) hC dX11_restore_17 mo_7_copyFrom ml_11_424 (by decide) rfl rfl (c7_copyFrom_2_11  hG hD) rfl rfl hRm (by decide) (by decide) (Nat.le_of_ble_eq_true rfl) (fun Mc1 hq2 => ?_)
    have hG3 := hq2.2.1
    refine R_aload_0 hC dX11_restore_20 ?_
    refine R_iconst hC dX11_restore_21 ⟨by decide, by decide⟩ ?_
    refine R_putZ hC dX11_restore_22 fl_11_64 (by decide) rfl (by decide) (by decide) (.inl rfl) (fi := 10) rfl ?_
    refine R_iconst hC dX11_restore_25 ⟨by decide, by decide⟩ ?_
    have hG4 : GR (uM Mc1 0 10 0) := (GR.uF hG3 (by decide +kernel) (by decide))
    exact R_zreturn hC dX11_restore_26 rfl (.inr rfl) (ret_P (.inr ⟨hb4, ⟨Fr.uB (hq2.1.mo (by simp) (by simp)) (by decide), hG4, uM_same, (uM_row0 (by decide)).trans hq2.2.2.1, ⟨fun k a b => (uM_h (by decide)).trans (hq2.2.2.2.1 k a b), fun k a b => (uM_h (by decide)).trans (hq2.2.2.2.2.1 k a b), fun k a b => (uM_h (by decide)).trans (hq2.2.2.2.2.2.1 k a b), (uM_h (by decide)).trans hq2.2.2.2.2.2.2.1, (uM_h (by decide)).trans hq2.2.2.2.2.2.2.2.1, fun k a b => (uM_h (by decide)).trans (hq2.2.2.2.2.2.2.2.2.1 k a b), (uM_h (by decide)).trans hq2.2.2.2.2.2.2.2.2.2.1, fun k a b => (uM_h (by decide)).trans (hq2.2.2.2.2.2.2.2.2.2.2 k a b)⟩⟩, rfl⟩))
  · skip
    refine R_iconst hC dX11_restore_7 ⟨by decide, by decide⟩ ?_
    exact R_zreturn hC dX11_restore_8 rfl (.inl rfl) (ret_P (.inl ⟨hb4, rfl, rfl⟩))
