/-! the model's acts one by one -/
theorem dX12_isCell_0 : decode cX12_isCell 0 = .ok (.iload_n 1, 1) := by decide +kernel
theorem dX12_isCell_1 : decode cX12_isCell 1 = .ok (.iconst 0, 1) := by decide +kernel
theorem dX12_isCell_2 : decode cX12_isCell 2 = .ok (.aload_n 0, 1) := by decide +kernel
theorem dX12_isCell_3 : decode cX12_isCell 3 = .ok (.getfield 105, 3) := by decide +kernel
theorem dX12_isCell_6 : decode cX12_isCell 6 = .ok (.iconst 1, 1) := by decide +kernel
theorem dX12_isCell_7 : decode cX12_isCell 7 = .ok (.isub, 1) := by decide +kernel
theorem dX12_isCell_8 : decode cX12_isCell 8 = .ok (.invokestatic 235, 3) := by decide +kernel
theorem dX12_isCell_11 : decode cX12_isCell 11 = .ok (.ifCond .eq 21, 3) := by decide +kernel
theorem dX12_isCell_14 : decode cX12_isCell 14 = .ok (.iload_n 2, 1) := by decide +kernel
theorem dX12_isCell_15 : decode cX12_isCell 15 = .ok (.iconst 0, 1) := by decide +kernel
theorem dX12_isCell_16 : decode cX12_isCell 16 = .ok (.aload_n 0, 1) := by decide +kernel
theorem dX12_isCell_17 : decode cX12_isCell 17 = .ok (.getfield 102, 3) := by decide +kernel
theorem dX12_isCell_20 : decode cX12_isCell 20 = .ok (.iconst 1, 1) := by decide +kernel
theorem dX12_isCell_21 : decode cX12_isCell 21 = .ok (.isub, 1) := by decide +kernel
theorem dX12_isCell_22 : decode cX12_isCell 22 = .ok (.invokestatic 235, 3) := by decide +kernel
theorem dX12_isCell_25 : decode cX12_isCell 25 = .ok (.ifCond .eq 7, 3) := by decide +kernel
theorem dX12_isCell_28 : decode cX12_isCell 28 = .ok (.iconst 1, 1) := by decide +kernel
theorem dX12_isCell_29 : decode cX12_isCell 29 = .ok (.goto 4, 3) := by decide +kernel
theorem dX12_isCell_32 : decode cX12_isCell 32 = .ok (.iconst 0, 1) := by decide +kernel
theorem dX12_isCell_33 : decode cX12_isCell 33 = .ok (.ireturn, 1) := by decide +kernel
set_option maxHeartbeats 400000 in
theorem c12_isCell {G : Gl} {l : Launch}  {M : Mem} {c : Int → Int} {x w : Int} (hG : GR M) (hK : RW M 0 c) (hS : SP c) : Ct G LY 82 l 1 m12_isCell [vR 57, vI x, vI w] M (Ret (vI (bP ((0 ≤ x ∧ x < c 121) ∧ 0 ≤ w ∧ w < c 122))) M) := by
  refine R_start (by decide +kernel) (Nat.le_of_ble_eq_true rfl) (fun C hC hRm hlau => ?_)
  show RZ G LY C (Zn G LY 82 C (Ret (vI (bP ((0 ≤ x ∧ x < c 121) ∧ 0 ≤ w ∧ w < c 122))) M)) 0 0 82 0 [some (vR 57), some (vI x), some (vI w)] [] M
  have hM := hS.m
  have hI := hM.I
  have hL := hM.1.1
  have hW := hM.1.2
  refine R_iload_1 hC dX12_isCell_0 ?_
  refine R_iconst hC dX12_isCell_1 ⟨by decide, by decide⟩ ?_
  refine R_aload_0 hC dX12_isCell_2 ?_
  refine R_getIE hC dX12_isCell_3 fl_12_105 (by decide) rfl (by decide) (by decide) (fi := 5) rfl hK.l ?_
  refine R_iconst hC dX12_isCell_6 ⟨by decide, by decide⟩ ?_
  refine R_isub hC dX12_isCell_7 ⟨by omega, by omega⟩ ?_
  refine R_callSq (as := [vI _, vI _, vI _]) hC dX12_isCell_8 mo_12_within ml_12_235 (c12_within  ) rfl rfl hRm (by decide) (by decide) (Nat.le_of_ble_eq_true rfl) ?_
  refine R_if_eq hC dX12_isCell_11 (tgt := 32) (by decide) (fun hb11 => ?_) (fun hb11 => ?_)
  · skip
    replace hb11 := bP_z hb11
    refine R_iconst hC dX12_isCell_32 ⟨by decide, by decide⟩ ?_
    exact R_zreturn hC dX12_isCell_33 rfl (.inl rfl) (ret_f (by omega))
  · skip
    replace hb11 := bP_nz hb11
    refine R_iload_2 hC dX12_isCell_14 ?_
    refine R_iconst hC dX12_isCell_15 ⟨by decide, by decide⟩ ?_
    refine R_aload_0 hC dX12_isCell_16 ?_
    refine R_getIE hC dX12_isCell_17 fl_12_102 (by decide) rfl (by decide) (by decide) (fi := 6) rfl hK.w ?_
    refine R_iconst hC dX12_isCell_20 ⟨by decide, by decide⟩ ?_
    refine R_isub hC dX12_isCell_21 ⟨by omega, by omega⟩ ?_
    refine R_callSq (as := [vI _, vI _, vI _]) hC dX12_isCell_22 mo_12_within ml_12_235 (c12_within  ) rfl rfl hRm (by decide) (by decide) (Nat.le_of_ble_eq_true rfl) ?_
    refine R_if_eq hC dX12_isCell_25 (tgt := 32) (by decide) (fun hb25 => ?_) (fun hb25 => ?_)
    · skip
      replace hb25 := bP_z hb25
      refine R_iconst hC dX12_isCell_32 ⟨by decide, by decide⟩ ?_
      exact R_zreturn hC dX12_isCell_33 rfl (.inl rfl) (ret_f (by omega))
    · skip
      replace hb25 := bP_nz hb25
      refine R_iconst hC dX12_isCell_28 ⟨by decide, by decide⟩ ?_
      refine R_goto hC dX12_isCell_29 (tgt := 33) (by decide) ?_
      exact R_zreturn hC dX12_isCell_33 rfl (.inr rfl) (ret_t (by omega))
theorem dX12_tells_0 : decode cX12_tells 0 = .ok (.aload_n 0, 1) := by decide +kernel
theorem dX12_tells_1 : decode cX12_tells 1 = .ok (.invokevirtual 412, 3) := by decide +kernel
theorem dX12_tells_4 : decode cX12_tells 4 = .ok (.aload_n 0, 1) := by decide +kernel
theorem dX12_tells_5 : decode cX12_tells 5 = .ok (.getfield 9, 3) := by decide +kernel
theorem dX12_tells_8 : decode cX12_tells 8 = .ok (.iload_n 1, 1) := by decide +kernel
theorem dX12_tells_9 : decode cX12_tells 9 = .ok (.iaload, 1) := by decide +kernel
theorem dX12_tells_10 : decode cX12_tells 10 = .ok (.istore_n 3, 1) := by decide +kernel
theorem dX12_tells_11 : decode cX12_tells 11 = .ok (.aload_n 0, 1) := by decide +kernel
theorem dX12_tells_12 : decode cX12_tells 12 = .ok (.getfield 9, 3) := by decide +kernel
theorem dX12_tells_15 : decode cX12_tells 15 = .ok (.iload_n 1, 1) := by decide +kernel
theorem dX12_tells_16 : decode cX12_tells 16 = .ok (.iload_n 2, 1) := by decide +kernel
theorem dX12_tells_17 : decode cX12_tells 17 = .ok (.iastore, 1) := by decide +kernel
theorem dX12_tells_18 : decode cX12_tells 18 = .ok (.iload_n 3, 1) := by decide +kernel
theorem dX12_tells_19 : decode cX12_tells 19 = .ok (.ireturn, 1) := by decide +kernel
set_option maxHeartbeats 400000 in
theorem c12_tells {G : Gl} {l : Launch}  {M : Mem} {c : Int → Int} {a k u : Int} {rn rf : Int} {rs : Int → Int → Int} (hG : GR M) (hK : RW M 0 c) (hR : RNG M rn rf rs) (hk : (0 ≤ k ∧ k < 10) ∨ (16 ≤ k ∧ k < 120)) (ha : a = mj k) : Ct G LY 82 l 2 m12_tells [vR 57, vI a, vI u] M (RP (fun v M' => Fr [58] [(57, 7), (57, 8)] M M' ∧ HI M M' ∧ RW M' 0 (upd1 c k u) ∧ RNG M' (kpN rn) (kpF rn rf) (kpS rn rs c) ∧ v = c k)) := by
  refine R_start (by decide +kernel) (Nat.le_of_ble_eq_true rfl) (fun C hC hRm hlau => ?_)
  show RZ G LY C (Zn G LY 82 C (RP (fun v M' => Fr [58] [(57, 7), (57, 8)] M M' ∧ HI M M' ∧ RW M' 0 (upd1 c k u) ∧ RNG M' (kpN rn) (kpF rn rf) (kpS rn rs c) ∧ v = c k))) 0 0 82 0 [some (vR 57), some (vI a), some (vI u), none] [] M
  have bm := mj_b hk
  refine R_aload_0 hC dX12_tells_0 ?_
  refine R_callVv (as := []) hC dX12_tells_1 mo_12_keeps ml_12_412 (by decide) rfl rfl (c12_keeps  hG hK hR) rfl rfl hRm (by decide) (by decide) (Nat.le_of_ble_eq_true rfl) (fun Mc1 hq2 => ?_)
  have hk3 : RW Mc1 0 c := (hq2.2.2.1)
  have hk0 : RW Mc1 0 c := hk3
  refine R_aload_0 hC dX12_tells_4 ?_
  have hG4 : GR Mc1 := (GR.fr hG hq2.1 (by decide +kernel))
  refine R_getR hC dX12_tells_5 fl_12_9 (by decide) rfl (by decide) (by decide) (fi := 0) rfl (r := 58) (gr_57_0 hG4) ?_
  refine R_iload_1 hC dX12_tells_8 ?_
  refine R_ialoadE hC dX12_tells_9 (by decide) rfl (by omega) (by omega) (hk3.rm hk (by omega)) ?_
  refine R_istore_3 hC dX12_tells_10 rfl ?_
  refine R_aload_0 hC dX12_tells_11 ?_
  refine R_getR hC dX12_tells_12 fl_12_9 (by decide) rfl (by decide) (by decide) (fi := 0) rfl (r := 58) (gr_57_0 hG4) ?_
  refine R_iload_1 hC dX12_tells_15 ?_
  refine R_iload_2 hC dX12_tells_16 ?_
  refine R_iastore hC dX12_tells_17 (by decide) rfl (by omega) (by omega) ?_
  refine R_iload_3 hC dX12_tells_18 ?_
  have hk5 : RW (uM Mc1 58 a u) 0 (upd1 c k u) := (hk0.wr hk (by omega))
  exact R_ireturn hC dX12_tells_19 rfl (ret_P ⟨Fr.uA hq2.1 (by decide), hq2.2.1.u (by omega), hk5, hq2.2.2.2.u8 (by omega), rfl⟩)
theorem dX12_own_0 : decode cX12_own 0 = .ok (.aload_n 0, 1) := by decide +kernel
theorem dX12_own_1 : decode cX12_own 1 = .ok (.iconst 0, 1) := by decide +kernel
theorem dX12_own_2 : decode cX12_own 2 = .ok (.putfield 84, 3) := by decide +kernel
theorem dX12_own_5 : decode cX12_own 5 = .ok (.aload_n 0, 1) := by decide +kernel
theorem dX12_own_6 : decode cX12_own 6 = .ok (.iload_n 1, 1) := by decide +kernel
theorem dX12_own_7 : decode cX12_own 7 = .ok (.iload_n 2, 1) := by decide +kernel
theorem dX12_own_8 : decode cX12_own 8 = .ok (.invokevirtual 415, 3) := by decide +kernel
theorem dX12_own_11 : decode cX12_own 11 = .ok (.ifCond .eq 23, 3) := by decide +kernel
theorem dX12_own_14 : decode cX12_own 14 = .ok (.iload_n 3, 1) := by decide +kernel
theorem dX12_own_15 : decode cX12_own 15 = .ok (.iconst 0, 1) := by decide +kernel
theorem dX12_own_16 : decode cX12_own 16 = .ok (.iconst 3, 1) := by decide +kernel
theorem dX12_own_17 : decode cX12_own 17 = .ok (.invokestatic 235, 3) := by decide +kernel
theorem dX12_own_20 : decode cX12_own 20 = .ok (.ifCond .eq 14, 3) := by decide +kernel
theorem dX12_own_23 : decode cX12_own 23 = .ok (.aload_n 0, 1) := by decide +kernel
theorem dX12_own_24 : decode cX12_own 24 = .ok (.iconst 0, 1) := by decide +kernel
theorem dX12_own_25 : decode cX12_own 25 = .ok (.iload_n 1, 1) := by decide +kernel
theorem dX12_own_26 : decode cX12_own 26 = .ok (.iload_n 2, 1) := by decide +kernel
theorem dX12_own_27 : decode cX12_own 27 = .ok (.invokevirtual 95, 3) := by decide +kernel
theorem dX12_own_30 : decode cX12_own 30 = .ok (.iload_n 3, 1) := by decide +kernel
theorem dX12_own_31 : decode cX12_own 31 = .ok (.if_icmp .ne 9, 3) := by decide +kernel
theorem dX12_own_34 : decode cX12_own 34 = .ok (.aload_n 0, 1) := by decide +kernel
theorem dX12_own_35 : decode cX12_own 35 = .ok (.iconst 1, 1) := by decide +kernel
theorem dX12_own_36 : decode cX12_own 36 = .ok (.invokevirtual 418, 3) := by decide +kernel
theorem dX12_own_39 : decode cX12_own 39 = .ok (.ireturn, 1) := by decide +kernel
theorem dX12_own_40 : decode cX12_own 40 = .ok (.aload_n 0, 1) := by decide +kernel
theorem dX12_own_41 : decode cX12_own 41 = .ok (.bipush 10, 2) := by decide +kernel
theorem dX12_own_43 : decode cX12_own 43 = .ok (.iload_n 1, 1) := by decide +kernel
theorem dX12_own_44 : decode cX12_own 44 = .ok (.iload_n 2, 1) := by decide +kernel
theorem dX12_own_45 : decode cX12_own 45 = .ok (.invokestatic 87, 3) := by decide +kernel
theorem dX12_own_48 : decode cX12_own 48 = .ok (.iadd, 1) := by decide +kernel
theorem dX12_own_49 : decode cX12_own 49 = .ok (.iload_n 3, 1) := by decide +kernel
theorem dX12_own_50 : decode cX12_own 50 = .ok (.invokevirtual 421, 3) := by decide +kernel
theorem dX12_own_53 : decode cX12_own 53 = .ok (.ireturn, 1) := by decide +kernel
set_option maxHeartbeats 400000 in
theorem c12_own {G : Gl} {l : Launch}  {M : Mem} {c : Int → Int} {x w m : Int} {rn rf : Int} {rs : Int → Int → Int} (hG : GR M) (hK : RW M 0 c) (hS : SP c) (hR : RNG M rn rf rs) (hr0 : 0 ≤ M 61 1) (hr1 : M 61 1 ≤ 1000000000) : Ct G LY 82 l 3 m12_own [vR 57, vI x, vI w, vI m] M (RP (fun v M' => M' 57 4 = 0 ∧ (((((0 ≤ x ∧ x < c 121) ∧ 0 ≤ w ∧ w < c 122) ∧ (0 ≤ m ∧ m ≤ 3) ∧ c (28 + x * 6 + w) ≠ m) ∧ (Fr [58] [(57, 4), (57, 7), (57, 8)] M M' ∧ HI M M' ∧ RW M' 0 (upd1 c (28 + x * 6 + w) m) ∧ RNG M' (kpN rn) (kpF rn rf) (kpS rn rs c)) ∧ v = c (28 + x * 6 + w)) ∨ (¬ (((0 ≤ x ∧ x < c 121) ∧ 0 ≤ w ∧ w < c 122) ∧ (0 ≤ m ∧ m ≤ 3) ∧ c (28 + x * 6 + w) ≠ m) ∧ (Fr [61] [(57, 4)] M M' ∧ M' 61 1 = M 61 1 + 1 ∧ ∀ j, j ≠ 1 → M' 61 j = M 61 j) ∧ v = -1)))) := by
  refine R_start (by decide +kernel) (Nat.le_of_ble_eq_true rfl) (fun C hC hRm hlau => ?_)
  show RZ G LY C (Zn G LY 82 C (RP (fun v M' => M' 57 4 = 0 ∧ (((((0 ≤ x ∧ x < c 121) ∧ 0 ≤ w ∧ w < c 122) ∧ (0 ≤ m ∧ m ≤ 3) ∧ c (28 + x * 6 + w) ≠ m) ∧ (Fr [58] [(57, 4), (57, 7), (57, 8)] M M' ∧ HI M M' ∧ RW M' 0 (upd1 c (28 + x * 6 + w) m) ∧ RNG M' (kpN rn) (kpF rn rf) (kpS rn rs c)) ∧ v = c (28 + x * 6 + w)) ∨ (¬ (((0 ≤ x ∧ x < c 121) ∧ 0 ≤ w ∧ w < c 122) ∧ (0 ≤ m ∧ m ≤ 3) ∧ c (28 + x * 6 + w) ≠ m) ∧ (Fr [61] [(57, 4)] M M' ∧ M' 61 1 = M 61 1 + 1 ∧ ∀ j, j ≠ 1 → M' 61 j = M 61 j) ∧ v = -1))))) 0 0 82 0 [some (vR 57), some (vI x), some (vI w), some (vI m)] [] M
  have hM := hS.m
  have hI := hM.I
  have hL := hM.1.1
  have hW := hM.1.2
  refine R_aload_0 hC dX12_own_0 ?_
  refine R_iconst hC dX12_own_1 ⟨by decide, by decide⟩ ?_
  refine R_putI hC dX12_own_2 fl_12_84 (by decide) rfl (by decide) (by decide) (fi := 4) rfl ?_
  refine R_aload_0 hC dX12_own_5 ?_
  refine R_iload_1 hC dX12_own_6 ?_
  refine R_iload_2 hC dX12_own_7 ?_
  have hG1 : GR (uM M 57 4 0) := (GR.uF hG (by decide +kernel) (by decide))
  have hk2 : RW (uM M 57 4 0) 0 c := (RW.uf hK (by decide))
  refine R_callVq (as := [vI _, vI _]) hC dX12_own_8 mo_12_isCell ml_12_415 (by decide) rfl rfl (c12_isCell  hG1 hk2 hS) rfl rfl hRm (by decide) (by decide) (Nat.le_of_ble_eq_true rfl) ?_
  refine R_if_eq hC dX12_own_11 (tgt := 34) (by decide) (fun hb11 => ?_) (fun hb11 => ?_)
  · skip
    replace hb11 := bP_z hb11
    refine R_aload_0 hC dX12_own_34 ?_
    refine R_iconst hC dX12_own_35 ⟨by decide, by decide⟩ ?_
    refine R_callVp (as := [vI _]) hC dX12_own_36 mo_12_refuses ml_12_418 (by decide) rfl rfl (c12_refuses  hG1 (by omega) (by omega) (by (rw [show uM M 57 4 0 61 1 = M 61 1 from uM_h (by decide)]; exact hr0)) (by (rw [show uM M 57 4 0 61 1 = M 61 1 from uM_h (by decide)]; exact hr1))) rfl rfl hRm (by decide) (by decide) (Nat.le_of_ble_eq_true rfl) (fun v5 Mc3 hq4 => ?_)
    exact R_ireturn hC dX12_own_39 rfl (ret_P ⟨by (rw [hq4.2.1]; exact (uM_h (by decide)).trans uM_same), .inr ⟨by (intro z; first | exact hb11 z.1 | exact hb20 z.2.1 | exact z.2.2 hb31), ⟨Fr.tt (Fr.uB Fr.rf (by decide)) (hq4.1.mo (by simp) (by simp)), by (rw [hq4.2.1]; exact uM_same.trans (congrArg (· + 1) (uM_h (by decide)))), fun j ne => by (rw [hq4.2.1]; exact (uM_k ne).trans (uM_h (by decide)))⟩, hq4.2.2⟩⟩)
  · skip
    replace hb11 := bP_nz hb11
    refine R_iload_3 hC dX12_own_14 ?_
    refine R_iconst hC dX12_own_15 ⟨by decide, by decide⟩ ?_
    refine R_iconst hC dX12_own_16 ⟨by decide, by decide⟩ ?_
    refine R_callSq (as := [vI _, vI _, vI _]) hC dX12_own_17 mo_12_within ml_12_235 (c12_within  ) rfl rfl hRm (by decide) (by decide) (Nat.le_of_ble_eq_true rfl) ?_
    refine R_if_eq hC dX12_own_20 (tgt := 34) (by decide) (fun hb20 => ?_) (fun hb20 => ?_)
    · skip
      replace hb20 := bP_z hb20
      refine R_aload_0 hC dX12_own_34 ?_
      refine R_iconst hC dX12_own_35 ⟨by decide, by decide⟩ ?_
      refine R_callVp (as := [vI _]) hC dX12_own_36 mo_12_refuses ml_12_418 (by decide) rfl rfl (c12_refuses  hG1 (by omega) (by omega) (by (rw [show uM M 57 4 0 61 1 = M 61 1 from uM_h (by decide)]; exact hr0)) (by (rw [show uM M 57 4 0 61 1 = M 61 1 from uM_h (by decide)]; exact hr1))) rfl rfl hRm (by decide) (by decide) (Nat.le_of_ble_eq_true rfl) (fun v8 Mc6 hq7 => ?_)
      exact R_ireturn hC dX12_own_39 rfl (ret_P ⟨by (rw [hq7.2.1]; exact (uM_h (by decide)).trans uM_same), .inr ⟨by (intro z; first | exact hb11 z.1 | exact hb20 z.2.1 | exact z.2.2 hb31), ⟨Fr.tt (Fr.uB Fr.rf (by decide)) (hq7.1.mo (by simp) (by simp)), by (rw [hq7.2.1]; exact uM_same.trans (congrArg (· + 1) (uM_h (by decide)))), fun j ne => by (rw [hq7.2.1]; exact (uM_k ne).trans (uM_h (by decide)))⟩, hq7.2.2⟩⟩)
    · skip
      replace hb20 := bP_nz hb20
      refine R_aload_0 hC dX12_own_23 ?_
      refine R_iconst hC dX12_own_24 ⟨by decide, by decide⟩ ?_
      refine R_iload_1 hC dX12_own_25 ?_
      refine R_iload_2 hC dX12_own_26 ?_
      refine R_callVq (as := [vI _, vI _, vI _]) hC dX12_own_27 mo_12_holds ml_12_95 (by decide) rfl rfl (c12_holds  hG1 hk2 (by omega) (by omega) (by omega) (by omega) (by omega) (by omega)) rfl rfl hRm (by decide) (by decide) (Nat.le_of_ble_eq_true rfl) ?_
      refine R_iload_3 hC dX12_own_30 ?_
      refine R_icmp_ne hC dX12_own_31 (tgt := 40) (by decide) (fun hb31 => ?_) (fun hb31 => ?_)
      · skip
        refine R_aload_0 hC dX12_own_40 ?_
        refine R_bipush hC dX12_own_41 (by decide +kernel) ⟨by decide, by decide⟩ ?_
        refine R_iload_1 hC dX12_own_43 ?_
        refine R_iload_2 hC dX12_own_44 ?_
        refine R_callSq (as := [vI _, vI _]) hC dX12_own_45 mo_12_cell ml_12_87 (c12_cell  (by omega) (by omega) (by omega) (by omega)) rfl rfl hRm (by decide) (by decide) (Nat.le_of_ble_eq_true rfl) ?_
        refine R_iadd hC dX12_own_48 ⟨by omega, by omega⟩ ?_
        refine R_iload_3 hC dX12_own_49 ?_
        refine R_callVp (as := [vI _, vI _]) hC dX12_own_50 mo_12_tells ml_12_421 (by decide) rfl rfl (c12_tells (k := (28 + x * 6 + w)) hG1 hk2 hR.u4 (.inr (by omega)) (by (rw [mj4 (by omega) (by omega)]; omega))) rfl rfl hRm (by decide) (by decide) (Nat.le_of_ble_eq_true rfl) (fun v11 Mc9 hq10 => ?_)
        have hk12 : RW Mc9 0 (upd1 c (28 + x * 6 + w) m) := (hq10.2.2.1)
        exact R_ireturn hC dX12_own_53 rfl (ret_P ⟨(hq10.1 57 4 (by decide) (by decide)).trans uM_same, .inl ⟨⟨hb11, hb20, hb31⟩, ⟨Fr.tt (Fr.uB Fr.rf (by decide)) (hq10.1.mo (by simp) (by simp)), fun j e => (hq10.2.1 j e).trans (uM_h (by decide)), hk12, hq10.2.2.2.1⟩, hq10.2.2.2.2⟩⟩)
      · skip
        refine R_aload_0 hC dX12_own_34 ?_
        refine R_iconst hC dX12_own_35 ⟨by decide, by decide⟩ ?_
        refine R_callVp (as := [vI _]) hC dX12_own_36 mo_12_refuses ml_12_418 (by decide) rfl rfl (c12_refuses  hG1 (by omega) (by omega) (by (rw [show uM M 57 4 0 61 1 = M 61 1 from uM_h (by decide)]; exact hr0)) (by (rw [show uM M 57 4 0 61 1 = M 61 1 from uM_h (by decide)]; exact hr1))) rfl rfl hRm (by decide) (by decide) (Nat.le_of_ble_eq_true rfl) (fun v15 Mc13 hq14 => ?_)
        exact R_ireturn hC dX12_own_39 rfl (ret_P ⟨by (rw [hq14.2.1]; exact (uM_h (by decide)).trans uM_same), .inr ⟨by (intro z; first | exact hb11 z.1 | exact hb20 z.2.1 | exact z.2.2 hb31), ⟨Fr.tt (Fr.uB Fr.rf (by decide)) (hq14.1.mo (by simp) (by simp)), by (rw [hq14.2.1]; exact uM_same.trans (congrArg (· + 1) (uM_h (by decide)))), fun j ne => by (rw [hq14.2.1]; exact (uM_k ne).trans (uM_h (by decide)))⟩, hq14.2.2⟩⟩)
theorem dX12_keep_0 : decode cX12_keep 0 = .ok (.aload_n 0, 1) := by decide +kernel
theorem dX12_keep_1 : decode cX12_keep 1 = .ok (.iconst 0, 1) := by decide +kernel
theorem dX12_keep_2 : decode cX12_keep 2 = .ok (.putfield 84, 3) := by decide +kernel
theorem dX12_keep_5 : decode cX12_keep 5 = .ok (.iload_n 1, 1) := by decide +kernel
theorem dX12_keep_6 : decode cX12_keep 6 = .ok (.iconst 0, 1) := by decide +kernel
theorem dX12_keep_7 : decode cX12_keep 7 = .ok (.aload_n 0, 1) := by decide +kernel
theorem dX12_keep_8 : decode cX12_keep 8 = .ok (.getfield 102, 3) := by decide +kernel
theorem dX12_keep_11 : decode cX12_keep 11 = .ok (.iconst 1, 1) := by decide +kernel
theorem dX12_keep_12 : decode cX12_keep 12 = .ok (.isub, 1) := by decide +kernel
theorem dX12_keep_13 : decode cX12_keep 13 = .ok (.invokestatic 235, 3) := by decide +kernel
theorem dX12_keep_16 : decode cX12_keep 16 = .ok (.ifCond .eq 25, 3) := by decide +kernel
theorem dX12_keep_19 : decode cX12_keep 19 = .ok (.iload_n 2, 1) := by decide +kernel
theorem dX12_keep_20 : decode cX12_keep 20 = .ok (.iconst 0, 1) := by decide +kernel
theorem dX12_keep_21 : decode cX12_keep 21 = .ok (.bipush 15, 2) := by decide +kernel
theorem dX12_keep_23 : decode cX12_keep 23 = .ok (.invokestatic 235, 3) := by decide +kernel
theorem dX12_keep_26 : decode cX12_keep 26 = .ok (.ifCond .eq 15, 3) := by decide +kernel
theorem dX12_keep_29 : decode cX12_keep 29 = .ok (.aload_n 0, 1) := by decide +kernel
theorem dX12_keep_30 : decode cX12_keep 30 = .ok (.bipush 100, 2) := by decide +kernel
theorem dX12_keep_32 : decode cX12_keep 32 = .ok (.iload_n 1, 1) := by decide +kernel
theorem dX12_keep_33 : decode cX12_keep 33 = .ok (.iadd, 1) := by decide +kernel
theorem dX12_keep_34 : decode cX12_keep 34 = .ok (.iload_n 2, 1) := by decide +kernel
theorem dX12_keep_35 : decode cX12_keep 35 = .ok (.invokevirtual 421, 3) := by decide +kernel
theorem dX12_keep_38 : decode cX12_keep 38 = .ok (.goto 8, 3) := by decide +kernel
theorem dX12_keep_41 : decode cX12_keep 41 = .ok (.aload_n 0, 1) := by decide +kernel
theorem dX12_keep_42 : decode cX12_keep 42 = .ok (.iconst 1, 1) := by decide +kernel
theorem dX12_keep_43 : decode cX12_keep 43 = .ok (.invokevirtual 418, 3) := by decide +kernel
theorem dX12_keep_46 : decode cX12_keep 46 = .ok (.ireturn, 1) := by decide +kernel
set_option maxHeartbeats 400000 in
theorem c12_keep {G : Gl} {l : Launch}  {M : Mem} {c : Int → Int} {w m : Int} {rn rf : Int} {rs : Int → Int → Int} (hG : GR M) (hK : RW M 0 c) (hS : SP c) (hR : RNG M rn rf rs) (hr0 : 0 ≤ M 61 1) (hr1 : M 61 1 ≤ 1000000000) : Ct G LY 82 l 3 m12_keep [vR 57, vI w, vI m] M (RP (fun v M' => M' 57 4 = 0 ∧ ((((0 ≤ w ∧ w < c 122) ∧ 0 ≤ m ∧ m ≤ 15) ∧ (Fr [58] [(57, 4), (57, 7), (57, 8)] M M' ∧ HI M M' ∧ RW M' 0 (upd1 c (16 + w) m) ∧ RNG M' (kpN rn) (kpF rn rf) (kpS rn rs c)) ∧ v = c (16 + w)) ∨ (¬ ((0 ≤ w ∧ w < c 122) ∧ 0 ≤ m ∧ m ≤ 15) ∧ (Fr [61] [(57, 4)] M M' ∧ M' 61 1 = M 61 1 + 1 ∧ ∀ j, j ≠ 1 → M' 61 j = M 61 j) ∧ v = -1)))) := by
  refine R_start (by decide +kernel) (Nat.le_of_ble_eq_true rfl) (fun C hC hRm hlau => ?_)
  show RZ G LY C (Zn G LY 82 C (RP (fun v M' => M' 57 4 = 0 ∧ ((((0 ≤ w ∧ w < c 122) ∧ 0 ≤ m ∧ m ≤ 15) ∧ (Fr [58] [(57, 4), (57, 7), (57, 8)] M M' ∧ HI M M' ∧ RW M' 0 (upd1 c (16 + w) m) ∧ RNG M' (kpN rn) (kpF rn rf) (kpS rn rs c)) ∧ v = c (16 + w)) ∨ (¬ ((0 ≤ w ∧ w < c 122) ∧ 0 ≤ m ∧ m ≤ 15) ∧ (Fr [61] [(57, 4)] M M' ∧ M' 61 1 = M 61 1 + 1 ∧ ∀ j, j ≠ 1 → M' 61 j = M 61 j) ∧ v = -1))))) 0 0 82 0 [some (vR 57), some (vI w), some (vI m)] [] M
  have hM := hS.m
  have hI := hM.I
  have hL := hM.1.1
  have hW := hM.1.2
  refine R_aload_0 hC dX12_keep_0 ?_
  refine R_iconst hC dX12_keep_1 ⟨by decide, by decide⟩ ?_
  refine R_putI hC dX12_keep_2 fl_12_84 (by decide) rfl (by decide) (by decide) (fi := 4) rfl ?_
  refine R_iload_1 hC dX12_keep_5 ?_
  refine R_iconst hC dX12_keep_6 ⟨by decide, by decide⟩ ?_
  refine R_aload_0 hC dX12_keep_7 ?_
  have hk1 : RW (uM M 57 4 0) 0 c := (RW.uf hK (by decide))
  refine R_getIE hC dX12_keep_8 fl_12_102 (by decide) rfl (by decide) (by decide) (fi := 6) rfl hk1.w ?_
  refine R_iconst hC dX12_keep_11 ⟨by decide, by decide⟩ ?_
  refine R_isub hC dX12_keep_12 ⟨by omega, by omega⟩ ?_
  refine R_callSq (as := [vI _, vI _, vI _]) hC dX12_keep_13 mo_12_within ml_12_235 (c12_within  ) rfl rfl hRm (by decide) (by decide) (Nat.le_of_ble_eq_true rfl) ?_
  refine R_if_eq hC dX12_keep_16 (tgt := 41) (by decide) (fun hb16 => ?_) (fun hb16 => ?_)
  · skip
    replace hb16 := bP_z hb16
    refine R_aload_0 hC dX12_keep_41 ?_
    refine R_iconst hC dX12_keep_42 ⟨by decide, by decide⟩ ?_
    have hG2 : GR (uM M 57 4 0) := (GR.uF hG (by decide +kernel) (by decide))
    refine R_callVp (as := [vI _]) hC dX12_keep_43 mo_12_refuses ml_12_418 (by decide) rfl rfl (c12_refuses  hG2 (by omega) (by omega) (by (rw [show uM M 57 4 0 61 1 = M 61 1 from uM_h (by decide)]; exact hr0)) (by (rw [show uM M 57 4 0 61 1 = M 61 1 from uM_h (by decide)]; exact hr1))) rfl rfl hRm (by decide) (by decide) (Nat.le_of_ble_eq_true rfl) (fun v5 Mc3 hq4 => ?_)
    have hk6 : RW Mc3 0 c := (RW.fr hk1 hq4.1 (by decide +kernel))
    exact R_ireturn hC dX12_keep_46 rfl (ret_P (by first | exact ⟨(hq4.1 57 4 (by decide) (by decide)).trans uM_same, .inl ⟨⟨by omega, hb26⟩, ⟨Fr.tt (Fr.uB Fr.rf (by decide)) (hq4.1.mo (by simp) (by simp)), fun j e => (hq4.2.1 j e).trans (uM_h (by decide)), hk6, hq4.2.2.2.1⟩, hq4.2.2.2.2⟩⟩ | exact ⟨by (rw [hq4.2.1]; exact (uM_h (by decide)).trans uM_same), .inr ⟨by (intro z; first | exact hb16 (by omega) | exact hb26 z.2), ⟨Fr.tt (Fr.uB Fr.rf (by decide)) (hq4.1.mo (by simp) (by simp)), by (rw [hq4.2.1]; exact uM_same.trans (congrArg (· + 1) (uM_h (by decide)))), fun j ne => by (rw [hq4.2.1]; exact (uM_k ne).trans (uM_h (by decide)))⟩, hq4.2.2⟩⟩))
  · skip
    replace hb16 := bP_nz hb16
    refine R_iload_2 hC dX12_keep_19 ?_
    refine R_iconst hC dX12_keep_20 ⟨by decide, by decide⟩ ?_
    refine R_bipush hC dX12_keep_21 (by decide +kernel) ⟨by decide, by decide⟩ ?_
    refine R_callSq (as := [vI _, vI _, vI _]) hC dX12_keep_23 mo_12_within ml_12_235 (c12_within  ) rfl rfl hRm (by decide) (by decide) (Nat.le_of_ble_eq_true rfl) ?_
    refine R_if_eq hC dX12_keep_26 (tgt := 41) (by decide) (fun hb26 => ?_) (fun hb26 => ?_)
    · skip
      replace hb26 := bP_z hb26
      refine R_aload_0 hC dX12_keep_41 ?_
      refine R_iconst hC dX12_keep_42 ⟨by decide, by decide⟩ ?_
      have hG7 : GR (uM M 57 4 0) := (GR.uF hG (by decide +kernel) (by decide))
      refine R_callVp (as := [vI _]) hC dX12_keep_43 mo_12_refuses ml_12_418 (by decide) rfl rfl (c12_refuses  hG7 (by omega) (by omega) (by (rw [show uM M 57 4 0 61 1 = M 61 1 from uM_h (by decide)]; exact hr0)) (by (rw [show uM M 57 4 0 61 1 = M 61 1 from uM_h (by decide)]; exact hr1))) rfl rfl hRm (by decide) (by decide) (Nat.le_of_ble_eq_true rfl) (fun v10 Mc8 hq9 => ?_)
      have hk11 : RW Mc8 0 c := (RW.fr hk1 hq9.1 (by decide +kernel))
      exact R_ireturn hC dX12_keep_46 rfl (ret_P (by first | exact ⟨(hq9.1 57 4 (by decide) (by decide)).trans uM_same, .inl ⟨⟨by omega, hb26⟩, ⟨Fr.tt (Fr.uB Fr.rf (by decide)) (hq9.1.mo (by simp) (by simp)), fun j e => (hq9.2.1 j e).trans (uM_h (by decide)), hk11, hq9.2.2.2.1⟩, hq9.2.2.2.2⟩⟩ | exact ⟨by (rw [hq9.2.1]; exact (uM_h (by decide)).trans uM_same), .inr ⟨by (intro z; first | exact hb16 (by omega) | exact hb26 z.2), ⟨Fr.tt (Fr.uB Fr.rf (by decide)) (hq9.1.mo (by simp) (by simp)), by (rw [hq9.2.1]; exact uM_same.trans (congrArg (· + 1) (uM_h (by decide)))), fun j ne => by (rw [hq9.2.1]; exact (uM_k ne).trans (uM_h (by decide)))⟩, hq9.2.2⟩⟩))
    · skip
      replace hb26 := bP_nz hb26
      refine R_aload_0 hC dX12_keep_29 ?_
      refine R_bipush hC dX12_keep_30 (by decide +kernel) ⟨by decide, by decide⟩ ?_
      refine R_iload_1 hC dX12_keep_32 ?_
      refine R_iadd hC dX12_keep_33 ⟨by omega, by omega⟩ ?_
      refine R_iload_2 hC dX12_keep_34 ?_
      have hG12 : GR (uM M 57 4 0) := (GR.uF hG (by decide +kernel) (by decide))
      refine R_callVp (as := [vI _, vI _]) hC dX12_keep_35 mo_12_tells ml_12_421 (by decide) rfl rfl (c12_tells (k := (16 + w)) hG12 hk1 hR.u4 (.inr (by omega)) (by (rw [mj2 (by omega) (by omega)]; omega))) rfl rfl hRm (by decide) (by decide) (Nat.le_of_ble_eq_true rfl) (fun v15 Mc13 hq14 => ?_)
      refine R_goto hC dX12_keep_38 (tgt := 46) (by decide) ?_
      have hk16 : RW Mc13 0 (upd1 c (16 + w) m) := (hq14.2.2.1)
      exact R_ireturn hC dX12_keep_46 rfl (ret_P (by first | exact ⟨(hq14.1 57 4 (by decide) (by decide)).trans uM_same, .inl ⟨⟨by omega, hb26⟩, ⟨Fr.tt (Fr.uB Fr.rf (by decide)) (hq14.1.mo (by simp) (by simp)), fun j e => (hq14.2.1 j e).trans (uM_h (by decide)), hk16, hq14.2.2.2.1⟩, hq14.2.2.2.2⟩⟩ | exact ⟨by (rw [hq14.2.1]; exact (uM_h (by decide)).trans uM_same), .inr ⟨by (intro z; first | exact hb16 (by omega) | exact hb26 z.2), ⟨Fr.tt (Fr.uB Fr.rf (by decide)) (hq14.1.mo (by simp) (by simp)), by (rw [hq14.2.1]; exact uM_same.trans (congrArg (· + 1) (uM_h (by decide)))), fun j ne => by (rw [hq14.2.1]; exact (uM_k ne).trans (uM_h (by decide)))⟩, hq14.2.2⟩⟩))
theorem dX12_room_0 : decode cX12_room 0 = .ok (.aload_n 0, 1) := by decide +kernel
theorem dX12_room_1 : decode cX12_room 1 = .ok (.iconst 0, 1) := by decide +kernel
theorem dX12_room_2 : decode cX12_room 2 = .ok (.putfield 84, 3) := by decide +kernel
theorem dX12_room_5 : decode cX12_room 5 = .ok (.iload_n 1, 1) := by decide +kernel
theorem dX12_room_6 : decode cX12_room 6 = .ok (.iconst 0, 1) := by decide +kernel
theorem dX12_room_7 : decode cX12_room 7 = .ok (.aload_n 0, 1) := by decide +kernel
theorem dX12_room_8 : decode cX12_room 8 = .ok (.getfield 105, 3) := by decide +kernel
theorem dX12_room_11 : decode cX12_room 11 = .ok (.iconst 1, 1) := by decide +kernel
theorem dX12_room_12 : decode cX12_room 12 = .ok (.isub, 1) := by decide +kernel
theorem dX12_room_13 : decode cX12_room 13 = .ok (.invokestatic 235, 3) := by decide +kernel
theorem dX12_room_16 : decode cX12_room 16 = .ok (.ifCond .eq 41, 3) := by decide +kernel
theorem dX12_room_19 : decode cX12_room 19 = .ok (.iload_n 2, 1) := by decide +kernel
theorem dX12_room_20 : decode cX12_room 20 = .ok (.iconst 0, 1) := by decide +kernel
theorem dX12_room_21 : decode cX12_room 21 = .ok (.iconst 1, 1) := by decide +kernel
theorem dX12_room_22 : decode cX12_room 22 = .ok (.invokestatic 235, 3) := by decide +kernel
theorem dX12_room_25 : decode cX12_room 25 = .ok (.ifCond .eq 32, 3) := by decide +kernel
theorem dX12_room_28 : decode cX12_room 28 = .ok (.iload_n 3, 1) := by decide +kernel
theorem dX12_room_29 : decode cX12_room 29 = .ok (.iconst 0, 1) := by decide +kernel
theorem dX12_room_30 : decode cX12_room 30 = .ok (.bipush 20, 2) := by decide +kernel
theorem dX12_room_32 : decode cX12_room 32 = .ok (.invokestatic 235, 3) := by decide +kernel
theorem dX12_room_35 : decode cX12_room 35 = .ok (.ifCond .eq 22, 3) := by decide +kernel
theorem dX12_room_38 : decode cX12_room 38 = .ok (.aload_n 0, 1) := by decide +kernel
theorem dX12_room_39 : decode cX12_room 39 = .ok (.iload_n 2, 1) := by decide +kernel
theorem dX12_room_40 : decode cX12_room 40 = .ok (.ifCond .ne 7, 3) := by decide +kernel
theorem dX12_room_43 : decode cX12_room 43 = .ok (.iconst 0, 1) := by decide +kernel
theorem dX12_room_44 : decode cX12_room 44 = .ok (.goto 4, 3) := by decide +kernel
theorem dX12_room_47 : decode cX12_room 47 = .ok (.iconst 5, 1) := by decide +kernel
theorem dX12_room_48 : decode cX12_room 48 = .ok (.iload_n 1, 1) := by decide +kernel
theorem dX12_room_49 : decode cX12_room 49 = .ok (.iadd, 1) := by decide +kernel
theorem dX12_room_50 : decode cX12_room 50 = .ok (.iload_n 3, 1) := by decide +kernel
theorem dX12_room_51 : decode cX12_room 51 = .ok (.invokevirtual 421, 3) := by decide +kernel
theorem dX12_room_54 : decode cX12_room 54 = .ok (.goto 8, 3) := by decide +kernel
theorem dX12_room_57 : decode cX12_room 57 = .ok (.aload_n 0, 1) := by decide +kernel
theorem dX12_room_58 : decode cX12_room 58 = .ok (.iconst 1, 1) := by decide +kernel
theorem dX12_room_59 : decode cX12_room 59 = .ok (.invokevirtual 418, 3) := by decide +kernel
theorem dX12_room_62 : decode cX12_room 62 = .ok (.ireturn, 1) := by decide +kernel
set_option maxHeartbeats 400000 in
theorem c12_room {G : Gl} {l : Launch}  {M : Mem} {c : Int → Int} {x y m : Int} {rn rf : Int} {rs : Int → Int → Int} (hG : GR M) (hK : RW M 0 c) (hS : SP c) (hR : RNG M rn rf rs) (hr0 : 0 ≤ M 61 1) (hr1 : M 61 1 ≤ 1000000000) : Ct G LY 82 l 3 m12_room [vR 57, vI x, vI y, vI m] M (RP (fun v M' => M' 57 4 = 0 ∧ ((((0 ≤ x ∧ x < c 121) ∧ (0 ≤ y ∧ y ≤ 1) ∧ 0 ≤ m ∧ m ≤ 20) ∧ (Fr [58] [(57, 4), (57, 7), (57, 8)] M M' ∧ HI M M' ∧ RW M' 0 (upd1 c (if y = 0 then x else 5 + x) m) ∧ RNG M' (kpN rn) (kpF rn rf) (kpS rn rs c)) ∧ v = c (if y = 0 then x else 5 + x)) ∨ (¬ ((0 ≤ x ∧ x < c 121) ∧ (0 ≤ y ∧ y ≤ 1) ∧ 0 ≤ m ∧ m ≤ 20) ∧ (Fr [61] [(57, 4)] M M' ∧ M' 61 1 = M 61 1 + 1 ∧ ∀ j, j ≠ 1 → M' 61 j = M 61 j) ∧ v = -1)))) := by
  refine R_start (by decide +kernel) (Nat.le_of_ble_eq_true rfl) (fun C hC hRm hlau => ?_)
  show RZ G LY C (Zn G LY 82 C (RP (fun v M' => M' 57 4 = 0 ∧ ((((0 ≤ x ∧ x < c 121) ∧ (0 ≤ y ∧ y ≤ 1) ∧ 0 ≤ m ∧ m ≤ 20) ∧ (Fr [58] [(57, 4), (57, 7), (57, 8)] M M' ∧ HI M M' ∧ RW M' 0 (upd1 c (if y = 0 then x else 5 + x) m) ∧ RNG M' (kpN rn) (kpF rn rf) (kpS rn rs c)) ∧ v = c (if y = 0 then x else 5 + x)) ∨ (¬ ((0 ≤ x ∧ x < c 121) ∧ (0 ≤ y ∧ y ≤ 1) ∧ 0 ≤ m ∧ m ≤ 20) ∧ (Fr [61] [(57, 4)] M M' ∧ M' 61 1 = M 61 1 + 1 ∧ ∀ j, j ≠ 1 → M' 61 j = M 61 j) ∧ v = -1))))) 0 0 82 0 [some (vR 57), some (vI x), some (vI y), some (vI m)] [] M
  have hM := hS.m
  have hI := hM.I
  have hL := hM.1.1
  have hW := hM.1.2
  refine R_aload_0 hC dX12_room_0 ?_
  refine R_iconst hC dX12_room_1 ⟨by decide, by decide⟩ ?_
  refine R_putI hC dX12_room_2 fl_12_84 (by decide) rfl (by decide) (by decide) (fi := 4) rfl ?_
  refine R_iload_1 hC dX12_room_5 ?_
  refine R_iconst hC dX12_room_6 ⟨by decide, by decide⟩ ?_
  refine R_aload_0 hC dX12_room_7 ?_
  have hk1 : RW (uM M 57 4 0) 0 c := (RW.uf hK (by decide))
  refine R_getIE hC dX12_room_8 fl_12_105 (by decide) rfl (by decide) (by decide) (fi := 5) rfl hk1.l ?_
  refine R_iconst hC dX12_room_11 ⟨by decide, by decide⟩ ?_
  refine R_isub hC dX12_room_12 ⟨by omega, by omega⟩ ?_
  refine R_callSq (as := [vI _, vI _, vI _]) hC dX12_room_13 mo_12_within ml_12_235 (c12_within  ) rfl rfl hRm (by decide) (by decide) (Nat.le_of_ble_eq_true rfl) ?_
  refine R_if_eq hC dX12_room_16 (tgt := 57) (by decide) (fun hb16 => ?_) (fun hb16 => ?_)
  · skip
    replace hb16 := bP_z hb16
    refine R_aload_0 hC dX12_room_57 ?_
    refine R_iconst hC dX12_room_58 ⟨by decide, by decide⟩ ?_
    have hG2 : GR (uM M 57 4 0) := (GR.uF hG (by decide +kernel) (by decide))
    refine R_callVp (as := [vI _]) hC dX12_room_59 mo_12_refuses ml_12_418 (by decide) rfl rfl (c12_refuses  hG2 (by omega) (by omega) (by (rw [show uM M 57 4 0 61 1 = M 61 1 from uM_h (by decide)]; exact hr0)) (by (rw [show uM M 57 4 0 61 1 = M 61 1 from uM_h (by decide)]; exact hr1))) rfl rfl hRm (by decide) (by decide) (Nat.le_of_ble_eq_true rfl) (fun v5 Mc3 hq4 => ?_)
    have hk6 : RW Mc3 0 c := (RW.fr hk1 hq4.1 (by decide +kernel))
    exact R_ireturn hC dX12_room_62 rfl (ret_P (by first | exact ⟨(hq4.1 57 4 (by decide) (by decide)).trans uM_same, .inl ⟨⟨by omega, hb25, hb35⟩, ⟨Fr.tt (Fr.uB Fr.rf (by decide)) (hq4.1.mo (by simp) (by simp)), fun j e => (hq4.2.1 j e).trans (uM_h (by decide)), hk6, hq4.2.2.2.1⟩, hq4.2.2.2.2⟩⟩ | exact ⟨by (rw [hq4.2.1]; exact (uM_h (by decide)).trans uM_same), .inr ⟨by (intro z; first | exact hb16 (by omega) | exact hb25 z.2.1 | exact hb35 z.2.2), ⟨Fr.tt (Fr.uB Fr.rf (by decide)) (hq4.1.mo (by simp) (by simp)), by (rw [hq4.2.1]; exact uM_same.trans (congrArg (· + 1) (uM_h (by decide)))), fun j ne => by (rw [hq4.2.1]; exact (uM_k ne).trans (uM_h (by decide)))⟩, hq4.2.2⟩⟩))
  · skip
    replace hb16 := bP_nz hb16
    refine R_iload_2 hC dX12_room_19 ?_
    refine R_iconst hC dX12_room_20 ⟨by decide, by decide⟩ ?_
    refine R_iconst hC dX12_room_21 ⟨by decide, by decide⟩ ?_
    refine R_callSq (as := [vI _, vI _, vI _]) hC dX12_room_22 mo_12_within ml_12_235 (c12_within  ) rfl rfl hRm (by decide) (by decide) (Nat.le_of_ble_eq_true rfl) ?_
    refine R_if_eq hC dX12_room_25 (tgt := 57) (by decide) (fun hb25 => ?_) (fun hb25 => ?_)
    · skip
      replace hb25 := bP_z hb25
      refine R_aload_0 hC dX12_room_57 ?_
      refine R_iconst hC dX12_room_58 ⟨by decide, by decide⟩ ?_
      have hG7 : GR (uM M 57 4 0) := (GR.uF hG (by decide +kernel) (by decide))
      refine R_callVp (as := [vI _]) hC dX12_room_59 mo_12_refuses ml_12_418 (by decide) rfl rfl (c12_refuses  hG7 (by omega) (by omega) (by (rw [show uM M 57 4 0 61 1 = M 61 1 from uM_h (by decide)]; exact hr0)) (by (rw [show uM M 57 4 0 61 1 = M 61 1 from uM_h (by decide)]; exact hr1))) rfl rfl hRm (by decide) (by decide) (Nat.le_of_ble_eq_true rfl) (fun v10 Mc8 hq9 => ?_)
      have hk11 : RW Mc8 0 c := (RW.fr hk1 hq9.1 (by decide +kernel))
      exact R_ireturn hC dX12_room_62 rfl (ret_P (by first | exact ⟨(hq9.1 57 4 (by decide) (by decide)).trans uM_same, .inl ⟨⟨by omega, hb25, hb35⟩, ⟨Fr.tt (Fr.uB Fr.rf (by decide)) (hq9.1.mo (by simp) (by simp)), fun j e => (hq9.2.1 j e).trans (uM_h (by decide)), hk11, hq9.2.2.2.1⟩, hq9.2.2.2.2⟩⟩ | exact ⟨by (rw [hq9.2.1]; exact (uM_h (by decide)).trans uM_same), .inr ⟨by (intro z; first | exact hb16 (by omega) | exact hb25 z.2.1 | exact hb35 z.2.2), ⟨Fr.tt (Fr.uB Fr.rf (by decide)) (hq9.1.mo (by simp) (by simp)), by (rw [hq9.2.1]; exact uM_same.trans (congrArg (· + 1) (uM_h (by decide)))), fun j ne => by (rw [hq9.2.1]; exact (uM_k ne).trans (uM_h (by decide)))⟩, hq9.2.2⟩⟩))
    · skip
      replace hb25 := bP_nz hb25
      refine R_iload_3 hC dX12_room_28 ?_
      refine R_iconst hC dX12_room_29 ⟨by decide, by decide⟩ ?_
      refine R_bipush hC dX12_room_30 (by decide +kernel) ⟨by decide, by decide⟩ ?_
      refine R_callSq (as := [vI _, vI _, vI _]) hC dX12_room_32 mo_12_within ml_12_235 (c12_within  ) rfl rfl hRm (by decide) (by decide) (Nat.le_of_ble_eq_true rfl) ?_
      refine R_if_eq hC dX12_room_35 (tgt := 57) (by decide) (fun hb35 => ?_) (fun hb35 => ?_)
      · skip
        replace hb35 := bP_z hb35
        refine R_aload_0 hC dX12_room_57 ?_
        refine R_iconst hC dX12_room_58 ⟨by decide, by decide⟩ ?_
        have hG12 : GR (uM M 57 4 0) := (GR.uF hG (by decide +kernel) (by decide))
        refine R_callVp (as := [vI _]) hC dX12_room_59 mo_12_refuses ml_12_418 (by decide) rfl rfl (c12_refuses  hG12 (by omega) (by omega) (by (rw [show uM M 57 4 0 61 1 = M 61 1 from uM_h (by decide)]; exact hr0)) (by (rw [show uM M 57 4 0 61 1 = M 61 1 from uM_h (by decide)]; exact hr1))) rfl rfl hRm (by decide) (by decide) (Nat.le_of_ble_eq_true rfl) (fun v15 Mc13 hq14 => ?_)
        have hk16 : RW Mc13 0 c := (RW.fr hk1 hq14.1 (by decide +kernel))
        exact R_ireturn hC dX12_room_62 rfl (ret_P (by first | exact ⟨(hq14.1 57 4 (by decide) (by decide)).trans uM_same, .inl ⟨⟨by omega, hb25, hb35⟩, ⟨Fr.tt (Fr.uB Fr.rf (by decide)) (hq14.1.mo (by simp) (by simp)), fun j e => (hq14.2.1 j e).trans (uM_h (by decide)), hk16, hq14.2.2.2.1⟩, hq14.2.2.2.2⟩⟩ | exact ⟨by (rw [hq14.2.1]; exact (uM_h (by decide)).trans uM_same), .inr ⟨by (intro z; first | exact hb16 (by omega) | exact hb25 z.2.1 | exact hb35 z.2.2), ⟨Fr.tt (Fr.uB Fr.rf (by decide)) (hq14.1.mo (by simp) (by simp)), by (rw [hq14.2.1]; exact uM_same.trans (congrArg (· + 1) (uM_h (by decide)))), fun j ne => by (rw [hq14.2.1]; exact (uM_k ne).trans (uM_h (by decide)))⟩, hq14.2.2⟩⟩))
      · skip
        replace hb35 := bP_nz hb35
        refine R_aload_0 hC dX12_room_38 ?_
        refine R_iload_2 hC dX12_room_39 ?_
        refine R_if_ne hC dX12_room_40 (tgt := 47) (by decide) (fun hb40 => ?_) (fun hb40 => ?_)
        · skip
          refine R_iconst hC dX12_room_47 ⟨by decide, by decide⟩ ?_
          refine R_iload_1 hC dX12_room_48 ?_
          refine R_iadd hC dX12_room_49 ⟨by omega, by omega⟩ ?_
          refine R_iload_3 hC dX12_room_50 ?_
          have hG17 : GR (uM M 57 4 0) := (GR.uF hG (by decide +kernel) (by decide))
          refine R_callVp (as := [vI _, vI _]) hC dX12_room_51 mo_12_tells ml_12_421 (by decide) rfl rfl (c12_tells (k := (if y = 0 then x else 5 + x)) hG17 hk1 hR.u4 (by (first | (rw [if_pos hb40]) | (rw [if_neg hb40])); exact .inl (by omega)) (by (first | (rw [if_pos hb40]) | (rw [if_neg hb40])); rw [mj1 (by omega)]; try omega)) rfl rfl hRm (by decide) (by decide) (Nat.le_of_ble_eq_true rfl) (fun v20 Mc18 hq19 => ?_)
          refine R_goto hC dX12_room_54 (tgt := 62) (by decide) ?_
          have hk21 : RW Mc18 0 (upd1 c (if y = 0 then x else 5 + x) m) := (hq19.2.2.1)
          exact R_ireturn hC dX12_room_62 rfl (ret_P (by first | exact ⟨(hq19.1 57 4 (by decide) (by decide)).trans uM_same, .inl ⟨⟨by omega, hb25, hb35⟩, ⟨Fr.tt (Fr.uB Fr.rf (by decide)) (hq19.1.mo (by simp) (by simp)), fun j e => (hq19.2.1 j e).trans (uM_h (by decide)), hk21, hq19.2.2.2.1⟩, hq19.2.2.2.2⟩⟩ | exact ⟨by (rw [hq19.2.1]; exact (uM_h (by decide)).trans uM_same), .inr ⟨by (intro z; first | exact hb16 (by omega) | exact hb25 z.2.1 | exact hb35 z.2.2), ⟨Fr.tt (Fr.uB Fr.rf (by decide)) (hq19.1.mo (by simp) (by simp)), by (rw [hq19.2.1]; exact uM_same.trans (congrArg (· + 1) (uM_h (by decide)))), fun j ne => by (rw [hq19.2.1]; exact (uM_k ne).trans (uM_h (by decide)))⟩, hq19.2.2⟩⟩))
        · skip
          refine R_iconst hC dX12_room_43 ⟨by decide, by decide⟩ ?_
          refine R_goto hC dX12_room_44 (tgt := 48) (by decide) ?_
          refine R_iload_1 hC dX12_room_48 ?_
          refine R_iadd hC dX12_room_49 ⟨by omega, by omega⟩ ?_
          refine R_iload_3 hC dX12_room_50 ?_
          have hG22 : GR (uM M 57 4 0) := (GR.uF hG (by decide +kernel) (by decide))
          refine R_callVp (as := [vI _, vI _]) hC dX12_room_51 mo_12_tells ml_12_421 (by decide) rfl rfl (c12_tells (k := (if y = 0 then x else 5 + x)) hG22 hk1 hR.u4 (by (first | (rw [if_pos hb40]) | (rw [if_neg hb40])); exact .inl (by omega)) (by (first | (rw [if_pos hb40]) | (rw [if_neg hb40])); rw [mj1 (by omega)]; try omega)) rfl rfl hRm (by decide) (by decide) (Nat.le_of_ble_eq_true rfl) (fun v25 Mc23 hq24 => ?_)
          refine R_goto hC dX12_room_54 (tgt := 62) (by decide) ?_
          have hk26 : RW Mc23 0 (upd1 c (if y = 0 then x else 5 + x) m) := (hq24.2.2.1)
          exact R_ireturn hC dX12_room_62 rfl (ret_P (by first | exact ⟨(hq24.1 57 4 (by decide) (by decide)).trans uM_same, .inl ⟨⟨by omega, hb25, hb35⟩, ⟨Fr.tt (Fr.uB Fr.rf (by decide)) (hq24.1.mo (by simp) (by simp)), fun j e => (hq24.2.1 j e).trans (uM_h (by decide)), hk26, hq24.2.2.2.1⟩, hq24.2.2.2.2⟩⟩ | exact ⟨by (rw [hq24.2.1]; exact (uM_h (by decide)).trans uM_same), .inr ⟨by (intro z; first | exact hb16 (by omega) | exact hb25 z.2.1 | exact hb35 z.2.2), ⟨Fr.tt (Fr.uB Fr.rf (by decide)) (hq24.1.mo (by simp) (by simp)), by (rw [hq24.2.1]; exact uM_same.trans (congrArg (· + 1) (uM_h (by decide)))), fun j ne => by (rw [hq24.2.1]; exact (uM_k ne).trans (uM_h (by decide)))⟩, hq24.2.2⟩⟩))
theorem dX12_promise_0 : decode cX12_promise 0 = .ok (.aload_n 0, 1) := by decide +kernel
theorem dX12_promise_1 : decode cX12_promise 1 = .ok (.iconst 0, 1) := by decide +kernel
theorem dX12_promise_2 : decode cX12_promise 2 = .ok (.putfield 84, 3) := by decide +kernel
theorem dX12_promise_5 : decode cX12_promise 5 = .ok (.aload_n 0, 1) := by decide +kernel
theorem dX12_promise_6 : decode cX12_promise 6 = .ok (.iload_n 1, 1) := by decide +kernel
theorem dX12_promise_7 : decode cX12_promise 7 = .ok (.iload_n 2, 1) := by decide +kernel
theorem dX12_promise_8 : decode cX12_promise 8 = .ok (.invokevirtual 415, 3) := by decide +kernel
theorem dX12_promise_11 : decode cX12_promise 11 = .ok (.ifCond .eq 47, 3) := by decide +kernel
theorem dX12_promise_14 : decode cX12_promise 14 = .ok (.iload_n 3, 1) := by decide +kernel
theorem dX12_promise_15 : decode cX12_promise 15 = .ok (.iconst 0, 1) := by decide +kernel
theorem dX12_promise_16 : decode cX12_promise 16 = .ok (.iconst 3, 1) := by decide +kernel
theorem dX12_promise_17 : decode cX12_promise 17 = .ok (.invokestatic 235, 3) := by decide +kernel
theorem dX12_promise_20 : decode cX12_promise 20 = .ok (.ifCond .eq 38, 3) := by decide +kernel
theorem dX12_promise_23 : decode cX12_promise 23 = .ok (.iload_n 3, 1) := by decide +kernel
theorem dX12_promise_24 : decode cX12_promise 24 = .ok (.ifCond .le 14, 3) := by decide +kernel
theorem dX12_promise_27 : decode cX12_promise 27 = .ok (.iload 4, 2) := by decide +kernel
theorem dX12_promise_29 : decode cX12_promise 29 = .ok (.iconst 0, 1) := by decide +kernel
theorem dX12_promise_30 : decode cX12_promise 30 = .ok (.bipush 60, 2) := by decide +kernel
theorem dX12_promise_32 : decode cX12_promise 32 = .ok (.invokestatic 235, 3) := by decide +kernel
theorem dX12_promise_35 : decode cX12_promise 35 = .ok (.ifCond .eq 23, 3) := by decide +kernel
theorem dX12_promise_38 : decode cX12_promise 38 = .ok (.iload_n 3, 1) := by decide +kernel
theorem dX12_promise_39 : decode cX12_promise 39 = .ok (.ifCond .ne 25, 3) := by decide +kernel
theorem dX12_promise_42 : decode cX12_promise 42 = .ok (.aload_n 0, 1) := by decide +kernel
theorem dX12_promise_43 : decode cX12_promise 43 = .ok (.getfield 9, 3) := by decide +kernel
theorem dX12_promise_46 : decode cX12_promise 46 = .ok (.bipush 40, 2) := by decide +kernel
theorem dX12_promise_48 : decode cX12_promise 48 = .ok (.iload_n 1, 1) := by decide +kernel
theorem dX12_promise_49 : decode cX12_promise 49 = .ok (.iload_n 2, 1) := by decide +kernel
theorem dX12_promise_50 : decode cX12_promise 50 = .ok (.invokestatic 87, 3) := by decide +kernel
theorem dX12_promise_53 : decode cX12_promise 53 = .ok (.iadd, 1) := by decide +kernel
theorem dX12_promise_54 : decode cX12_promise 54 = .ok (.iaload, 1) := by decide +kernel
theorem dX12_promise_55 : decode cX12_promise 55 = .ok (.ifCond .ne 9, 3) := by decide +kernel
theorem dX12_promise_58 : decode cX12_promise 58 = .ok (.aload_n 0, 1) := by decide +kernel
theorem dX12_promise_59 : decode cX12_promise 59 = .ok (.iconst 1, 1) := by decide +kernel
theorem dX12_promise_60 : decode cX12_promise 60 = .ok (.invokevirtual 418, 3) := by decide +kernel
theorem dX12_promise_63 : decode cX12_promise 63 = .ok (.ireturn, 1) := by decide +kernel
theorem dX12_promise_64 : decode cX12_promise 64 = .ok (.aload_n 0, 1) := by decide +kernel
theorem dX12_promise_65 : decode cX12_promise 65 = .ok (.bipush 40, 2) := by decide +kernel
theorem dX12_promise_67 : decode cX12_promise 67 = .ok (.iload_n 1, 1) := by decide +kernel
theorem dX12_promise_68 : decode cX12_promise 68 = .ok (.iload_n 2, 1) := by decide +kernel
theorem dX12_promise_69 : decode cX12_promise 69 = .ok (.invokestatic 87, 3) := by decide +kernel
theorem dX12_promise_72 : decode cX12_promise 72 = .ok (.iadd, 1) := by decide +kernel
theorem dX12_promise_73 : decode cX12_promise 73 = .ok (.iload_n 3, 1) := by decide +kernel
theorem dX12_promise_74 : decode cX12_promise 74 = .ok (.invokevirtual 421, 3) := by decide +kernel
theorem dX12_promise_77 : decode cX12_promise 77 = .ok (.istore 5, 2) := by decide +kernel
theorem dX12_promise_79 : decode cX12_promise 79 = .ok (.aload_n 0, 1) := by decide +kernel
theorem dX12_promise_80 : decode cX12_promise 80 = .ok (.getfield 9, 3) := by decide +kernel
theorem dX12_promise_83 : decode cX12_promise 83 = .ok (.bipush 70, 2) := by decide +kernel
theorem dX12_promise_85 : decode cX12_promise 85 = .ok (.iload_n 1, 1) := by decide +kernel
theorem dX12_promise_86 : decode cX12_promise 86 = .ok (.iload_n 2, 1) := by decide +kernel
theorem dX12_promise_87 : decode cX12_promise 87 = .ok (.invokestatic 87, 3) := by decide +kernel
theorem dX12_promise_90 : decode cX12_promise 90 = .ok (.iadd, 1) := by decide +kernel
theorem dX12_promise_91 : decode cX12_promise 91 = .ok (.iload_n 3, 1) := by decide +kernel
theorem dX12_promise_92 : decode cX12_promise 92 = .ok (.ifCond .ne 7, 3) := by decide +kernel
theorem dX12_promise_95 : decode cX12_promise 95 = .ok (.iconst 0, 1) := by decide +kernel
theorem dX12_promise_96 : decode cX12_promise 96 = .ok (.goto 5, 3) := by decide +kernel
theorem dX12_promise_99 : decode cX12_promise 99 = .ok (.iload 4, 2) := by decide +kernel
theorem dX12_promise_101 : decode cX12_promise 101 = .ok (.iastore, 1) := by decide +kernel
theorem dX12_promise_102 : decode cX12_promise 102 = .ok (.iload 5, 2) := by decide +kernel
theorem dX12_promise_104 : decode cX12_promise 104 = .ok (.ireturn, 1) := by decide +kernel
set_option maxHeartbeats 400000 in
theorem c12_promise {G : Gl} {l : Launch}  {M : Mem} {c : Int → Int} {x w m y : Int} {rn rf : Int} {rs : Int → Int → Int} (hG : GR M) (hK : RW M 0 c) (hS : SP c) (hR : RNG M rn rf rs) (hr0 : 0 ≤ M 61 1) (hr1 : M 61 1 ≤ 1000000000) : Ct G LY 82 l 3 m12_promise [vR 57, vI x, vI w, vI m, vI y] M (RP (fun v M' => M' 57 4 = 0 ∧ (((((0 ≤ x ∧ x < c 121) ∧ 0 ≤ w ∧ w < c 122) ∧ (0 ≤ m ∧ m ≤ 3) ∧ (0 < m → 0 ≤ y ∧ y ≤ 60) ∧ (m = 0 → c (58 + x * 6 + w) ≠ 0)) ∧ (Fr [58] [(57, 4), (57, 7), (57, 8)] M M' ∧ HI M M' ∧ RW M' 0 (upd1 (upd1 c (58 + x * 6 + w) m) (88 + x * 6 + w) (if m = 0 then 0 else y)) ∧ RNG M' (kpN rn) (kpF rn rf) (kpS rn rs c)) ∧ v = c (58 + x * 6 + w)) ∨ (¬ (((0 ≤ x ∧ x < c 121) ∧ 0 ≤ w ∧ w < c 122) ∧ (0 ≤ m ∧ m ≤ 3) ∧ (0 < m → 0 ≤ y ∧ y ≤ 60) ∧ (m = 0 → c (58 + x * 6 + w) ≠ 0)) ∧ (Fr [61] [(57, 4)] M M' ∧ M' 61 1 = M 61 1 + 1 ∧ ∀ j, j ≠ 1 → M' 61 j = M 61 j) ∧ v = -1)))) := by
  refine R_start (by decide +kernel) (Nat.le_of_ble_eq_true rfl) (fun C hC hRm hlau => ?_)
  show RZ G LY C (Zn G LY 82 C (RP (fun v M' => M' 57 4 = 0 ∧ (((((0 ≤ x ∧ x < c 121) ∧ 0 ≤ w ∧ w < c 122) ∧ (0 ≤ m ∧ m ≤ 3) ∧ (0 < m → 0 ≤ y ∧ y ≤ 60) ∧ (m = 0 → c (58 + x * 6 + w) ≠ 0)) ∧ (Fr [58] [(57, 4), (57, 7), (57, 8)] M M' ∧ HI M M' ∧ RW M' 0 (upd1 (upd1 c (58 + x * 6 + w) m) (88 + x * 6 + w) (if m = 0 then 0 else y)) ∧ RNG M' (kpN rn) (kpF rn rf) (kpS rn rs c)) ∧ v = c (58 + x * 6 + w)) ∨ (¬ (((0 ≤ x ∧ x < c 121) ∧ 0 ≤ w ∧ w < c 122) ∧ (0 ≤ m ∧ m ≤ 3) ∧ (0 < m → 0 ≤ y ∧ y ≤ 60) ∧ (m = 0 → c (58 + x * 6 + w) ≠ 0)) ∧ (Fr [61] [(57, 4)] M M' ∧ M' 61 1 = M 61 1 + 1 ∧ ∀ j, j ≠ 1 → M' 61 j = M 61 j) ∧ v = -1))))) 0 0 82 0 [some (vR 57), some (vI x), some (vI w), some (vI m), some (vI y), none] [] M
  have hM := hS.m
  have hI := hM.I
  have hL := hM.1.1
  have hW := hM.1.2
  refine R_aload_0 hC dX12_promise_0 ?_
  refine R_iconst hC dX12_promise_1 ⟨by decide, by decide⟩ ?_
  refine R_putI hC dX12_promise_2 fl_12_84 (by decide) rfl (by decide) (by decide) (fi := 4) rfl ?_
  refine R_aload_0 hC dX12_promise_5 ?_
  refine R_iload_1 hC dX12_promise_6 ?_
  refine R_iload_2 hC dX12_promise_7 ?_
  have hG1 : GR (uM M 57 4 0) := (GR.uF hG (by decide +kernel) (by decide))
  have hk2 : RW (uM M 57 4 0) 0 c := (RW.uf hK (by decide))
  refine R_callVq (as := [vI _, vI _]) hC dX12_promise_8 mo_12_isCell ml_12_415 (by decide) rfl rfl (c12_isCell  hG1 hk2 hS) rfl rfl hRm (by decide) (by decide) (Nat.le_of_ble_eq_true rfl) ?_
  refine R_if_eq hC dX12_promise_11 (tgt := 58) (by decide) (fun hb11 => ?_) (fun hb11 => ?_)
  · skip
    replace hb11 := bP_z hb11
    refine R_aload_0 hC dX12_promise_58 ?_
    refine R_iconst hC dX12_promise_59 ⟨by decide, by decide⟩ ?_
    refine R_callVp (as := [vI _]) hC dX12_promise_60 mo_12_refuses ml_12_418 (by decide) rfl rfl (c12_refuses  hG1 (by omega) (by omega) (by (rw [show uM M 57 4 0 61 1 = M 61 1 from uM_h (by decide)]; exact hr0)) (by (rw [show uM M 57 4 0 61 1 = M 61 1 from uM_h (by decide)]; exact hr1))) rfl rfl hRm (by decide) (by decide) (Nat.le_of_ble_eq_true rfl) (fun v5 Mc3 hq4 => ?_)
    exact R_ireturn hC dX12_promise_63 rfl (ret_P ⟨by (rw [hq4.2.1]; exact (uM_h (by decide)).trans uM_same), .inr ⟨by (intro z; first | exact hb11 z.1 | exact hb20 z.2.1 | exact hb35 (z.2.2.1 (by omega)) | exact z.2.2.2 (by omega) hb55), ⟨Fr.tt (Fr.uB Fr.rf (by decide)) (hq4.1.mo (by simp) (by simp)), by (rw [hq4.2.1]; exact uM_same.trans (congrArg (· + 1) (uM_h (by decide)))), fun j ne => by (rw [hq4.2.1]; exact (uM_k ne).trans (uM_h (by decide)))⟩, hq4.2.2⟩⟩)
  · skip
    replace hb11 := bP_nz hb11
    refine R_iload_3 hC dX12_promise_14 ?_
    refine R_iconst hC dX12_promise_15 ⟨by decide, by decide⟩ ?_
    refine R_iconst hC dX12_promise_16 ⟨by decide, by decide⟩ ?_
    refine R_callSq (as := [vI _, vI _, vI _]) hC dX12_promise_17 mo_12_within ml_12_235 (c12_within  ) rfl rfl hRm (by decide) (by decide) (Nat.le_of_ble_eq_true rfl) ?_
    refine R_if_eq hC dX12_promise_20 (tgt := 58) (by decide) (fun hb20 => ?_) (fun hb20 => ?_)
    · skip
      replace hb20 := bP_z hb20
      refine R_aload_0 hC dX12_promise_58 ?_
      refine R_iconst hC dX12_promise_59 ⟨by decide, by decide⟩ ?_
      refine R_callVp (as := [vI _]) hC dX12_promise_60 mo_12_refuses ml_12_418 (by decide) rfl rfl (c12_refuses  hG1 (by omega) (by omega) (by (rw [show uM M 57 4 0 61 1 = M 61 1 from uM_h (by decide)]; exact hr0)) (by (rw [show uM M 57 4 0 61 1 = M 61 1 from uM_h (by decide)]; exact hr1))) rfl rfl hRm (by decide) (by decide) (Nat.le_of_ble_eq_true rfl) (fun v8 Mc6 hq7 => ?_)
      exact R_ireturn hC dX12_promise_63 rfl (ret_P ⟨by (rw [hq7.2.1]; exact (uM_h (by decide)).trans uM_same), .inr ⟨by (intro z; first | exact hb11 z.1 | exact hb20 z.2.1 | exact hb35 (z.2.2.1 (by omega)) | exact z.2.2.2 (by omega) hb55), ⟨Fr.tt (Fr.uB Fr.rf (by decide)) (hq7.1.mo (by simp) (by simp)), by (rw [hq7.2.1]; exact uM_same.trans (congrArg (· + 1) (uM_h (by decide)))), fun j ne => by (rw [hq7.2.1]; exact (uM_k ne).trans (uM_h (by decide)))⟩, hq7.2.2⟩⟩)
    · skip
      replace hb20 := bP_nz hb20
      refine R_iload_3 hC dX12_promise_23 ?_
      refine R_if_le hC dX12_promise_24 (tgt := 38) (by decide) (fun hb24 => ?_) (fun hb24 => ?_)
      · skip
        refine R_iload_3 hC dX12_promise_38 ?_
        refine R_if_ne hC dX12_promise_39 (tgt := 64) (by decide) (fun hb39 => ?_) (fun hb39 => ?_)
        · skip
          refine R_aload_0 hC dX12_promise_64 ?_
          refine R_bipush hC dX12_promise_65 (by decide +kernel) ⟨by decide, by decide⟩ ?_
          refine R_iload_1 hC dX12_promise_67 ?_
          refine R_iload_2 hC dX12_promise_68 ?_
          refine R_callSq (as := [vI _, vI _]) hC dX12_promise_69 mo_12_cell ml_12_87 (c12_cell  (by omega) (by omega) (by omega) (by omega)) rfl rfl hRm (by decide) (by decide) (Nat.le_of_ble_eq_true rfl) ?_
          refine R_iadd hC dX12_promise_72 ⟨by omega, by omega⟩ ?_
          refine R_iload_3 hC dX12_promise_73 ?_
          refine R_callVp (as := [vI _, vI _]) hC dX12_promise_74 mo_12_tells ml_12_421 (by decide) rfl rfl (c12_tells (k := (58 + x * 6 + w)) hG1 hk2 hR.u4 (.inr (by omega)) (by (rw [mj4 (by omega) (by omega)]; omega))) rfl rfl hRm (by decide) (by decide) (Nat.le_of_ble_eq_true rfl) (fun v11 Mc9 hq10 => ?_)
          have hF9 : Fr [58] [(57, 4), (57, 7), (57, 8)] M Mc9 := Fr.tt (Fr.uB Fr.rf (by decide)) (hq10.1.mo (by simp) (by simp))
          have hI9 : HI M Mc9 := fun j e => (hq10.2.1 j e).trans (uM_h (by decide))
          have h49 : Mc9 57 4 = 0 := (hq10.1 57 4 (by decide) (by decide)).trans uM_same
          have hR9 : RNG Mc9 (kpN rn) (kpF rn rf) (kpS rn rs c) := hq10.2.2.2.1
          refine R_istore_5 hC dX12_promise_77 rfl ?_
          refine R_aload_0 hC dX12_promise_79 ?_
          have hG12 : GR Mc9 := (GR.fr hG1 hq10.1 (by decide +kernel))
          refine R_getR hC dX12_promise_80 fl_12_9 (by decide) rfl (by decide) (by decide) (fi := 0) rfl (r := 58) (gr_57_0 hG12) ?_
          refine R_bipush hC dX12_promise_83 (by decide +kernel) ⟨by decide, by decide⟩ ?_
          refine R_iload_1 hC dX12_promise_85 ?_
          refine R_iload_2 hC dX12_promise_86 ?_
          refine R_callSq (as := [vI _, vI _]) hC dX12_promise_87 mo_12_cell ml_12_87 (c12_cell  (by omega) (by omega) (by omega) (by omega)) rfl rfl hRm (by decide) (by decide) (Nat.le_of_ble_eq_true rfl) ?_
          refine R_iadd hC dX12_promise_90 ⟨by omega, by omega⟩ ?_
          refine R_iload_3 hC dX12_promise_91 ?_
          refine R_if_ne hC dX12_promise_92 (tgt := 99) (by decide) (fun hb92 => ?_) (fun hb92 => ?_)
          · skip
            have eun : y = (if m = 0 then 0 else y) := (if_neg hb92).symm
            refine R_iload_4 hC dX12_promise_99 ?_
            refine R_iastore hC dX12_promise_101 (by decide) rfl (by omega) (by omega) ?_
            refine R_iload_5 hC dX12_promise_102 ?_
            have hk13 : RW (uM Mc9 58 (70 + (6 * x + w)) y) 0 (upd1 (upd1 c (58 + x * 6 + w) m) (88 + x * 6 + w) y) := ((hq10.2.2.1).w4 (k := 88 + x * 6 + w) (by omega) (by omega) (by omega))
            exact R_ireturn hC dX12_promise_104 rfl (ret_P ⟨(uM_h (by decide)).trans h49, .inl ⟨⟨hb11, hb20, fun p => by first | exact hb35 | (exfalso; omega), fun p => by first | exact hb55 | (exfalso; omega)⟩, ⟨Fr.uA hF9 (by decide), hI9.u (by omega), by (rw [← eun]; exact hk13), hR9.u8 (by omega)⟩, hq10.2.2.2.2⟩⟩)
          · skip
            have eun : (0 : Int) = (if m = 0 then 0 else y) := (if_pos hb92).symm
            refine R_iconst hC dX12_promise_95 ⟨by decide, by decide⟩ ?_
            refine R_goto hC dX12_promise_96 (tgt := 101) (by decide) ?_
            refine R_iastore hC dX12_promise_101 (by decide) rfl (by omega) (by omega) ?_
            refine R_iload_5 hC dX12_promise_102 ?_
            have hk14 : RW (uM Mc9 58 (70 + (6 * x + w)) 0) 0 (upd1 (upd1 c (58 + x * 6 + w) m) (88 + x * 6 + w) 0) := ((hq10.2.2.1).w4 (k := 88 + x * 6 + w) (by omega) (by omega) (by omega))
            exact R_ireturn hC dX12_promise_104 rfl (ret_P ⟨(uM_h (by decide)).trans h49, .inl ⟨⟨hb11, hb20, fun p => by first | exact hb35 | (exfalso; omega), fun p => by first | exact hb55 | (exfalso; omega)⟩, ⟨Fr.uA hF9 (by decide), hI9.u (by omega), by (rw [← eun]; exact hk14), hR9.u8 (by omega)⟩, hq10.2.2.2.2⟩⟩)
        · skip
          refine R_aload_0 hC dX12_promise_42 ?_
          refine R_getR hC dX12_promise_43 fl_12_9 (by decide) rfl (by decide) (by decide) (fi := 0) rfl (r := 58) (gr_57_0 hG1) ?_
          refine R_bipush hC dX12_promise_46 (by decide +kernel) ⟨by decide, by decide⟩ ?_
          refine R_iload_1 hC dX12_promise_48 ?_
          refine R_iload_2 hC dX12_promise_49 ?_
          refine R_callSq (as := [vI _, vI _]) hC dX12_promise_50 mo_12_cell ml_12_87 (c12_cell  (by omega) (by omega) (by omega) (by omega)) rfl rfl hRm (by decide) (by decide) (Nat.le_of_ble_eq_true rfl) ?_
          refine R_iadd hC dX12_promise_53 ⟨by omega, by omega⟩ ?_
          refine R_ialoadE hC dX12_promise_54 (by decide) rfl (by omega) (by omega) (hk2.r4 (k := 58 + x * 6 + w) (by omega) (by omega) (by omega)) ?_
          refine R_if_ne hC dX12_promise_55 (tgt := 64) (by decide) (fun hb55 => ?_) (fun hb55 => ?_)
          · skip
            refine R_aload_0 hC dX12_promise_64 ?_
            refine R_bipush hC dX12_promise_65 (by decide +kernel) ⟨by decide, by decide⟩ ?_
            refine R_iload_1 hC dX12_promise_67 ?_
            refine R_iload_2 hC dX12_promise_68 ?_
            refine R_callSq (as := [vI _, vI _]) hC dX12_promise_69 mo_12_cell ml_12_87 (c12_cell  (by omega) (by omega) (by omega) (by omega)) rfl rfl hRm (by decide) (by decide) (Nat.le_of_ble_eq_true rfl) ?_
            refine R_iadd hC dX12_promise_72 ⟨by omega, by omega⟩ ?_
            refine R_iload_3 hC dX12_promise_73 ?_
            refine R_callVp (as := [vI _, vI _]) hC dX12_promise_74 mo_12_tells ml_12_421 (by decide) rfl rfl (c12_tells (k := (58 + x * 6 + w)) hG1 hk2 hR.u4 (.inr (by omega)) (by (rw [mj4 (by omega) (by omega)]; omega))) rfl rfl hRm (by decide) (by decide) (Nat.le_of_ble_eq_true rfl) (fun v17 Mc15 hq16 => ?_)
            have hF9 : Fr [58] [(57, 4), (57, 7), (57, 8)] M Mc15 := Fr.tt (Fr.uB Fr.rf (by decide)) (hq16.1.mo (by simp) (by simp))
            have hI9 : HI M Mc15 := fun j e => (hq16.2.1 j e).trans (uM_h (by decide))
            have h49 : Mc15 57 4 = 0 := (hq16.1 57 4 (by decide) (by decide)).trans uM_same
            have hR9 : RNG Mc15 (kpN rn) (kpF rn rf) (kpS rn rs c) := hq16.2.2.2.1
            refine R_istore_5 hC dX12_promise_77 rfl ?_
            refine R_aload_0 hC dX12_promise_79 ?_
            have hG18 : GR Mc15 := (GR.fr hG1 hq16.1 (by decide +kernel))
            refine R_getR hC dX12_promise_80 fl_12_9 (by decide) rfl (by decide) (by decide) (fi := 0) rfl (r := 58) (gr_57_0 hG18) ?_
            refine R_bipush hC dX12_promise_83 (by decide +kernel) ⟨by decide, by decide⟩ ?_
            refine R_iload_1 hC dX12_promise_85 ?_
            refine R_iload_2 hC dX12_promise_86 ?_
            refine R_callSq (as := [vI _, vI _]) hC dX12_promise_87 mo_12_cell ml_12_87 (c12_cell  (by omega) (by omega) (by omega) (by omega)) rfl rfl hRm (by decide) (by decide) (Nat.le_of_ble_eq_true rfl) ?_
            refine R_iadd hC dX12_promise_90 ⟨by omega, by omega⟩ ?_
            refine R_iload_3 hC dX12_promise_91 ?_
            refine R_if_ne hC dX12_promise_92 (tgt := 99) (by decide) (fun hb92 => ?_) (fun hb92 => ?_)
            · skip
              have eun : y = (if m = 0 then 0 else y) := (if_neg hb92).symm
              refine R_iload_4 hC dX12_promise_99 ?_
              refine R_iastore hC dX12_promise_101 (by decide) rfl (by omega) (by omega) ?_
              refine R_iload_5 hC dX12_promise_102 ?_
              have hk19 : RW (uM Mc15 58 (70 + (6 * x + w)) y) 0 (upd1 (upd1 c (58 + x * 6 + w) m) (88 + x * 6 + w) y) := ((hq16.2.2.1).w4 (k := 88 + x * 6 + w) (by omega) (by omega) (by omega))
              exact R_ireturn hC dX12_promise_104 rfl (ret_P ⟨(uM_h (by decide)).trans h49, .inl ⟨⟨hb11, hb20, fun p => by first | exact hb35 | (exfalso; omega), fun p => by first | exact hb55 | (exfalso; omega)⟩, ⟨Fr.uA hF9 (by decide), hI9.u (by omega), by (rw [← eun]; exact hk19), hR9.u8 (by omega)⟩, hq16.2.2.2.2⟩⟩)
            · skip
              have eun : (0 : Int) = (if m = 0 then 0 else y) := (if_pos hb92).symm
              refine R_iconst hC dX12_promise_95 ⟨by decide, by decide⟩ ?_
              refine R_goto hC dX12_promise_96 (tgt := 101) (by decide) ?_
              refine R_iastore hC dX12_promise_101 (by decide) rfl (by omega) (by omega) ?_
              refine R_iload_5 hC dX12_promise_102 ?_
              have hk20 : RW (uM Mc15 58 (70 + (6 * x + w)) 0) 0 (upd1 (upd1 c (58 + x * 6 + w) m) (88 + x * 6 + w) 0) := ((hq16.2.2.1).w4 (k := 88 + x * 6 + w) (by omega) (by omega) (by omega))
              exact R_ireturn hC dX12_promise_104 rfl (ret_P ⟨(uM_h (by decide)).trans h49, .inl ⟨⟨hb11, hb20, fun p => by first | exact hb35 | (exfalso; omega), fun p => by first | exact hb55 | (exfalso; omega)⟩, ⟨Fr.uA hF9 (by decide), hI9.u (by omega), by (rw [← eun]; exact hk20), hR9.u8 (by omega)⟩, hq16.2.2.2.2⟩⟩)
          · skip
            refine R_aload_0 hC dX12_promise_58 ?_
            refine R_iconst hC dX12_promise_59 ⟨by decide, by decide⟩ ?_
            refine R_callVp (as := [vI _]) hC dX12_promise_60 mo_12_refuses ml_12_418 (by decide) rfl rfl (c12_refuses  hG1 (by omega) (by omega) (by (rw [show uM M 57 4 0 61 1 = M 61 1 from uM_h (by decide)]; exact hr0)) (by (rw [show uM M 57 4 0 61 1 = M 61 1 from uM_h (by decide)]; exact hr1))) rfl rfl hRm (by decide) (by decide) (Nat.le_of_ble_eq_true rfl) (fun v23 Mc21 hq22 => ?_)
            exact R_ireturn hC dX12_promise_63 rfl (ret_P ⟨by (rw [hq22.2.1]; exact (uM_h (by decide)).trans uM_same), .inr ⟨by (intro z; first | exact hb11 z.1 | exact hb20 z.2.1 | exact hb35 (z.2.2.1 (by omega)) | exact z.2.2.2 (by omega) hb55), ⟨Fr.tt (Fr.uB Fr.rf (by decide)) (hq22.1.mo (by simp) (by simp)), by (rw [hq22.2.1]; exact uM_same.trans (congrArg (· + 1) (uM_h (by decide)))), fun j ne => by (rw [hq22.2.1]; exact (uM_k ne).trans (uM_h (by decide)))⟩, hq22.2.2⟩⟩)
      · skip
        refine R_iload_4 hC dX12_promise_27 ?_
        refine R_iconst hC dX12_promise_29 ⟨by decide, by decide⟩ ?_
        refine R_bipush hC dX12_promise_30 (by decide +kernel) ⟨by decide, by decide⟩ ?_
        refine R_callSq (as := [vI _, vI _, vI _]) hC dX12_promise_32 mo_12_within ml_12_235 (c12_within  ) rfl rfl hRm (by decide) (by decide) (Nat.le_of_ble_eq_true rfl) ?_
        refine R_if_eq hC dX12_promise_35 (tgt := 58) (by decide) (fun hb35 => ?_) (fun hb35 => ?_)
        · skip
          replace hb35 := bP_z hb35
          refine R_aload_0 hC dX12_promise_58 ?_
          refine R_iconst hC dX12_promise_59 ⟨by decide, by decide⟩ ?_
          refine R_callVp (as := [vI _]) hC dX12_promise_60 mo_12_refuses ml_12_418 (by decide) rfl rfl (c12_refuses  hG1 (by omega) (by omega) (by (rw [show uM M 57 4 0 61 1 = M 61 1 from uM_h (by decide)]; exact hr0)) (by (rw [show uM M 57 4 0 61 1 = M 61 1 from uM_h (by decide)]; exact hr1))) rfl rfl hRm (by decide) (by decide) (Nat.le_of_ble_eq_true rfl) (fun v26 Mc24 hq25 => ?_)
          exact R_ireturn hC dX12_promise_63 rfl (ret_P ⟨by (rw [hq25.2.1]; exact (uM_h (by decide)).trans uM_same), .inr ⟨by (intro z; first | exact hb11 z.1 | exact hb20 z.2.1 | exact hb35 (z.2.2.1 (by omega)) | exact z.2.2.2 (by omega) hb55), ⟨Fr.tt (Fr.uB Fr.rf (by decide)) (hq25.1.mo (by simp) (by simp)), by (rw [hq25.2.1]; exact uM_same.trans (congrArg (· + 1) (uM_h (by decide)))), fun j ne => by (rw [hq25.2.1]; exact (uM_k ne).trans (uM_h (by decide)))⟩, hq25.2.2⟩⟩)
        · skip
          replace hb35 := bP_nz hb35
          refine R_iload_3 hC dX12_promise_38 ?_
          refine R_if_ne hC dX12_promise_39 (tgt := 64) (by decide) (fun hb39 => ?_) (fun hb39 => ?_)
          · skip
            refine R_aload_0 hC dX12_promise_64 ?_
            refine R_bipush hC dX12_promise_65 (by decide +kernel) ⟨by decide, by decide⟩ ?_
            refine R_iload_1 hC dX12_promise_67 ?_
            refine R_iload_2 hC dX12_promise_68 ?_
            refine R_callSq (as := [vI _, vI _]) hC dX12_promise_69 mo_12_cell ml_12_87 (c12_cell  (by omega) (by omega) (by omega) (by omega)) rfl rfl hRm (by decide) (by decide) (Nat.le_of_ble_eq_true rfl) ?_
            refine R_iadd hC dX12_promise_72 ⟨by omega, by omega⟩ ?_
            refine R_iload_3 hC dX12_promise_73 ?_
            refine R_callVp (as := [vI _, vI _]) hC dX12_promise_74 mo_12_tells ml_12_421 (by decide) rfl rfl (c12_tells (k := (58 + x * 6 + w)) hG1 hk2 hR.u4 (.inr (by omega)) (by (rw [mj4 (by omega) (by omega)]; omega))) rfl rfl hRm (by decide) (by decide) (Nat.le_of_ble_eq_true rfl) (fun v29 Mc27 hq28 => ?_)
            have hF9 : Fr [58] [(57, 4), (57, 7), (57, 8)] M Mc27 := Fr.tt (Fr.uB Fr.rf (by decide)) (hq28.1.mo (by simp) (by simp))
            have hI9 : HI M Mc27 := fun j e => (hq28.2.1 j e).trans (uM_h (by decide))
            have h49 : Mc27 57 4 = 0 := (hq28.1 57 4 (by decide) (by decide)).trans uM_same
            have hR9 : RNG Mc27 (kpN rn) (kpF rn rf) (kpS rn rs c) := hq28.2.2.2.1
            refine R_istore_5 hC dX12_promise_77 rfl ?_
            refine R_aload_0 hC dX12_promise_79 ?_
            have hG30 : GR Mc27 := (GR.fr hG1 hq28.1 (by decide +kernel))
            refine R_getR hC dX12_promise_80 fl_12_9 (by decide) rfl (by decide) (by decide) (fi := 0) rfl (r := 58) (gr_57_0 hG30) ?_
            refine R_bipush hC dX12_promise_83 (by decide +kernel) ⟨by decide, by decide⟩ ?_
            refine R_iload_1 hC dX12_promise_85 ?_
            refine R_iload_2 hC dX12_promise_86 ?_
            refine R_callSq (as := [vI _, vI _]) hC dX12_promise_87 mo_12_cell ml_12_87 (c12_cell  (by omega) (by omega) (by omega) (by omega)) rfl rfl hRm (by decide) (by decide) (Nat.le_of_ble_eq_true rfl) ?_
            refine R_iadd hC dX12_promise_90 ⟨by omega, by omega⟩ ?_
            refine R_iload_3 hC dX12_promise_91 ?_
            refine R_if_ne hC dX12_promise_92 (tgt := 99) (by decide) (fun hb92 => ?_) (fun hb92 => ?_)
            · skip
              have eun : y = (if m = 0 then 0 else y) := (if_neg hb92).symm
              refine R_iload_4 hC dX12_promise_99 ?_
              refine R_iastore hC dX12_promise_101 (by decide) rfl (by omega) (by omega) ?_
              refine R_iload_5 hC dX12_promise_102 ?_
              have hk31 : RW (uM Mc27 58 (70 + (6 * x + w)) y) 0 (upd1 (upd1 c (58 + x * 6 + w) m) (88 + x * 6 + w) y) := ((hq28.2.2.1).w4 (k := 88 + x * 6 + w) (by omega) (by omega) (by omega))
              exact R_ireturn hC dX12_promise_104 rfl (ret_P ⟨(uM_h (by decide)).trans h49, .inl ⟨⟨hb11, hb20, fun p => by first | exact hb35 | (exfalso; omega), fun p => by first | exact hb55 | (exfalso; omega)⟩, ⟨Fr.uA hF9 (by decide), hI9.u (by omega), by (rw [← eun]; exact hk31), hR9.u8 (by omega)⟩, hq28.2.2.2.2⟩⟩)
            · skip
              have eun : (0 : Int) = (if m = 0 then 0 else y) := (if_pos hb92).symm
              refine R_iconst hC dX12_promise_95 ⟨by decide, by decide⟩ ?_
              refine R_goto hC dX12_promise_96 (tgt := 101) (by decide) ?_
              refine R_iastore hC dX12_promise_101 (by decide) rfl (by omega) (by omega) ?_
              refine R_iload_5 hC dX12_promise_102 ?_
              have hk32 : RW (uM Mc27 58 (70 + (6 * x + w)) 0) 0 (upd1 (upd1 c (58 + x * 6 + w) m) (88 + x * 6 + w) 0) := ((hq28.2.2.1).w4 (k := 88 + x * 6 + w) (by omega) (by omega) (by omega))
              exact R_ireturn hC dX12_promise_104 rfl (ret_P ⟨(uM_h (by decide)).trans h49, .inl ⟨⟨hb11, hb20, fun p => by first | exact hb35 | (exfalso; omega), fun p => by first | exact hb55 | (exfalso; omega)⟩, ⟨Fr.uA hF9 (by decide), hI9.u (by omega), by (rw [← eun]; exact hk32), hR9.u8 (by omega)⟩, hq28.2.2.2.2⟩⟩)
          · skip
            refine R_aload_0 hC dX12_promise_42 ?_
            refine R_getR hC dX12_promise_43 fl_12_9 (by decide) rfl (by decide) (by decide) (fi := 0) rfl (r := 58) (gr_57_0 hG1) ?_
            refine R_bipush hC dX12_promise_46 (by decide +kernel) ⟨by decide, by decide⟩ ?_
            refine R_iload_1 hC dX12_promise_48 ?_
            refine R_iload_2 hC dX12_promise_49 ?_
            refine R_callSq (as := [vI _, vI _]) hC dX12_promise_50 mo_12_cell ml_12_87 (c12_cell  (by omega) (by omega) (by omega) (by omega)) rfl rfl hRm (by decide) (by decide) (Nat.le_of_ble_eq_true rfl) ?_
            refine R_iadd hC dX12_promise_53 ⟨by omega, by omega⟩ ?_
            refine R_ialoadE hC dX12_promise_54 (by decide) rfl (by omega) (by omega) (hk2.r4 (k := 58 + x * 6 + w) (by omega) (by omega) (by omega)) ?_
            refine R_if_ne hC dX12_promise_55 (tgt := 64) (by decide) (fun hb55 => ?_) (fun hb55 => ?_)
            · skip
              refine R_aload_0 hC dX12_promise_64 ?_
              refine R_bipush hC dX12_promise_65 (by decide +kernel) ⟨by decide, by decide⟩ ?_
              refine R_iload_1 hC dX12_promise_67 ?_
              refine R_iload_2 hC dX12_promise_68 ?_
              refine R_callSq (as := [vI _, vI _]) hC dX12_promise_69 mo_12_cell ml_12_87 (c12_cell  (by omega) (by omega) (by omega) (by omega)) rfl rfl hRm (by decide) (by decide) (Nat.le_of_ble_eq_true rfl) ?_
              refine R_iadd hC dX12_promise_72 ⟨by omega, by omega⟩ ?_
              refine R_iload_3 hC dX12_promise_73 ?_
              refine R_callVp (as := [vI _, vI _]) hC dX12_promise_74 mo_12_tells ml_12_421 (by decide) rfl rfl (c12_tells (k := (58 + x * 6 + w)) hG1 hk2 hR.u4 (.inr (by omega)) (by (rw [mj4 (by omega) (by omega)]; omega))) rfl rfl hRm (by decide) (by decide) (Nat.le_of_ble_eq_true rfl) (fun v35 Mc33 hq34 => ?_)
              have hF9 : Fr [58] [(57, 4), (57, 7), (57, 8)] M Mc33 := Fr.tt (Fr.uB Fr.rf (by decide)) (hq34.1.mo (by simp) (by simp))
              have hI9 : HI M Mc33 := fun j e => (hq34.2.1 j e).trans (uM_h (by decide))
              have h49 : Mc33 57 4 = 0 := (hq34.1 57 4 (by decide) (by decide)).trans uM_same
              have hR9 : RNG Mc33 (kpN rn) (kpF rn rf) (kpS rn rs c) := hq34.2.2.2.1
              refine R_istore_5 hC dX12_promise_77 rfl ?_
              refine R_aload_0 hC dX12_promise_79 ?_
              have hG36 : GR Mc33 := (GR.fr hG1 hq34.1 (by decide +kernel))
              refine R_getR hC dX12_promise_80 fl_12_9 (by decide) rfl (by decide) (by decide) (fi := 0) rfl (r := 58) (gr_57_0 hG36) ?_
              refine R_bipush hC dX12_promise_83 (by decide +kernel) ⟨by decide, by decide⟩ ?_
              refine R_iload_1 hC dX12_promise_85 ?_
              refine R_iload_2 hC dX12_promise_86 ?_
              refine R_callSq (as := [vI _, vI _]) hC dX12_promise_87 mo_12_cell ml_12_87 (c12_cell  (by omega) (by omega) (by omega) (by omega)) rfl rfl hRm (by decide) (by decide) (Nat.le_of_ble_eq_true rfl) ?_
              refine R_iadd hC dX12_promise_90 ⟨by omega, by omega⟩ ?_
              refine R_iload_3 hC dX12_promise_91 ?_
              refine R_if_ne hC dX12_promise_92 (tgt := 99) (by decide) (fun hb92 => ?_) (fun hb92 => ?_)
              · skip
                have eun : y = (if m = 0 then 0 else y) := (if_neg hb92).symm
                refine R_iload_4 hC dX12_promise_99 ?_
                refine R_iastore hC dX12_promise_101 (by decide) rfl (by omega) (by omega) ?_
                refine R_iload_5 hC dX12_promise_102 ?_
                have hk37 : RW (uM Mc33 58 (70 + (6 * x + w)) y) 0 (upd1 (upd1 c (58 + x * 6 + w) m) (88 + x * 6 + w) y) := ((hq34.2.2.1).w4 (k := 88 + x * 6 + w) (by omega) (by omega) (by omega))
                exact R_ireturn hC dX12_promise_104 rfl (ret_P ⟨(uM_h (by decide)).trans h49, .inl ⟨⟨hb11, hb20, fun p => by first | exact hb35 | (exfalso; omega), fun p => by first | exact hb55 | (exfalso; omega)⟩, ⟨Fr.uA hF9 (by decide), hI9.u (by omega), by (rw [← eun]; exact hk37), hR9.u8 (by omega)⟩, hq34.2.2.2.2⟩⟩)
              · skip
                have eun : (0 : Int) = (if m = 0 then 0 else y) := (if_pos hb92).symm
                refine R_iconst hC dX12_promise_95 ⟨by decide, by decide⟩ ?_
                refine R_goto hC dX12_promise_96 (tgt := 101) (by decide) ?_
                refine R_iastore hC dX12_promise_101 (by decide) rfl (by omega) (by omega) ?_
                refine R_iload_5 hC dX12_promise_102 ?_
                have hk38 : RW (uM Mc33 58 (70 + (6 * x + w)) 0) 0 (upd1 (upd1 c (58 + x * 6 + w) m) (88 + x * 6 + w) 0) := ((hq34.2.2.1).w4 (k := 88 + x * 6 + w) (by omega) (by omega) (by omega))
                exact R_ireturn hC dX12_promise_104 rfl (ret_P ⟨(uM_h (by decide)).trans h49, .inl ⟨⟨hb11, hb20, fun p => by first | exact hb35 | (exfalso; omega), fun p => by first | exact hb55 | (exfalso; omega)⟩, ⟨Fr.uA hF9 (by decide), hI9.u (by omega), by (rw [← eun]; exact hk38), hR9.u8 (by omega)⟩, hq34.2.2.2.2⟩⟩)
            · skip
              refine R_aload_0 hC dX12_promise_58 ?_
              refine R_iconst hC dX12_promise_59 ⟨by decide, by decide⟩ ?_
              refine R_callVp (as := [vI _]) hC dX12_promise_60 mo_12_refuses ml_12_418 (by decide) rfl rfl (c12_refuses  hG1 (by omega) (by omega) (by (rw [show uM M 57 4 0 61 1 = M 61 1 from uM_h (by decide)]; exact hr0)) (by (rw [show uM M 57 4 0 61 1 = M 61 1 from uM_h (by decide)]; exact hr1))) rfl rfl hRm (by decide) (by decide) (Nat.le_of_ble_eq_true rfl) (fun v41 Mc39 hq40 => ?_)
              exact R_ireturn hC dX12_promise_63 rfl (ret_P ⟨by (rw [hq40.2.1]; exact (uM_h (by decide)).trans uM_same), .inr ⟨by (intro z; first | exact hb11 z.1 | exact hb20 z.2.1 | exact hb35 (z.2.2.1 (by omega)) | exact z.2.2.2 (by omega) hb55), ⟨Fr.tt (Fr.uB Fr.rf (by decide)) (hq40.1.mo (by simp) (by simp)), by (rw [hq40.2.1]; exact uM_same.trans (congrArg (· + 1) (uM_h (by decide)))), fun j ne => by (rw [hq40.2.1]; exact (uM_k ne).trans (uM_h (by decide)))⟩, hq40.2.2⟩⟩)
theorem dX12_years_0 : decode cX12_years 0 = .ok (.aload_n 0, 1) := by decide +kernel
theorem dX12_years_1 : decode cX12_years 1 = .ok (.iconst 0, 1) := by decide +kernel
theorem dX12_years_2 : decode cX12_years 2 = .ok (.putfield 84, 3) := by decide +kernel
theorem dX12_years_5 : decode cX12_years 5 = .ok (.iload_n 1, 1) := by decide +kernel
theorem dX12_years_6 : decode cX12_years 6 = .ok (.iconst 1, 1) := by decide +kernel
theorem dX12_years_7 : decode cX12_years 7 = .ok (.bipush 9, 2) := by decide +kernel
theorem dX12_years_9 : decode cX12_years 9 = .ok (.invokestatic 235, 3) := by decide +kernel
theorem dX12_years_12 : decode cX12_years 12 = .ok (.ifCond .eq 17, 3) := by decide +kernel
theorem dX12_years_15 : decode cX12_years 15 = .ok (.aload_n 0, 1) := by decide +kernel
theorem dX12_years_16 : decode cX12_years 16 = .ok (.getfield 9, 3) := by decide +kernel
theorem dX12_years_19 : decode cX12_years 19 = .ok (.bipush 106, 2) := by decide +kernel
theorem dX12_years_21 : decode cX12_years 21 = .ok (.iaload, 1) := by decide +kernel
theorem dX12_years_22 : decode cX12_years 22 = .ok (.iload_n 1, 1) := by decide +kernel
theorem dX12_years_23 : decode cX12_years 23 = .ok (.iadd, 1) := by decide +kernel
theorem dX12_years_24 : decode cX12_years 24 = .ok (.bipush 60, 2) := by decide +kernel
theorem dX12_years_26 : decode cX12_years 26 = .ok (.if_icmp .le 9, 3) := by decide +kernel
theorem dX12_years_29 : decode cX12_years 29 = .ok (.aload_n 0, 1) := by decide +kernel
theorem dX12_years_30 : decode cX12_years 30 = .ok (.iconst 1, 1) := by decide +kernel
theorem dX12_years_31 : decode cX12_years 31 = .ok (.invokevirtual 418, 3) := by decide +kernel
theorem dX12_years_34 : decode cX12_years 34 = .ok (.ireturn, 1) := by decide +kernel
theorem dX12_years_35 : decode cX12_years 35 = .ok (.aload_n 0, 1) := by decide +kernel
theorem dX12_years_36 : decode cX12_years 36 = .ok (.invokevirtual 412, 3) := by decide +kernel
theorem dX12_years_39 : decode cX12_years 39 = .ok (.aload_n 0, 1) := by decide +kernel
theorem dX12_years_40 : decode cX12_years 40 = .ok (.getfield 9, 3) := by decide +kernel
theorem dX12_years_43 : decode cX12_years 43 = .ok (.bipush 106, 2) := by decide +kernel
theorem dX12_years_45 : decode cX12_years 45 = .ok (.dup2, 1) := by decide +kernel
theorem dX12_years_46 : decode cX12_years 46 = .ok (.iaload, 1) := by decide +kernel
theorem dX12_years_47 : decode cX12_years 47 = .ok (.iload_n 1, 1) := by decide +kernel
theorem dX12_years_48 : decode cX12_years 48 = .ok (.iadd, 1) := by decide +kernel
theorem dX12_years_49 : decode cX12_years 49 = .ok (.iastore, 1) := by decide +kernel
theorem dX12_years_50 : decode cX12_years 50 = .ok (.aload_n 0, 1) := by decide +kernel
theorem dX12_years_51 : decode cX12_years 51 = .ok (.getfield 9, 3) := by decide +kernel
theorem dX12_years_54 : decode cX12_years 54 = .ok (.bipush 106, 2) := by decide +kernel
theorem dX12_years_56 : decode cX12_years 56 = .ok (.iaload, 1) := by decide +kernel
theorem dX12_years_57 : decode cX12_years 57 = .ok (.ireturn, 1) := by decide +kernel
set_option maxHeartbeats 400000 in
theorem c12_years {G : Gl} {l : Launch}  {M : Mem} {c : Int → Int} {m : Int} {rn rf : Int} {rs : Int → Int → Int} (hG : GR M) (hK : RW M 0 c) (hS : SP c) (hR : RNG M rn rf rs) (hr0 : 0 ≤ M 61 1) (hr1 : M 61 1 ≤ 1000000000) : Ct G LY 82 l 2 m12_years [vR 57, vI m] M (RP (fun v M' => M' 57 4 = 0 ∧ ((((1 ≤ m ∧ m ≤ 9) ∧ c 118 + m ≤ 60) ∧ (Fr [58] [(57, 4), (57, 7), (57, 8)] M M' ∧ HI M M' ∧ RW M' 0 (upd1 c 118 (c 118 + m)) ∧ RNG M' (kpN rn) (kpF rn rf) (kpS rn rs c)) ∧ v = (c 118 + m)) ∨ (¬ ((1 ≤ m ∧ m ≤ 9) ∧ c 118 + m ≤ 60) ∧ (Fr [61] [(57, 4)] M M' ∧ M' 61 1 = M 61 1 + 1 ∧ ∀ j, j ≠ 1 → M' 61 j = M 61 j) ∧ v = -1)))) := by
  refine R_start (by decide +kernel) (Nat.le_of_ble_eq_true rfl) (fun C hC hRm hlau => ?_)
  show RZ G LY C (Zn G LY 82 C (RP (fun v M' => M' 57 4 = 0 ∧ ((((1 ≤ m ∧ m ≤ 9) ∧ c 118 + m ≤ 60) ∧ (Fr [58] [(57, 4), (57, 7), (57, 8)] M M' ∧ HI M M' ∧ RW M' 0 (upd1 c 118 (c 118 + m)) ∧ RNG M' (kpN rn) (kpF rn rf) (kpS rn rs c)) ∧ v = (c 118 + m)) ∨ (¬ ((1 ≤ m ∧ m ≤ 9) ∧ c 118 + m ≤ 60) ∧ (Fr [61] [(57, 4)] M M' ∧ M' 61 1 = M 61 1 + 1 ∧ ∀ j, j ≠ 1 → M' 61 j = M 61 j) ∧ v = -1))))) 0 0 82 0 [some (vR 57), some (vI m)] [] M
  have hM := hS.m
  have hI := hM.I
  have hL := hM.1.1
  have hW := hM.1.2
  have h118 := hS.2.2.2.2.1.1
  refine R_aload_0 hC dX12_years_0 ?_
  refine R_iconst hC dX12_years_1 ⟨by decide, by decide⟩ ?_
  refine R_putI hC dX12_years_2 fl_12_84 (by decide) rfl (by decide) (by decide) (fi := 4) rfl ?_
  refine R_iload_1 hC dX12_years_5 ?_
  refine R_iconst hC dX12_years_6 ⟨by decide, by decide⟩ ?_
  refine R_bipush hC dX12_years_7 (by decide +kernel) ⟨by decide, by decide⟩ ?_
  refine R_callSq (as := [vI _, vI _, vI _]) hC dX12_years_9 mo_12_within ml_12_235 (c12_within  ) rfl rfl hRm (by decide) (by decide) (Nat.le_of_ble_eq_true rfl) ?_
  refine R_if_eq hC dX12_years_12 (tgt := 29) (by decide) (fun hb12 => ?_) (fun hb12 => ?_)
  · skip
    replace hb12 := bP_z hb12
    refine R_aload_0 hC dX12_years_29 ?_
    refine R_iconst hC dX12_years_30 ⟨by decide, by decide⟩ ?_
    have hG1 : GR (uM M 57 4 0) := (GR.uF hG (by decide +kernel) (by decide))
    refine R_callVp (as := [vI _]) hC dX12_years_31 mo_12_refuses ml_12_418 (by decide) rfl rfl (c12_refuses  hG1 (by omega) (by omega) (by (rw [show uM M 57 4 0 61 1 = M 61 1 from uM_h (by decide)]; exact hr0)) (by (rw [show uM M 57 4 0 61 1 = M 61 1 from uM_h (by decide)]; exact hr1))) rfl rfl hRm (by decide) (by decide) (Nat.le_of_ble_eq_true rfl) (fun v4 Mc2 hq3 => ?_)
    exact R_ireturn hC dX12_years_34 rfl (ret_P ⟨by (rw [hq3.2.1]; exact (uM_h (by decide)).trans uM_same), .inr ⟨by (intro z; first | exact hb12 z.1 | omega), ⟨Fr.tt (Fr.uB Fr.rf (by decide)) (hq3.1.mo (by simp) (by simp)), by (rw [hq3.2.1]; exact uM_same.trans (congrArg (· + 1) (uM_h (by decide)))), fun j ne => by (rw [hq3.2.1]; exact (uM_k ne).trans (uM_h (by decide)))⟩, hq3.2.2⟩⟩)
  · skip
    replace hb12 := bP_nz hb12
    refine R_aload_0 hC dX12_years_15 ?_
    have hG5 : GR (uM M 57 4 0) := (GR.uF hG (by decide +kernel) (by decide))
    refine R_getR hC dX12_years_16 fl_12_9 (by decide) rfl (by decide) (by decide) (fi := 0) rfl (r := 58) (gr_57_0 hG5) ?_
    refine R_bipush hC dX12_years_19 (by decide +kernel) ⟨by decide, by decide⟩ ?_
    have hk6 : RW (uM M 57 4 0) 0 c := (RW.uf hK (by decide))
    refine R_ialoadE hC dX12_years_21 (by decide) rfl (by omega) (by omega) (hk6.r5 (k := 118) (by omega) (by omega) (by omega)) ?_
    refine R_iload_1 hC dX12_years_22 ?_
    refine R_iadd hC dX12_years_23 ⟨by omega, by omega⟩ ?_
    refine R_bipush hC dX12_years_24 (by decide +kernel) ⟨by decide, by decide⟩ ?_
    refine R_icmp_le hC dX12_years_26 (tgt := 35) (by decide) (fun hb26 => ?_) (fun hb26 => ?_)
    · skip
      refine R_aload_0 hC dX12_years_35 ?_
      refine R_callVv (as := []) hC dX12_years_36 mo_12_keeps ml_12_412 (by decide) rfl rfl (c12_keeps  hG5 hk6 hR.u4) rfl rfl hRm (by decide) (by decide) (Nat.le_of_ble_eq_true rfl) (fun Mc7 hq8 => ?_)
      have hF9 : Fr [58] [(57, 4), (57, 7), (57, 8)] M Mc7 := Fr.tt (Fr.uB Fr.rf (by decide)) (hq8.1.mo (by simp) (by simp))
      have hI9 : HI M Mc7 := fun j e => (hq8.2.1 j e).trans (uM_h (by decide))
      have h49 : Mc7 57 4 = 0 := (hq8.1 57 4 (by decide) (by decide)).trans uM_same
      have hR9 : RNG Mc7 (kpN rn) (kpF rn rf) (kpS rn rs c) := hq8.2.2.2
      refine R_aload_0 hC dX12_years_39 ?_
      have hG9 : GR Mc7 := (GR.fr hG5 hq8.1 (by decide +kernel))
      refine R_getR hC dX12_years_40 fl_12_9 (by decide) rfl (by decide) (by decide) (fi := 0) rfl (r := 58) (gr_57_0 hG9) ?_
      refine R_bipush hC dX12_years_43 (by decide +kernel) ⟨by decide, by decide⟩ ?_
      refine R_dup2 hC dX12_years_45 rfl rfl ?_
      have hk10 : RW Mc7 0 c := (hq8.2.2.1)
      refine R_ialoadE hC dX12_years_46 (by decide) rfl (by omega) (by omega) (hk10.r5 (k := 118) (by omega) (by omega) (by omega)) ?_
      refine R_iload_1 hC dX12_years_47 ?_
      refine R_iadd hC dX12_years_48 ⟨by omega, by omega⟩ ?_
      refine R_iastore hC dX12_years_49 (by decide) rfl (by omega) (by omega) ?_
      refine R_aload_0 hC dX12_years_50 ?_
      have hG11 : GR (uM Mc7 58 106 (c 118 + m)) := (GR.uA hG9 (by decide +kernel) (.inl (by decide)))
      refine R_getR hC dX12_years_51 fl_12_9 (by decide) rfl (by decide) (by decide) (fi := 0) rfl (r := 58) (gr_57_0 hG11) ?_
      refine R_bipush hC dX12_years_54 (by decide +kernel) ⟨by decide, by decide⟩ ?_
      have hk12 : RW (uM Mc7 58 106 (c 118 + m)) 0 (upd1 c 118 (c 118 + m)) := (hk10.w5 (k := 118) (by omega) (by omega) (by omega))
      refine R_ialoadE hC dX12_years_56 (by decide) rfl (by omega) (by omega) (hk12.r5 (k := 118) (by omega) (by omega) (by omega) |>.trans upd1_e) ?_
      exact R_ireturn hC dX12_years_57 rfl (ret_P ⟨(uM_h (by decide)).trans h49, .inl ⟨⟨hb12, by omega⟩, ⟨Fr.uA hF9 (by decide), hI9.u (by omega), hk12, hR9.u8 (by omega)⟩, rfl⟩⟩)
    · skip
      refine R_aload_0 hC dX12_years_29 ?_
      refine R_iconst hC dX12_years_30 ⟨by decide, by decide⟩ ?_
      refine R_callVp (as := [vI _]) hC dX12_years_31 mo_12_refuses ml_12_418 (by decide) rfl rfl (c12_refuses  hG5 (by omega) (by omega) (by (rw [show uM M 57 4 0 61 1 = M 61 1 from uM_h (by decide)]; exact hr0)) (by (rw [show uM M 57 4 0 61 1 = M 61 1 from uM_h (by decide)]; exact hr1))) rfl rfl hRm (by decide) (by decide) (Nat.le_of_ble_eq_true rfl) (fun v15 Mc13 hq14 => ?_)
      exact R_ireturn hC dX12_years_34 rfl (ret_P ⟨by (rw [hq14.2.1]; exact (uM_h (by decide)).trans uM_same), .inr ⟨by (intro z; first | exact hb12 z.1 | omega), ⟨Fr.tt (Fr.uB Fr.rf (by decide)) (hq14.1.mo (by simp) (by simp)), by (rw [hq14.2.1]; exact uM_same.trans (congrArg (· + 1) (uM_h (by decide)))), fun j ne => by (rw [hq14.2.1]; exact (uM_k ne).trans (uM_h (by decide)))⟩, hq14.2.2⟩⟩)
