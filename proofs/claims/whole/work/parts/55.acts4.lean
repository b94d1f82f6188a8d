/-! the model's acts: note, forget, image -/
theorem dX12_thrown_0 : decode cX12_thrown 0 = .ok (.aload_n 0, 1) := by decide +kernel
theorem dX12_thrown_1 : decode cX12_thrown 1 = .ok (.getfield 84, 3) := by decide +kernel
theorem dX12_thrown_4 : decode cX12_thrown 4 = .ok (.ireturn, 1) := by decide +kernel
set_option maxHeartbeats 400000 in
theorem c12_thrown {G : Gl} {l : Launch}  {M : Mem} (hG : GR M) : Ct G LY 82 l 0 m12_thrown [vR 57] M (Ret (vI (M 57 4)) M) := by
  refine R_start (by decide +kernel) (Nat.le_of_ble_eq_true rfl) (fun C hC hRm hlau => ?_)
  show RZ G LY C (Zn G LY 82 C (Ret (vI (M 57 4)) M)) 0 0 82 0 [some (vR 57)] [] M
  refine R_aload_0 hC dX12_thrown_0 ?_
  refine R_getI hC dX12_thrown_1 fl_12_84 (by decide) rfl (by decide) (by decide) (fi := 4) rfl ?_
  exact R_ireturn hC dX12_thrown_4 rfl (ret_I rfl)
theorem dX12_fault_0 : decode cX12_fault 0 = .ok (.aload_n 0, 1) := by decide +kernel
theorem dX12_fault_1 : decode cX12_fault 1 = .ok (.iconst 0, 1) := by decide +kernel
theorem dX12_fault_2 : decode cX12_fault 2 = .ok (.putfield 84, 3) := by decide +kernel
theorem dX12_fault_5 : decode cX12_fault 5 = .ok (.aload_n 0, 1) := by decide +kernel
theorem dX12_fault_6 : decode cX12_fault 6 = .ok (.getfield 25, 3) := by decide +kernel
theorem dX12_fault_9 : decode cX12_fault 9 = .ok (.ireturn, 1) := by decide +kernel
set_option maxHeartbeats 400000 in
theorem c12_fault {G : Gl} {l : Launch}  {M : Mem} (hG : GR M) : Ct G LY 82 l 0 m12_fault [vR 57] M (RP (fun v M' => M' = uM M 57 4 0 ∧ v = M 57 17)) := by
  refine R_start (by decide +kernel) (Nat.le_of_ble_eq_true rfl) (fun C hC hRm hlau => ?_)
  show RZ G LY C (Zn G LY 82 C (RP (fun v M' => M' = uM M 57 4 0 ∧ v = M 57 17))) 0 0 82 0 [some (vR 57)] [] M
  refine R_aload_0 hC dX12_fault_0 ?_
  refine R_iconst hC dX12_fault_1 ⟨by decide, by decide⟩ ?_
  refine R_putI hC dX12_fault_2 fl_12_84 (by decide) rfl (by decide) (by decide) (fi := 4) rfl ?_
  refine R_aload_0 hC dX12_fault_5 ?_
  refine R_getIE hC dX12_fault_6 fl_12_25 (by decide) rfl (by decide) (by decide) (fi := 17) rfl (uM_k (by decide)) ?_
  exact R_ireturn hC dX12_fault_9 rfl (ret_P ⟨rfl, rfl⟩)
theorem dX12_forget_0 : decode cX12_forget 0 = .ok (.aload_n 0, 1) := by decide +kernel
theorem dX12_forget_1 : decode cX12_forget 1 = .ok (.iconst 0, 1) := by decide +kernel
theorem dX12_forget_2 : decode cX12_forget 2 = .ok (.putfield 84, 3) := by decide +kernel
theorem dX12_forget_5 : decode cX12_forget 5 = .ok (.aload_n 0, 1) := by decide +kernel
theorem dX12_forget_6 : decode cX12_forget 6 = .ok (.iconst 0, 1) := by decide +kernel
theorem dX12_forget_7 : decode cX12_forget 7 = .ok (.putfield 281, 3) := by decide +kernel
theorem dX12_forget_10 : decode cX12_forget 10 = .ok (.return_, 1) := by decide +kernel
set_option maxHeartbeats 400000 in
theorem c12_forget {G : Gl} {l : Launch}  {M : Mem} (hG : GR M) : Ct G LY 82 l 0 m12_forget [vR 57] M (RV (fun M' => M' = uM (uM M 57 4 0) 57 9 0)) := by
  refine R_start (by decide +kernel) (Nat.le_of_ble_eq_true rfl) (fun C hC hRm hlau => ?_)
  show RZ G LY C (Zn G LY 82 C (RV (fun M' => M' = uM (uM M 57 4 0) 57 9 0))) 0 0 82 0 [some (vR 57)] [] M
  refine R_aload_0 hC dX12_forget_0 ?_
  refine R_iconst hC dX12_forget_1 ⟨by decide, by decide⟩ ?_
  refine R_putI hC dX12_forget_2 fl_12_84 (by decide) rfl (by decide) (by decide) (fi := 4) rfl ?_
  refine R_aload_0 hC dX12_forget_5 ?_
  refine R_iconst hC dX12_forget_6 ⟨by decide, by decide⟩ ?_
  refine R_putI hC dX12_forget_7 fl_12_281 (by decide) rfl (by decide) (by decide) (fi := 9) rfl ?_
  exact R_return hC dX12_forget_10 rfl (ret_V rfl)
theorem dX12_note_0 : decode cX12_note 0 = .ok (.aload_n 0, 1) := by decide +kernel
theorem dX12_note_1 : decode cX12_note 1 = .ok (.iconst 0, 1) := by decide +kernel
theorem dX12_note_2 : decode cX12_note 2 = .ok (.putfield 84, 3) := by decide +kernel
theorem dX12_note_5 : decode cX12_note 5 = .ok (.aload_n 0, 1) := by decide +kernel
theorem dX12_note_6 : decode cX12_note 6 = .ok (.getfield 281, 3) := by decide +kernel
theorem dX12_note_9 : decode cX12_note 9 = .ok (.bipush 6, 2) := by decide +kernel
theorem dX12_note_11 : decode cX12_note 11 = .ok (.if_icmp .eq 14, 3) := by decide +kernel
theorem dX12_note_14 : decode cX12_note 14 = .ok (.iload_n 1, 1) := by decide +kernel
theorem dX12_note_15 : decode cX12_note 15 = .ok (.iconst (-1), 1) := by decide +kernel
theorem dX12_note_16 : decode cX12_note 16 = .ok (.sipush 999, 3) := by decide +kernel
theorem dX12_note_19 : decode cX12_note 19 = .ok (.invokestatic 235, 3) := by decide +kernel
theorem dX12_note_22 : decode cX12_note 22 = .ok (.ifCond .ne 9, 3) := by decide +kernel
theorem dX12_note_25 : decode cX12_note 25 = .ok (.aload_n 0, 1) := by decide +kernel
theorem dX12_note_26 : decode cX12_note 26 = .ok (.iconst 2, 1) := by decide +kernel
theorem dX12_note_27 : decode cX12_note 27 = .ok (.invokevirtual 418, 3) := by decide +kernel
theorem dX12_note_30 : decode cX12_note 30 = .ok (.ireturn, 1) := by decide +kernel
theorem dX12_note_31 : decode cX12_note 31 = .ok (.aload_n 0, 1) := by decide +kernel
theorem dX12_note_32 : decode cX12_note 32 = .ok (.getfield 16, 3) := by decide +kernel
theorem dX12_note_35 : decode cX12_note 35 = .ok (.aload_n 0, 1) := by decide +kernel
theorem dX12_note_36 : decode cX12_note 36 = .ok (.getfield 281, 3) := by decide +kernel
theorem dX12_note_39 : decode cX12_note 39 = .ok (.iload_n 1, 1) := by decide +kernel
theorem dX12_note_40 : decode cX12_note 40 = .ok (.iastore, 1) := by decide +kernel
theorem dX12_note_41 : decode cX12_note 41 = .ok (.aload_n 0, 1) := by decide +kernel
theorem dX12_note_42 : decode cX12_note 42 = .ok (.dup, 1) := by decide +kernel
theorem dX12_note_43 : decode cX12_note 43 = .ok (.getfield 281, 3) := by decide +kernel
theorem dX12_note_46 : decode cX12_note 46 = .ok (.iconst 1, 1) := by decide +kernel
theorem dX12_note_47 : decode cX12_note 47 = .ok (.iadd, 1) := by decide +kernel
theorem dX12_note_48 : decode cX12_note 48 = .ok (.putfield 281, 3) := by decide +kernel
theorem dX12_note_51 : decode cX12_note 51 = .ok (.aload_n 0, 1) := by decide +kernel
theorem dX12_note_52 : decode cX12_note 52 = .ok (.getfield 281, 3) := by decide +kernel
theorem dX12_note_55 : decode cX12_note 55 = .ok (.ireturn, 1) := by decide +kernel
set_option maxHeartbeats 400000 in
theorem c12_note {G : Gl} {l : Launch}  {M : Mem} {y n : Int} (hG : GR M) (hn : M 57 9 = n) (hn0 : 0 ≤ n) (hn1 : n ≤ 6) (hr0 : 0 ≤ M 61 2) (hr1 : M 61 2 ≤ 1000000000) : Ct G LY 82 l 1 m12_note [vR 57, vI y] M (RP (fun v M' => M' 57 4 = 0 ∧ (((n ≠ 6 ∧ -1 ≤ y ∧ y ≤ 999) ∧ M' = uM (uM (uM M 57 4 0) 60 n y) 57 9 (n + 1) ∧ v = n + 1) ∨ (¬ (n ≠ 6 ∧ -1 ≤ y ∧ y ≤ 999) ∧ M' = uM (uM M 57 4 0) 61 2 (M 61 2 + 1) ∧ v = -1)))) := by
  refine R_start (by decide +kernel) (Nat.le_of_ble_eq_true rfl) (fun C hC hRm hlau => ?_)
  show RZ G LY C (Zn G LY 82 C (RP (fun v M' => M' 57 4 = 0 ∧ (((n ≠ 6 ∧ -1 ≤ y ∧ y ≤ 999) ∧ M' = uM (uM (uM M 57 4 0) 60 n y) 57 9 (n + 1) ∧ v = n + 1) ∨ (¬ (n ≠ 6 ∧ -1 ≤ y ∧ y ≤ 999) ∧ M' = uM (uM M 57 4 0) 61 2 (M 61 2 + 1) ∧ v = -1))))) 0 0 82 0 [some (vR 57), some (vI y)] [] M
  refine R_aload_0 hC dX12_note_0 ?_
  refine R_iconst hC dX12_note_1 ⟨by decide, by decide⟩ ?_
  refine R_putI hC dX12_note_2 fl_12_84 (by decide) rfl (by decide) (by decide) (fi := 4) rfl ?_
  refine R_aload_0 hC dX12_note_5 ?_
  refine R_getIE hC dX12_note_6 fl_12_281 (by decide) rfl (by decide) (by decide) (fi := 9) rfl ((uM_k (by decide)).trans hn) ?_
  refine R_bipush hC dX12_note_9 (by decide +kernel) ⟨by decide, by decide⟩ ?_
  refine R_icmp_eq hC dX12_note_11 (tgt := 25) (by decide) (fun hb11 => ?_) (fun hb11 => ?_)
  · skip
    refine R_aload_0 hC dX12_note_25 ?_
    refine R_iconst hC dX12_note_26 ⟨by decide, by decide⟩ ?_
    have hG1 : GR (uM M 57 4 0) := (GR.uF hG (by decide +kernel) (by decide))
    refine R_callVp (as := [vI _]) hC dX12_note_27 mo_12_refuses ml_12_418 (by decide) rfl rfl (c12_refuses  hG1 (by omega) (by omega) (by (rw [show uM M 57 4 0 61 2 = M 61 2 from uM_h (by decide)]; exact hr0)) (by (rw [show uM M 57 4 0 61 2 = M 61 2 from uM_h (by decide)]; exact hr1))) rfl rfl hRm (by decide) (by decide) (Nat.le_of_ble_eq_true rfl) (fun v4 Mc2 hq3 => ?_)
    exact R_ireturn hC dX12_note_30 rfl (ret_P ⟨by (rw [hq3.2.1]; exact (uM_h (by decide)).trans uM_same), .inr ⟨by (intro z; first | exact z.1 hb11 | exact hb22 z.2), hq3.2.1, hq3.2.2⟩⟩)
  · skip
    refine R_iload_1 hC dX12_note_14 ?_
    refine R_iconst hC dX12_note_15 ⟨by decide, by decide⟩ ?_
    refine R_sipush hC dX12_note_16 (by decide +kernel) ⟨by decide, by decide⟩ ?_
    refine R_callSq (as := [vI _, vI _, vI _]) hC dX12_note_19 mo_12_within ml_12_235 (c12_within  ) rfl rfl hRm (by decide) (by decide) (Nat.le_of_ble_eq_true rfl) ?_
    refine R_if_ne hC dX12_note_22 (tgt := 31) (by decide) (fun hb22 => ?_) (fun hb22 => ?_)
    · skip
      replace hb22 := bP_nz hb22
      refine R_aload_0 hC dX12_note_31 ?_
      have hG5 : GR (uM M 57 4 0) := (GR.uF hG (by decide +kernel) (by decide))
      refine R_getR hC dX12_note_32 fl_12_16 (by decide) rfl (by decide) (by decide) (fi := 2) rfl (r := 60) (gr_57_2 hG5) ?_
      refine R_aload_0 hC dX12_note_35 ?_
      refine R_getIE hC dX12_note_36 fl_12_281 (by decide) rfl (by decide) (by decide) (fi := 9) rfl ((uM_k (by decide)).trans hn) ?_
      refine R_iload_1 hC dX12_note_39 ?_
      refine R_iastore hC dX12_note_40 (by decide) rfl (by omega) (by omega) ?_
      refine R_aload_0 hC dX12_note_41 ?_
      refine R_dup hC dX12_note_42 rfl ?_
      refine R_getIE hC dX12_note_43 fl_12_281 (by decide) rfl (by decide) (by decide) (fi := 9) rfl ((uM_h (by decide)).trans ((uM_k (by decide)).trans hn)) ?_
      refine R_iconst hC dX12_note_46 ⟨by decide, by decide⟩ ?_
      refine R_iadd hC dX12_note_47 ⟨by omega, by omega⟩ ?_
      refine R_putI hC dX12_note_48 fl_12_281 (by decide) rfl (by decide) (by decide) (fi := 9) rfl ?_
      refine R_aload_0 hC dX12_note_51 ?_
      refine R_getIE hC dX12_note_52 fl_12_281 (by decide) rfl (by decide) (by decide) (fi := 9) rfl uM_same ?_
      exact R_ireturn hC dX12_note_55 rfl (ret_P ⟨(uM_k (by decide)).trans ((uM_h (by decide)).trans uM_same), .inl ⟨⟨hb11, hb22⟩, rfl, rfl⟩⟩)
    · skip
      replace hb22 := bP_z hb22
      refine R_aload_0 hC dX12_note_25 ?_
      refine R_iconst hC dX12_note_26 ⟨by decide, by decide⟩ ?_
      have hG6 : GR (uM M 57 4 0) := (GR.uF hG (by decide +kernel) (by decide))
      refine R_callVp (as := [vI _]) hC dX12_note_27 mo_12_refuses ml_12_418 (by decide) rfl rfl (c12_refuses  hG6 (by omega) (by omega) (by (rw [show uM M 57 4 0 61 2 = M 61 2 from uM_h (by decide)]; exact hr0)) (by (rw [show uM M 57 4 0 61 2 = M 61 2 from uM_h (by decide)]; exact hr1))) rfl rfl hRm (by decide) (by decide) (Nat.le_of_ble_eq_true rfl) (fun v9 Mc7 hq8 => ?_)
      exact R_ireturn hC dX12_note_30 rfl (ret_P ⟨by (rw [hq8.2.1]; exact (uM_h (by decide)).trans uM_same), .inr ⟨by (intro z; first | exact z.1 hb11 | exact hb22 z.2), hq8.2.1, hq8.2.2⟩⟩)
theorem dX12_image_0 : decode cX12_image 0 = .ok (.aload_n 0, 1) := by decide +kernel
theorem dX12_image_1 : decode cX12_image 1 = .ok (.iconst 0, 1) := by decide +kernel
theorem dX12_image_2 : decode cX12_image 2 = .ok (.putfield 84, 3) := by decide +kernel
theorem dX12_image_5 : decode cX12_image 5 = .ok (.aload_n 0, 1) := by decide +kernel
theorem dX12_image_6 : decode cX12_image 6 = .ok (.iconst 0, 1) := by decide +kernel
theorem dX12_image_7 : decode cX12_image 7 = .ok (.sipush 4788, 3) := by decide +kernel
theorem dX12_image_10 : decode cX12_image 10 = .ok (.bipush 114, 2) := by decide +kernel
theorem dX12_image_12 : decode cX12_image 12 = .ok (.invokevirtual 290, 3) := by decide +kernel
theorem dX12_image_15 : decode cX12_image 15 = .ok (.aload_n 0, 1) := by decide +kernel
theorem dX12_image_16 : decode cX12_image 16 = .ok (.sipush 228, 3) := by decide +kernel
theorem dX12_image_19 : decode cX12_image 19 = .ok (.sipush 4902, 3) := by decide +kernel
theorem dX12_image_22 : decode cX12_image 22 = .ok (.sipush 4560, 3) := by decide +kernel
theorem dX12_image_25 : decode cX12_image 25 = .ok (.invokevirtual 290, 3) := by decide +kernel
theorem dX12_image_28 : decode cX12_image 28 = .ok (.aload_n 0, 1) := by decide +kernel
theorem dX12_image_29 : decode cX12_image 29 = .ok (.aload_n 0, 1) := by decide +kernel
theorem dX12_image_30 : decode cX12_image 30 = .ok (.getfield 287, 3) := by decide +kernel
theorem dX12_image_33 : decode cX12_image 33 = .ok (.putfield 458, 3) := by decide +kernel
theorem dX12_image_36 : decode cX12_image 36 = .ok (.aload_n 0, 1) := by decide +kernel
theorem dX12_image_37 : decode cX12_image 37 = .ok (.aload_n 0, 1) := by decide +kernel
theorem dX12_image_38 : decode cX12_image 38 = .ok (.getfield 284, 3) := by decide +kernel
theorem dX12_image_41 : decode cX12_image 41 = .ok (.putfield 461, 3) := by decide +kernel
theorem dX12_image_44 : decode cX12_image 44 = .ok (.aload_n 0, 1) := by decide +kernel
theorem dX12_image_45 : decode cX12_image 45 = .ok (.aload_n 0, 1) := by decide +kernel
theorem dX12_image_46 : decode cX12_image 46 = .ok (.getfield 281, 3) := by decide +kernel
theorem dX12_image_49 : decode cX12_image 49 = .ok (.putfield 464, 3) := by decide +kernel
theorem dX12_image_52 : decode cX12_image 52 = .ok (.iconst 0, 1) := by decide +kernel
theorem dX12_image_53 : decode cX12_image 53 = .ok (.istore_n 1, 1) := by decide +kernel
theorem dX12_image_54 : decode cX12_image 54 = .ok (.iload_n 1, 1) := by decide +kernel
theorem dX12_image_55 : decode cX12_image 55 = .ok (.bipush 6, 2) := by decide +kernel
theorem dX12_image_57 : decode cX12_image 57 = .ok (.if_icmp .ge 24, 3) := by decide +kernel
theorem dX12_image_60 : decode cX12_image 60 = .ok (.aload_n 0, 1) := by decide +kernel
theorem dX12_image_61 : decode cX12_image 61 = .ok (.getfield 16, 3) := by decide +kernel
theorem dX12_image_64 : decode cX12_image 64 = .ok (.bipush 6, 2) := by decide +kernel
theorem dX12_image_66 : decode cX12_image 66 = .ok (.iload_n 1, 1) := by decide +kernel
theorem dX12_image_67 : decode cX12_image 67 = .ok (.iadd, 1) := by decide +kernel
theorem dX12_image_68 : decode cX12_image 68 = .ok (.aload_n 0, 1) := by decide +kernel
theorem dX12_image_69 : decode cX12_image 69 = .ok (.getfield 16, 3) := by decide +kernel
theorem dX12_image_72 : decode cX12_image 72 = .ok (.iload_n 1, 1) := by decide +kernel
theorem dX12_image_73 : decode cX12_image 73 = .ok (.iaload, 1) := by decide +kernel
theorem dX12_image_74 : decode cX12_image 74 = .ok (.iastore, 1) := by decide +kernel
theorem dX12_image_75 : decode cX12_image 75 = .ok (.iinc 1 1, 3) := by decide +kernel
theorem dX12_image_78 : decode cX12_image 78 = .ok (.goto (-24), 3) := by decide +kernel
theorem dX12_image_81 : decode cX12_image 81 = .ok (.iconst 0, 1) := by decide +kernel
theorem dX12_image_82 : decode cX12_image 82 = .ok (.istore_n 1, 1) := by decide +kernel
theorem dX12_image_83 : decode cX12_image 83 = .ok (.iload_n 1, 1) := by decide +kernel
theorem dX12_image_84 : decode cX12_image 84 = .ok (.iconst 3, 1) := by decide +kernel
theorem dX12_image_85 : decode cX12_image 85 = .ok (.if_icmp .ge 23, 3) := by decide +kernel
theorem dX12_image_88 : decode cX12_image 88 = .ok (.aload_n 0, 1) := by decide +kernel
theorem dX12_image_89 : decode cX12_image 89 = .ok (.getfield 19, 3) := by decide +kernel
theorem dX12_image_92 : decode cX12_image 92 = .ok (.iconst 3, 1) := by decide +kernel
theorem dX12_image_93 : decode cX12_image 93 = .ok (.iload_n 1, 1) := by decide +kernel
theorem dX12_image_94 : decode cX12_image 94 = .ok (.iadd, 1) := by decide +kernel
theorem dX12_image_95 : decode cX12_image 95 = .ok (.aload_n 0, 1) := by decide +kernel
theorem dX12_image_96 : decode cX12_image 96 = .ok (.getfield 19, 3) := by decide +kernel
theorem dX12_image_99 : decode cX12_image 99 = .ok (.iload_n 1, 1) := by decide +kernel
theorem dX12_image_100 : decode cX12_image 100 = .ok (.iaload, 1) := by decide +kernel
theorem dX12_image_101 : decode cX12_image 101 = .ok (.iastore, 1) := by decide +kernel
theorem dX12_image_102 : decode cX12_image 102 = .ok (.iinc 1 1, 3) := by decide +kernel
theorem dX12_image_105 : decode cX12_image 105 = .ok (.goto (-22), 3) := by decide +kernel
theorem dX12_image_108 : decode cX12_image 108 = .ok (.aload_n 0, 1) := by decide +kernel
theorem dX12_image_109 : decode cX12_image 109 = .ok (.iconst 1, 1) := by decide +kernel
theorem dX12_image_110 : decode cX12_image 110 = .ok (.putfield 278, 3) := by decide +kernel
theorem dX12_image_113 : decode cX12_image 113 = .ok (.return_, 1) := by decide +kernel
set_option maxHeartbeats 1000000 in
theorem c12_image {G : Gl} {l : Launch}  {M : Mem} (hG : GR M) : Ct G LY 82 l 1 m12_image [vR 57] M (RV (fun M' => Fr [58, 60, 61] [(57, 4), (57, 10), (57, 11), (57, 12), (57, 13)] M M' ∧ ((∀ j, j < 4788 → M' 58 j = M 58 j) ∧ (∀ j, 0 ≤ j → j < 114 → M' 58 (4788 + j) = M 58 j) ∧ (∀ j, 0 ≤ j → j < 4560 → M' 58 (4902 + j) = M 58 (228 + j))) ∧ (M' 57 10 = M 57 7 ∧ M' 57 11 = M 57 8 ∧ M' 57 12 = M 57 9 ∧ M' 57 4 = 0) ∧ M' 57 13 = 1 ∧ ((∀ q, 0 ≤ q → q < 6 → M' 60 q = M 60 q) ∧ (∀ q, 0 ≤ q → q < 6 → M' 60 (6 + q) = M 60 q)) ∧ ((∀ q, 0 ≤ q → q < 3 → M' 61 q = M 61 q) ∧ (∀ q, 0 ≤ q → q < 3 → M' 61 (3 + q) = M 61 q)))) := by
  refine R_start (by decide +kernel) (Nat.le_of_ble_eq_true rfl) (fun C hC hRm hlau => ?_)
  show RZ G LY C (Zn G LY 82 C (RV (fun M' => Fr [58, 60, 61] [(57, 4), (57, 10), (57, 11), (57, 12), (57, 13)] M M' ∧ ((∀ j, j < 4788 → M' 58 j = M 58 j) ∧ (∀ j, 0 ≤ j → j < 114 → M' 58 (4788 + j) = M 58 j) ∧ (∀ j, 0 ≤ j → j < 4560 → M' 58 (4902 + j) = M 58 (228 + j))) ∧ (M' 57 10 = M 57 7 ∧ M' 57 11 = M 57 8 ∧ M' 57 12 = M 57 9 ∧ M' 57 4 = 0) ∧ M' 57 13 = 1 ∧ ((∀ q, 0 ≤ q → q < 6 → M' 60 q = M 60 q) ∧ (∀ q, 0 ≤ q → q < 6 → M' 60 (6 + q) = M 60 q)) ∧ ((∀ q, 0 ≤ q → q < 3 → M' 61 q = M 61 q) ∧ (∀ q, 0 ≤ q → q < 3 → M' 61 (3 + q) = M 61 q))))) 0 0 82 0 [some (vR 57), none] [] M
  refine R_aload_0 hC dX12_image_0 ?_
  refine R_iconst hC dX12_image_1 ⟨by decide, by decide⟩ ?_
  refine R_putI hC dX12_image_2 fl_12_84 (by decide) rfl (by decide) (by decide) (fi := 4) rfl ?_
  refine R_aload_0 hC dX12_image_5 ?_
  refine R_iconst hC dX12_image_6 ⟨by decide, by decide⟩ ?_
  refine R_sipush hC dX12_image_7 (by decide +kernel) ⟨by decide, by decide⟩ ?_
  refine R_bipush hC dX12_image_10 (by decide +kernel) ⟨by decide, by decide⟩ ?_
  have hG1 : GR (uM M 57 4 0) := (GR.uF hG (by decide +kernel) (by decide))
  refine R_callVv (as := [vI _, vI _, vI _]) hC dX12_image_12 mo_12_copies ml_12_290 (by decide) rfl rfl (c12_copies  hG1 (by omega) (by omega) (by omega) (by omega) (by omega) (by omega)) rfl rfl hRm (by decide) (by decide) (Nat.le_of_ble_eq_true rfl) (fun Mc2 hq3 => ?_)
  have hG4 : GR Mc2 := by (rw [hq3]; exact GR.cp hG1 (by decide +kernel) (.inl (by decide)))
  refine R_aload_0 hC dX12_image_15 ?_
  refine R_sipush hC dX12_image_16 (by decide +kernel) ⟨by decide, by decide⟩ ?_
  refine R_sipush hC dX12_image_19 (by decide +kernel) ⟨by decide, by decide⟩ ?_
  refine R_sipush hC dX12_image_22 (by decide +kernel) ⟨by decide, by decide⟩ ?_
  refine R_callVv (as := [vI _, vI _, vI _]) hC dX12_image_25 mo_12_copies ml_12_290 (by decide) rfl rfl (c12_copies  hG4 (by omega) (by omega) (by omega) (by omega) (by omega) (by omega)) rfl rfl hRm (by decide) (by decide) (Nat.le_of_ble_eq_true rfl) (fun Mc5 hq6 => ?_)
  have hG7 : GR Mc5 := by (rw [hq6]; exact GR.cp hG4 (by decide +kernel) (.inl (by decide)))
  have hF0 : Fr [58] [(57, 4)] M Mc5 := fun a j p q => by
    rw [hq6, hq3]
    refine (if_neg (fun z => p (by rw [z.1]; simp))).trans ((if_neg (fun z => p (by rw [z.1]; simp))).trans (if_neg (fun z => q (by rw [z.1, z.2]; simp))))
  have h58 : (∀ j, j < 4788 → Mc5 58 j = M 58 j) ∧ (∀ j, 0 ≤ j → j < 114 → Mc5 58 (4788 + j) = M 58 j) ∧ (∀ j, 0 ≤ j → j < 4560 → Mc5 58 (4902 + j) = M 58 (228 + j)) := by
    rw [hq6, hq3]
    refine ⟨fun j e => (if_neg (fun z => by omega)).trans ((if_neg (fun z => by omega)).trans (uM_h (by decide))), fun j a e => (if_neg (fun z => by omega)).trans ((if_pos ⟨rfl, by omega, by omega⟩).trans ((congrArg _ (by omega)).trans (uM_h (by decide)))), fun j a e => (if_pos ⟨rfl, by omega, by omega⟩).trans ((if_neg (fun z => by omega)).trans ((congrArg _ (by omega)).trans (uM_h (by decide))))⟩
  refine R_aload_0 hC dX12_image_28 ?_
  refine R_aload_0 hC dX12_image_29 ?_
  refine R_getI hC dX12_image_30 fl_12_287 (by decide) rfl (by decide) (by decide) (fi := 7) rfl ?_
  refine R_putI hC dX12_image_33 fl_12_458 (by decide) rfl (by decide) (by decide) (fi := 10) rfl ?_
  refine R_aload_0 hC dX12_image_36 ?_
  refine R_aload_0 hC dX12_image_37 ?_
  refine R_getIE hC dX12_image_38 fl_12_284 (by decide) rfl (by decide) (by decide) (fi := 8) rfl (uM_k (by decide)) ?_
  refine R_putI hC dX12_image_41 fl_12_461 (by decide) rfl (by decide) (by decide) (fi := 11) rfl ?_
  refine R_aload_0 hC dX12_image_44 ?_
  refine R_aload_0 hC dX12_image_45 ?_
  refine R_getIE hC dX12_image_46 fl_12_281 (by decide) rfl (by decide) (by decide) (fi := 9) rfl ((uM_k (by decide)).trans (uM_k (by decide))) ?_
  refine R_putI hC dX12_image_49 fl_12_464 (by decide) rfl (by decide) (by decide) (fi := 12) rfl ?_
  refine R_iconst hC dX12_image_52 ⟨by decide, by decide⟩ ?_
  refine R_istore_1 hC dX12_image_53 rfl ?_
  have L54 : ∀ (mq : Nat) (i : Int) (M1 : Mem), (0 ≤ i) → (i ≤ 6) → (GR M1) → (Fr [58, 60, 61] [(57, 4), (57, 10), (57, 11), (57, 12), (57, 13)] M M1) → ((∀ j, j < 4788 → M1 58 j = M 58 j) ∧ (∀ j, 0 ≤ j → j < 114 → M1 58 (4788 + j) = M 58 j) ∧ (∀ j, 0 ≤ j → j < 4560 → M1 58 (4902 + j) = M 58 (228 + j))) → (M1 57 10 = M 57 7 ∧ M1 57 11 = M 57 8 ∧ M1 57 12 = M 57 9 ∧ M1 57 4 = 0) → ((∀ q, 0 ≤ q → q < 6 → M1 60 q = M 60 q) ∧ (∀ q, 0 ≤ q → q < i → M1 60 (6 + q) = M 60 q)) → ((∀ q, 0 ≤ q → q < 3 → M1 61 q = M 61 q) ∧ (∀ q, 0 ≤ q → q < 0 → M1 61 (3 + q) = M 61 q)) → (6 - i).toNat < mq → RZ G LY C (Zn G LY 82 C (RV (fun M' => Fr [58, 60, 61] [(57, 4), (57, 10), (57, 11), (57, 12), (57, 13)] M M' ∧ ((∀ j, j < 4788 → M' 58 j = M 58 j) ∧ (∀ j, 0 ≤ j → j < 114 → M' 58 (4788 + j) = M 58 j) ∧ (∀ j, 0 ≤ j → j < 4560 → M' 58 (4902 + j) = M 58 (228 + j))) ∧ (M' 57 10 = M 57 7 ∧ M' 57 11 = M 57 8 ∧ M' 57 12 = M 57 9 ∧ M' 57 4 = 0) ∧ M' 57 13 = 1 ∧ ((∀ q, 0 ≤ q → q < 6 → M' 60 q = M 60 q) ∧ (∀ q, 0 ≤ q → q < 6 → M' 60 (6 + q) = M 60 q)) ∧ ((∀ q, 0 ≤ q → q < 3 → M' 61 q = M 61 q) ∧ (∀ q, 0 ≤ q → q < 3 → M' 61 (3 + q) = M 61 q))))) 0 0 82 54 [some (vR 57), some (vI i)] [] M1 := by
    intro mq
    induction mq with
    | zero =>
      intro i M1 hi0 hi1 hg hF h8 h7 h60 h61 hm
      exact absurd hm (Nat.not_lt_zero _)
    | succ mq ih54 =>
      intro i M1 hi0 hi1 hg hF h8 h7 h60 h61 hm54
      refine R_iload_1 hC dX12_image_54 ?_
      refine R_bipush hC dX12_image_55 (by decide +kernel) ⟨by decide, by decide⟩ ?_
      refine R_icmp_ge hC dX12_image_57 (tgt := 81) (by decide) (fun hb57 => ?_) (fun hb57 => ?_)
      · skip
        refine R_iconst hC dX12_image_81 ⟨by decide, by decide⟩ ?_
        refine R_istore_1 hC dX12_image_82 rfl ?_
        have L83 : ∀ (mq : Nat) (k : Int) (M2 : Mem), (0 ≤ k) → (k ≤ 3) → (GR M2) → (Fr [58, 60, 61] [(57, 4), (57, 10), (57, 11), (57, 12), (57, 13)] M M2) → ((∀ j, j < 4788 → M2 58 j = M 58 j) ∧ (∀ j, 0 ≤ j → j < 114 → M2 58 (4788 + j) = M 58 j) ∧ (∀ j, 0 ≤ j → j < 4560 → M2 58 (4902 + j) = M 58 (228 + j))) → (M2 57 10 = M 57 7 ∧ M2 57 11 = M 57 8 ∧ M2 57 12 = M 57 9 ∧ M2 57 4 = 0) → ((∀ q, 0 ≤ q → q < 6 → M2 60 q = M 60 q) ∧ (∀ q, 0 ≤ q → q < 6 → M2 60 (6 + q) = M 60 q)) → ((∀ q, 0 ≤ q → q < 3 → M2 61 q = M 61 q) ∧ (∀ q, 0 ≤ q → q < k → M2 61 (3 + q) = M 61 q)) → (3 - k).toNat < mq → RZ G LY C (Zn G LY 82 C (RV (fun M' => Fr [58, 60, 61] [(57, 4), (57, 10), (57, 11), (57, 12), (57, 13)] M M' ∧ ((∀ j, j < 4788 → M' 58 j = M 58 j) ∧ (∀ j, 0 ≤ j → j < 114 → M' 58 (4788 + j) = M 58 j) ∧ (∀ j, 0 ≤ j → j < 4560 → M' 58 (4902 + j) = M 58 (228 + j))) ∧ (M' 57 10 = M 57 7 ∧ M' 57 11 = M 57 8 ∧ M' 57 12 = M 57 9 ∧ M' 57 4 = 0) ∧ M' 57 13 = 1 ∧ ((∀ q, 0 ≤ q → q < 6 → M' 60 q = M 60 q) ∧ (∀ q, 0 ≤ q → q < 6 → M' 60 (6 + q) = M 60 q)) ∧ ((∀ q, 0 ≤ q → q < 3 → M' 61 q = M 61 q) ∧ (∀ q, 0 ≤ q → q < 3 → M' 61 (3 + q) = M 61 q))))) 0 0 82 83 [some (vR 57), some (vI k)] [] M2 := by
          intro mq
          induction mq with
          | zero =>
            intro k M2 hk0 hk1 hg2 hF2 h82 h72 h602 h612 hm
            exact absurd hm (Nat.not_lt_zero _)
          | succ mq ih83 =>
            intro k M2 hk0 hk1 hg2 hF2 h82 h72 h602 h612 hm83
            refine R_iload_1 hC dX12_image_83 ?_
            refine R_iconst hC dX12_image_84 ⟨by decide, by decide⟩ ?_
            refine R_icmp_ge hC dX12_image_85 (tgt := 108) (by decide) (fun hb85 => ?_) (fun hb85 => ?_)
            · skip
              refine R_aload_0 hC dX12_image_108 ?_
              refine R_iconst hC dX12_image_109 ⟨by decide, by decide⟩ ?_
              refine R_putI hC dX12_image_110 fl_12_278 (by decide) rfl (by decide) (by decide) (fi := 13) rfl ?_
              exact R_return hC dX12_image_113 rfl (ret_V ⟨Fr.uB hF2 (by decide), ⟨fun j e => (uM_h (by decide)).trans (h82.1 j e), fun j a e => (uM_h (by decide)).trans (h82.2.1 j a e), fun j a e => (uM_h (by decide)).trans (h82.2.2 j a e)⟩, ⟨(uM_k (by decide)).trans h72.1, (uM_k (by decide)).trans h72.2.1, (uM_k (by decide)).trans h72.2.2.1, (uM_k (by decide)).trans h72.2.2.2⟩, uM_same, ⟨fun k a e => (uM_h (by decide)).trans (h602.1 k a e), fun k a e => (uM_h (by decide)).trans (h602.2 k a e)⟩, ⟨fun q a e => (uM_h (by decide)).trans (h612.1 q a e), fun q a e => (uM_h (by decide)).trans (h612.2 q a (by omega))⟩⟩)
            · skip
              refine R_aload_0 hC dX12_image_88 ?_
              refine R_getR hC dX12_image_89 fl_12_19 (by decide) rfl (by decide) (by decide) (fi := 3) rfl (r := 61) (gr_57_3 hg2) ?_
              refine R_iconst hC dX12_image_92 ⟨by decide, by decide⟩ ?_
              refine R_iload_1 hC dX12_image_93 ?_
              refine R_iadd hC dX12_image_94 ⟨by omega, by omega⟩ ?_
              refine R_aload_0 hC dX12_image_95 ?_
              refine R_getR hC dX12_image_96 fl_12_19 (by decide) rfl (by decide) (by decide) (fi := 3) rfl (r := 61) (gr_57_3 hg2) ?_
              refine R_iload_1 hC dX12_image_99 ?_
              refine R_iaload hC dX12_image_100 (by decide) rfl (by omega) (by omega) ?_
              refine R_iastore hC dX12_image_101 (by decide) rfl (by omega) (by omega) ?_
              refine R_iinc_1 hC dX12_image_102 rfl ⟨by omega, by omega⟩ ?_
              refine R_goto hC dX12_image_105 (tgt := 83) (by decide) ?_
              have hG8 : GR (uM M2 61 (3 + k) (M2 61 k)) := (GR.uA hg2 (by decide +kernel) (.inl (by decide)))
              exact ih83 _ _ (by omega) (by omega) hG8 (Fr.uA hF2 (by decide)) (⟨fun j e => (uM_h (by decide)).trans (h82.1 j e), fun j a e => (uM_h (by decide)).trans (h82.2.1 j a e), fun j a e => (uM_h (by decide)).trans (h82.2.2 j a e)⟩) (⟨(uM_h (by decide)).trans h72.1, (uM_h (by decide)).trans h72.2.1, (uM_h (by decide)).trans h72.2.2.1, (uM_h (by decide)).trans h72.2.2.2⟩) (⟨fun k a e => (uM_h (by decide)).trans (h602.1 k a e), fun k a e => (uM_h (by decide)).trans (h602.2 k a e)⟩) (⟨fun q a e => (uM_k (by omega)).trans (h612.1 q a e), fun q a e => by
                by_cases z : q = k
                · rw [z]; exact uM_same.trans (h612.1 k hk0 (by omega))
                · exact (uM_k (by omega)).trans (h612.2 q a (by omega))⟩) (by omega)
        exact L83 _ _ _ (by omega) (by omega) hg hF h8 h7 (⟨h60.1, fun k a e => h60.2 k a (by omega)⟩) h61 (Nat.lt_succ_self _)
      · skip
        refine R_aload_0 hC dX12_image_60 ?_
        refine R_getR hC dX12_image_61 fl_12_16 (by decide) rfl (by decide) (by decide) (fi := 2) rfl (r := 60) (gr_57_2 hg) ?_
        refine R_bipush hC dX12_image_64 (by decide +kernel) ⟨by decide, by decide⟩ ?_
        refine R_iload_1 hC dX12_image_66 ?_
        refine R_iadd hC dX12_image_67 ⟨by omega, by omega⟩ ?_
        refine R_aload_0 hC dX12_image_68 ?_
        refine R_getR hC dX12_image_69 fl_12_16 (by decide) rfl (by decide) (by decide) (fi := 2) rfl (r := 60) (gr_57_2 hg) ?_
        refine R_iload_1 hC dX12_image_72 ?_
        refine R_iaload hC dX12_image_73 (by decide) rfl (by omega) (by omega) ?_
        refine R_iastore hC dX12_image_74 (by decide) rfl (by omega) (by omega) ?_
        refine R_iinc_1 hC dX12_image_75 rfl ⟨by omega, by omega⟩ ?_
        refine R_goto hC dX12_image_78 (tgt := 54) (by decide) ?_
        have hG9 : GR (uM M1 60 (6 + i) (M1 60 i)) := (GR.uA hg (by decide +kernel) (.inl (by decide)))
        exact ih54 _ _ (by omega) (by omega) hG9 (Fr.uA hF (by decide)) (⟨fun j e => (uM_h (by decide)).trans (h8.1 j e), fun j a e => (uM_h (by decide)).trans (h8.2.1 j a e), fun j a e => (uM_h (by decide)).trans (h8.2.2 j a e)⟩) (⟨(uM_h (by decide)).trans h7.1, (uM_h (by decide)).trans h7.2.1, (uM_h (by decide)).trans h7.2.2.1, (uM_h (by decide)).trans h7.2.2.2⟩) (⟨fun k a e => (uM_k (by omega)).trans (h60.1 k a e), fun q a e => by
          by_cases z : q = i
          · rw [z]; exact uM_same.trans (h60.1 i hi0 (by omega))
          · exact (uM_k (by omega)).trans (h60.2 q a (by omega))⟩) (⟨fun k a e => (uM_h (by decide)).trans (h61.1 k a e), fun k a e => (uM_h (by decide)).trans (h61.2 k a e)⟩) (by omega)
  have hG10 : GR (uM (uM (uM Mc5 57 10 (Mc5 57 7)) 57 11 (Mc5 57 8)) 57 12 (Mc5 57 9)) := (GR.uF (GR.uF (GR.uF hG7 (by decide +kernel) (by decide)) (by decide +kernel) (by decide)) (by decide +kernel) (by decide))
  exact L54 _ _ _ (by omega) (by omega) hG10 (Fr.uB (Fr.uB (Fr.uB (hF0.mo (by simp) (by simp)) (by decide)) (by decide)) (by decide)) (⟨fun j e => ((uM_h (by decide)).trans ((uM_h (by decide)).trans (uM_h (by decide)))).trans (h58.1 j e), fun j a e => ((uM_h (by decide)).trans ((uM_h (by decide)).trans (uM_h (by decide)))).trans (h58.2.1 j a e), fun j a e => ((uM_h (by decide)).trans ((uM_h (by decide)).trans (uM_h (by decide)))).trans (h58.2.2 j a e)⟩) (⟨(uM_k (by decide)).trans ((uM_k (by decide)).trans (uM_same.trans (hF0 57 7 (by decide) (by decide)))), (uM_k (by decide)).trans (uM_same.trans (hF0 57 8 (by decide) (by decide))), uM_same.trans (hF0 57 9 (by decide) (by decide)), (uM_k (by decide)).trans ((uM_k (by decide)).trans ((uM_k (by decide)).trans (by
        rw [hq6, hq3]
        exact (if_neg (fun z => by cases z.1)).trans ((if_neg (fun z => by cases z.1)).trans uM_same))))⟩) (⟨fun k a e => ((uM_h (by decide)).trans ((uM_h (by decide)).trans (uM_h (by decide)))).trans (hF0 60 k (by decide) (by simp)), fun k a e => by omega⟩) (⟨fun k a e => ((uM_h (by decide)).trans ((uM_h (by decide)).trans (uM_h (by decide)))).trans (hF0 61 k (by decide) (by simp)), fun k a e => by omega⟩) (Nat.lt_succ_self _)
theorem dX12_restore_0 : decode cX12_restore 0 = .ok (.aload_n 0, 1) := by decide +kernel
theorem dX12_restore_1 : decode cX12_restore 1 = .ok (.iconst 0, 1) := by decide +kernel
theorem dX12_restore_2 : decode cX12_restore 2 = .ok (.putfield 84, 3) := by decide +kernel
theorem dX12_restore_5 : decode cX12_restore 5 = .ok (.aload_n 0, 1) := by decide +kernel
theorem dX12_restore_6 : decode cX12_restore 6 = .ok (.getfield 278, 3) := by decide +kernel
theorem dX12_restore_9 : decode cX12_restore 9 = .ok (.ifCond .ne 5, 3) := by decide +kernel
theorem dX12_restore_12 : decode cX12_restore 12 = .ok (.iconst 0, 1) := by decide +kernel
theorem dX12_restore_13 : decode cX12_restore 13 = .ok (.ireturn, 1) := by decide +kernel
theorem dX12_restore_14 : decode cX12_restore 14 = .ok (.aload_n 0, 1) := by decide +kernel
theorem dX12_restore_15 : decode cX12_restore 15 = .ok (.sipush 4788, 3) := by decide +kernel
theorem dX12_restore_18 : decode cX12_restore 18 = .ok (.iconst 0, 1) := by decide +kernel
theorem dX12_restore_19 : decode cX12_restore 19 = .ok (.bipush 114, 2) := by decide +kernel
theorem dX12_restore_21 : decode cX12_restore 21 = .ok (.invokevirtual 290, 3) := by decide +kernel
theorem dX12_restore_24 : decode cX12_restore 24 = .ok (.aload_n 0, 1) := by decide +kernel
theorem dX12_restore_25 : decode cX12_restore 25 = .ok (.sipush 4902, 3) := by decide +kernel
theorem dX12_restore_28 : decode cX12_restore 28 = .ok (.sipush 228, 3) := by decide +kernel
theorem dX12_restore_31 : decode cX12_restore 31 = .ok (.sipush 4560, 3) := by decide +kernel
theorem dX12_restore_34 : decode cX12_restore 34 = .ok (.invokevirtual 290, 3) := by decide +kernel
theorem dX12_restore_37 : decode cX12_restore 37 = .ok (.aload_n 0, 1) := by decide +kernel
theorem dX12_restore_38 : decode cX12_restore 38 = .ok (.aload_n 0, 1) := by decide +kernel
theorem dX12_restore_39 : decode cX12_restore 39 = .ok (.getfield 458, 3) := by decide +kernel
theorem dX12_restore_42 : decode cX12_restore 42 = .ok (.putfield 287, 3) := by decide +kernel
theorem dX12_restore_45 : decode cX12_restore 45 = .ok (.aload_n 0, 1) := by decide +kernel
theorem dX12_restore_46 : decode cX12_restore 46 = .ok (.aload_n 0, 1) := by decide +kernel
theorem dX12_restore_47 : decode cX12_restore 47 = .ok (.getfield 461, 3) := by decide +kernel
theorem dX12_restore_50 : decode cX12_restore 50 = .ok (.putfield 284, 3) := by decide +kernel
theorem dX12_restore_53 : decode cX12_restore 53 = .ok (.aload_n 0, 1) := by decide +kernel
theorem dX12_restore_54 : decode cX12_restore 54 = .ok (.aload_n 0, 1) := by decide +kernel
theorem dX12_restore_55 : decode cX12_restore 55 = .ok (.getfield 464, 3) := by decide +kernel
theorem dX12_restore_58 : decode cX12_restore 58 = .ok (.putfield 281, 3) := by decide +kernel
theorem dX12_restore_61 : decode cX12_restore 61 = .ok (.iconst 0, 1) := by decide +kernel
theorem dX12_restore_62 : decode cX12_restore 62 = .ok (.istore_n 1, 1) := by decide +kernel
theorem dX12_restore_63 : decode cX12_restore 63 = .ok (.iload_n 1, 1) := by decide +kernel
theorem dX12_restore_64 : decode cX12_restore 64 = .ok (.bipush 6, 2) := by decide +kernel
theorem dX12_restore_66 : decode cX12_restore 66 = .ok (.if_icmp .ge 24, 3) := by decide +kernel
theorem dX12_restore_69 : decode cX12_restore 69 = .ok (.aload_n 0, 1) := by decide +kernel
theorem dX12_restore_70 : decode cX12_restore 70 = .ok (.getfield 16, 3) := by decide +kernel
theorem dX12_restore_73 : decode cX12_restore 73 = .ok (.iload_n 1, 1) := by decide +kernel
theorem dX12_restore_74 : decode cX12_restore 74 = .ok (.aload_n 0, 1) := by decide +kernel
theorem dX12_restore_75 : decode cX12_restore 75 = .ok (.getfield 16, 3) := by decide +kernel
theorem dX12_restore_78 : decode cX12_restore 78 = .ok (.bipush 6, 2) := by decide +kernel
theorem dX12_restore_80 : decode cX12_restore 80 = .ok (.iload_n 1, 1) := by decide +kernel
theorem dX12_restore_81 : decode cX12_restore 81 = .ok (.iadd, 1) := by decide +kernel
theorem dX12_restore_82 : decode cX12_restore 82 = .ok (.iaload, 1) := by decide +kernel
theorem dX12_restore_83 : decode cX12_restore 83 = .ok (.iastore, 1) := by decide +kernel
theorem dX12_restore_84 : decode cX12_restore 84 = .ok (.iinc 1 1, 3) := by decide +kernel
theorem dX12_restore_87 : decode cX12_restore 87 = .ok (.goto (-24), 3) := by decide +kernel
theorem dX12_restore_90 : decode cX12_restore 90 = .ok (.iconst 0, 1) := by decide +kernel
theorem dX12_restore_91 : decode cX12_restore 91 = .ok (.istore_n 1, 1) := by decide +kernel
theorem dX12_restore_92 : decode cX12_restore 92 = .ok (.iload_n 1, 1) := by decide +kernel
theorem dX12_restore_93 : decode cX12_restore 93 = .ok (.iconst 3, 1) := by decide +kernel
theorem dX12_restore_94 : decode cX12_restore 94 = .ok (.if_icmp .ge 23, 3) := by decide +kernel
theorem dX12_restore_97 : decode cX12_restore 97 = .ok (.aload_n 0, 1) := by decide +kernel
theorem dX12_restore_98 : decode cX12_restore 98 = .ok (.getfield 19, 3) := by decide +kernel
theorem dX12_restore_101 : decode cX12_restore 101 = .ok (.iload_n 1, 1) := by decide +kernel
theorem dX12_restore_102 : decode cX12_restore 102 = .ok (.aload_n 0, 1) := by decide +kernel
theorem dX12_restore_103 : decode cX12_restore 103 = .ok (.getfield 19, 3) := by decide +kernel
theorem dX12_restore_106 : decode cX12_restore 106 = .ok (.iconst 3, 1) := by decide +kernel
theorem dX12_restore_107 : decode cX12_restore 107 = .ok (.iload_n 1, 1) := by decide +kernel
theorem dX12_restore_108 : decode cX12_restore 108 = .ok (.iadd, 1) := by decide +kernel
theorem dX12_restore_109 : decode cX12_restore 109 = .ok (.iaload, 1) := by decide +kernel
theorem dX12_restore_110 : decode cX12_restore 110 = .ok (.iastore, 1) := by decide +kernel
theorem dX12_restore_111 : decode cX12_restore 111 = .ok (.iinc 1 1, 3) := by decide +kernel
theorem dX12_restore_114 : decode cX12_restore 114 = .ok (.goto (-22), 3) := by decide +kernel
theorem dX12_restore_117 : decode cX12_restore 117 = .ok (.iconst 1, 1) := by decide +kernel
theorem dX12_restore_118 : decode cX12_restore 118 = .ok (.ireturn, 1) := by decide +kernel
set_option maxHeartbeats 1000000 in
theorem c12_restore {G : Gl} {l : Launch}  {M : Mem} (hG : GR M) : Ct G LY 82 l 1 m12_restore [vR 57] M (RP (fun v M' => (M 57 13 = 0 ∧ M' = uM M 57 4 0 ∧ v = 0) ∨ (M 57 13 ≠ 0 ∧ (Fr [58, 60, 61] [(57, 4), (57, 7), (57, 8), (57, 9)] M M' ∧ ((∀ j, 4788 ≤ j → M' 58 j = M 58 j) ∧ (∀ j, 0 ≤ j → j < 114 → M' 58 j = M 58 (4788 + j)) ∧ (∀ j, 0 ≤ j → j < 4560 → M' 58 (228 + j) = M 58 (4902 + j))) ∧ (M' 57 7 = M 57 10 ∧ M' 57 8 = M 57 11 ∧ M' 57 9 = M 57 12 ∧ M' 57 4 = 0) ∧ ((∀ q, 0 ≤ q → q < 6 → M' 60 (6 + q) = M 60 (6 + q)) ∧ (∀ q, 0 ≤ q → q < 6 → M' 60 q = M 60 (6 + q))) ∧ ((∀ q, 0 ≤ q → q < 3 → M' 61 (3 + q) = M 61 (3 + q)) ∧ (∀ q, 0 ≤ q → q < 3 → M' 61 q = M 61 (3 + q)))) ∧ v = 1))) := by
  refine R_start (by decide +kernel) (Nat.le_of_ble_eq_true rfl) (fun C hC hRm hlau => ?_)
  show RZ G LY C (Zn G LY 82 C (RP (fun v M' => (M 57 13 = 0 ∧ M' = uM M 57 4 0 ∧ v = 0) ∨ (M 57 13 ≠ 0 ∧ (Fr [58, 60, 61] [(57, 4), (57, 7), (57, 8), (57, 9)] M M' ∧ ((∀ j, 4788 ≤ j → M' 58 j = M 58 j) ∧ (∀ j, 0 ≤ j → j < 114 → M' 58 j = M 58 (4788 + j)) ∧ (∀ j, 0 ≤ j → j < 4560 → M' 58 (228 + j) = M 58 (4902 + j))) ∧ (M' 57 7 = M 57 10 ∧ M' 57 8 = M 57 11 ∧ M' 57 9 = M 57 12 ∧ M' 57 4 = 0) ∧ ((∀ q, 0 ≤ q → q < 6 → M' 60 (6 + q) = M 60 (6 + q)) ∧ (∀ q, 0 ≤ q → q < 6 → M' 60 q = M 60 (6 + q))) ∧ ((∀ q, 0 ≤ q → q < 3 → M' 61 (3 + q) = M 61 (3 + q)) ∧ (∀ q, 0 ≤ q → q < 3 → M' 61 q = M 61 (3 + q)))) ∧ v = 1)))) 0 0 82 0 [some (vR 57), none] [] M
  refine R_aload_0 hC dX12_restore_0 ?_
  refine R_iconst hC dX12_restore_1 ⟨by decide, by decide⟩ ?_
  refine R_putI hC dX12_restore_2 fl_12_84 (by decide) rfl (by decide) (by decide) (fi := 4) rfl ?_
  refine R_aload_0 hC dX12_restore_5 ?_
  refine R_getIE hC dX12_restore_6 fl_12_278 (by decide) rfl (by decide) (by decide) (fi := 13) rfl (uM_k (by decide)) ?_
  refine R_if_ne hC dX12_restore_9 (tgt := 14) (by decide) (fun hb9 => ?_) (fun hb9 => ?_)
  · skip
    refine R_aload_0 hC dX12_restore_14 ?_
    refine R_sipush hC dX12_restore_15 (by decide +kernel) ⟨by decide, by decide⟩ ?_
    refine R_iconst hC dX12_restore_18 ⟨by decide, by decide⟩ ?_
    refine R_bipush hC dX12_restore_19 (by decide +kernel) ⟨by decide, by decide⟩ ?_
    have hG1 : GR (uM M 57 4 0) := (GR.uF hG (by decide +kernel) (by decide))
    refine R_callVv (as := [vI _, vI _, vI _]) hC dX12_restore_21 mo_12_copies ml_12_290 (by decide) rfl rfl (c12_copies  hG1 (by omega) (by omega) (by omega) (by omega) (by omega) (by omega)) rfl rfl hRm (by decide) (by decide) (Nat.le_of_ble_eq_true rfl) (fun Mc2 hq3 => ?_)
    have hG4 : GR Mc2 := by (rw [hq3]; exact GR.cp hG1 (by decide +kernel) (.inl (by decide)))
    refine R_aload_0 hC dX12_restore_24 ?_
    refine R_sipush hC dX12_restore_25 (by decide +kernel) ⟨by decide, by decide⟩ ?_
    refine R_sipush hC dX12_restore_28 (by decide +kernel) ⟨by decide, by decide⟩ ?_
    refine R_sipush hC dX12_restore_31 (by decide +kernel) ⟨by decide, by decide⟩ ?_
    refine R_callVv (as := [vI _, vI _, vI _]) hC dX12_restore_34 mo_12_copies ml_12_290 (by decide) rfl rfl (c12_copies  hG4 (by omega) (by omega) (by omega) (by omega) (by omega) (by omega)) rfl rfl hRm (by decide) (by decide) (Nat.le_of_ble_eq_true rfl) (fun Mc5 hq6 => ?_)
    have hG7 : GR Mc5 := by (rw [hq6]; exact GR.cp hG4 (by decide +kernel) (.inl (by decide)))
    have hF0 : Fr [58] [(57, 4)] M Mc5 := fun a j p q => by
      rw [hq6, hq3]
      refine (if_neg (fun z => p (by rw [z.1]; simp))).trans ((if_neg (fun z => p (by rw [z.1]; simp))).trans (if_neg (fun z => q (by rw [z.1, z.2]; simp))))
    have h58 : (∀ j, 4788 ≤ j → Mc5 58 j = M 58 j) ∧ (∀ j, 0 ≤ j → j < 114 → Mc5 58 j = M 58 (4788 + j)) ∧ (∀ j, 0 ≤ j → j < 4560 → Mc5 58 (228 + j) = M 58 (4902 + j)) := by
      rw [hq6, hq3]
      refine ⟨fun j e => (if_neg (fun z => by omega)).trans ((if_neg (fun z => by omega)).trans (uM_h (by decide))), fun j a e => (if_neg (fun z => by omega)).trans ((if_pos ⟨rfl, by omega, by omega⟩).trans ((congrArg _ (by omega)).trans (uM_h (by decide)))), fun j a e => (if_pos ⟨rfl, by omega, by omega⟩).trans ((if_neg (fun z => by omega)).trans ((congrArg _ (by omega)).trans (uM_h (by decide))))⟩
    refine R_aload_0 hC dX12_restore_37 ?_
    refine R_aload_0 hC dX12_restore_38 ?_
    refine R_getI hC dX12_restore_39 fl_12_458 (by decide) rfl (by decide) (by decide) (fi := 10) rfl ?_
    refine R_putI hC dX12_restore_42 fl_12_287 (by decide) rfl (by decide) (by decide) (fi := 7) rfl ?_
    refine R_aload_0 hC dX12_restore_45 ?_
    refine R_aload_0 hC dX12_restore_46 ?_
    refine R_getIE hC dX12_restore_47 fl_12_461 (by decide) rfl (by decide) (by decide) (fi := 11) rfl (uM_k (by decide)) ?_
    refine R_putI hC dX12_restore_50 fl_12_284 (by decide) rfl (by decide) (by decide) (fi := 8) rfl ?_
    refine R_aload_0 hC dX12_restore_53 ?_
    refine R_aload_0 hC dX12_restore_54 ?_
    refine R_getIE hC dX12_restore_55 fl_12_464 (by decide) rfl (by decide) (by decide) (fi := 12) rfl ((uM_k (by decide)).trans (uM_k (by decide))) ?_
    refine R_putI hC dX12_restore_58 fl_12_281 (by decide) rfl (by decide) (by decide) (fi := 9) rfl ?_
    refine R_iconst hC dX12_restore_61 ⟨by decide, by decide⟩ ?_
    refine R_istore_1 hC dX12_restore_62 rfl ?_
    have L63 : ∀ (mq : Nat) (i : Int) (M1 : Mem), (0 ≤ i) → (i ≤ 6) → (GR M1) → (Fr [58, 60, 61] [(57, 4), (57, 7), (57, 8), (57, 9)] M M1) → ((∀ j, 4788 ≤ j → M1 58 j = M 58 j) ∧ (∀ j, 0 ≤ j → j < 114 → M1 58 j = M 58 (4788 + j)) ∧ (∀ j, 0 ≤ j → j < 4560 → M1 58 (228 + j) = M 58 (4902 + j))) → (M1 57 7 = M 57 10 ∧ M1 57 8 = M 57 11 ∧ M1 57 9 = M 57 12 ∧ M1 57 4 = 0) → ((∀ q, 0 ≤ q → q < 6 → M1 60 (6 + q) = M 60 (6 + q)) ∧ (∀ q, 0 ≤ q → q < i → M1 60 q = M 60 (6 + q))) → ((∀ q, 0 ≤ q → q < 3 → M1 61 (3 + q) = M 61 (3 + q)) ∧ (∀ q, 0 ≤ q → q < 0 → M1 61 q = M 61 (3 + q))) → (6 - i).toNat < mq → RZ G LY C (Zn G LY 82 C (RP (fun v M' => (M 57 13 = 0 ∧ M' = uM M 57 4 0 ∧ v = 0) ∨ (M 57 13 ≠ 0 ∧ (Fr [58, 60, 61] [(57, 4), (57, 7), (57, 8), (57, 9)] M M' ∧ ((∀ j, 4788 ≤ j → M' 58 j = M 58 j) ∧ (∀ j, 0 ≤ j → j < 114 → M' 58 j = M 58 (4788 + j)) ∧ (∀ j, 0 ≤ j → j < 4560 → M' 58 (228 + j) = M 58 (4902 + j))) ∧ (M' 57 7 = M 57 10 ∧ M' 57 8 = M 57 11 ∧ M' 57 9 = M 57 12 ∧ M' 57 4 = 0) ∧ ((∀ q, 0 ≤ q → q < 6 → M' 60 (6 + q) = M 60 (6 + q)) ∧ (∀ q, 0 ≤ q → q < 6 → M' 60 q = M 60 (6 + q))) ∧ ((∀ q, 0 ≤ q → q < 3 → M' 61 (3 + q) = M 61 (3 + q)) ∧ (∀ q, 0 ≤ q → q < 3 → M' 61 q = M 61 (3 + q)))) ∧ v = 1)))) 0 0 82 63 [some (vR 57), some (vI i)] [] M1 := by
      intro mq
      induction mq with
      | zero =>
        intro i M1 hi0 hi1 hg hF h8 h7 h60 h61 hm
        exact absurd hm (Nat.not_lt_zero _)
      | succ mq ih63 =>
        intro i M1 hi0 hi1 hg hF h8 h7 h60 h61 hm63
        refine R_iload_1 hC dX12_restore_63 ?_
        refine R_bipush hC dX12_restore_64 (by decide +kernel) ⟨by decide, by decide⟩ ?_
        refine R_icmp_ge hC dX12_restore_66 (tgt := 90) (by decide) (fun hb66 => ?_) (fun hb66 => ?_)
        · skip
          refine R_iconst hC dX12_restore_90 ⟨by decide, by decide⟩ ?_
          refine R_istore_1 hC dX12_restore_91 rfl ?_
          have L92 : ∀ (mq : Nat) (k : Int) (M2 : Mem), (0 ≤ k) → (k ≤ 3) → (GR M2) → (Fr [58, 60, 61] [(57, 4), (57, 7), (57, 8), (57, 9)] M M2) → ((∀ j, 4788 ≤ j → M2 58 j = M 58 j) ∧ (∀ j, 0 ≤ j → j < 114 → M2 58 j = M 58 (4788 + j)) ∧ (∀ j, 0 ≤ j → j < 4560 → M2 58 (228 + j) = M 58 (4902 + j))) → (M2 57 7 = M 57 10 ∧ M2 57 8 = M 57 11 ∧ M2 57 9 = M 57 12 ∧ M2 57 4 = 0) → ((∀ q, 0 ≤ q → q < 6 → M2 60 (6 + q) = M 60 (6 + q)) ∧ (∀ q, 0 ≤ q → q < 6 → M2 60 q = M 60 (6 + q))) → ((∀ q, 0 ≤ q → q < 3 → M2 61 (3 + q) = M 61 (3 + q)) ∧ (∀ q, 0 ≤ q → q < k → M2 61 q = M 61 (3 + q))) → (3 - k).toNat < mq → RZ G LY C (Zn G LY 82 C (RP (fun v M' => (M 57 13 = 0 ∧ M' = uM M 57 4 0 ∧ v = 0) ∨ (M 57 13 ≠ 0 ∧ (Fr [58, 60, 61] [(57, 4), (57, 7), (57, 8), (57, 9)] M M' ∧ ((∀ j, 4788 ≤ j → M' 58 j = M 58 j) ∧ (∀ j, 0 ≤ j → j < 114 → M' 58 j = M 58 (4788 + j)) ∧ (∀ j, 0 ≤ j → j < 4560 → M' 58 (228 + j) = M 58 (4902 + j))) ∧ (M' 57 7 = M 57 10 ∧ M' 57 8 = M 57 11 ∧ M' 57 9 = M 57 12 ∧ M' 57 4 = 0) ∧ ((∀ q, 0 ≤ q → q < 6 → M' 60 (6 + q) = M 60 (6 + q)) ∧ (∀ q, 0 ≤ q → q < 6 → M' 60 q = M 60 (6 + q))) ∧ ((∀ q, 0 ≤ q → q < 3 → M' 61 (3 + q) = M 61 (3 + q)) ∧ (∀ q, 0 ≤ q → q < 3 → M' 61 q = M 61 (3 + q)))) ∧ v = 1)))) 0 0 82 92 [some (vR 57), some (vI k)] [] M2 := by
            intro mq
            induction mq with
            | zero =>
              intro k M2 hk0 hk1 hg2 hF2 h82 h72 h602 h612 hm
              exact absurd hm (Nat.not_lt_zero _)
            | succ mq ih92 =>
              intro k M2 hk0 hk1 hg2 hF2 h82 h72 h602 h612 hm92
              refine R_iload_1 hC dX12_restore_92 ?_
              refine R_iconst hC dX12_restore_93 ⟨by decide, by decide⟩ ?_
              refine R_icmp_ge hC dX12_restore_94 (tgt := 117) (by decide) (fun hb94 => ?_) (fun hb94 => ?_)
              · skip
                refine R_iconst hC dX12_restore_117 ⟨by decide, by decide⟩ ?_
                exact R_zreturn hC dX12_restore_118 rfl (.inr rfl) (ret_P (.inr ⟨hb9, ⟨hF2, h82, h72, h602, h612.1, fun q a e => h612.2 q a (by omega)⟩, rfl⟩))
              · skip
                refine R_aload_0 hC dX12_restore_97 ?_
                refine R_getR hC dX12_restore_98 fl_12_19 (by decide) rfl (by decide) (by decide) (fi := 3) rfl (r := 61) (gr_57_3 hg2) ?_
                refine R_iload_1 hC dX12_restore_101 ?_
                refine R_aload_0 hC dX12_restore_102 ?_
                refine R_getR hC dX12_restore_103 fl_12_19 (by decide) rfl (by decide) (by decide) (fi := 3) rfl (r := 61) (gr_57_3 hg2) ?_
                refine R_iconst hC dX12_restore_106 ⟨by decide, by decide⟩ ?_
                refine R_iload_1 hC dX12_restore_107 ?_
                refine R_iadd hC dX12_restore_108 ⟨by omega, by omega⟩ ?_
                refine R_iaload hC dX12_restore_109 (by decide) rfl (by omega) (by omega) ?_
                refine R_iastore hC dX12_restore_110 (by decide) rfl (by omega) (by omega) ?_
                refine R_iinc_1 hC dX12_restore_111 rfl ⟨by omega, by omega⟩ ?_
                refine R_goto hC dX12_restore_114 (tgt := 92) (by decide) ?_
                have hG8 : GR (uM M2 61 k (M2 61 (3 + k))) := (GR.uA hg2 (by decide +kernel) (.inl (by decide)))
                exact ih92 _ _ (by omega) (by omega) hG8 (Fr.uA hF2 (by decide)) (⟨fun j e => (uM_h (by decide)).trans (h82.1 j e), fun j a e => (uM_h (by decide)).trans (h82.2.1 j a e), fun j a e => (uM_h (by decide)).trans (h82.2.2 j a e)⟩) (⟨(uM_h (by decide)).trans h72.1, (uM_h (by decide)).trans h72.2.1, (uM_h (by decide)).trans h72.2.2.1, (uM_h (by decide)).trans h72.2.2.2⟩) (⟨fun k a e => (uM_h (by decide)).trans (h602.1 k a e), fun k a e => (uM_h (by decide)).trans (h602.2 k a e)⟩) (⟨fun q a e => (uM_k (by omega)).trans (h612.1 q a e), fun q a e => by
                  by_cases z : q = k
                  · rw [z]; exact uM_same.trans (h612.1 k hk0 (by omega))
                  · exact (uM_k (by omega)).trans (h612.2 q a (by omega))⟩) (by omega)
          exact L92 _ _ _ (by omega) (by omega) hg hF h8 h7 (⟨h60.1, fun k a e => h60.2 k a (by omega)⟩) h61 (Nat.lt_succ_self _)
        · skip
          refine R_aload_0 hC dX12_restore_69 ?_
          refine R_getR hC dX12_restore_70 fl_12_16 (by decide) rfl (by decide) (by decide) (fi := 2) rfl (r := 60) (gr_57_2 hg) ?_
          refine R_iload_1 hC dX12_restore_73 ?_
          refine R_aload_0 hC dX12_restore_74 ?_
          refine R_getR hC dX12_restore_75 fl_12_16 (by decide) rfl (by decide) (by decide) (fi := 2) rfl (r := 60) (gr_57_2 hg) ?_
          refine R_bipush hC dX12_restore_78 (by decide +kernel) ⟨by decide, by decide⟩ ?_
          refine R_iload_1 hC dX12_restore_80 ?_
          refine R_iadd hC dX12_restore_81 ⟨by omega, by omega⟩ ?_
          refine R_iaload hC dX12_restore_82 (by decide) rfl (by omega) (by omega) ?_
          refine R_iastore hC dX12_restore_83 (by decide) rfl (by omega) (by omega) ?_
          refine R_iinc_1 hC dX12_restore_84 rfl ⟨by omega, by omega⟩ ?_
          refine R_goto hC dX12_restore_87 (tgt := 63) (by decide) ?_
          have hG9 : GR (uM M1 60 i (M1 60 (6 + i))) := (GR.uA hg (by decide +kernel) (.inl (by decide)))
          exact ih63 _ _ (by omega) (by omega) hG9 (Fr.uA hF (by decide)) (⟨fun j e => (uM_h (by decide)).trans (h8.1 j e), fun j a e => (uM_h (by decide)).trans (h8.2.1 j a e), fun j a e => (uM_h (by decide)).trans (h8.2.2 j a e)⟩) (⟨(uM_h (by decide)).trans h7.1, (uM_h (by decide)).trans h7.2.1, (uM_h (by decide)).trans h7.2.2.1, (uM_h (by decide)).trans h7.2.2.2⟩) (⟨fun k a e => (uM_k (by omega)).trans (h60.1 k a e), fun q a e => by
            by_cases z : q = i
            · rw [z]; exact uM_same.trans (h60.1 i hi0 (by omega))
            · exact (uM_k (by omega)).trans (h60.2 q a (by omega))⟩) (⟨fun k a e => (uM_h (by decide)).trans (h61.1 k a e), fun k a e => (uM_h (by decide)).trans (h61.2 k a e)⟩) (by omega)
    have hG10 : GR (uM (uM (uM Mc5 57 7 (Mc5 57 10)) 57 8 (Mc5 57 11)) 57 9 (Mc5 57 12)) := (GR.uF (GR.uF (GR.uF hG7 (by decide +kernel) (by decide)) (by decide +kernel) (by decide)) (by decide +kernel) (by decide))
    exact L63 _ _ _ (by omega) (by omega) hG10 (Fr.uB (Fr.uB (Fr.uB (hF0.mo (by simp) (by simp)) (by decide)) (by decide)) (by decide)) (⟨fun j e => ((uM_h (by decide)).trans ((uM_h (by decide)).trans (uM_h (by decide)))).trans (h58.1 j e), fun j a e => ((uM_h (by decide)).trans ((uM_h (by decide)).trans (uM_h (by decide)))).trans (h58.2.1 j a e), fun j a e => ((uM_h (by decide)).trans ((uM_h (by decide)).trans (uM_h (by decide)))).trans (h58.2.2 j a e)⟩) (⟨(uM_k (by decide)).trans ((uM_k (by decide)).trans (uM_same.trans (hF0 57 10 (by decide) (by decide)))), (uM_k (by decide)).trans (uM_same.trans (hF0 57 11 (by decide) (by decide))), uM_same.trans (hF0 57 12 (by decide) (by decide)), (uM_k (by decide)).trans ((uM_k (by decide)).trans ((uM_k (by decide)).trans (by
          rw [hq6, hq3]
          exact (if_neg (fun z => by cases z.1)).trans ((if_neg (fun z => by cases z.1)).trans uM_same))))⟩) (⟨fun k a e => ((uM_h (by decide)).trans ((uM_h (by decide)).trans (uM_h (by decide)))).trans (hF0 60 _ (by decide) (by simp)), fun k a e => by omega⟩) (⟨fun k a e => ((uM_h (by decide)).trans ((uM_h (by decide)).trans (uM_h (by decide)))).trans (hF0 61 _ (by decide) (by simp)), fun k a e => by omega⟩) (Nat.lt_succ_self _)
  · skip
    refine R_iconst hC dX12_restore_12 ⟨by decide, by decide⟩ ?_
    exact R_zreturn hC dX12_restore_13 rfl (.inl rfl) (ret_P (.inl ⟨hb9, rfl, rfl⟩))
theorem dX12_feed_0 : decode cX12_feed 0 = .ok (.aload_n 0, 1) := by decide +kernel
theorem dX12_feed_1 : decode cX12_feed 1 = .ok (.iconst 0, 1) := by decide +kernel
theorem dX12_feed_2 : decode cX12_feed 2 = .ok (.putfield 84, 3) := by decide +kernel
theorem dX12_feed_5 : decode cX12_feed 5 = .ok (.aload_n 0, 1) := by decide +kernel
theorem dX12_feed_6 : decode cX12_feed 6 = .ok (.getfield 266, 3) := by decide +kernel
theorem dX12_feed_9 : decode cX12_feed 9 = .ok (.bipush 20, 2) := by decide +kernel
theorem dX12_feed_11 : decode cX12_feed 11 = .ok (.iadd, 1) := by decide +kernel
theorem dX12_feed_12 : decode cX12_feed 12 = .ok (.sipush 700, 3) := by decide +kernel
theorem dX12_feed_15 : decode cX12_feed 15 = .ok (.if_icmp .le 5, 3) := by decide +kernel
theorem dX12_feed_18 : decode cX12_feed 18 = .ok (.iconst (-1), 1) := by decide +kernel
theorem dX12_feed_19 : decode cX12_feed 19 = .ok (.ireturn, 1) := by decide +kernel
theorem dX12_feed_20 : decode cX12_feed 20 = .ok (.iconst 0, 1) := by decide +kernel
theorem dX12_feed_21 : decode cX12_feed 21 = .ok (.istore 6, 2) := by decide +kernel
theorem dX12_feed_23 : decode cX12_feed 23 = .ok (.iload 6, 2) := by decide +kernel
theorem dX12_feed_25 : decode cX12_feed 25 = .ok (.bipush 20, 2) := by decide +kernel
theorem dX12_feed_27 : decode cX12_feed 27 = .ok (.if_icmp .ge 86, 3) := by decide +kernel
theorem dX12_feed_30 : decode cX12_feed 30 = .ok (.iload 6, 2) := by decide +kernel
theorem dX12_feed_32 : decode cX12_feed 32 = .ok (.iconst 4, 1) := by decide +kernel
theorem dX12_feed_33 : decode cX12_feed 33 = .ok (.if_icmp .ge 7, 3) := by decide +kernel
theorem dX12_feed_36 : decode cX12_feed 36 = .ok (.iload_n 1, 1) := by decide +kernel
theorem dX12_feed_37 : decode cX12_feed 37 = .ok (.goto 39, 3) := by decide +kernel
theorem dX12_feed_40 : decode cX12_feed 40 = .ok (.iload 6, 2) := by decide +kernel
theorem dX12_feed_42 : decode cX12_feed 42 = .ok (.bipush 8, 2) := by decide +kernel
theorem dX12_feed_44 : decode cX12_feed 44 = .ok (.if_icmp .ge 7, 3) := by decide +kernel
theorem dX12_feed_47 : decode cX12_feed 47 = .ok (.iload_n 2, 1) := by decide +kernel
theorem dX12_feed_48 : decode cX12_feed 48 = .ok (.goto 28, 3) := by decide +kernel
theorem dX12_feed_51 : decode cX12_feed 51 = .ok (.iload 6, 2) := by decide +kernel
theorem dX12_feed_53 : decode cX12_feed 53 = .ok (.bipush 12, 2) := by decide +kernel
theorem dX12_feed_55 : decode cX12_feed 55 = .ok (.if_icmp .ge 7, 3) := by decide +kernel
theorem dX12_feed_58 : decode cX12_feed 58 = .ok (.iload_n 3, 1) := by decide +kernel
theorem dX12_feed_59 : decode cX12_feed 59 = .ok (.goto 17, 3) := by decide +kernel
theorem dX12_feed_62 : decode cX12_feed 62 = .ok (.iload 6, 2) := by decide +kernel
theorem dX12_feed_64 : decode cX12_feed 64 = .ok (.bipush 16, 2) := by decide +kernel
theorem dX12_feed_66 : decode cX12_feed 66 = .ok (.if_icmp .ge 8, 3) := by decide +kernel
theorem dX12_feed_69 : decode cX12_feed 69 = .ok (.iload 4, 2) := by decide +kernel
theorem dX12_feed_71 : decode cX12_feed 71 = .ok (.goto 5, 3) := by decide +kernel
theorem dX12_feed_74 : decode cX12_feed 74 = .ok (.iload 5, 2) := by decide +kernel
theorem dX12_feed_76 : decode cX12_feed 76 = .ok (.istore 7, 2) := by decide +kernel
theorem dX12_feed_78 : decode cX12_feed 78 = .ok (.aload_n 0, 1) := by decide +kernel
theorem dX12_feed_79 : decode cX12_feed 79 = .ok (.getfield 22, 3) := by decide +kernel
theorem dX12_feed_82 : decode cX12_feed 82 = .ok (.aload_n 0, 1) := by decide +kernel
theorem dX12_feed_83 : decode cX12_feed 83 = .ok (.getfield 266, 3) := by decide +kernel
theorem dX12_feed_86 : decode cX12_feed 86 = .ok (.iload 6, 2) := by decide +kernel
theorem dX12_feed_88 : decode cX12_feed 88 = .ok (.iadd, 1) := by decide +kernel
theorem dX12_feed_89 : decode cX12_feed 89 = .ok (.iload 7, 2) := by decide +kernel
theorem dX12_feed_91 : decode cX12_feed 91 = .ok (.bipush 24, 2) := by decide +kernel
theorem dX12_feed_93 : decode cX12_feed 93 = .ok (.bipush 8, 2) := by decide +kernel
theorem dX12_feed_95 : decode cX12_feed 95 = .ok (.iload 6, 2) := by decide +kernel
theorem dX12_feed_97 : decode cX12_feed 97 = .ok (.iconst 4, 1) := by decide +kernel
theorem dX12_feed_98 : decode cX12_feed 98 = .ok (.irem, 1) := by decide +kernel
theorem dX12_feed_99 : decode cX12_feed 99 = .ok (.imul, 1) := by decide +kernel
theorem dX12_feed_100 : decode cX12_feed 100 = .ok (.isub, 1) := by decide +kernel
theorem dX12_feed_101 : decode cX12_feed 101 = .ok (.ishr, 1) := by decide +kernel
theorem dX12_feed_102 : decode cX12_feed 102 = .ok (.sipush 255, 3) := by decide +kernel
theorem dX12_feed_105 : decode cX12_feed 105 = .ok (.iand, 1) := by decide +kernel
theorem dX12_feed_106 : decode cX12_feed 106 = .ok (.iastore, 1) := by decide +kernel
theorem dX12_feed_107 : decode cX12_feed 107 = .ok (.iinc 6 1, 3) := by decide +kernel
theorem dX12_feed_110 : decode cX12_feed 110 = .ok (.goto (-87), 3) := by decide +kernel
theorem dX12_feed_113 : decode cX12_feed 113 = .ok (.aload_n 0, 1) := by decide +kernel
theorem dX12_feed_114 : decode cX12_feed 114 = .ok (.dup, 1) := by decide +kernel
theorem dX12_feed_115 : decode cX12_feed 115 = .ok (.getfield 266, 3) := by decide +kernel
theorem dX12_feed_118 : decode cX12_feed 118 = .ok (.bipush 20, 2) := by decide +kernel
theorem dX12_feed_120 : decode cX12_feed 120 = .ok (.iadd, 1) := by decide +kernel
theorem dX12_feed_121 : decode cX12_feed 121 = .ok (.putfield 266, 3) := by decide +kernel
theorem dX12_feed_124 : decode cX12_feed 124 = .ok (.aload_n 0, 1) := by decide +kernel
theorem dX12_feed_125 : decode cX12_feed 125 = .ok (.getfield 266, 3) := by decide +kernel
theorem dX12_feed_128 : decode cX12_feed 128 = .ok (.ireturn, 1) := by decide +kernel
set_option maxHeartbeats 1000000 in
theorem c12_feed {G : Gl} {l : Launch}  {M : Mem} {a b c d e t : Int} (hG : GR M) (ht : M 57 16 = t) (ht0 : 0 ≤ t) (ht1 : t ≤ 700) : Ct G LY 82 l 0 m12_feed [vR 57, vI a, vI b, vI c, vI d, vI e] M (RP (fun v M' => (680 < t ∧ M' = uM M 57 4 0 ∧ v = -1) ∨ (t ≤ 680 ∧ (Fr [62] [(57, 4), (57, 16)] M M' ∧ M' 57 4 = 0 ∧ M' 57 16 = t + 20 ∧ (∀ j, 0 ≤ j → j < 20 → M' 62 (t + j) = ((if j < 4 then a else if j < 8 then b else if j < 12 then c else if j < 16 then d else e) / 2 ^ (24 - 8 * (j % 4)).toNat % 2 ^ 8)) ∧ (∀ j, (j < t ∨ t + 20 ≤ j) → M' 62 j = M 62 j)) ∧ v = t + 20))) := by
  refine R_start (by decide +kernel) (Nat.le_of_ble_eq_true rfl) (fun C hC hRm hlau => ?_)
  show RZ G LY C (Zn G LY 82 C (RP (fun v M' => (680 < t ∧ M' = uM M 57 4 0 ∧ v = -1) ∨ (t ≤ 680 ∧ (Fr [62] [(57, 4), (57, 16)] M M' ∧ M' 57 4 = 0 ∧ M' 57 16 = t + 20 ∧ (∀ j, 0 ≤ j → j < 20 → M' 62 (t + j) = ((if j < 4 then a else if j < 8 then b else if j < 12 then c else if j < 16 then d else e) / 2 ^ (24 - 8 * (j % 4)).toNat % 2 ^ 8)) ∧ (∀ j, (j < t ∨ t + 20 ≤ j) → M' 62 j = M 62 j)) ∧ v = t + 20)))) 0 0 82 0 [some (vR 57), some (vI a), some (vI b), some (vI c), some (vI d), some (vI e), none, none] [] M
  refine R_aload_0 hC dX12_feed_0 ?_
  refine R_iconst hC dX12_feed_1 ⟨by decide, by decide⟩ ?_
  refine R_putI hC dX12_feed_2 fl_12_84 (by decide) rfl (by decide) (by decide) (fi := 4) rfl ?_
  refine R_aload_0 hC dX12_feed_5 ?_
  refine R_getIE hC dX12_feed_6 fl_12_266 (by decide) rfl (by decide) (by decide) (fi := 16) rfl ((uM_k (by decide)).trans ht) ?_
  refine R_bipush hC dX12_feed_9 (by decide +kernel) ⟨by decide, by decide⟩ ?_
  refine R_iadd hC dX12_feed_11 ⟨by omega, by omega⟩ ?_
  refine R_sipush hC dX12_feed_12 (by decide +kernel) ⟨by decide, by decide⟩ ?_
  refine R_icmp_le hC dX12_feed_15 (tgt := 20) (by decide) (fun hb15 => ?_) (fun hb15 => ?_)
  · skip
    refine R_iconst hC dX12_feed_20 ⟨by decide, by decide⟩ ?_
    refine R_istore_6 hC dX12_feed_21 rfl ?_
    have L23 : ∀ (mq : Nat) (k : Int) (M1 : Mem), (0 ≤ k) → (k ≤ 20) → (GR M1) → (Fr [62] [(57, 4)] M M1) → (M1 57 4 = 0) → ((∀ j, 0 ≤ j → j < k → M1 62 (t + j) = ((if j < 4 then a else if j < 8 then b else if j < 12 then c else if j < 16 then d else e) / 2 ^ (24 - 8 * (j % 4)).toNat % 2 ^ 8)) ∧ (∀ j, (j < t ∨ t + 20 ≤ j) → M1 62 j = M 62 j)) → (20 - k).toNat < mq → RZ G LY C (Zn G LY 82 C (RP (fun v M' => (680 < t ∧ M' = uM M 57 4 0 ∧ v = -1) ∨ (t ≤ 680 ∧ (Fr [62] [(57, 4), (57, 16)] M M' ∧ M' 57 4 = 0 ∧ M' 57 16 = t + 20 ∧ (∀ j, 0 ≤ j → j < 20 → M' 62 (t + j) = ((if j < 4 then a else if j < 8 then b else if j < 12 then c else if j < 16 then d else e) / 2 ^ (24 - 8 * (j % 4)).toNat % 2 ^ 8)) ∧ (∀ j, (j < t ∨ t + 20 ≤ j) → M' 62 j = M 62 j)) ∧ v = t + 20)))) 0 0 82 23 [some (vR 57), some (vI a), some (vI b), some (vI c), some (vI d), some (vI e), some (vI k), none] [] M1 := by
      intro mq
      induction mq with
      | zero =>
        intro k M1 hk0 hk1 hg hF h4 hT hm
        exact absurd hm (Nat.not_lt_zero _)
      | succ mq ih23 =>
        intro k M1 hk0 hk1 hg hF h4 hT hm23
        refine R_iload_6 hC dX12_feed_23 ?_
        refine R_bipush hC dX12_feed_25 (by decide +kernel) ⟨by decide, by decide⟩ ?_
        refine R_icmp_ge hC dX12_feed_27 (tgt := 113) (by decide) (fun hb27 => ?_) (fun hb27 => ?_)
        · skip
          refine R_aload_0 hC dX12_feed_113 ?_
          refine R_dup hC dX12_feed_114 rfl ?_
          refine R_getIE hC dX12_feed_115 fl_12_266 (by decide) rfl (by decide) (by decide) (fi := 16) rfl ((hF 57 16 (by decide) (by decide)).trans ht) ?_
          refine R_bipush hC dX12_feed_118 (by decide +kernel) ⟨by decide, by decide⟩ ?_
          refine R_iadd hC dX12_feed_120 ⟨by omega, by omega⟩ ?_
          refine R_putI hC dX12_feed_121 fl_12_266 (by decide) rfl (by decide) (by decide) (fi := 16) rfl ?_
          refine R_aload_0 hC dX12_feed_124 ?_
          refine R_getIE hC dX12_feed_125 fl_12_266 (by decide) rfl (by decide) (by decide) (fi := 16) rfl uM_same ?_
          exact R_ireturn hC dX12_feed_128 rfl (ret_P (.inr ⟨by omega, ⟨Fr.uB (hF.mo (by simp) (by simp)) (by decide), (uM_k (by decide)).trans h4, uM_same, fun j p q => (uM_h (by decide)).trans (hT.1 j p (by omega)), fun j p => (uM_h (by decide)).trans (hT.2 j p)⟩, rfl⟩))
        · skip
          refine R_iload_6 hC dX12_feed_30 ?_
          refine R_iconst hC dX12_feed_32 ⟨by decide, by decide⟩ ?_
          refine R_icmp_ge hC dX12_feed_33 (tgt := 40) (by decide) (fun hb33 => ?_) (fun hb33 => ?_)
          · skip
            refine R_iload_6 hC dX12_feed_40 ?_
            refine R_bipush hC dX12_feed_42 (by decide +kernel) ⟨by decide, by decide⟩ ?_
            refine R_icmp_ge hC dX12_feed_44 (tgt := 51) (by decide) (fun hb44 => ?_) (fun hb44 => ?_)
            · skip
              refine R_iload_6 hC dX12_feed_51 ?_
              refine R_bipush hC dX12_feed_53 (by decide +kernel) ⟨by decide, by decide⟩ ?_
              refine R_icmp_ge hC dX12_feed_55 (tgt := 62) (by decide) (fun hb55 => ?_) (fun hb55 => ?_)
              · skip
                refine R_iload_6 hC dX12_feed_62 ?_
                refine R_bipush hC dX12_feed_64 (by decide +kernel) ⟨by decide, by decide⟩ ?_
                refine R_icmp_ge hC dX12_feed_66 (tgt := 74) (by decide) (fun hb66 => ?_) (fun hb66 => ?_)
                · skip
                  refine R_iload_5 hC dX12_feed_74 ?_
                  refine R_istore_7 hC dX12_feed_76 rfl ?_
                  refine R_aload_0 hC dX12_feed_78 ?_
                  refine R_getR hC dX12_feed_79 fl_12_22 (by decide) rfl (by decide) (by decide) (fi := 15) rfl (r := 62) (gr_57_15 hg) ?_
                  refine R_aload_0 hC dX12_feed_82 ?_
                  refine R_getIE hC dX12_feed_83 fl_12_266 (by decide) rfl (by decide) (by decide) (fi := 16) rfl ((hF 57 16 (by decide) (by decide)).trans ht) ?_
                  refine R_iload_6 hC dX12_feed_86 ?_
                  refine R_iadd hC dX12_feed_88 ⟨by omega, by omega⟩ ?_
                  refine R_iload_7 hC dX12_feed_89 ?_
                  refine R_bipush hC dX12_feed_91 (by decide +kernel) ⟨by decide, by decide⟩ ?_
                  refine R_bipush hC dX12_feed_93 (by decide +kernel) ⟨by decide, by decide⟩ ?_
                  refine R_iload_6 hC dX12_feed_95 ?_
                  refine R_iconst hC dX12_feed_97 ⟨by decide, by decide⟩ ?_
                  refine R_irem hC dX12_feed_98 (by omega) (by omega) ?_
                  refine R_imul hC dX12_feed_99 ⟨by omega, by omega⟩ ?_
                  refine R_isub hC dX12_feed_100 ⟨by omega, by omega⟩ ?_
                  refine R_ishr hC dX12_feed_101 (by omega) (by omega) ?_
                  refine R_sipush hC dX12_feed_102 (by decide +kernel) ⟨by decide, by decide⟩ ?_
                  refine R_iandm hC dX12_feed_105 (m := 8) (by decide) (by decide) ?_
                  refine R_iastore hC dX12_feed_106 (by decide) rfl (by omega) (by omega) ?_
                  refine R_iinc_6 hC dX12_feed_107 rfl ⟨by omega, by omega⟩ ?_
                  refine R_goto hC dX12_feed_110 (tgt := 23) (by decide) ?_
                  refine R_weak (subL_c (subL_c (subL_c (subL_c (subL_c (subL_c (subL_c (subL_d subL_n)))))))) ?_
                  have hG1 : GR (uM M1 62 (t + k) ((e / 2 ^ (24 - (8 * (k % 4))).toNat) % 2 ^ 8)) := (GR.uA hg (by decide +kernel) (.inl (by decide)))
                  exact ih23 _ _ (by omega) (by omega) hG1 (Fr.uA hF (by decide)) ((uM_h (by decide)).trans h4) (⟨fun j p q => by
                    by_cases z : j = k
                    · rw [z]; refine uM_same.trans ?_; (first | rw [if_pos (show k < 4 by omega)] | rw [if_neg (show ¬ k < 4 by omega), if_pos (show k < 8 by omega)] | rw [if_neg (show ¬ k < 4 by omega), if_neg (show ¬ k < 8 by omega), if_pos (show k < 12 by omega)] | rw [if_neg (show ¬ k < 4 by omega), if_neg (show ¬ k < 8 by omega), if_neg (show ¬ k < 12 by omega), if_pos (show k < 16 by omega)] | rw [if_neg (show ¬ k < 4 by omega), if_neg (show ¬ k < 8 by omega), if_neg (show ¬ k < 12 by omega), if_neg (show ¬ k < 16 by omega)])
                    · exact (uM_k (by omega)).trans (hT.1 j p (by omega)), fun j p => (uM_k (by omega)).trans (hT.2 j p)⟩) (by omega)
                · skip
                  refine R_iload_4 hC dX12_feed_69 ?_
                  refine R_goto hC dX12_feed_71 (tgt := 76) (by decide) ?_
                  refine R_istore_7 hC dX12_feed_76 rfl ?_
                  refine R_aload_0 hC dX12_feed_78 ?_
                  refine R_getR hC dX12_feed_79 fl_12_22 (by decide) rfl (by decide) (by decide) (fi := 15) rfl (r := 62) (gr_57_15 hg) ?_
                  refine R_aload_0 hC dX12_feed_82 ?_
                  refine R_getIE hC dX12_feed_83 fl_12_266 (by decide) rfl (by decide) (by decide) (fi := 16) rfl ((hF 57 16 (by decide) (by decide)).trans ht) ?_
                  refine R_iload_6 hC dX12_feed_86 ?_
                  refine R_iadd hC dX12_feed_88 ⟨by omega, by omega⟩ ?_
                  refine R_iload_7 hC dX12_feed_89 ?_
                  refine R_bipush hC dX12_feed_91 (by decide +kernel) ⟨by decide, by decide⟩ ?_
                  refine R_bipush hC dX12_feed_93 (by decide +kernel) ⟨by decide, by decide⟩ ?_
                  refine R_iload_6 hC dX12_feed_95 ?_
                  refine R_iconst hC dX12_feed_97 ⟨by decide, by decide⟩ ?_
                  refine R_irem hC dX12_feed_98 (by omega) (by omega) ?_
                  refine R_imul hC dX12_feed_99 ⟨by omega, by omega⟩ ?_
                  refine R_isub hC dX12_feed_100 ⟨by omega, by omega⟩ ?_
                  refine R_ishr hC dX12_feed_101 (by omega) (by omega) ?_
                  refine R_sipush hC dX12_feed_102 (by decide +kernel) ⟨by decide, by decide⟩ ?_
                  refine R_iandm hC dX12_feed_105 (m := 8) (by decide) (by decide) ?_
                  refine R_iastore hC dX12_feed_106 (by decide) rfl (by omega) (by omega) ?_
                  refine R_iinc_6 hC dX12_feed_107 rfl ⟨by omega, by omega⟩ ?_
                  refine R_goto hC dX12_feed_110 (tgt := 23) (by decide) ?_
                  refine R_weak (subL_c (subL_c (subL_c (subL_c (subL_c (subL_c (subL_c (subL_d subL_n)))))))) ?_
                  have hG2 : GR (uM M1 62 (t + k) ((d / 2 ^ (24 - (8 * (k % 4))).toNat) % 2 ^ 8)) := (GR.uA hg (by decide +kernel) (.inl (by decide)))
                  exact ih23 _ _ (by omega) (by omega) hG2 (Fr.uA hF (by decide)) ((uM_h (by decide)).trans h4) (⟨fun j p q => by
                    by_cases z : j = k
                    · rw [z]; refine uM_same.trans ?_; (first | rw [if_pos (show k < 4 by omega)] | rw [if_neg (show ¬ k < 4 by omega), if_pos (show k < 8 by omega)] | rw [if_neg (show ¬ k < 4 by omega), if_neg (show ¬ k < 8 by omega), if_pos (show k < 12 by omega)] | rw [if_neg (show ¬ k < 4 by omega), if_neg (show ¬ k < 8 by omega), if_neg (show ¬ k < 12 by omega), if_pos (show k < 16 by omega)] | rw [if_neg (show ¬ k < 4 by omega), if_neg (show ¬ k < 8 by omega), if_neg (show ¬ k < 12 by omega), if_neg (show ¬ k < 16 by omega)])
                    · exact (uM_k (by omega)).trans (hT.1 j p (by omega)), fun j p => (uM_k (by omega)).trans (hT.2 j p)⟩) (by omega)
              · skip
                refine R_iload_3 hC dX12_feed_58 ?_
                refine R_goto hC dX12_feed_59 (tgt := 76) (by decide) ?_
                refine R_istore_7 hC dX12_feed_76 rfl ?_
                refine R_aload_0 hC dX12_feed_78 ?_
                refine R_getR hC dX12_feed_79 fl_12_22 (by decide) rfl (by decide) (by decide) (fi := 15) rfl (r := 62) (gr_57_15 hg) ?_
                refine R_aload_0 hC dX12_feed_82 ?_
                refine R_getIE hC dX12_feed_83 fl_12_266 (by decide) rfl (by decide) (by decide) (fi := 16) rfl ((hF 57 16 (by decide) (by decide)).trans ht) ?_
                refine R_iload_6 hC dX12_feed_86 ?_
                refine R_iadd hC dX12_feed_88 ⟨by omega, by omega⟩ ?_
                refine R_iload_7 hC dX12_feed_89 ?_
                refine R_bipush hC dX12_feed_91 (by decide +kernel) ⟨by decide, by decide⟩ ?_
                refine R_bipush hC dX12_feed_93 (by decide +kernel) ⟨by decide, by decide⟩ ?_
                refine R_iload_6 hC dX12_feed_95 ?_
                refine R_iconst hC dX12_feed_97 ⟨by decide, by decide⟩ ?_
                refine R_irem hC dX12_feed_98 (by omega) (by omega) ?_
                refine R_imul hC dX12_feed_99 ⟨by omega, by omega⟩ ?_
                refine R_isub hC dX12_feed_100 ⟨by omega, by omega⟩ ?_
                refine R_ishr hC dX12_feed_101 (by omega) (by omega) ?_
                refine R_sipush hC dX12_feed_102 (by decide +kernel) ⟨by decide, by decide⟩ ?_
                refine R_iandm hC dX12_feed_105 (m := 8) (by decide) (by decide) ?_
                refine R_iastore hC dX12_feed_106 (by decide) rfl (by omega) (by omega) ?_
                refine R_iinc_6 hC dX12_feed_107 rfl ⟨by omega, by omega⟩ ?_
                refine R_goto hC dX12_feed_110 (tgt := 23) (by decide) ?_
                refine R_weak (subL_c (subL_c (subL_c (subL_c (subL_c (subL_c (subL_c (subL_d subL_n)))))))) ?_
                have hG3 : GR (uM M1 62 (t + k) ((c / 2 ^ (24 - (8 * (k % 4))).toNat) % 2 ^ 8)) := (GR.uA hg (by decide +kernel) (.inl (by decide)))
                exact ih23 _ _ (by omega) (by omega) hG3 (Fr.uA hF (by decide)) ((uM_h (by decide)).trans h4) (⟨fun j p q => by
                  by_cases z : j = k
                  · rw [z]; refine uM_same.trans ?_; (first | rw [if_pos (show k < 4 by omega)] | rw [if_neg (show ¬ k < 4 by omega), if_pos (show k < 8 by omega)] | rw [if_neg (show ¬ k < 4 by omega), if_neg (show ¬ k < 8 by omega), if_pos (show k < 12 by omega)] | rw [if_neg (show ¬ k < 4 by omega), if_neg (show ¬ k < 8 by omega), if_neg (show ¬ k < 12 by omega), if_pos (show k < 16 by omega)] | rw [if_neg (show ¬ k < 4 by omega), if_neg (show ¬ k < 8 by omega), if_neg (show ¬ k < 12 by omega), if_neg (show ¬ k < 16 by omega)])
                  · exact (uM_k (by omega)).trans (hT.1 j p (by omega)), fun j p => (uM_k (by omega)).trans (hT.2 j p)⟩) (by omega)
            · skip
              refine R_iload_2 hC dX12_feed_47 ?_
              refine R_goto hC dX12_feed_48 (tgt := 76) (by decide) ?_
              refine R_istore_7 hC dX12_feed_76 rfl ?_
              refine R_aload_0 hC dX12_feed_78 ?_
              refine R_getR hC dX12_feed_79 fl_12_22 (by decide) rfl (by decide) (by decide) (fi := 15) rfl (r := 62) (gr_57_15 hg) ?_
              refine R_aload_0 hC dX12_feed_82 ?_
              refine R_getIE hC dX12_feed_83 fl_12_266 (by decide) rfl (by decide) (by decide) (fi := 16) rfl ((hF 57 16 (by decide) (by decide)).trans ht) ?_
              refine R_iload_6 hC dX12_feed_86 ?_
              refine R_iadd hC dX12_feed_88 ⟨by omega, by omega⟩ ?_
              refine R_iload_7 hC dX12_feed_89 ?_
              refine R_bipush hC dX12_feed_91 (by decide +kernel) ⟨by decide, by decide⟩ ?_
              refine R_bipush hC dX12_feed_93 (by decide +kernel) ⟨by decide, by decide⟩ ?_
              refine R_iload_6 hC dX12_feed_95 ?_
              refine R_iconst hC dX12_feed_97 ⟨by decide, by decide⟩ ?_
              refine R_irem hC dX12_feed_98 (by omega) (by omega) ?_
              refine R_imul hC dX12_feed_99 ⟨by omega, by omega⟩ ?_
              refine R_isub hC dX12_feed_100 ⟨by omega, by omega⟩ ?_
              refine R_ishr hC dX12_feed_101 (by omega) (by omega) ?_
              refine R_sipush hC dX12_feed_102 (by decide +kernel) ⟨by decide, by decide⟩ ?_
              refine R_iandm hC dX12_feed_105 (m := 8) (by decide) (by decide) ?_
              refine R_iastore hC dX12_feed_106 (by decide) rfl (by omega) (by omega) ?_
              refine R_iinc_6 hC dX12_feed_107 rfl ⟨by omega, by omega⟩ ?_
              refine R_goto hC dX12_feed_110 (tgt := 23) (by decide) ?_
              refine R_weak (subL_c (subL_c (subL_c (subL_c (subL_c (subL_c (subL_c (subL_d subL_n)))))))) ?_
              have hG4 : GR (uM M1 62 (t + k) ((b / 2 ^ (24 - (8 * (k % 4))).toNat) % 2 ^ 8)) := (GR.uA hg (by decide +kernel) (.inl (by decide)))
              exact ih23 _ _ (by omega) (by omega) hG4 (Fr.uA hF (by decide)) ((uM_h (by decide)).trans h4) (⟨fun j p q => by
                by_cases z : j = k
                · rw [z]; refine uM_same.trans ?_; (first | rw [if_pos (show k < 4 by omega)] | rw [if_neg (show ¬ k < 4 by omega), if_pos (show k < 8 by omega)] | rw [if_neg (show ¬ k < 4 by omega), if_neg (show ¬ k < 8 by omega), if_pos (show k < 12 by omega)] | rw [if_neg (show ¬ k < 4 by omega), if_neg (show ¬ k < 8 by omega), if_neg (show ¬ k < 12 by omega), if_pos (show k < 16 by omega)] | rw [if_neg (show ¬ k < 4 by omega), if_neg (show ¬ k < 8 by omega), if_neg (show ¬ k < 12 by omega), if_neg (show ¬ k < 16 by omega)])
                · exact (uM_k (by omega)).trans (hT.1 j p (by omega)), fun j p => (uM_k (by omega)).trans (hT.2 j p)⟩) (by omega)
          · skip
            refine R_iload_1 hC dX12_feed_36 ?_
            refine R_goto hC dX12_feed_37 (tgt := 76) (by decide) ?_
            refine R_istore_7 hC dX12_feed_76 rfl ?_
            refine R_aload_0 hC dX12_feed_78 ?_
            refine R_getR hC dX12_feed_79 fl_12_22 (by decide) rfl (by decide) (by decide) (fi := 15) rfl (r := 62) (gr_57_15 hg) ?_
            refine R_aload_0 hC dX12_feed_82 ?_
            refine R_getIE hC dX12_feed_83 fl_12_266 (by decide) rfl (by decide) (by decide) (fi := 16) rfl ((hF 57 16 (by decide) (by decide)).trans ht) ?_
            refine R_iload_6 hC dX12_feed_86 ?_
            refine R_iadd hC dX12_feed_88 ⟨by omega, by omega⟩ ?_
            refine R_iload_7 hC dX12_feed_89 ?_
            refine R_bipush hC dX12_feed_91 (by decide +kernel) ⟨by decide, by decide⟩ ?_
            refine R_bipush hC dX12_feed_93 (by decide +kernel) ⟨by decide, by decide⟩ ?_
            refine R_iload_6 hC dX12_feed_95 ?_
            refine R_iconst hC dX12_feed_97 ⟨by decide, by decide⟩ ?_
            refine R_irem hC dX12_feed_98 (by omega) (by omega) ?_
            refine R_imul hC dX12_feed_99 ⟨by omega, by omega⟩ ?_
            refine R_isub hC dX12_feed_100 ⟨by omega, by omega⟩ ?_
            refine R_ishr hC dX12_feed_101 (by omega) (by omega) ?_
            refine R_sipush hC dX12_feed_102 (by decide +kernel) ⟨by decide, by decide⟩ ?_
            refine R_iandm hC dX12_feed_105 (m := 8) (by decide) (by decide) ?_
            refine R_iastore hC dX12_feed_106 (by decide) rfl (by omega) (by omega) ?_
            refine R_iinc_6 hC dX12_feed_107 rfl ⟨by omega, by omega⟩ ?_
            refine R_goto hC dX12_feed_110 (tgt := 23) (by decide) ?_
            refine R_weak (subL_c (subL_c (subL_c (subL_c (subL_c (subL_c (subL_c (subL_d subL_n)))))))) ?_
            have hG5 : GR (uM M1 62 (t + k) ((a / 2 ^ (24 - (8 * (k % 4))).toNat) % 2 ^ 8)) := (GR.uA hg (by decide +kernel) (.inl (by decide)))
            exact ih23 _ _ (by omega) (by omega) hG5 (Fr.uA hF (by decide)) ((uM_h (by decide)).trans h4) (⟨fun j p q => by
              by_cases z : j = k
              · rw [z]; refine uM_same.trans ?_; (first | rw [if_pos (show k < 4 by omega)] | rw [if_neg (show ¬ k < 4 by omega), if_pos (show k < 8 by omega)] | rw [if_neg (show ¬ k < 4 by omega), if_neg (show ¬ k < 8 by omega), if_pos (show k < 12 by omega)] | rw [if_neg (show ¬ k < 4 by omega), if_neg (show ¬ k < 8 by omega), if_neg (show ¬ k < 12 by omega), if_pos (show k < 16 by omega)] | rw [if_neg (show ¬ k < 4 by omega), if_neg (show ¬ k < 8 by omega), if_neg (show ¬ k < 12 by omega), if_neg (show ¬ k < 16 by omega)])
              · exact (uM_k (by omega)).trans (hT.1 j p (by omega)), fun j p => (uM_k (by omega)).trans (hT.2 j p)⟩) (by omega)
    have hG6 : GR (uM M 57 4 0) := (GR.uF hG (by decide +kernel) (by decide))
    exact L23 _ _ _ (by omega) (by omega) hG6 (Fr.uB Fr.rf (by decide)) uM_same (⟨fun j p q => by omega, fun j _ => uM_h (by decide)⟩) (Nat.lt_succ_self _)
  · skip
    refine R_iconst hC dX12_feed_18 ⟨by decide, by decide⟩ ?_
    exact R_ireturn hC dX12_feed_19 rfl (ret_P (.inl ⟨by omega, rfl, rfl⟩))
