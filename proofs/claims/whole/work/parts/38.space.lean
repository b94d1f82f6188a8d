/-! the model: is there a plan, its space -/
theorem dX12_isPlan_0 : decode cX12_isPlan 0 = .ok (.aload_n 0, 1) := by decide +kernel
theorem dX12_isPlan_1 : decode cX12_isPlan 1 = .ok (.invokevirtual 142, 3) := by decide +kernel
theorem dX12_isPlan_4 : decode cX12_isPlan 4 = .ok (.aload_n 0, 1) := by decide +kernel
theorem dX12_isPlan_5 : decode cX12_isPlan 5 = .ok (.getfield 129, 3) := by decide +kernel
theorem dX12_isPlan_8 : decode cX12_isPlan 8 = .ok (.ifCond .ne 7, 3) := by decide +kernel
theorem dX12_isPlan_11 : decode cX12_isPlan 11 = .ok (.iconst 1, 1) := by decide +kernel
theorem dX12_isPlan_12 : decode cX12_isPlan 12 = .ok (.goto 4, 3) := by decide +kernel
theorem dX12_isPlan_15 : decode cX12_isPlan 15 = .ok (.iconst 0, 1) := by decide +kernel
theorem dX12_isPlan_16 : decode cX12_isPlan 16 = .ok (.ireturn, 1) := by decide +kernel
set_option maxHeartbeats 400000 in
theorem c12_isPlan {G : Gl} {l : Launch}  {M : Mem} {I : Ins} (hG : GR M) (hA : MA M I) (hIb : IB I) : Ct G LY 82 l 4 m12_isPlan [vR 57] M (RP (fun v M' => Fr [] [(57, 22), (57, 23)] M M' ∧ v = bP (planI I) ∧ M' 57 22 = lackI I (worst I) ∧ M' 57 23 = worst I)) := by
  refine R_start (by decide +kernel) (Nat.le_of_ble_eq_true rfl) (fun C hC hRm hlau => ?_)
  show RZ G LY C (Zn G LY 82 C (RP (fun v M' => Fr [] [(57, 22), (57, 23)] M M' ∧ v = bP (planI I) ∧ M' 57 22 = lackI I (worst I) ∧ M' 57 23 = worst I))) 0 0 82 0 [some (vR 57)] [] M
  refine R_aload_0 hC dX12_isPlan_0 ?_
  refine R_callVv (as := []) hC dX12_isPlan_1 mo_12_laysShortage ml_12_142 (by decide) rfl rfl (c12_laysShortage  hG hA hIb) rfl rfl hRm (by decide) (by decide) (Nat.le_of_ble_eq_true rfl) (fun Mc1 hq2 => ?_)
  refine R_aload_0 hC dX12_isPlan_4 ?_
  refine R_getI hC dX12_isPlan_5 fl_12_129 (by decide) rfl (by decide) (by decide) (fi := 22) rfl ?_
  refine R_if_ne hC dX12_isPlan_8 (tgt := 15) (by decide) (fun hb8 => ?_) (fun hb8 => ?_)
  · skip
    refine R_iconst hC dX12_isPlan_15 ⟨by decide, by decide⟩ ?_
    exact R_zreturn hC dX12_isPlan_16 rfl (.inl rfl) (ret_P ⟨hq2.1, by first | exact (bP_pos (hIb.wp.mp (hq2.2.1.symm.trans hb8))).symm | exact (bP_neg (fun z => hb8 (hq2.2.1.trans (hIb.wp.mpr z)))).symm, hq2.2⟩)
  · skip
    refine R_iconst hC dX12_isPlan_11 ⟨by decide, by decide⟩ ?_
    refine R_goto hC dX12_isPlan_12 (tgt := 16) (by decide) ?_
    exact R_zreturn hC dX12_isPlan_16 rfl (.inr rfl) (ret_P ⟨hq2.1, by first | exact (bP_pos (hIb.wp.mp (hq2.2.1.symm.trans hb8))).symm | exact (bP_neg (fun z => hb8 (hq2.2.1.trans (hIb.wp.mpr z)))).symm, hq2.2⟩)
theorem dX12_isPlanOf_0 : decode cX12_isPlanOf 0 = .ok (.aload_n 0, 1) := by decide +kernel
theorem dX12_isPlanOf_1 : decode cX12_isPlanOf 1 = .ok (.iload_n 1, 1) := by decide +kernel
theorem dX12_isPlanOf_2 : decode cX12_isPlanOf 2 = .ok (.iconst (-1), 1) := by decide +kernel
theorem dX12_isPlanOf_3 : decode cX12_isPlanOf 3 = .ok (.invokevirtual 145, 3) := by decide +kernel
theorem dX12_isPlanOf_6 : decode cX12_isPlanOf 6 = .ok (.aload_n 0, 1) := by decide +kernel
theorem dX12_isPlanOf_7 : decode cX12_isPlanOf 7 = .ok (.invokevirtual 149, 3) := by decide +kernel
theorem dX12_isPlanOf_10 : decode cX12_isPlanOf 10 = .ok (.ireturn, 1) := by decide +kernel
set_option maxHeartbeats 400000 in
theorem c12_isPlanOf {G : Gl} {l : Launch}  {M : Mem} {b : Int} {c : Int → Int} (hG : GR M) (hK : RW M b c) (hb0 : 0 ≤ b) (hb1 : b ≤ 9686) (hM : SM c) : Ct G LY 82 l 5 m12_isPlanOf [vR 57, vI b] M (RP (fun v M' => Fr [63, 64, 65, 66] [(57, 22), (57, 23)] M M' ∧ MA M' (insOf c) ∧ v = bP (planI (insOf c)))) := by
  refine R_start (by decide +kernel) (Nat.le_of_ble_eq_true rfl) (fun C hC hRm hlau => ?_)
  show RZ G LY C (Zn G LY 82 C (RP (fun v M' => Fr [63, 64, 65, 66] [(57, 22), (57, 23)] M M' ∧ MA M' (insOf c) ∧ v = bP (planI (insOf c))))) 0 0 82 0 [some (vR 57), some (vI b)] [] M
  refine R_aload_0 hC dX12_isPlanOf_0 ?_
  refine R_iload_1 hC dX12_isPlanOf_1 ?_
  refine R_iconst hC dX12_isPlanOf_2 ⟨by decide, by decide⟩ ?_
  refine R_callVv (as := [vI _, vI _]) hC dX12_isPlanOf_3 mo_12_asks ml_12_145 (by decide) rfl rfl (c12_asks  hG hK (by omega) (by omega) hM) rfl rfl hRm (by decide) (by decide) (Nat.le_of_ble_eq_true rfl) (fun Mc1 hq2 => ?_)
  refine R_aload_0 hC dX12_isPlanOf_6 ?_
  have hG3 : GR Mc1 := (GR.fr hG hq2.1 (by decide +kernel))
  have hk4 : MA Mc1 (insOf c) := (hq2.2.q (apI_n (by decide)))
  refine R_callVp (as := []) hC dX12_isPlanOf_7 mo_12_isPlan ml_12_149 (by decide) rfl rfl (c12_isPlan  hG3 hk4 hM.I) rfl rfl hRm (by decide) (by decide) (Nat.le_of_ble_eq_true rfl) (fun v7 Mc5 hq6 => ?_)
  have hk8 : MA Mc5 (insOf c) := (MA.fr hk4 hq6.1 (by decide +kernel))
  exact R_zreturn hC dX12_isPlanOf_10 rfl (by (rw [hq6.2.1]; exact bP_01 _)) (ret_P ⟨Fr.tt (hq2.1.mo (by simp) (by simp)) (hq6.1.mo (by simp) (by simp)), hk8, hq6.2.1⟩)
theorem dX12_spaceBy_0 : decode cX12_spaceBy 0 = .ok (.aload_n 0, 1) := by decide +kernel
theorem dX12_spaceBy_1 : decode cX12_spaceBy 1 = .ok (.iload_n 1, 1) := by decide +kernel
theorem dX12_spaceBy_2 : decode cX12_spaceBy 2 = .ok (.iload_n 2, 1) := by decide +kernel
theorem dX12_spaceBy_3 : decode cX12_spaceBy 3 = .ok (.invokevirtual 145, 3) := by decide +kernel
theorem dX12_spaceBy_6 : decode cX12_spaceBy 6 = .ok (.aload_n 0, 1) := by decide +kernel
theorem dX12_spaceBy_7 : decode cX12_spaceBy 7 = .ok (.invokevirtual 149, 3) := by decide +kernel
theorem dX12_spaceBy_10 : decode cX12_spaceBy 10 = .ok (.ifCond .eq 10, 3) := by decide +kernel
theorem dX12_spaceBy_13 : decode cX12_spaceBy 13 = .ok (.aload_n 0, 1) := by decide +kernel
theorem dX12_spaceBy_14 : decode cX12_spaceBy 14 = .ok (.invokevirtual 161, 3) := by decide +kernel
theorem dX12_spaceBy_17 : decode cX12_spaceBy 17 = .ok (.goto 4, 3) := by decide +kernel
theorem dX12_spaceBy_20 : decode cX12_spaceBy 20 = .ok (.iconst (-1), 1) := by decide +kernel
theorem dX12_spaceBy_21 : decode cX12_spaceBy 21 = .ok (.ireturn, 1) := by decide +kernel
set_option maxHeartbeats 400000 in
theorem c12_spaceBy {G : Gl} {l : Launch}  {M : Mem} {b q : Int} {c : Int → Int} (hG : GR M) (hK : RW M b c) (hb0 : 0 ≤ b) (hb1 : b ≤ 9686) (hM : SM c) : Ct G LY 82 l 5 m12_spaceBy [vR 57, vI b, vI q] M (RP (fun v M' => Fr [63, 64, 65, 66, 67, 68, 69, 70, 71] [(57, 22), (57, 23)] M M' ∧ v = SPC (apI c q))) := by
  refine R_start (by decide +kernel) (Nat.le_of_ble_eq_true rfl) (fun C hC hRm hlau => ?_)
  show RZ G LY C (Zn G LY 82 C (RP (fun v M' => Fr [63, 64, 65, 66, 67, 68, 69, 70, 71] [(57, 22), (57, 23)] M M' ∧ v = SPC (apI c q)))) 0 0 82 0 [some (vR 57), some (vI b), some (vI q)] [] M
  refine R_aload_0 hC dX12_spaceBy_0 ?_
  refine R_iload_1 hC dX12_spaceBy_1 ?_
  refine R_iload_2 hC dX12_spaceBy_2 ?_
  refine R_callVv (as := [vI _, vI _]) hC dX12_spaceBy_3 mo_12_asks ml_12_145 (by decide) rfl rfl (c12_asks  hG hK (by omega) (by omega) hM) rfl rfl hRm (by decide) (by decide) (Nat.le_of_ble_eq_true rfl) (fun Mc1 hq2 => ?_)
  refine R_aload_0 hC dX12_spaceBy_6 ?_
  have hG3 : GR Mc1 := (GR.fr hG hq2.1 (by decide +kernel))
  have hk4 : MA Mc1 (apI c q) := (hq2.2)
  refine R_callVp (as := []) hC dX12_spaceBy_7 mo_12_isPlan ml_12_149 (by decide) rfl rfl (c12_isPlan  hG3 hk4 (apI_IB hM q)) rfl rfl hRm (by decide) (by decide) (Nat.le_of_ble_eq_true rfl) (fun v7 Mc5 hq6 => ?_)
  have hpq := hq6.2.1
  refine R_if_eq hC dX12_spaceBy_10 (tgt := 20) (by decide) (fun hb10 => ?_) (fun hb10 => ?_)
  · skip
    have hz : Fr [63, 64, 65, 66, 67, 68, 69, 70, 71] [(57, 22), (57, 23)] M Mc5 ∧ -1 = SPC (apI c q) := ⟨Fr.tt (hq2.1.mo (by simp) (by simp)) (hq6.1.mo (by simp) (by simp)), (SPC_f (bP_z (hpq.symm.trans hb10))).symm⟩
    refine R_iconst hC dX12_spaceBy_20 ⟨by decide, by decide⟩ ?_
    exact R_ireturn hC dX12_spaceBy_21 rfl (ret_P hz)
  · skip
    refine R_aload_0 hC dX12_spaceBy_13 ?_
    have hG8 : GR Mc5 := (GR.fr hG3 hq6.1 (by decide +kernel))
    have hk9 : MA Mc5 (apI c q) := (MA.fr hk4 hq6.1 (by decide +kernel))
    refine R_callVp (as := []) hC dX12_spaceBy_14 mo_12_laysMost ml_12_161 (by decide) rfl rfl (c12_laysMost  hG8 hk9 (apI_IB hM q)) rfl rfl hRm (by decide) (by decide) (Nat.le_of_ble_eq_true rfl) (fun v12 Mc10 hq11 => ?_)
    have hz : Fr [63, 64, 65, 66, 67, 68, 69, 70, 71] [(57, 22), (57, 23)] M Mc10 ∧ v12 = SPC (apI c q) := ⟨Fr.tt (Fr.tt (hq2.1.mo (by simp) (by simp)) (hq6.1.mo (by simp) (by simp))) (hq11.1.mo (by simp) (by simp)), hq11.2.trans (SPC_t (bP_nz (fun z => hb10 (hpq.trans z)))).symm⟩
    refine R_goto hC dX12_spaceBy_17 (tgt := 21) (by decide) ?_
    exact R_ireturn hC dX12_spaceBy_21 rfl (ret_P hz)
theorem dX12_spaceOf_0 : decode cX12_spaceOf 0 = .ok (.aload_n 0, 1) := by decide +kernel
theorem dX12_spaceOf_1 : decode cX12_spaceOf 1 = .ok (.iload_n 1, 1) := by decide +kernel
theorem dX12_spaceOf_2 : decode cX12_spaceOf 2 = .ok (.iconst (-1), 1) := by decide +kernel
theorem dX12_spaceOf_3 : decode cX12_spaceOf 3 = .ok (.invokevirtual 165, 3) := by decide +kernel
theorem dX12_spaceOf_6 : decode cX12_spaceOf 6 = .ok (.ireturn, 1) := by decide +kernel
set_option maxHeartbeats 400000 in
theorem c12_spaceOf {G : Gl} {l : Launch}  {M : Mem} {b : Int} {c : Int → Int} (hG : GR M) (hK : RW M b c) (hb0 : 0 ≤ b) (hb1 : b ≤ 9686) (hM : SM c) : Ct G LY 82 l 6 m12_spaceOf [vR 57, vI b] M (RP (fun v M' => Fr [63, 64, 65, 66, 67, 68, 69, 70, 71] [(57, 22), (57, 23)] M M' ∧ v = SPC (insOf c))) := by
  refine R_start (by decide +kernel) (Nat.le_of_ble_eq_true rfl) (fun C hC hRm hlau => ?_)
  show RZ G LY C (Zn G LY 82 C (RP (fun v M' => Fr [63, 64, 65, 66, 67, 68, 69, 70, 71] [(57, 22), (57, 23)] M M' ∧ v = SPC (insOf c)))) 0 0 82 0 [some (vR 57), some (vI b)] [] M
  refine R_aload_0 hC dX12_spaceOf_0 ?_
  refine R_iload_1 hC dX12_spaceOf_1 ?_
  refine R_iconst hC dX12_spaceOf_2 ⟨by decide, by decide⟩ ?_
  refine R_callVp (as := [vI _, vI _]) hC dX12_spaceOf_3 mo_12_spaceBy ml_12_165 (by decide) rfl rfl (c12_spaceBy  hG hK (by omega) (by omega) hM) rfl rfl hRm (by decide) (by decide) (Nat.le_of_ble_eq_true rfl) (fun v3 Mc1 hq2 => ?_)
  exact R_ireturn hC dX12_spaceOf_6 rfl (ret_P ⟨hq2.1, hq2.2.trans ((apI_n (by decide)).sp (apI_IB hM _).1)⟩)
