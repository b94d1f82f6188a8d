/-! the model's questions: held, lack, order -/
theorem dX12_held_0 : decode cX12_held 0 = .ok (.aload_n 0, 1) := by decide +kernel
theorem dX12_held_1 : decode cX12_held 1 = .ok (.iconst 0, 1) := by decide +kernel
theorem dX12_held_2 : decode cX12_held 2 = .ok (.putfield 84, 3) := by decide +kernel
theorem dX12_held_5 : decode cX12_held 5 = .ok (.aload_n 0, 1) := by decide +kernel
theorem dX12_held_6 : decode cX12_held 6 = .ok (.iload_n 1, 1) := by decide +kernel
theorem dX12_held_7 : decode cX12_held 7 = .ok (.invokevirtual 372, 3) := by decide +kernel
theorem dX12_held_10 : decode cX12_held 10 = .ok (.ifCond .eq 26, 3) := by decide +kernel
theorem dX12_held_13 : decode cX12_held 13 = .ok (.aload_n 0, 1) := by decide +kernel
theorem dX12_held_14 : decode cX12_held 14 = .ok (.iload_n 2, 1) := by decide +kernel
theorem dX12_held_15 : decode cX12_held 15 = .ok (.invokevirtual 391, 3) := by decide +kernel
theorem dX12_held_18 : decode cX12_held 18 = .ok (.ifCond .eq 18, 3) := by decide +kernel
theorem dX12_held_21 : decode cX12_held 21 = .ok (.aload_n 0, 1) := by decide +kernel
theorem dX12_held_22 : decode cX12_held 22 = .ok (.iload_n 3, 1) := by decide +kernel
theorem dX12_held_23 : decode cX12_held 23 = .ok (.iconst 0, 1) := by decide +kernel
theorem dX12_held_24 : decode cX12_held 24 = .ok (.bipush 6, 2) := by decide +kernel
theorem dX12_held_26 : decode cX12_held 26 = .ok (.invokestatic 235, 3) := by decide +kernel
theorem dX12_held_29 : decode cX12_held 29 = .ok (.iconst 1, 1) := by decide +kernel
theorem dX12_held_30 : decode cX12_held 30 = .ok (.invokevirtual 269, 3) := by decide +kernel
theorem dX12_held_33 : decode cX12_held 33 = .ok (.ifCond .ne 5, 3) := by decide +kernel
theorem dX12_held_36 : decode cX12_held 36 = .ok (.iconst 0, 1) := by decide +kernel
theorem dX12_held_37 : decode cX12_held 37 = .ok (.ireturn, 1) := by decide +kernel
theorem dX12_held_38 : decode cX12_held 38 = .ok (.iload_n 3, 1) := by decide +kernel
theorem dX12_held_39 : decode cX12_held 39 = .ok (.tableswitch 140 0 5 #[37, 45, 59, 93, 109, 117], 37) := by decide +kernel
theorem dX12_held_76 : decode cX12_held 76 = .ok (.aload_n 0, 1) := by decide +kernel
theorem dX12_held_77 : decode cX12_held 77 = .ok (.iconst 0, 1) := by decide +kernel
theorem dX12_held_78 : decode cX12_held 78 = .ok (.iload_n 1, 1) := by decide +kernel
theorem dX12_held_79 : decode cX12_held 79 = .ok (.iload_n 2, 1) := by decide +kernel
theorem dX12_held_80 : decode cX12_held 80 = .ok (.invokevirtual 95, 3) := by decide +kernel
theorem dX12_held_83 : decode cX12_held 83 = .ok (.ireturn, 1) := by decide +kernel
theorem dX12_held_84 : decode cX12_held 84 = .ok (.aload_n 0, 1) := by decide +kernel
theorem dX12_held_85 : decode cX12_held 85 = .ok (.getfield 9, 3) := by decide +kernel
theorem dX12_held_88 : decode cX12_held 88 = .ok (.bipush 40, 2) := by decide +kernel
theorem dX12_held_90 : decode cX12_held 90 = .ok (.iload_n 1, 1) := by decide +kernel
theorem dX12_held_91 : decode cX12_held 91 = .ok (.iload_n 2, 1) := by decide +kernel
theorem dX12_held_92 : decode cX12_held 92 = .ok (.invokestatic 87, 3) := by decide +kernel
theorem dX12_held_95 : decode cX12_held 95 = .ok (.iadd, 1) := by decide +kernel
theorem dX12_held_96 : decode cX12_held 96 = .ok (.iaload, 1) := by decide +kernel
theorem dX12_held_97 : decode cX12_held 97 = .ok (.ireturn, 1) := by decide +kernel
theorem dX12_held_98 : decode cX12_held 98 = .ok (.aload_n 0, 1) := by decide +kernel
theorem dX12_held_99 : decode cX12_held 99 = .ok (.getfield 9, 3) := by decide +kernel
theorem dX12_held_102 : decode cX12_held 102 = .ok (.bipush 40, 2) := by decide +kernel
theorem dX12_held_104 : decode cX12_held 104 = .ok (.iload_n 1, 1) := by decide +kernel
theorem dX12_held_105 : decode cX12_held 105 = .ok (.iload_n 2, 1) := by decide +kernel
theorem dX12_held_106 : decode cX12_held 106 = .ok (.invokestatic 87, 3) := by decide +kernel
theorem dX12_held_109 : decode cX12_held 109 = .ok (.iadd, 1) := by decide +kernel
theorem dX12_held_110 : decode cX12_held 110 = .ok (.iaload, 1) := by decide +kernel
theorem dX12_held_111 : decode cX12_held 111 = .ok (.ifCond .ne 7, 3) := by decide +kernel
theorem dX12_held_114 : decode cX12_held 114 = .ok (.iconst (-1), 1) := by decide +kernel
theorem dX12_held_115 : decode cX12_held 115 = .ok (.goto 16, 3) := by decide +kernel
theorem dX12_held_118 : decode cX12_held 118 = .ok (.aload_n 0, 1) := by decide +kernel
theorem dX12_held_119 : decode cX12_held 119 = .ok (.getfield 9, 3) := by decide +kernel
theorem dX12_held_122 : decode cX12_held 122 = .ok (.bipush 70, 2) := by decide +kernel
theorem dX12_held_124 : decode cX12_held 124 = .ok (.iload_n 1, 1) := by decide +kernel
theorem dX12_held_125 : decode cX12_held 125 = .ok (.iload_n 2, 1) := by decide +kernel
theorem dX12_held_126 : decode cX12_held 126 = .ok (.invokestatic 87, 3) := by decide +kernel
theorem dX12_held_129 : decode cX12_held 129 = .ok (.iadd, 1) := by decide +kernel
theorem dX12_held_130 : decode cX12_held 130 = .ok (.iaload, 1) := by decide +kernel
theorem dX12_held_131 : decode cX12_held 131 = .ok (.ireturn, 1) := by decide +kernel
theorem dX12_held_132 : decode cX12_held 132 = .ok (.aload_n 0, 1) := by decide +kernel
theorem dX12_held_133 : decode cX12_held 133 = .ok (.iconst 0, 1) := by decide +kernel
theorem dX12_held_134 : decode cX12_held 134 = .ok (.iload_n 1, 1) := by decide +kernel
theorem dX12_held_135 : decode cX12_held 135 = .ok (.iload_n 2, 1) := by decide +kernel
theorem dX12_held_136 : decode cX12_held 136 = .ok (.invokevirtual 91, 3) := by decide +kernel
theorem dX12_held_139 : decode cX12_held 139 = .ok (.ifCond .eq 7, 3) := by decide +kernel
theorem dX12_held_142 : decode cX12_held 142 = .ok (.iconst 1, 1) := by decide +kernel
theorem dX12_held_143 : decode cX12_held 143 = .ok (.goto 4, 3) := by decide +kernel
theorem dX12_held_146 : decode cX12_held 146 = .ok (.iconst 0, 1) := by decide +kernel
theorem dX12_held_147 : decode cX12_held 147 = .ok (.ireturn, 1) := by decide +kernel
theorem dX12_held_148 : decode cX12_held 148 = .ok (.aload_n 0, 1) := by decide +kernel
theorem dX12_held_149 : decode cX12_held 149 = .ok (.iconst 0, 1) := by decide +kernel
theorem dX12_held_150 : decode cX12_held 150 = .ok (.iload_n 1, 1) := by decide +kernel
theorem dX12_held_151 : decode cX12_held 151 = .ok (.iload_n 2, 1) := by decide +kernel
theorem dX12_held_152 : decode cX12_held 152 = .ok (.invokevirtual 117, 3) := by decide +kernel
theorem dX12_held_155 : decode cX12_held 155 = .ok (.ireturn, 1) := by decide +kernel
theorem dX12_held_156 : decode cX12_held 156 = .ok (.aload_n 0, 1) := by decide +kernel
theorem dX12_held_157 : decode cX12_held 157 = .ok (.iconst 0, 1) := by decide +kernel
theorem dX12_held_158 : decode cX12_held 158 = .ok (.invokevirtual 190, 3) := by decide +kernel
theorem dX12_held_161 : decode cX12_held 161 = .ok (.ifCond .eq 16, 3) := by decide +kernel
theorem dX12_held_164 : decode cX12_held 164 = .ok (.aload_n 0, 1) := by decide +kernel
theorem dX12_held_165 : decode cX12_held 165 = .ok (.getfield 56, 3) := by decide +kernel
theorem dX12_held_168 : decode cX12_held 168 = .ok (.iload_n 1, 1) := by decide +kernel
theorem dX12_held_169 : decode cX12_held 169 = .ok (.iload_n 2, 1) := by decide +kernel
theorem dX12_held_170 : decode cX12_held 170 = .ok (.invokestatic 87, 3) := by decide +kernel
theorem dX12_held_173 : decode cX12_held 173 = .ok (.iaload, 1) := by decide +kernel
theorem dX12_held_174 : decode cX12_held 174 = .ok (.goto 4, 3) := by decide +kernel
theorem dX12_held_177 : decode cX12_held 177 = .ok (.iconst (-1), 1) := by decide +kernel
theorem dX12_held_178 : decode cX12_held 178 = .ok (.ireturn, 1) := by decide +kernel
theorem dX12_held_179 : decode cX12_held 179 = .ok (.aload_n 0, 1) := by decide +kernel
theorem dX12_held_180 : decode cX12_held 180 = .ok (.iconst 0, 1) := by decide +kernel
theorem dX12_held_181 : decode cX12_held 181 = .ok (.iload_n 1, 1) := by decide +kernel
theorem dX12_held_182 : decode cX12_held 182 = .ok (.iload_n 2, 1) := by decide +kernel
theorem dX12_held_183 : decode cX12_held 183 = .ok (.invokevirtual 406, 3) := by decide +kernel
theorem dX12_held_186 : decode cX12_held 186 = .ok (.ireturn, 1) := by decide +kernel
set_option maxHeartbeats 2000000 in
theorem c12_held {G : Gl} {l : Launch}  {M : Mem} {c : Int → Int} {x w z : Int} {b : Int → Int} (hG : GR M) (hK : RW M 0 c) (hS : SP c) : Ct G LY 82 l 8 m12_held [vR 57, vI x, vI w, vI z] M (RP (fun v M' => Fr [58, 63, 64, 65, 66, 67, 68, 69, 70, 71, 72, 77, 78, 79, 80] [(57, 4), (57, 22), (57, 23), (57, 30), (57, 47), (57, 48), (57, 49), (57, 52), (57, 53), (57, 54)] M M' ∧ TRo M M' ∧ M' 57 4 = (if ((0 ≤ x ∧ x < c 121) ∧ 0 ≤ w ∧ w < c 122) ∧ 0 ≤ z ∧ z ≤ 6 then (0 : Int) else 1) ∧ ((if ((0 ≤ x ∧ x < c 121) ∧ 0 ≤ w ∧ w < c 122) ∧ 0 ≤ z ∧ z ≤ 6 then (0 : Int) else 1) = 0 → (z = 0 → v = c (28 + x * 6 + w)) ∧ (z = 1 → v = c (58 + x * 6 + w)) ∧ (z = 2 → v = if c (58 + x * 6 + w) = 0 then -1 else c (88 + x * 6 + w)) ∧ (z = 3 → v = bP (0 < c (58 + x * 6 + w) ∧ c 118 ≤ c (88 + x * 6 + w))) ∧ (z = 4 → v = offr c x w) ∧ (z = 5 → v = itc (planI (insOf c)) (plT (insOf c) (6 * x + w)) (-1)) ∧ (z = 6 → v = whyN c x w)))) := by
  refine R_start (by decide +kernel) (Nat.le_of_ble_eq_true rfl) (fun C hC hRm hlau => ?_)
  show RZ G LY C (Zn G LY 82 C (RP (fun v M' => Fr [58, 63, 64, 65, 66, 67, 68, 69, 70, 71, 72, 77, 78, 79, 80] [(57, 4), (57, 22), (57, 23), (57, 30), (57, 47), (57, 48), (57, 49), (57, 52), (57, 53), (57, 54)] M M' ∧ TRo M M' ∧ M' 57 4 = (if ((0 ≤ x ∧ x < c 121) ∧ 0 ≤ w ∧ w < c 122) ∧ 0 ≤ z ∧ z ≤ 6 then (0 : Int) else 1) ∧ ((if ((0 ≤ x ∧ x < c 121) ∧ 0 ≤ w ∧ w < c 122) ∧ 0 ≤ z ∧ z ≤ 6 then (0 : Int) else 1) = 0 → (z = 0 → v = c (28 + x * 6 + w)) ∧ (z = 1 → v = c (58 + x * 6 + w)) ∧ (z = 2 → v = if c (58 + x * 6 + w) = 0 then -1 else c (88 + x * 6 + w)) ∧ (z = 3 → v = bP (0 < c (58 + x * 6 + w) ∧ c 118 ≤ c (88 + x * 6 + w))) ∧ (z = 4 → v = offr c x w) ∧ (z = 5 → v = itc (planI (insOf c)) (plT (insOf c) (6 * x + w)) (-1)) ∧ (z = 6 → v = whyN c x w))))) 0 0 82 0 [some (vR 57), some (vI x), some (vI w), some (vI z)] [] M
  have hM := hS.m
  have hI := hM.I
  have hL := hM.1.1
  have hW := hM.1.2
  refine R_aload_0 hC dX12_held_0 ?_
  refine R_iconst hC dX12_held_1 ⟨by decide, by decide⟩ ?_
  refine R_putI hC dX12_held_2 fl_12_84 (by decide) rfl (by decide) (by decide) (fi := 4) rfl ?_
  refine R_aload_0 hC dX12_held_5 ?_
  refine R_iload_1 hC dX12_held_6 ?_
  have hFz : Fr [58, 63, 64, 65, 66, 67, 68, 69, 70, 71, 72, 77, 78, 79, 80] [(57, 4), (57, 22), (57, 23), (57, 30), (57, 47), (57, 48), (57, 49), (57, 52), (57, 53), (57, 54)] M (uM M 57 4 0) := Fr.uB Fr.rf (by decide)
  have hTz : TRo M (uM M 57 4 0) := TRo.rf.h (by decide)
  have hG1 : GR (uM M 57 4 0) := (GR.uF hG (by decide +kernel) (by decide))
  have hk2 : RW (uM M 57 4 0) 0 c := (RW.uf hK (by decide))
  refine R_callVp (as := [vI _]) hC dX12_held_7 mo_12_isLibrary ml_12_372 (by decide) rfl rfl (c12_isLibrary  hG1 hk2 hS) rfl rfl hRm (by decide) (by decide) (Nat.le_of_ble_eq_true rfl) (fun v5 Mc3 hq4 => ?_)
  have hFa : Fr [58, 63, 64, 65, 66, 67, 68, 69, 70, 71, 72, 77, 78, 79, 80] [(57, 4), (57, 22), (57, 23), (57, 30), (57, 47), (57, 48), (57, 49), (57, 52), (57, 53), (57, 54)] M Mc3 := Fr.tt hFz (hq4.1.mo (by simp) (by simp))
  have hTa : TRo M Mc3 := TRo.tr hTz (TRo.of hq4.1 (by decide) (by decide))
  have h4a := rt_e hq4.2.1 uM_same
  have hva := hq4.2.2
  refine R_if_eq hC dX12_held_10 (tgt := 36) (by decide) (fun hb10 => ?_) (fun hb10 => ?_)
  · skip
    have hno := rt_n h4a hva hb10
    have hno3 : ¬ (((0 ≤ x ∧ x < c 121) ∧ 0 ≤ w ∧ w < c 122) ∧ 0 ≤ z ∧ z ≤ 6) := fun z => hno z.1.1
    have hF9 := hFa
    have hT9 := hTa
    have h49 := h4a.trans (if_neg hno)
    refine R_iconst hC dX12_held_36 ⟨by decide, by decide⟩ ?_
    exact R_ireturn hC dX12_held_37 rfl (ret_P ⟨hF9, hT9, by (rw [if_neg hno3]; exact h49), fun z => by (rw [if_neg hno3] at z; cases z)⟩)
  · skip
    have hokL := rt_y h4a hva hb10
    refine R_aload_0 hC dX12_held_13 ?_
    refine R_iload_2 hC dX12_held_14 ?_
    have hG6 : GR Mc3 := (GR.fr hG1 hq4.1 (by decide +kernel))
    have hk7 : RW Mc3 0 c := (RW.fr hk2 hq4.1 (by decide +kernel))
    refine R_callVp (as := [vI _]) hC dX12_held_15 mo_12_isWork ml_12_391 (by decide) rfl rfl (c12_isWork  hG6 hk7 hS) rfl rfl hRm (by decide) (by decide) (Nat.le_of_ble_eq_true rfl) (fun v10 Mc8 hq9 => ?_)
    have hFb : Fr [58, 63, 64, 65, 66, 67, 68, 69, 70, 71, 72, 77, 78, 79, 80] [(57, 4), (57, 22), (57, 23), (57, 30), (57, 47), (57, 48), (57, 49), (57, 52), (57, 53), (57, 54)] M Mc8 := Fr.tt hFa (hq9.1.mo (by simp) (by simp))
    have hTb : TRo M Mc8 := TRo.tr hTa (TRo.of hq9.1 (by decide) (by decide))
    have h4b := rt_e hq9.2.1 (h4a.trans (if_pos hokL))
    have hvb := hq9.2.2
    refine R_if_eq hC dX12_held_18 (tgt := 36) (by decide) (fun hb18 => ?_) (fun hb18 => ?_)
    · skip
      have hno := rt_n h4b hvb hb18
      have hno3 : ¬ (((0 ≤ x ∧ x < c 121) ∧ 0 ≤ w ∧ w < c 122) ∧ 0 ≤ z ∧ z ≤ 6) := fun z => hno z.1.2
      have hF9 := hFb
      have hT9 := hTb
      have h49 := h4b.trans (if_neg hno)
      refine R_iconst hC dX12_held_36 ⟨by decide, by decide⟩ ?_
      exact R_ireturn hC dX12_held_37 rfl (ret_P ⟨hF9, hT9, by (rw [if_neg hno3]; exact h49), fun z => by (rw [if_neg hno3] at z; cases z)⟩)
    · skip
      have hokW := rt_y h4b hvb hb18
      refine R_aload_0 hC dX12_held_21 ?_
      refine R_iload_3 hC dX12_held_22 ?_
      refine R_iconst hC dX12_held_23 ⟨by decide, by decide⟩ ?_
      refine R_bipush hC dX12_held_24 (by decide +kernel) ⟨by decide, by decide⟩ ?_
      refine R_callSq (as := [vI _, vI _, vI _]) hC dX12_held_26 mo_12_within ml_12_235 (c12_within  ) rfl rfl hRm (by decide) (by decide) (Nat.le_of_ble_eq_true rfl) ?_
      refine R_iconst hC dX12_held_29 ⟨by decide, by decide⟩ ?_
      refine R_callVp (as := [vI _, vI _]) hC dX12_held_30 mo_12_right ml_12_269 (by decide) rfl rfl (c12_right  ) rfl rfl hRm (by decide) (by decide) (Nat.le_of_ble_eq_true rfl) (fun v13 Mc11 hq12 => ?_)
      have hFc : Fr [58, 63, 64, 65, 66, 67, 68, 69, 70, 71, 72, 77, 78, 79, 80] [(57, 4), (57, 22), (57, 23), (57, 30), (57, 47), (57, 48), (57, 49), (57, 52), (57, 53), (57, 54)] M Mc11 := Fr.tt hFb (hq12.1.mo (by simp) (by simp))
      have hTc : TRo M Mc11 := TRo.tr hTb (TRo.of hq12.1 (by decide) (by decide))
      have h4c := rt_d hq12.2.1 (h4b.trans (if_pos hokW))
      have hvc := hq12.2.2
      refine R_if_ne hC dX12_held_33 (tgt := 38) (by decide) (fun hb33 => ?_) (fun hb33 => ?_)
      · skip
        have hokZ := rt_y h4c hvc hb33
        have hok3 : ((0 ≤ x ∧ x < c 121) ∧ 0 ≤ w ∧ w < c 122) ∧ 0 ≤ z ∧ z ≤ 6 := ⟨⟨hokL, hokW⟩, hokZ⟩
        have h4q := h4c.trans (if_pos hokZ)
        refine R_iload_3 hC dX12_held_38 ?_
        by_cases hsw : z < 0 ∨ 5 < z
        · skip
          refine R_tableOut hC dX12_held_39 hsw (tgt := 179) (by decide) ?_
          refine R_aload_0 hC dX12_held_179 ?_
          refine R_iconst hC dX12_held_180 ⟨by decide, by decide⟩ ?_
          refine R_iload_1 hC dX12_held_181 ?_
          refine R_iload_2 hC dX12_held_182 ?_
          have hG14 : GR Mc11 := (GR.fr (GR.fr hG6 hq9.1 (by decide +kernel)) hq12.1 (by decide +kernel))
          have hk15 : RW Mc11 0 c := (RW.fr (RW.fr hk7 hq9.1 (by decide +kernel)) hq12.1 (by decide +kernel))
          refine R_callVq (as := [vI _, vI _, vI _]) hC dX12_held_183 mo_12_why ml_12_406 (by decide) rfl rfl (c12_why  hG14 hk15 (by omega) (by omega) hM (by omega) (by omega) (by omega) (by omega)) rfl rfl hRm (by decide) (by decide) (Nat.le_of_ble_eq_true rfl) ?_
          exact R_ireturn hC dX12_held_186 rfl (ret_P ⟨hFc, hTc, by (rw [if_pos hok3]; exact h4q), fun _ => by
              refine ⟨?_, ?_, ?_, ?_, ?_, ?_, ?_⟩ <;> intro h <;> first | exact absurd h (by decide) | exact absurd h (by omega) | exact rfl⟩)
        have hsw2 : z = 0 ∨ z = 1 ∨ z = 2 ∨ z = 3 ∨ z = 4 ∨ z = 5 := by omega
        rcases hsw2 with hsw2 | hsw2 | hsw2 | hsw2 | hsw2 | hsw2
        · skip
          subst hsw2
          refine R_tableIn hC dX12_held_39 (off := 37) (by omega) (by omega) rfl (tgt := 76) (by decide) ?_
          refine R_aload_0 hC dX12_held_76 ?_
          refine R_iconst hC dX12_held_77 ⟨by decide, by decide⟩ ?_
          refine R_iload_1 hC dX12_held_78 ?_
          refine R_iload_2 hC dX12_held_79 ?_
          have hG16 : GR Mc11 := (GR.fr (GR.fr hG6 hq9.1 (by decide +kernel)) hq12.1 (by decide +kernel))
          have hk17 : RW Mc11 0 c := (RW.fr (RW.fr hk7 hq9.1 (by decide +kernel)) hq12.1 (by decide +kernel))
          refine R_callVq (as := [vI _, vI _, vI _]) hC dX12_held_80 mo_12_holds ml_12_95 (by decide) rfl rfl (c12_holds  hG16 hk17 (by omega) (by omega) (by omega) (by omega) (by omega) (by omega)) rfl rfl hRm (by decide) (by decide) (Nat.le_of_ble_eq_true rfl) ?_
          exact R_ireturn hC dX12_held_83 rfl (ret_P ⟨hFc, hTc, by (rw [if_pos hok3]; exact h4q), fun _ => by
              refine ⟨?_, ?_, ?_, ?_, ?_, ?_, ?_⟩ <;> intro h <;> first | exact absurd h (by decide) | exact rfl⟩)
        · skip
          subst hsw2
          refine R_tableIn hC dX12_held_39 (off := 45) (by omega) (by omega) rfl (tgt := 84) (by decide) ?_
          refine R_aload_0 hC dX12_held_84 ?_
          have hG18 : GR Mc11 := (GR.fr (GR.fr hG6 hq9.1 (by decide +kernel)) hq12.1 (by decide +kernel))
          refine R_getR hC dX12_held_85 fl_12_9 (by decide) rfl (by decide) (by decide) (fi := 0) rfl (r := 58) (gr_57_0 hG18) ?_
          refine R_bipush hC dX12_held_88 (by decide +kernel) ⟨by decide, by decide⟩ ?_
          refine R_iload_1 hC dX12_held_90 ?_
          refine R_iload_2 hC dX12_held_91 ?_
          refine R_callSq (as := [vI _, vI _]) hC dX12_held_92 mo_12_cell ml_12_87 (c12_cell  (by omega) (by omega) (by omega) (by omega)) rfl rfl hRm (by decide) (by decide) (Nat.le_of_ble_eq_true rfl) ?_
          refine R_iadd hC dX12_held_95 ⟨by omega, by omega⟩ ?_
          have hk19 : RW Mc11 0 c := (RW.fr (RW.fr hk7 hq9.1 (by decide +kernel)) hq12.1 (by decide +kernel))
          refine R_ialoadE hC dX12_held_96 (by decide) rfl (by omega) (by omega) (hk19.r4 (k := 58 + x * 6 + w) (by omega) (by omega) (by omega)) ?_
          exact R_ireturn hC dX12_held_97 rfl (ret_P ⟨hFc, hTc, by (rw [if_pos hok3]; exact h4q), fun _ => by
              refine ⟨?_, ?_, ?_, ?_, ?_, ?_, ?_⟩ <;> intro h <;> first | exact absurd h (by decide) | exact rfl⟩)
        · skip
          subst hsw2
          refine R_tableIn hC dX12_held_39 (off := 59) (by omega) (by omega) rfl (tgt := 98) (by decide) ?_
          refine R_aload_0 hC dX12_held_98 ?_
          have hG20 : GR Mc11 := (GR.fr (GR.fr hG6 hq9.1 (by decide +kernel)) hq12.1 (by decide +kernel))
          refine R_getR hC dX12_held_99 fl_12_9 (by decide) rfl (by decide) (by decide) (fi := 0) rfl (r := 58) (gr_57_0 hG20) ?_
          refine R_bipush hC dX12_held_102 (by decide +kernel) ⟨by decide, by decide⟩ ?_
          refine R_iload_1 hC dX12_held_104 ?_
          refine R_iload_2 hC dX12_held_105 ?_
          refine R_callSq (as := [vI _, vI _]) hC dX12_held_106 mo_12_cell ml_12_87 (c12_cell  (by omega) (by omega) (by omega) (by omega)) rfl rfl hRm (by decide) (by decide) (Nat.le_of_ble_eq_true rfl) ?_
          refine R_iadd hC dX12_held_109 ⟨by omega, by omega⟩ ?_
          have hk21 : RW Mc11 0 c := (RW.fr (RW.fr hk7 hq9.1 (by decide +kernel)) hq12.1 (by decide +kernel))
          refine R_ialoadE hC dX12_held_110 (by decide) rfl (by omega) (by omega) (hk21.r4 (k := 58 + x * 6 + w) (by omega) (by omega) (by omega)) ?_
          refine R_if_ne hC dX12_held_111 (tgt := 118) (by decide) (fun hb111 => ?_) (fun hb111 => ?_)
          · skip
            refine R_aload_0 hC dX12_held_118 ?_
            refine R_getR hC dX12_held_119 fl_12_9 (by decide) rfl (by decide) (by decide) (fi := 0) rfl (r := 58) (gr_57_0 hG20) ?_
            refine R_bipush hC dX12_held_122 (by decide +kernel) ⟨by decide, by decide⟩ ?_
            refine R_iload_1 hC dX12_held_124 ?_
            refine R_iload_2 hC dX12_held_125 ?_
            refine R_callSq (as := [vI _, vI _]) hC dX12_held_126 mo_12_cell ml_12_87 (c12_cell  (by omega) (by omega) (by omega) (by omega)) rfl rfl hRm (by decide) (by decide) (Nat.le_of_ble_eq_true rfl) ?_
            refine R_iadd hC dX12_held_129 ⟨by omega, by omega⟩ ?_
            refine R_ialoadE hC dX12_held_130 (by decide) rfl (by omega) (by omega) (hk21.r4 (k := 88 + x * 6 + w) (by omega) (by omega) (by omega)) ?_
            exact R_ireturn hC dX12_held_131 rfl (ret_P ⟨hFc, hTc, by (rw [if_pos hok3]; exact h4q), fun _ => by
                refine ⟨?_, ?_, ?_, ?_, ?_, ?_, ?_⟩ <;> intro h <;> first | exact absurd h (by decide) | exact (if_pos hb111).symm | exact (if_neg hb111).symm⟩)
          · skip
            refine R_iconst hC dX12_held_114 ⟨by decide, by decide⟩ ?_
            refine R_goto hC dX12_held_115 (tgt := 131) (by decide) ?_
            exact R_ireturn hC dX12_held_131 rfl (ret_P ⟨hFc, hTc, by (rw [if_pos hok3]; exact h4q), fun _ => by
                refine ⟨?_, ?_, ?_, ?_, ?_, ?_, ?_⟩ <;> intro h <;> first | exact absurd h (by decide) | exact (if_pos hb111).symm | exact (if_neg hb111).symm⟩)
        · skip
          subst hsw2
          refine R_tableIn hC dX12_held_39 (off := 93) (by omega) (by omega) rfl (tgt := 132) (by decide) ?_
          refine R_aload_0 hC dX12_held_132 ?_
          refine R_iconst hC dX12_held_133 ⟨by decide, by decide⟩ ?_
          refine R_iload_1 hC dX12_held_134 ?_
          refine R_iload_2 hC dX12_held_135 ?_
          have hG22 : GR Mc11 := (GR.fr (GR.fr hG6 hq9.1 (by decide +kernel)) hq12.1 (by decide +kernel))
          have hk23 : RW Mc11 0 c := (RW.fr (RW.fr hk7 hq9.1 (by decide +kernel)) hq12.1 (by decide +kernel))
          refine R_callVq (as := [vI _, vI _, vI _]) hC dX12_held_136 mo_12_counts ml_12_91 (by decide) rfl rfl (c12_counts  hG22 hk23 (by omega) (by omega) (by omega) (by omega) (by omega) (by omega)) rfl rfl hRm (by decide) (by decide) (Nat.le_of_ble_eq_true rfl) ?_
          refine R_if_eq hC dX12_held_139 (tgt := 146) (by decide) (fun hb139 => ?_) (fun hb139 => ?_)
          · skip
            replace hb139 := bP_z hb139
            refine R_iconst hC dX12_held_146 ⟨by decide, by decide⟩ ?_
            exact R_ireturn hC dX12_held_147 rfl (ret_P ⟨hFc, hTc, by (rw [if_pos hok3]; exact h4q), fun _ => by
                refine ⟨?_, ?_, ?_, ?_, ?_, ?_, ?_⟩ <;> intro h <;> first | exact absurd h (by decide) | exact (bP_pos hb139).symm | exact (bP_neg hb139).symm⟩)
          · skip
            replace hb139 := bP_nz hb139
            refine R_iconst hC dX12_held_142 ⟨by decide, by decide⟩ ?_
            refine R_goto hC dX12_held_143 (tgt := 147) (by decide) ?_
            exact R_ireturn hC dX12_held_147 rfl (ret_P ⟨hFc, hTc, by (rw [if_pos hok3]; exact h4q), fun _ => by
                refine ⟨?_, ?_, ?_, ?_, ?_, ?_, ?_⟩ <;> intro h <;> first | exact absurd h (by decide) | exact (bP_pos hb139).symm | exact (bP_neg hb139).symm⟩)
        · skip
          subst hsw2
          refine R_tableIn hC dX12_held_39 (off := 109) (by omega) (by omega) rfl (tgt := 148) (by decide) ?_
          refine R_aload_0 hC dX12_held_148 ?_
          refine R_iconst hC dX12_held_149 ⟨by decide, by decide⟩ ?_
          refine R_iload_1 hC dX12_held_150 ?_
          refine R_iload_2 hC dX12_held_151 ?_
          have hG24 : GR Mc11 := (GR.fr (GR.fr hG6 hq9.1 (by decide +kernel)) hq12.1 (by decide +kernel))
          have hk25 : RW Mc11 0 c := (RW.fr (RW.fr hk7 hq9.1 (by decide +kernel)) hq12.1 (by decide +kernel))
          refine R_callVq (as := [vI _, vI _, vI _]) hC dX12_held_152 mo_12_offerOf ml_12_117 (by decide) rfl rfl (c12_offerOf  hG24 hk25 (by omega) (by omega) (by omega) (by omega) (by omega) (by omega) hM) rfl rfl hRm (by decide) (by decide) (Nat.le_of_ble_eq_true rfl) ?_
          have e152_26 := (hM).off (x := x) (w := w) (by omega) (by omega) (by omega) (by omega)
          exact R_ireturn hC dX12_held_155 rfl (ret_P ⟨hFc, hTc, by (rw [if_pos hok3]; exact h4q), fun _ => by
              refine ⟨?_, ?_, ?_, ?_, ?_, ?_, ?_⟩ <;> intro h <;> first | exact absurd h (by decide) | exact rfl⟩)
        · skip
          subst hsw2
          refine R_tableIn hC dX12_held_39 (off := 117) (by omega) (by omega) rfl (tgt := 156) (by decide) ?_
          refine R_aload_0 hC dX12_held_156 ?_
          refine R_iconst hC dX12_held_157 ⟨by decide, by decide⟩ ?_
          have hG27 : GR Mc11 := (GR.fr (GR.fr hG6 hq9.1 (by decide +kernel)) hq12.1 (by decide +kernel))
          have hk28 : RW Mc11 0 c := (RW.fr (RW.fr hk7 hq9.1 (by decide +kernel)) hq12.1 (by decide +kernel))
          refine R_callVp (as := [vI _]) hC dX12_held_158 mo_12_plans ml_12_190 (by decide) rfl rfl (c12_plans  hG27 hk28 (by omega) (by omega) hM) rfl rfl hRm (by decide) (by decide) (Nat.le_of_ble_eq_true rfl) (fun v31 Mc29 hq30 => ?_)
          have hFl : Fr [58, 63, 64, 65, 66, 67, 68, 69, 70, 71, 72, 77, 78, 79, 80] [(57, 4), (57, 22), (57, 23), (57, 30), (57, 47), (57, 48), (57, 49), (57, 52), (57, 53), (57, 54)] M Mc29 := Fr.tt hFc (hq30.1.mo (by simp) (by simp))
          have hTl : TRo M Mc29 := TRo.tr hTc (TRo.of hq30.1 (by decide) (by decide))
          have h4l : Mc29 57 4 = 0 := (hq30.1 57 4 (by decide) (by simp)).trans h4q
          refine R_if_eq hC dX12_held_161 (tgt := 177) (by decide) (fun hb161 => ?_) (fun hb161 => ?_)
          · skip
            refine R_iconst hC dX12_held_177 ⟨by decide, by decide⟩ ?_
            exact R_ireturn hC dX12_held_178 rfl (ret_P ⟨hFl, hTl, by (rw [if_pos hok3]; exact h4l), fun _ => by
                refine ⟨?_, ?_, ?_, ?_, ?_, ?_, ?_⟩ <;> intro h <;> first | exact absurd h (by decide) | exact (itc_t (bP_nz (fun z => hb161 (hq30.2.1.trans z)))).symm | exact (itc_f (bP_z (hq30.2.1.symm.trans hb161))).symm⟩)
          · skip
            refine R_aload_0 hC dX12_held_164 ?_
            have hG32 : GR Mc29 := (GR.fr hG27 hq30.1 (by decide +kernel))
            refine R_getR hC dX12_held_165 fl_12_56 (by decide) rfl (by decide) (by decide) (fi := 29) rfl (r := 72) (gr_57_29 hG32) ?_
            refine R_iload_1 hC dX12_held_168 ?_
            refine R_iload_2 hC dX12_held_169 ?_
            refine R_callSq (as := [vI _, vI _]) hC dX12_held_170 mo_12_cell ml_12_87 (c12_cell  (by omega) (by omega) (by omega) (by omega)) rfl rfl hRm (by decide) (by decide) (Nat.le_of_ble_eq_true rfl) ?_
            refine R_ialoadE hC dX12_held_173 (by decide) rfl (by omega) (by omega) (hq30.2.2 _ (by omega) (by omega)) ?_
            refine R_goto hC dX12_held_174 (tgt := 178) (by decide) ?_
            exact R_ireturn hC dX12_held_178 rfl (ret_P ⟨hFl, hTl, by (rw [if_pos hok3]; exact h4l), fun _ => by
                refine ⟨?_, ?_, ?_, ?_, ?_, ?_, ?_⟩ <;> intro h <;> first | exact absurd h (by decide) | exact (itc_t (bP_nz (fun z => hb161 (hq30.2.1.trans z)))).symm | exact (itc_f (bP_z (hq30.2.1.symm.trans hb161))).symm⟩)
      · skip
        have hno := rt_n h4c hvc hb33
        have hno3 : ¬ (((0 ≤ x ∧ x < c 121) ∧ 0 ≤ w ∧ w < c 122) ∧ 0 ≤ z ∧ z ≤ 6) := fun z => hno z.2
        have hF9 := hFc
        have hT9 := hTc
        have h49 := h4c.trans (if_neg hno)
        refine R_iconst hC dX12_held_36 ⟨by decide, by decide⟩ ?_
        exact R_ireturn hC dX12_held_37 rfl (ret_P ⟨hF9, hT9, by (rw [if_neg hno3]; exact h49), fun z => by (rw [if_neg hno3] at z; cases z)⟩)
theorem dX12_lack_0 : decode cX12_lack 0 = .ok (.aload_n 0, 1) := by decide +kernel
theorem dX12_lack_1 : decode cX12_lack 1 = .ok (.iconst 0, 1) := by decide +kernel
theorem dX12_lack_2 : decode cX12_lack 2 = .ok (.putfield 84, 3) := by decide +kernel
theorem dX12_lack_5 : decode cX12_lack 5 = .ok (.aload_n 0, 1) := by decide +kernel
theorem dX12_lack_6 : decode cX12_lack 6 = .ok (.iload_n 1, 1) := by decide +kernel
theorem dX12_lack_7 : decode cX12_lack 7 = .ok (.iconst 0, 1) := by decide +kernel
theorem dX12_lack_8 : decode cX12_lack 8 = .ok (.iconst 1, 1) := by decide +kernel
theorem dX12_lack_9 : decode cX12_lack 9 = .ok (.aload_n 0, 1) := by decide +kernel
theorem dX12_lack_10 : decode cX12_lack 10 = .ok (.getfield 105, 3) := by decide +kernel
theorem dX12_lack_13 : decode cX12_lack 13 = .ok (.ishl, 1) := by decide +kernel
theorem dX12_lack_14 : decode cX12_lack 14 = .ok (.iconst 1, 1) := by decide +kernel
theorem dX12_lack_15 : decode cX12_lack 15 = .ok (.isub, 1) := by decide +kernel
theorem dX12_lack_16 : decode cX12_lack 16 = .ok (.invokestatic 235, 3) := by decide +kernel
theorem dX12_lack_19 : decode cX12_lack 19 = .ok (.iconst 1, 1) := by decide +kernel
theorem dX12_lack_20 : decode cX12_lack 20 = .ok (.invokevirtual 269, 3) := by decide +kernel
theorem dX12_lack_23 : decode cX12_lack 23 = .ok (.ifCond .ne 5, 3) := by decide +kernel
theorem dX12_lack_26 : decode cX12_lack 26 = .ok (.iconst 0, 1) := by decide +kernel
theorem dX12_lack_27 : decode cX12_lack 27 = .ok (.ireturn, 1) := by decide +kernel
theorem dX12_lack_28 : decode cX12_lack 28 = .ok (.aload_n 0, 1) := by decide +kernel
theorem dX12_lack_29 : decode cX12_lack 29 = .ok (.iconst 0, 1) := by decide +kernel
theorem dX12_lack_30 : decode cX12_lack 30 = .ok (.iconst (-1), 1) := by decide +kernel
theorem dX12_lack_31 : decode cX12_lack 31 = .ok (.invokevirtual 145, 3) := by decide +kernel
theorem dX12_lack_34 : decode cX12_lack 34 = .ok (.aload_n 0, 1) := by decide +kernel
theorem dX12_lack_35 : decode cX12_lack 35 = .ok (.iload_n 1, 1) := by decide +kernel
theorem dX12_lack_36 : decode cX12_lack 36 = .ok (.invokevirtual 135, 3) := by decide +kernel
theorem dX12_lack_39 : decode cX12_lack 39 = .ok (.ireturn, 1) := by decide +kernel
set_option maxHeartbeats 2000000 in
theorem c12_lack {G : Gl} {l : Launch}  {M : Mem} {c : Int → Int} {w : Int} {b : Int → Int} (hG : GR M) (hK : RW M 0 c) (hS : SP c) : Ct G LY 82 l 5 m12_lack [vR 57, vI w] M (RP (fun v M' => Fr [58, 63, 64, 65, 66, 67, 68, 69, 70, 71, 72, 77, 78, 79, 80] [(57, 4), (57, 22), (57, 23), (57, 30), (57, 47), (57, 48), (57, 49), (57, 52), (57, 53), (57, 54)] M M' ∧ TRo M M' ∧ M' 57 4 = (if 0 ≤ w ∧ w ≤ 2 ^ (c 121).toNat - 1 then (0 : Int) else 1) ∧ ((if 0 ≤ w ∧ w ≤ 2 ^ (c 121).toNat - 1 then (0 : Int) else 1) = 0 → v = lackI (insOf c) w))) := by
  refine R_start (by decide +kernel) (Nat.le_of_ble_eq_true rfl) (fun C hC hRm hlau => ?_)
  show RZ G LY C (Zn G LY 82 C (RP (fun v M' => Fr [58, 63, 64, 65, 66, 67, 68, 69, 70, 71, 72, 77, 78, 79, 80] [(57, 4), (57, 22), (57, 23), (57, 30), (57, 47), (57, 48), (57, 49), (57, 52), (57, 53), (57, 54)] M M' ∧ TRo M M' ∧ M' 57 4 = (if 0 ≤ w ∧ w ≤ 2 ^ (c 121).toNat - 1 then (0 : Int) else 1) ∧ ((if 0 ≤ w ∧ w ≤ 2 ^ (c 121).toNat - 1 then (0 : Int) else 1) = 0 → v = lackI (insOf c) w)))) 0 0 82 0 [some (vR 57), some (vI w)] [] M
  have hM := hS.m
  have hI := hM.I
  have hL := hM.1.1
  have hW := hM.1.2
  have hpw := pw_le6 hL.1 hL.2
  refine R_aload_0 hC dX12_lack_0 ?_
  refine R_iconst hC dX12_lack_1 ⟨by decide, by decide⟩ ?_
  refine R_putI hC dX12_lack_2 fl_12_84 (by decide) rfl (by decide) (by decide) (fi := 4) rfl ?_
  refine R_aload_0 hC dX12_lack_5 ?_
  refine R_iload_1 hC dX12_lack_6 ?_
  refine R_iconst hC dX12_lack_7 ⟨by decide, by decide⟩ ?_
  refine R_iconst hC dX12_lack_8 ⟨by decide, by decide⟩ ?_
  refine R_aload_0 hC dX12_lack_9 ?_
  have hk1 : RW (uM M 57 4 0) 0 c := (RW.uf hK (by decide))
  refine R_getIE hC dX12_lack_10 fl_12_105 (by decide) rfl (by decide) (by decide) (fi := 5) rfl hk1.l ?_
  refine R_shl1 hC dX12_lack_13 (by omega) (by omega) ?_
  refine R_iconst hC dX12_lack_14 ⟨by decide, by decide⟩ ?_
  refine R_isub hC dX12_lack_15 ⟨by omega, by omega⟩ ?_
  refine R_callSq (as := [vI _, vI _, vI _]) hC dX12_lack_16 mo_12_within ml_12_235 (c12_within  ) rfl rfl hRm (by decide) (by decide) (Nat.le_of_ble_eq_true rfl) ?_
  refine R_iconst hC dX12_lack_19 ⟨by decide, by decide⟩ ?_
  have hFz : Fr [58, 63, 64, 65, 66, 67, 68, 69, 70, 71, 72, 77, 78, 79, 80] [(57, 4), (57, 22), (57, 23), (57, 30), (57, 47), (57, 48), (57, 49), (57, 52), (57, 53), (57, 54)] M (uM M 57 4 0) := Fr.uB Fr.rf (by decide)
  have hTz : TRo M (uM M 57 4 0) := TRo.rf.h (by decide)
  refine R_callVp (as := [vI _, vI _]) hC dX12_lack_20 mo_12_right ml_12_269 (by decide) rfl rfl (c12_right  ) rfl rfl hRm (by decide) (by decide) (Nat.le_of_ble_eq_true rfl) (fun v4 Mc2 hq3 => ?_)
  have hFa : Fr [58, 63, 64, 65, 66, 67, 68, 69, 70, 71, 72, 77, 78, 79, 80] [(57, 4), (57, 22), (57, 23), (57, 30), (57, 47), (57, 48), (57, 49), (57, 52), (57, 53), (57, 54)] M Mc2 := Fr.tt hFz (hq3.1.mo (by simp) (by simp))
  have hTa : TRo M Mc2 := TRo.tr hTz (TRo.of hq3.1 (by decide) (by decide))
  have h4a := rt_d hq3.2.1 uM_same
  have hva := hq3.2.2
  refine R_if_ne hC dX12_lack_23 (tgt := 28) (by decide) (fun hb23 => ?_) (fun hb23 => ?_)
  · skip
    have hok := rt_y h4a hva hb23
    refine R_aload_0 hC dX12_lack_28 ?_
    refine R_iconst hC dX12_lack_29 ⟨by decide, by decide⟩ ?_
    refine R_iconst hC dX12_lack_30 ⟨by decide, by decide⟩ ?_
    have hG5 : GR Mc2 := (GR.fr (GR.uF hG (by decide +kernel) (by decide)) hq3.1 (by decide +kernel))
    have hk6 : RW Mc2 0 c := (RW.fr hk1 hq3.1 (by decide +kernel))
    refine R_callVv (as := [vI _, vI _]) hC dX12_lack_31 mo_12_asks ml_12_145 (by decide) rfl rfl (c12_asks  hG5 hk6 (by omega) (by omega) hM) rfl rfl hRm (by decide) (by decide) (Nat.le_of_ble_eq_true rfl) (fun Mc7 hq8 => ?_)
    have hFs : Fr [58, 63, 64, 65, 66, 67, 68, 69, 70, 71, 72, 77, 78, 79, 80] [(57, 4), (57, 22), (57, 23), (57, 30), (57, 47), (57, 48), (57, 49), (57, 52), (57, 53), (57, 54)] M Mc7 := Fr.tt hFa (hq8.1.mo (by simp) (by simp))
    have hTs : TRo M Mc7 := TRo.tr hTa (TRo.of hq8.1 (by decide) (by decide))
    have h4s : Mc7 57 4 = 0 := (hq8.1 57 4 (by decide) (by simp)).trans (h4a.trans (if_pos hok))
    refine R_aload_0 hC dX12_lack_34 ?_
    refine R_iload_1 hC dX12_lack_35 ?_
    have hG9 : GR Mc7 := (GR.fr hG5 hq8.1 (by decide +kernel))
    have hk10 : MA Mc7 (insOf c) := (hq8.2.q (apI_n (by decide)))
    refine R_callVq (as := [vI _]) hC dX12_lack_36 mo_12_lackOf ml_12_135 (by decide) rfl rfl (c12_lackOf  hG9 hk10 hI (by omega) (by (show w < 2 ^ (c 121).toNat; omega))) rfl rfl hRm (by decide) (by decide) (Nat.le_of_ble_eq_true rfl) ?_
    have e36_11 := IB.lk hI (t := w) (by omega) (by (show w < 2 ^ (c 121).toNat; omega))
    exact R_ireturn hC dX12_lack_39 rfl (ret_P ⟨hFs, hTs, by (rw [if_pos hok]; exact h4s), fun _ => rfl⟩)
  · skip
    have hno := rt_n h4a hva hb23
    refine R_iconst hC dX12_lack_26 ⟨by decide, by decide⟩ ?_
    exact R_ireturn hC dX12_lack_27 rfl (ret_P ⟨hFa, hTa, h4a, fun z => by (rw [if_neg hno] at z; cases z)⟩)
theorem dX12_order_0 : decode cX12_order 0 = .ok (.aload_n 0, 1) := by decide +kernel
theorem dX12_order_1 : decode cX12_order 1 = .ok (.iconst 0, 1) := by decide +kernel
theorem dX12_order_2 : decode cX12_order 2 = .ok (.putfield 84, 3) := by decide +kernel
theorem dX12_order_5 : decode cX12_order 5 = .ok (.aload_n 0, 1) := by decide +kernel
theorem dX12_order_6 : decode cX12_order 6 = .ok (.invokevirtual 369, 3) := by decide +kernel
theorem dX12_order_9 : decode cX12_order 9 = .ok (.iload_n 1, 1) := by decide +kernel
theorem dX12_order_10 : decode cX12_order 10 = .ok (.iconst (-1), 1) := by decide +kernel
theorem dX12_order_11 : decode cX12_order 11 = .ok (.if_icmp .ne 8, 3) := by decide +kernel
theorem dX12_order_14 : decode cX12_order 14 = .ok (.aload_n 0, 1) := by decide +kernel
theorem dX12_order_15 : decode cX12_order 15 = .ok (.getfield 323, 3) := by decide +kernel
theorem dX12_order_18 : decode cX12_order 18 = .ok (.ireturn, 1) := by decide +kernel
theorem dX12_order_19 : decode cX12_order 19 = .ok (.aload_n 0, 1) := by decide +kernel
theorem dX12_order_20 : decode cX12_order 20 = .ok (.iload_n 1, 1) := by decide +kernel
theorem dX12_order_21 : decode cX12_order 21 = .ok (.iconst 0, 1) := by decide +kernel
theorem dX12_order_22 : decode cX12_order 22 = .ok (.aload_n 0, 1) := by decide +kernel
theorem dX12_order_23 : decode cX12_order 23 = .ok (.getfield 105, 3) := by decide +kernel
theorem dX12_order_26 : decode cX12_order 26 = .ok (.iconst 1, 1) := by decide +kernel
theorem dX12_order_27 : decode cX12_order 27 = .ok (.isub, 1) := by decide +kernel
theorem dX12_order_28 : decode cX12_order 28 = .ok (.invokestatic 235, 3) := by decide +kernel
theorem dX12_order_31 : decode cX12_order 31 = .ok (.ifCond .eq 14, 3) := by decide +kernel
theorem dX12_order_34 : decode cX12_order 34 = .ok (.aload_n 0, 1) := by decide +kernel
theorem dX12_order_35 : decode cX12_order 35 = .ok (.getfield 323, 3) := by decide +kernel
theorem dX12_order_38 : decode cX12_order 38 = .ok (.ifCond .le 7, 3) := by decide +kernel
theorem dX12_order_41 : decode cX12_order 41 = .ok (.iconst 1, 1) := by decide +kernel
theorem dX12_order_42 : decode cX12_order 42 = .ok (.goto 4, 3) := by decide +kernel
theorem dX12_order_45 : decode cX12_order 45 = .ok (.iconst 0, 1) := by decide +kernel
theorem dX12_order_46 : decode cX12_order 46 = .ok (.iconst 1, 1) := by decide +kernel
theorem dX12_order_47 : decode cX12_order 47 = .ok (.invokevirtual 269, 3) := by decide +kernel
theorem dX12_order_50 : decode cX12_order 50 = .ok (.ifCond .eq 12, 3) := by decide +kernel
theorem dX12_order_53 : decode cX12_order 53 = .ok (.aload_n 0, 1) := by decide +kernel
theorem dX12_order_54 : decode cX12_order 54 = .ok (.getfield 75, 3) := by decide +kernel
theorem dX12_order_57 : decode cX12_order 57 = .ok (.iload_n 1, 1) := by decide +kernel
theorem dX12_order_58 : decode cX12_order 58 = .ok (.iaload, 1) := by decide +kernel
theorem dX12_order_59 : decode cX12_order 59 = .ok (.goto 4, 3) := by decide +kernel
theorem dX12_order_62 : decode cX12_order 62 = .ok (.iconst 0, 1) := by decide +kernel
theorem dX12_order_63 : decode cX12_order 63 = .ok (.ireturn, 1) := by decide +kernel
set_option maxHeartbeats 2000000 in
theorem c12_order {G : Gl} {l : Launch}  {M : Mem} {c : Int → Int} {w : Int} {b : Int → Int} (hG : GR M) (hK : RW M 0 c) (hS : SP c) (hb : RK (c 122) (fun w => c (10 + w)) b) : Ct G LY 82 l 7 m12_order [vR 57, vI w] M (RP (fun v M' => Fr [58, 63, 64, 65, 66, 67, 68, 69, 70, 71, 72, 77, 78, 79, 80] [(57, 4), (57, 22), (57, 23), (57, 30), (57, 47), (57, 48), (57, 49), (57, 52), (57, 53), (57, 54)] M M' ∧ TRo M M' ∧ M' 57 4 = (if w = -1 ∨ ((0 ≤ w ∧ w ≤ c 121 - 1) ∧ 0 < (ordF (insOf c) b ((5 : Int) ^ (c 121).toNat).toNat).1) then (0 : Int) else 1) ∧ ((if w = -1 ∨ ((0 ≤ w ∧ w ≤ c 121 - 1) ∧ 0 < (ordF (insOf c) b ((5 : Int) ^ (c 121).toNat).toNat).1) then (0 : Int) else 1) = 0 → (w = -1 → v = (ordF (insOf c) b ((5 : Int) ^ (c 121).toNat).toNat).1) ∧ (w ≠ -1 → v = (ordF (insOf c) b ((5 : Int) ^ (c 121).toNat).toNat).2.2 w)))) := by
  refine R_start (by decide +kernel) (Nat.le_of_ble_eq_true rfl) (fun C hC hRm hlau => ?_)
  show RZ G LY C (Zn G LY 82 C (RP (fun v M' => Fr [58, 63, 64, 65, 66, 67, 68, 69, 70, 71, 72, 77, 78, 79, 80] [(57, 4), (57, 22), (57, 23), (57, 30), (57, 47), (57, 48), (57, 49), (57, 52), (57, 53), (57, 54)] M M' ∧ TRo M M' ∧ M' 57 4 = (if w = -1 ∨ ((0 ≤ w ∧ w ≤ c 121 - 1) ∧ 0 < (ordF (insOf c) b ((5 : Int) ^ (c 121).toNat).toNat).1) then (0 : Int) else 1) ∧ ((if w = -1 ∨ ((0 ≤ w ∧ w ≤ c 121 - 1) ∧ 0 < (ordF (insOf c) b ((5 : Int) ^ (c 121).toNat).toNat).1) then (0 : Int) else 1) = 0 → (w = -1 → v = (ordF (insOf c) b ((5 : Int) ^ (c 121).toNat).toNat).1) ∧ (w ≠ -1 → v = (ordF (insOf c) b ((5 : Int) ^ (c 121).toNat).toNat).2.2 w))))) 0 0 82 0 [some (vR 57), some (vI w)] [] M
  have hM := hS.m
  have hI := hM.I
  have hL := hM.1.1
  have hW := hM.1.2
  refine R_aload_0 hC dX12_order_0 ?_
  refine R_iconst hC dX12_order_1 ⟨by decide, by decide⟩ ?_
  refine R_putI hC dX12_order_2 fl_12_84 (by decide) rfl (by decide) (by decide) (fi := 4) rfl ?_
  refine R_aload_0 hC dX12_order_5 ?_
  have hFz : Fr [58, 63, 64, 65, 66, 67, 68, 69, 70, 71, 72, 77, 78, 79, 80] [(57, 4), (57, 22), (57, 23), (57, 30), (57, 47), (57, 48), (57, 49), (57, 52), (57, 53), (57, 54)] M (uM M 57 4 0) := Fr.uB Fr.rf (by decide)
  have hTz : TRo M (uM M 57 4 0) := TRo.rf.h (by decide)
  have hG1 : GR (uM M 57 4 0) := (GR.uF hG (by decide +kernel) (by decide))
  have hk2 : RW (uM M 57 4 0) 0 c := (RW.uf hK (by decide))
  refine R_callVv (as := []) hC dX12_order_6 mo_12_laysOrders ml_12_369 (by decide) rfl rfl (c12_laysOrders (b := b) hG1 hk2 hS hb) rfl rfl hRm (by decide) (by decide) (Nat.le_of_ble_eq_true rfl) (fun Mc3 hq4 => ?_)
  have hFo : Fr [58, 63, 64, 65, 66, 67, 68, 69, 70, 71, 72, 77, 78, 79, 80] [(57, 4), (57, 22), (57, 23), (57, 30), (57, 47), (57, 48), (57, 49), (57, 52), (57, 53), (57, 54)] M Mc3 := Fr.tt hFz (hq4.1.mo (by simp) (by simp))
  have hTo : TRo M Mc3 := TRo.tr hTz (TRo.of hq4.1 (by decide) (by decide))
  have h4o : Mc3 57 4 = 0 := (hq4.1 57 4 (by decide) (by simp)).trans uM_same
  have h48 := hq4.2.1
  have h78 := hq4.2.2.2
  refine R_iload_1 hC dX12_order_9 ?_
  refine R_iconst hC dX12_order_10 ⟨by decide, by decide⟩ ?_
  refine R_icmp_ne hC dX12_order_11 (tgt := 19) (by decide) (fun hb11 => ?_) (fun hb11 => ?_)
  · skip
    refine R_aload_0 hC dX12_order_19 ?_
    refine R_iload_1 hC dX12_order_20 ?_
    refine R_iconst hC dX12_order_21 ⟨by decide, by decide⟩ ?_
    refine R_aload_0 hC dX12_order_22 ?_
    have hk5 : RW Mc3 0 c := (RW.fr hk2 hq4.1 (by decide +kernel))
    refine R_getIE hC dX12_order_23 fl_12_105 (by decide) rfl (by decide) (by decide) (fi := 5) rfl hk5.l ?_
    refine R_iconst hC dX12_order_26 ⟨by decide, by decide⟩ ?_
    refine R_isub hC dX12_order_27 ⟨by omega, by omega⟩ ?_
    refine R_callSq (as := [vI _, vI _, vI _]) hC dX12_order_28 mo_12_within ml_12_235 (c12_within  ) rfl rfl hRm (by decide) (by decide) (Nat.le_of_ble_eq_true rfl) ?_
    refine R_if_eq hC dX12_order_31 (tgt := 45) (by decide) (fun hb31 => ?_) (fun hb31 => ?_)
    · skip
      replace hb31 := bP_z hb31
      have hbn : ¬ (0 ≤ w ∧ w ≤ c 121 - 1) := hb31
      refine R_iconst hC dX12_order_45 ⟨by decide, by decide⟩ ?_
      refine R_iconst hC dX12_order_46 ⟨by decide, by decide⟩ ?_
      refine R_callVp (as := [vI _, vI _]) hC dX12_order_47 mo_12_right ml_12_269 (by decide) rfl rfl (c12_right  ) rfl rfl hRm (by decide) (by decide) (Nat.le_of_ble_eq_true rfl) (fun v8 Mc6 hq7 => ?_)
      have hFa : Fr [58, 63, 64, 65, 66, 67, 68, 69, 70, 71, 72, 77, 78, 79, 80] [(57, 4), (57, 22), (57, 23), (57, 30), (57, 47), (57, 48), (57, 49), (57, 52), (57, 53), (57, 54)] M Mc6 := Fr.tt hFo (hq7.1.mo (by simp) (by simp))
      have hTa : TRo M Mc6 := TRo.tr hTo (TRo.of hq7.1 (by decide) (by decide))
      have h4a := hq7.2.1
      have hva := hq7.2.2
      refine R_if_eq hC dX12_order_50 (tgt := 62) (by decide) (fun hb50 => ?_) (fun hb50 => ?_)
      · skip
        refine R_iconst hC dX12_order_62 ⟨by decide, by decide⟩ ?_
        exact R_ireturn hC dX12_order_63 rfl (ret_P (by
            have hw1 : ¬ w = -1 := hb11
            first
              | exact ⟨hFa, hTa, by (rw [if_pos (.inr ⟨hbd, hpos⟩), h4a, if_neg (fun z => absurd z.2 (by decide))]; exact h4o), fun _ => ⟨fun z => absurd z hw1, fun _ => rfl⟩⟩
              | exact absurd (hva.trans (bP_pos (by rw [h4a, if_neg (fun z => absurd z.2 (by decide))]; exact h4o))) (by rw [hb50]; decide)
              | exact ⟨hFa, hTa, by (rw [if_neg (by omega), h4a, if_pos ⟨h4o, rfl⟩]), fun z => absurd z (by rw [if_neg (by omega)]; decide)⟩
              | exact absurd (hva.trans (bP_neg (by rw [h4a, if_pos ⟨h4o, rfl⟩]; decide))) hb50))
      · skip
        have hgd : (0 ≤ w ∧ w ≤ c 121 - 1) ∧ 0 < (ordF (insOf c) b ((5 : Int) ^ (c 121).toNat).toNat).1 := by first | exact ⟨hbd, hpos⟩ | exact absurd (hva.trans (bP_neg (by rw [h4a, if_pos ⟨h4o, rfl⟩]; decide))) hb50
        refine R_aload_0 hC dX12_order_53 ?_
        have hG9 : GR Mc6 := (GR.fr (GR.fr hG1 hq4.1 (by decide +kernel)) hq7.1 (by decide +kernel))
        refine R_getR hC dX12_order_54 fl_12_75 (by decide) rfl (by decide) (by decide) (fi := 46) rfl (r := 78) (gr_57_46 hG9) ?_
        refine R_iload_1 hC dX12_order_57 ?_
        refine R_ialoadE hC dX12_order_58 (by decide) rfl (by omega) (by omega) ((congrFun (hq7.1.row (by decide) (by decide)) w).trans (h78 hgd.2 w hgd.1.1 (by omega))) ?_
        refine R_goto hC dX12_order_59 (tgt := 63) (by decide) ?_
        exact R_ireturn hC dX12_order_63 rfl (ret_P (by
            have hw1 : ¬ w = -1 := hb11
            first
              | exact ⟨hFa, hTa, by (rw [if_pos (.inr ⟨hbd, hpos⟩), h4a, if_neg (fun z => absurd z.2 (by decide))]; exact h4o), fun _ => ⟨fun z => absurd z hw1, fun _ => rfl⟩⟩
              | exact absurd (hva.trans (bP_pos (by rw [h4a, if_neg (fun z => absurd z.2 (by decide))]; exact h4o))) (by rw [hb50]; decide)
              | exact ⟨hFa, hTa, by (rw [if_neg (by omega), h4a, if_pos ⟨h4o, rfl⟩]), fun z => absurd z (by rw [if_neg (by omega)]; decide)⟩
              | exact absurd (hva.trans (bP_neg (by rw [h4a, if_pos ⟨h4o, rfl⟩]; decide))) hb50))
    · skip
      replace hb31 := bP_nz hb31
      have hbd : 0 ≤ w ∧ w ≤ c 121 - 1 := hb31
      refine R_aload_0 hC dX12_order_34 ?_
      refine R_getIE hC dX12_order_35 fl_12_323 (by decide) rfl (by decide) (by decide) (fi := 48) rfl h48 ?_
      refine R_if_le hC dX12_order_38 (tgt := 45) (by decide) (fun hb38 => ?_) (fun hb38 => ?_)
      · skip
        have hbn : ¬ 0 < (ordF (insOf c) b ((5 : Int) ^ (c 121).toNat).toNat).1 := by omega
        refine R_iconst hC dX12_order_45 ⟨by decide, by decide⟩ ?_
        refine R_iconst hC dX12_order_46 ⟨by decide, by decide⟩ ?_
        refine R_callVp (as := [vI _, vI _]) hC dX12_order_47 mo_12_right ml_12_269 (by decide) rfl rfl (c12_right  ) rfl rfl hRm (by decide) (by decide) (Nat.le_of_ble_eq_true rfl) (fun v12 Mc10 hq11 => ?_)
        have hFa : Fr [58, 63, 64, 65, 66, 67, 68, 69, 70, 71, 72, 77, 78, 79, 80] [(57, 4), (57, 22), (57, 23), (57, 30), (57, 47), (57, 48), (57, 49), (57, 52), (57, 53), (57, 54)] M Mc10 := Fr.tt hFo (hq11.1.mo (by simp) (by simp))
        have hTa : TRo M Mc10 := TRo.tr hTo (TRo.of hq11.1 (by decide) (by decide))
        have h4a := hq11.2.1
        have hva := hq11.2.2
        refine R_if_eq hC dX12_order_50 (tgt := 62) (by decide) (fun hb50 => ?_) (fun hb50 => ?_)
        · skip
          refine R_iconst hC dX12_order_62 ⟨by decide, by decide⟩ ?_
          exact R_ireturn hC dX12_order_63 rfl (ret_P (by
              have hw1 : ¬ w = -1 := hb11
              first
                | exact ⟨hFa, hTa, by (rw [if_pos (.inr ⟨hbd, hpos⟩), h4a, if_neg (fun z => absurd z.2 (by decide))]; exact h4o), fun _ => ⟨fun z => absurd z hw1, fun _ => rfl⟩⟩
                | exact absurd (hva.trans (bP_pos (by rw [h4a, if_neg (fun z => absurd z.2 (by decide))]; exact h4o))) (by rw [hb50]; decide)
                | exact ⟨hFa, hTa, by (rw [if_neg (by omega), h4a, if_pos ⟨h4o, rfl⟩]), fun z => absurd z (by rw [if_neg (by omega)]; decide)⟩
                | exact absurd (hva.trans (bP_neg (by rw [h4a, if_pos ⟨h4o, rfl⟩]; decide))) hb50))
        · skip
          have hgd : (0 ≤ w ∧ w ≤ c 121 - 1) ∧ 0 < (ordF (insOf c) b ((5 : Int) ^ (c 121).toNat).toNat).1 := by first | exact ⟨hbd, hpos⟩ | exact absurd (hva.trans (bP_neg (by rw [h4a, if_pos ⟨h4o, rfl⟩]; decide))) hb50
          refine R_aload_0 hC dX12_order_53 ?_
          have hG13 : GR Mc10 := (GR.fr (GR.fr hG1 hq4.1 (by decide +kernel)) hq11.1 (by decide +kernel))
          refine R_getR hC dX12_order_54 fl_12_75 (by decide) rfl (by decide) (by decide) (fi := 46) rfl (r := 78) (gr_57_46 hG13) ?_
          refine R_iload_1 hC dX12_order_57 ?_
          refine R_ialoadE hC dX12_order_58 (by decide) rfl (by omega) (by omega) ((congrFun (hq11.1.row (by decide) (by decide)) w).trans (h78 hgd.2 w hgd.1.1 (by omega))) ?_
          refine R_goto hC dX12_order_59 (tgt := 63) (by decide) ?_
          exact R_ireturn hC dX12_order_63 rfl (ret_P (by
              have hw1 : ¬ w = -1 := hb11
              first
                | exact ⟨hFa, hTa, by (rw [if_pos (.inr ⟨hbd, hpos⟩), h4a, if_neg (fun z => absurd z.2 (by decide))]; exact h4o), fun _ => ⟨fun z => absurd z hw1, fun _ => rfl⟩⟩
                | exact absurd (hva.trans (bP_pos (by rw [h4a, if_neg (fun z => absurd z.2 (by decide))]; exact h4o))) (by rw [hb50]; decide)
                | exact ⟨hFa, hTa, by (rw [if_neg (by omega), h4a, if_pos ⟨h4o, rfl⟩]), fun z => absurd z (by rw [if_neg (by omega)]; decide)⟩
                | exact absurd (hva.trans (bP_neg (by rw [h4a, if_pos ⟨h4o, rfl⟩]; decide))) hb50))
      · skip
        have hpos : 0 < (ordF (insOf c) b ((5 : Int) ^ (c 121).toNat).toNat).1 := by omega
        refine R_iconst hC dX12_order_41 ⟨by decide, by decide⟩ ?_
        refine R_goto hC dX12_order_42 (tgt := 46) (by decide) ?_
        refine R_iconst hC dX12_order_46 ⟨by decide, by decide⟩ ?_
        refine R_callVp (as := [vI _, vI _]) hC dX12_order_47 mo_12_right ml_12_269 (by decide) rfl rfl (c12_right  ) rfl rfl hRm (by decide) (by decide) (Nat.le_of_ble_eq_true rfl) (fun v16 Mc14 hq15 => ?_)
        have hFa : Fr [58, 63, 64, 65, 66, 67, 68, 69, 70, 71, 72, 77, 78, 79, 80] [(57, 4), (57, 22), (57, 23), (57, 30), (57, 47), (57, 48), (57, 49), (57, 52), (57, 53), (57, 54)] M Mc14 := Fr.tt hFo (hq15.1.mo (by simp) (by simp))
        have hTa : TRo M Mc14 := TRo.tr hTo (TRo.of hq15.1 (by decide) (by decide))
        have h4a := hq15.2.1
        have hva := hq15.2.2
        refine R_if_eq hC dX12_order_50 (tgt := 62) (by decide) (fun hb50 => ?_) (fun hb50 => ?_)
        · skip
          refine R_iconst hC dX12_order_62 ⟨by decide, by decide⟩ ?_
          exact R_ireturn hC dX12_order_63 rfl (ret_P (by
              have hw1 : ¬ w = -1 := hb11
              first
                | exact ⟨hFa, hTa, by (rw [if_pos (.inr ⟨hbd, hpos⟩), h4a, if_neg (fun z => absurd z.2 (by decide))]; exact h4o), fun _ => ⟨fun z => absurd z hw1, fun _ => rfl⟩⟩
                | exact absurd (hva.trans (bP_pos (by rw [h4a, if_neg (fun z => absurd z.2 (by decide))]; exact h4o))) (by rw [hb50]; decide)
                | exact ⟨hFa, hTa, by (rw [if_neg (by omega), h4a, if_pos ⟨h4o, rfl⟩]), fun z => absurd z (by rw [if_neg (by omega)]; decide)⟩
                | exact absurd (hva.trans (bP_neg (by rw [h4a, if_pos ⟨h4o, rfl⟩]; decide))) hb50))
        · skip
          have hgd : (0 ≤ w ∧ w ≤ c 121 - 1) ∧ 0 < (ordF (insOf c) b ((5 : Int) ^ (c 121).toNat).toNat).1 := by first | exact ⟨hbd, hpos⟩ | exact absurd (hva.trans (bP_neg (by rw [h4a, if_pos ⟨h4o, rfl⟩]; decide))) hb50
          refine R_aload_0 hC dX12_order_53 ?_
          have hG17 : GR Mc14 := (GR.fr (GR.fr hG1 hq4.1 (by decide +kernel)) hq15.1 (by decide +kernel))
          refine R_getR hC dX12_order_54 fl_12_75 (by decide) rfl (by decide) (by decide) (fi := 46) rfl (r := 78) (gr_57_46 hG17) ?_
          refine R_iload_1 hC dX12_order_57 ?_
          refine R_ialoadE hC dX12_order_58 (by decide) rfl (by omega) (by omega) ((congrFun (hq15.1.row (by decide) (by decide)) w).trans (h78 hgd.2 w hgd.1.1 (by omega))) ?_
          refine R_goto hC dX12_order_59 (tgt := 63) (by decide) ?_
          exact R_ireturn hC dX12_order_63 rfl (ret_P (by
              have hw1 : ¬ w = -1 := hb11
              first
                | exact ⟨hFa, hTa, by (rw [if_pos (.inr ⟨hbd, hpos⟩), h4a, if_neg (fun z => absurd z.2 (by decide))]; exact h4o), fun _ => ⟨fun z => absurd z hw1, fun _ => rfl⟩⟩
                | exact absurd (hva.trans (bP_pos (by rw [h4a, if_neg (fun z => absurd z.2 (by decide))]; exact h4o))) (by rw [hb50]; decide)
                | exact ⟨hFa, hTa, by (rw [if_neg (by omega), h4a, if_pos ⟨h4o, rfl⟩]), fun z => absurd z (by rw [if_neg (by omega)]; decide)⟩
                | exact absurd (hva.trans (bP_neg (by rw [h4a, if_pos ⟨h4o, rfl⟩]; decide))) hb50))
  · skip
    refine R_aload_0 hC dX12_order_14 ?_
    refine R_getIE hC dX12_order_15 fl_12_323 (by decide) rfl (by decide) (by decide) (fi := 48) rfl h48 ?_
    exact R_ireturn hC dX12_order_18 rfl (ret_P ⟨hFo, hTo, by (rw [if_pos (.inl (show w = -1 by omega))]; exact h4o), fun _ => ⟨fun _ => rfl, fun z => absurd (show w = -1 by omega) z⟩⟩)
