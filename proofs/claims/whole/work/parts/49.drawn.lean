/-! the model's questions: drawn, fits, look -/
theorem rt_d {a b q : Int} {p : Prop} [Decidable p] (h : a = if b = 0 ∧ bP p = 0 then q else b) (hb : b = 0) : a = if p then 0 else q := by
  rw [h]
  by_cases y : p
  · rw [if_neg (fun z => bP_z z.2 y), if_pos y, hb]
  · rw [if_pos ⟨hb, bP_neg y⟩, if_neg y]
theorem ck_all {c no F : Int → Int} {n m : Int} (hW : 0 ≤ c 122) (hm : m = cL (fitP c no n) (16 * c 122).toNat) (hF : FLq (fitP c no n) F (16 * c 122)) : ckA (fitP c no n) (c 122).toNat = (m, if m = 0 then -1 else F 0) := by
  have r := ck_lin (P := fitP c no n) (F := F) (N := 16 * c 122) hF.1 (c 122).toNat 0 (by omega) (by omega)
  rw [show 16 * (c 122).toNat + 0 = (16 * c 122).toNat by omega, ← hm] at r
  exact r
theorem look_U {c no F : Int → Int} {n m x : Int} {R : Int → Int} (hW : 0 ≤ c 122) (hm : m = cL (fitP c no n) (16 * c 122).toNat) (hF : FLq (fitP c no n) F (16 * c 122)) (x0 : 0 ≤ x) (x1 : x < c 121) (hR : ∀ a' x', 0 ≤ a' → a' < m → 0 ≤ x' → x' < c 121 → R (5 * a' + x') = spcK (UIx c x') c (F a' / 100) (F a' % 100)) : uL (fun a => R (5 * a + x)) m.toNat = (nwA (fitP c no n) (fun w k => spcK (UIx c x) c w k + 1) (c 122).toNat).1 := by
  have r := nw_lin (P := fitP c no n) (g := fun w k => spcK (UIx c x) c w k + 1) (G := fun a => R (5 * a + x)) (N := 16 * c 122) (fun i i0 i1 p => by
    have l := cL_lt i0 i1 p
    have b := (cL_b (P := fitP c no n) i.toNat).1
    have e := hR _ x b (by omega) x0 x1
    have f := hF.1 i i0 i1 p
    rw [e, f, show cdL i / 100 = i / 16 by (unfold cdL; omega), show cdL i % 100 = i % 16 by (unfold cdL; omega)]) (c 122).toNat 0 (by omega) (by omega)
  rw [show 16 * (c 122).toNat + 0 = (16 * c 122).toNat by omega, ← hm] at r
  exact r.1.symm.trans (Int.add_zero _)
theorem FL_rng {c no F : Int → Int} {n m : Int} (hm : m = cL (fitP c no n) (16 * c 122).toNat) (hF : FLq (fitP c no n) F (16 * c 122)) : ∀ a, 0 ≤ a → a < m → (0 ≤ F a / 100 ∧ F a / 100 < c 122) ∧ 0 ≤ F a % 100 ∧ F a % 100 < 16 := fun a a0 a1 => by
  obtain ⟨i, i0, i1, p, e, f⟩ := hF.2 a a0 (by omega)
  rw [f]
  unfold cdL
  omega

theorem dX12_drawn_0 : decode cX12_drawn 0 = .ok (.aload_n 0, 1) := by decide +kernel
theorem dX12_drawn_1 : decode cX12_drawn 1 = .ok (.iconst 0, 1) := by decide +kernel
theorem dX12_drawn_2 : decode cX12_drawn 2 = .ok (.putfield 84, 3) := by decide +kernel
theorem dX12_drawn_5 : decode cX12_drawn 5 = .ok (.aload_n 0, 1) := by decide +kernel
theorem dX12_drawn_6 : decode cX12_drawn 6 = .ok (.iload_n 3, 1) := by decide +kernel
theorem dX12_drawn_7 : decode cX12_drawn 7 = .ok (.iconst 0, 1) := by decide +kernel
theorem dX12_drawn_8 : decode cX12_drawn 8 = .ok (.iconst 2, 1) := by decide +kernel
theorem dX12_drawn_9 : decode cX12_drawn 9 = .ok (.invokestatic 235, 3) := by decide +kernel
theorem dX12_drawn_12 : decode cX12_drawn 12 = .ok (.iconst 1, 1) := by decide +kernel
theorem dX12_drawn_13 : decode cX12_drawn 13 = .ok (.invokevirtual 269, 3) := by decide +kernel
theorem dX12_drawn_16 : decode cX12_drawn 16 = .ok (.ifCond .eq 18, 3) := by decide +kernel
theorem dX12_drawn_19 : decode cX12_drawn 19 = .ok (.aload_n 0, 1) := by decide +kernel
theorem dX12_drawn_20 : decode cX12_drawn 20 = .ok (.iload_n 2, 1) := by decide +kernel
theorem dX12_drawn_21 : decode cX12_drawn 21 = .ok (.iconst 0, 1) := by decide +kernel
theorem dX12_drawn_22 : decode cX12_drawn 22 = .ok (.bipush 40, 2) := by decide +kernel
theorem dX12_drawn_24 : decode cX12_drawn 24 = .ok (.invokestatic 235, 3) := by decide +kernel
theorem dX12_drawn_27 : decode cX12_drawn 27 = .ok (.iconst 2, 1) := by decide +kernel
theorem dX12_drawn_28 : decode cX12_drawn 28 = .ok (.invokevirtual 269, 3) := by decide +kernel
theorem dX12_drawn_31 : decode cX12_drawn 31 = .ok (.ifCond .ne 5, 3) := by decide +kernel
theorem dX12_drawn_34 : decode cX12_drawn 34 = .ok (.iconst 0, 1) := by decide +kernel
theorem dX12_drawn_35 : decode cX12_drawn 35 = .ok (.ireturn, 1) := by decide +kernel
theorem dX12_drawn_36 : decode cX12_drawn 36 = .ok (.aload_n 0, 1) := by decide +kernel
theorem dX12_drawn_37 : decode cX12_drawn 37 = .ok (.invokevirtual 293, 3) := by decide +kernel
theorem dX12_drawn_40 : decode cX12_drawn 40 = .ok (.aload_n 0, 1) := by decide +kernel
theorem dX12_drawn_41 : decode cX12_drawn 41 = .ok (.iload_n 1, 1) := by decide +kernel
theorem dX12_drawn_42 : decode cX12_drawn 42 = .ok (.putfield 445, 3) := by decide +kernel
theorem dX12_drawn_45 : decode cX12_drawn 45 = .ok (.aload_n 0, 1) := by decide +kernel
theorem dX12_drawn_46 : decode cX12_drawn 46 = .ok (.iconst 0, 1) := by decide +kernel
theorem dX12_drawn_47 : decode cX12_drawn 47 = .ok (.putfield 452, 3) := by decide +kernel
theorem dX12_drawn_50 : decode cX12_drawn 50 = .ok (.iconst 0, 1) := by decide +kernel
theorem dX12_drawn_51 : decode cX12_drawn 51 = .ok (.istore 4, 2) := by decide +kernel
theorem dX12_drawn_53 : decode cX12_drawn 53 = .ok (.iload 4, 2) := by decide +kernel
theorem dX12_drawn_55 : decode cX12_drawn 55 = .ok (.iload_n 2, 1) := by decide +kernel
theorem dX12_drawn_56 : decode cX12_drawn 56 = .ok (.if_icmp .ge 88, 3) := by decide +kernel
theorem dX12_drawn_59 : decode cX12_drawn 59 = .ok (.aload_n 0, 1) := by decide +kernel
theorem dX12_drawn_60 : decode cX12_drawn 60 = .ok (.bipush 6, 2) := by decide +kernel
theorem dX12_drawn_62 : decode cX12_drawn 62 = .ok (.invokevirtual 449, 3) := by decide +kernel
theorem dX12_drawn_65 : decode cX12_drawn 65 = .ok (.istore 5, 2) := by decide +kernel
theorem dX12_drawn_67 : decode cX12_drawn 67 = .ok (.iload 5, 2) := by decide +kernel
theorem dX12_drawn_69 : decode cX12_drawn 69 = .ok (.iconst 3, 1) := by decide +kernel
theorem dX12_drawn_70 : decode cX12_drawn 70 = .ok (.if_icmp .ne 29, 3) := by decide +kernel
theorem dX12_drawn_73 : decode cX12_drawn 73 = .ok (.aload_n 0, 1) := by decide +kernel
theorem dX12_drawn_74 : decode cX12_drawn 74 = .ok (.getfield 9, 3) := by decide +kernel
theorem dX12_drawn_77 : decode cX12_drawn 77 = .ok (.sipush 220, 3) := by decide +kernel
theorem dX12_drawn_80 : decode cX12_drawn 80 = .ok (.bipush 60, 2) := by decide +kernel
theorem dX12_drawn_82 : decode cX12_drawn 82 = .ok (.aload_n 0, 1) := by decide +kernel
theorem dX12_drawn_83 : decode cX12_drawn 83 = .ok (.getfield 9, 3) := by decide +kernel
theorem dX12_drawn_86 : decode cX12_drawn 86 = .ok (.sipush 220, 3) := by decide +kernel
theorem dX12_drawn_89 : decode cX12_drawn 89 = .ok (.iaload, 1) := by decide +kernel
theorem dX12_drawn_90 : decode cX12_drawn 90 = .ok (.iconst 1, 1) := by decide +kernel
theorem dX12_drawn_91 : decode cX12_drawn 91 = .ok (.iadd, 1) := by decide +kernel
theorem dX12_drawn_92 : decode cX12_drawn 92 = .ok (.invokestatic 126, 3) := by decide +kernel
theorem dX12_drawn_95 : decode cX12_drawn 95 = .ok (.iastore, 1) := by decide +kernel
theorem dX12_drawn_96 : decode cX12_drawn 96 = .ok (.goto 42, 3) := by decide +kernel
theorem dX12_drawn_99 : decode cX12_drawn 99 = .ok (.iload 5, 2) := by decide +kernel
theorem dX12_drawn_101 : decode cX12_drawn 101 = .ok (.iconst 5, 1) := by decide +kernel
theorem dX12_drawn_102 : decode cX12_drawn 102 = .ok (.if_icmp .ne 30, 3) := by decide +kernel
theorem dX12_drawn_105 : decode cX12_drawn 105 = .ok (.aload_n 0, 1) := by decide +kernel
theorem dX12_drawn_106 : decode cX12_drawn 106 = .ok (.dup, 1) := by decide +kernel
theorem dX12_drawn_107 : decode cX12_drawn 107 = .ok (.getfield 452, 3) := by decide +kernel
theorem dX12_drawn_110 : decode cX12_drawn 110 = .ok (.aload_n 0, 1) := by decide +kernel
theorem dX12_drawn_111 : decode cX12_drawn 111 = .ok (.bipush 114, 2) := by decide +kernel
theorem dX12_drawn_113 : decode cX12_drawn 113 = .ok (.invokevirtual 427, 3) := by decide +kernel
theorem dX12_drawn_116 : decode cX12_drawn 116 = .ok (.iconst (-1), 1) := by decide +kernel
theorem dX12_drawn_117 : decode cX12_drawn 117 = .ok (.if_icmp .ne 7, 3) := by decide +kernel
theorem dX12_drawn_120 : decode cX12_drawn 120 = .ok (.iconst 0, 1) := by decide +kernel
theorem dX12_drawn_121 : decode cX12_drawn 121 = .ok (.goto 4, 3) := by decide +kernel
theorem dX12_drawn_124 : decode cX12_drawn 124 = .ok (.iconst 1, 1) := by decide +kernel
theorem dX12_drawn_125 : decode cX12_drawn 125 = .ok (.iadd, 1) := by decide +kernel
theorem dX12_drawn_126 : decode cX12_drawn 126 = .ok (.putfield 452, 3) := by decide +kernel
theorem dX12_drawn_129 : decode cX12_drawn 129 = .ok (.goto 9, 3) := by decide +kernel
theorem dX12_drawn_132 : decode cX12_drawn 132 = .ok (.aload_n 0, 1) := by decide +kernel
theorem dX12_drawn_133 : decode cX12_drawn 133 = .ok (.iload 5, 2) := by decide +kernel
theorem dX12_drawn_135 : decode cX12_drawn 135 = .ok (.invokevirtual 455, 3) := by decide +kernel
theorem dX12_drawn_138 : decode cX12_drawn 138 = .ok (.iinc 4 1, 3) := by decide +kernel
theorem dX12_drawn_141 : decode cX12_drawn 141 = .ok (.goto (-88), 3) := by decide +kernel
theorem dX12_drawn_144 : decode cX12_drawn 144 = .ok (.iload_n 3, 1) := by decide +kernel
theorem dX12_drawn_145 : decode cX12_drawn 145 = .ok (.ifCond .ne 12, 3) := by decide +kernel
theorem dX12_drawn_148 : decode cX12_drawn 148 = .ok (.aload_n 0, 1) := by decide +kernel
theorem dX12_drawn_149 : decode cX12_drawn 149 = .ok (.bipush 114, 2) := by decide +kernel
theorem dX12_drawn_151 : decode cX12_drawn 151 = .ok (.invokevirtual 338, 3) := by decide +kernel
theorem dX12_drawn_154 : decode cX12_drawn 154 = .ok (.goto 31, 3) := by decide +kernel
theorem dX12_drawn_157 : decode cX12_drawn 157 = .ok (.iload_n 3, 1) := by decide +kernel
theorem dX12_drawn_158 : decode cX12_drawn 158 = .ok (.iconst 1, 1) := by decide +kernel
theorem dX12_drawn_159 : decode cX12_drawn 159 = .ok (.if_icmp .ne 22, 3) := by decide +kernel
theorem dX12_drawn_162 : decode cX12_drawn 162 = .ok (.aload_n 0, 1) := by decide +kernel
theorem dX12_drawn_163 : decode cX12_drawn 163 = .ok (.getfield 9, 3) := by decide +kernel
theorem dX12_drawn_166 : decode cX12_drawn 166 = .ok (.sipush 221, 3) := by decide +kernel
theorem dX12_drawn_169 : decode cX12_drawn 169 = .ok (.iaload, 1) := by decide +kernel
theorem dX12_drawn_170 : decode cX12_drawn 170 = .ok (.aload_n 0, 1) := by decide +kernel
theorem dX12_drawn_171 : decode cX12_drawn 171 = .ok (.getfield 9, 3) := by decide +kernel
theorem dX12_drawn_174 : decode cX12_drawn 174 = .ok (.bipush 107, 2) := by decide +kernel
theorem dX12_drawn_176 : decode cX12_drawn 176 = .ok (.iaload, 1) := by decide +kernel
theorem dX12_drawn_177 : decode cX12_drawn 177 = .ok (.isub, 1) := by decide +kernel
theorem dX12_drawn_178 : decode cX12_drawn 178 = .ok (.goto 7, 3) := by decide +kernel
theorem dX12_drawn_181 : decode cX12_drawn 181 = .ok (.aload_n 0, 1) := by decide +kernel
theorem dX12_drawn_182 : decode cX12_drawn 182 = .ok (.getfield 452, 3) := by decide +kernel
theorem dX12_drawn_185 : decode cX12_drawn 185 = .ok (.ireturn, 1) := by decide +kernel
set_option maxHeartbeats 2000000 in
theorem c12_drawn {G : Gl} {l : Launch}  {M : Mem} {c : Int → Int} {f n w : Int} (hG : GR M) (hK : RW M 0 c) (hS : SP c) (hb9 : c 119 ≤ 86000) : Ct G LY 82 l 9 m12_drawn [vR 57, vI f, vI n, vI w] M (RP (fun v M' => Fr [58, 63, 64, 65, 66, 67, 68, 69, 70, 71, 72, 77, 78, 79, 80] [(57, 4), (57, 22), (57, 23), (57, 30), (57, 47), (57, 48), (57, 49), (57, 52), (57, 53), (57, 54)] M M' ∧ TRo M M' ∧ M' 57 4 = (if 0 ≤ w ∧ w ≤ 2 then (if 0 ≤ n ∧ n ≤ 40 then (0 : Int) else 2) else 1) ∧ ((if 0 ≤ w ∧ w ≤ 2 then (if 0 ≤ n ∧ n ≤ 40 then (0 : Int) else 2) else 1) = 0 → v = (if w = 0 then heldAll (rnF (c, f, 0) n.toNat).1 else if w = 1 then (rnF (c, f, 0) n.toNat).1 119 - c 119 else (rnF (c, f, 0) n.toNat).2.2)))) := by
  refine R_start (by decide +kernel) (Nat.le_of_ble_eq_true rfl) (fun C hC hRm hlau => ?_)
  show RZ G LY C (Zn G LY 82 C (RP (fun v M' => Fr [58, 63, 64, 65, 66, 67, 68, 69, 70, 71, 72, 77, 78, 79, 80] [(57, 4), (57, 22), (57, 23), (57, 30), (57, 47), (57, 48), (57, 49), (57, 52), (57, 53), (57, 54)] M M' ∧ TRo M M' ∧ M' 57 4 = (if 0 ≤ w ∧ w ≤ 2 then (if 0 ≤ n ∧ n ≤ 40 then (0 : Int) else 2) else 1) ∧ ((if 0 ≤ w ∧ w ≤ 2 then (if 0 ≤ n ∧ n ≤ 40 then (0 : Int) else 2) else 1) = 0 → v = (if w = 0 then heldAll (rnF (c, f, 0) n.toNat).1 else if w = 1 then (rnF (c, f, 0) n.toNat).1 119 - c 119 else (rnF (c, f, 0) n.toNat).2.2))))) 0 0 82 0 [some (vR 57), some (vI f), some (vI n), some (vI w), none, none] [] M
  have hM := hS.m
  have hI := hM.I
  have hL := hM.1.1
  have hW := hM.1.2
  refine R_aload_0 hC dX12_drawn_0 ?_
  refine R_iconst hC dX12_drawn_1 ⟨by decide, by decide⟩ ?_
  refine R_putI hC dX12_drawn_2 fl_12_84 (by decide) rfl (by decide) (by decide) (fi := 4) rfl ?_
  refine R_aload_0 hC dX12_drawn_5 ?_
  refine R_iload_3 hC dX12_drawn_6 ?_
  refine R_iconst hC dX12_drawn_7 ⟨by decide, by decide⟩ ?_
  refine R_iconst hC dX12_drawn_8 ⟨by decide, by decide⟩ ?_
  refine R_callSq (as := [vI _, vI _, vI _]) hC dX12_drawn_9 mo_12_within ml_12_235 (c12_within  ) rfl rfl hRm (by decide) (by decide) (Nat.le_of_ble_eq_true rfl) ?_
  refine R_iconst hC dX12_drawn_12 ⟨by decide, by decide⟩ ?_
  have hFz : Fr [58, 63, 64, 65, 66, 67, 68, 69, 70, 71, 72, 77, 78, 79, 80] [(57, 4), (57, 22), (57, 23), (57, 30), (57, 47), (57, 48), (57, 49), (57, 52), (57, 53), (57, 54)] M (uM M 57 4 0) := Fr.uB Fr.rf (by decide)
  have hTz : TRo M (uM M 57 4 0) := TRo.rf.h (by decide)
  refine R_callVp (as := [vI _, vI _]) hC dX12_drawn_13 mo_12_right ml_12_269 (by decide) rfl rfl (c12_right  ) rfl rfl hRm (by decide) (by decide) (Nat.le_of_ble_eq_true rfl) (fun v3 Mc1 hq2 => ?_)
  have hFa : Fr [58, 63, 64, 65, 66, 67, 68, 69, 70, 71, 72, 77, 78, 79, 80] [(57, 4), (57, 22), (57, 23), (57, 30), (57, 47), (57, 48), (57, 49), (57, 52), (57, 53), (57, 54)] M Mc1 := Fr.tt hFz (hq2.1.mo (by simp) (by simp))
  have hTa : TRo M Mc1 := TRo.tr hTz (TRo.of hq2.1 (by decide) (by decide))
  have h4a := rt_d hq2.2.1 uM_same
  have hva := hq2.2.2
  refine R_if_eq hC dX12_drawn_16 (tgt := 34) (by decide) (fun hb16 => ?_) (fun hb16 => ?_)
  · skip
    have hw2n : ¬ (0 ≤ w ∧ w ≤ 2) := fun z => bP_z (hva.symm.trans hb16) (h4a.trans (if_pos z))
    refine R_iconst hC dX12_drawn_34 ⟨by decide, by decide⟩ ?_
    exact R_ireturn hC dX12_drawn_35 rfl (ret_P ⟨by first | exact hFa | exact hFd, by first | exact hTa | exact hTd, by first | (rw [if_neg hw2n]; exact h4a.trans (if_neg hw2n)) | (rw [if_pos hw2, if_neg hn4n]; exact h4d.trans (if_neg hn4n)), fun z => by first | (rw [if_neg hw2n] at z; cases z) | (rw [if_pos hw2, if_neg hn4n] at z; cases z)⟩)
  · skip
    have hw2 : 0 ≤ w ∧ w ≤ 2 := Classical.byContradiction (fun z => by
      have y := bP_nz (fun y => hb16 (hva.trans y))
      rw [h4a, if_neg z] at y
      cases y)
    refine R_aload_0 hC dX12_drawn_19 ?_
    refine R_iload_2 hC dX12_drawn_20 ?_
    refine R_iconst hC dX12_drawn_21 ⟨by decide, by decide⟩ ?_
    refine R_bipush hC dX12_drawn_22 (by decide +kernel) ⟨by decide, by decide⟩ ?_
    refine R_callSq (as := [vI _, vI _, vI _]) hC dX12_drawn_24 mo_12_within ml_12_235 (c12_within  ) rfl rfl hRm (by decide) (by decide) (Nat.le_of_ble_eq_true rfl) ?_
    refine R_iconst hC dX12_drawn_27 ⟨by decide, by decide⟩ ?_
    refine R_callVp (as := [vI _, vI _]) hC dX12_drawn_28 mo_12_right ml_12_269 (by decide) rfl rfl (c12_right  ) rfl rfl hRm (by decide) (by decide) (Nat.le_of_ble_eq_true rfl) (fun v6 Mc4 hq5 => ?_)
    have h4a0 := h4a.trans (if_pos hw2)
    have hFd : Fr [58, 63, 64, 65, 66, 67, 68, 69, 70, 71, 72, 77, 78, 79, 80] [(57, 4), (57, 22), (57, 23), (57, 30), (57, 47), (57, 48), (57, 49), (57, 52), (57, 53), (57, 54)] M Mc4 := Fr.tt hFa (hq5.1.mo (by simp) (by simp))
    have hTd : TRo M Mc4 := TRo.tr hTa (TRo.of hq5.1 (by decide) (by decide))
    have h4d := rt_d hq5.2.1 h4a0
    have hvd := hq5.2.2
    refine R_if_ne hC dX12_drawn_31 (tgt := 36) (by decide) (fun hb31 => ?_) (fun hb31 => ?_)
    · skip
      have hn4 : 0 ≤ n ∧ n ≤ 40 := Classical.byContradiction (fun z => by
        have y := bP_nz (fun y => hb31 (hvd.trans y))
        rw [h4d, if_neg z] at y
        cases y)
      have h4d0 := h4d.trans (if_pos hn4)
      refine R_aload_0 hC dX12_drawn_36 ?_
      have hG7 : GR Mc4 := (GR.fr (GR.fr (GR.uF hG (by decide +kernel) (by decide)) hq2.1 (by decide +kernel)) hq5.1 (by decide +kernel))
      have hk8 : RW Mc4 0 c := (RW.fr (RW.fr (RW.uf hK (by decide)) hq2.1 (by decide +kernel)) hq5.1 (by decide +kernel))
      refine R_callVv (as := []) hC dX12_drawn_37 mo_12_tries ml_12_293 (by decide) rfl rfl (c12_tries  hG7 hk8) rfl rfl hRm (by decide) (by decide) (Nat.le_of_ble_eq_true rfl) (fun Mc9 hq10 => ?_)
      have hFt : Fr [58, 63, 64, 65, 66, 67, 68, 69, 70, 71, 72, 77, 78, 79, 80] [(57, 4), (57, 22), (57, 23), (57, 30), (57, 47), (57, 48), (57, 49), (57, 52), (57, 53), (57, 54)] M Mc9 := Fr.tt hFd (hq10.1.mo (by simp) (by simp))
      have hTt : TRo M Mc9 := TRo.tr hTd (hq10.2.1)
      have h4t : Mc9 57 4 = 0 := (hq10.1 57 4 (by decide) (by simp)).trans h4d0
      refine R_aload_0 hC dX12_drawn_40 ?_
      refine R_iload_1 hC dX12_drawn_41 ?_
      refine R_putI hC dX12_drawn_42 fl_12_445 (by decide) rfl (by decide) (by decide) (fi := 53) rfl ?_
      refine R_aload_0 hC dX12_drawn_45 ?_
      refine R_iconst hC dX12_drawn_46 ⟨by decide, by decide⟩ ?_
      refine R_putI hC dX12_drawn_47 fl_12_452 (by decide) rfl (by decide) (by decide) (fi := 54) rfl ?_
      refine R_iconst hC dX12_drawn_50 ⟨by decide, by decide⟩ ?_
      refine R_istore_4 hC dX12_drawn_51 rfl ?_
      have L53 : ∀ (mq : Nat) (i : Int) (e : Int → Int) (s : Int) (p : Int) (M2 : Mem), (0 ≤ i) → (i ≤ n) → (GR M2) → (RW M2 0 c) → (RW M2 114 e) → (Fr [58, 63, 64, 65, 66, 67, 68, 69, 70, 71, 72, 77, 78, 79, 80] [(57, 4), (57, 22), (57, 23), (57, 30), (57, 47), (57, 48), (57, 49), (57, 52), (57, 53), (57, 54)] M M2) → (TRo M M2) → (M2 57 53 = s) → (M2 57 54 = p) → (M2 57 4 = 0) → ((e, s, p) = rnF (c, f, 0) i.toNat) → (SP e) → (e 119 ≤ c 119 + 90 * i) → (0 ≤ p) → (p ≤ i) → (n - i).toNat < mq → RZ G LY C (Zn G LY 82 C (RP (fun v M' => Fr [58, 63, 64, 65, 66, 67, 68, 69, 70, 71, 72, 77, 78, 79, 80] [(57, 4), (57, 22), (57, 23), (57, 30), (57, 47), (57, 48), (57, 49), (57, 52), (57, 53), (57, 54)] M M' ∧ TRo M M' ∧ M' 57 4 = (if 0 ≤ w ∧ w ≤ 2 then (if 0 ≤ n ∧ n ≤ 40 then (0 : Int) else 2) else 1) ∧ ((if 0 ≤ w ∧ w ≤ 2 then (if 0 ≤ n ∧ n ≤ 40 then (0 : Int) else 2) else 1) = 0 → v = (if w = 0 then heldAll (rnF (c, f, 0) n.toNat).1 else if w = 1 then (rnF (c, f, 0) n.toNat).1 119 - c 119 else (rnF (c, f, 0) n.toNat).2.2))))) 0 0 82 53 [some (vR 57), some (vI f), some (vI n), some (vI w), some (vI i), none] [] M2 := by
        intro mq
        induction mq with
        | zero =>
          intro i e s p M2 hi0 hi1 hg2 hk2 hk3 hF2 hT2 hs2 hp2 h42 hE hSe hbe hp0 hp1 hm
          exact absurd hm (Nat.not_lt_zero _)
        | succ mq ih53 =>
          intro i e s p M2 hi0 hi1 hg2 hk2 hk3 hF2 hT2 hs2 hp2 h42 hE hSe hbe hp0 hp1 hm53
          have hMe := hSe.m
          have hok := rnS_ok (s := s) (p := p) hSe (by omega)
          have be119 := hSe.2.2.2.2.1.2.1
          have bc119 := hS.2.2.2.2.1.2.1
          refine R_iload_4 hC dX12_drawn_53 ?_
          refine R_iload_2 hC dX12_drawn_55 ?_
          refine R_icmp_ge hC dX12_drawn_56 (tgt := 144) (by decide) (fun hb56 => ?_) (fun hb56 => ?_)
          · skip
            refine R_iload_3 hC dX12_drawn_144 ?_
            refine R_if_ne hC dX12_drawn_145 (tgt := 157) (by decide) (fun hb145 => ?_) (fun hb145 => ?_)
            · skip
              refine R_iload_3 hC dX12_drawn_157 ?_
              refine R_iconst hC dX12_drawn_158 ⟨by decide, by decide⟩ ?_
              refine R_icmp_ne hC dX12_drawn_159 (tgt := 181) (by decide) (fun hb159 => ?_) (fun hb159 => ?_)
              · skip
                refine R_aload_0 hC dX12_drawn_181 ?_
                refine R_getIE hC dX12_drawn_182 fl_12_452 (by decide) rfl (by decide) (by decide) (fi := 54) rfl hp2 ?_
                exact R_ireturn hC dX12_drawn_185 rfl (ret_P ⟨hF2, hT2, by (rw [if_pos hw2, if_pos hn4]; exact h42), fun _ => by (rw [show n = i by omega, ← hE]; first | (rw [if_pos hb145]) | (rw [if_neg hb145, if_pos hb159]) | (rw [if_neg hb145, if_neg hb159]))⟩)
              · skip
                refine R_aload_0 hC dX12_drawn_162 ?_
                refine R_getR hC dX12_drawn_163 fl_12_9 (by decide) rfl (by decide) (by decide) (fi := 0) rfl (r := 58) (gr_57_0 hg2) ?_
                refine R_sipush hC dX12_drawn_166 (by decide +kernel) ⟨by decide, by decide⟩ ?_
                refine R_ialoadE hC dX12_drawn_169 (by decide) rfl (by omega) (by omega) (hk3.r5 (k := 119) (by omega) (by omega) (by omega)) ?_
                refine R_aload_0 hC dX12_drawn_170 ?_
                refine R_getR hC dX12_drawn_171 fl_12_9 (by decide) rfl (by decide) (by decide) (fi := 0) rfl (r := 58) (gr_57_0 hg2) ?_
                refine R_bipush hC dX12_drawn_174 (by decide +kernel) ⟨by decide, by decide⟩ ?_
                refine R_ialoadE hC dX12_drawn_176 (by decide) rfl (by omega) (by omega) (hk2.r5 (k := 119) (by omega) (by omega) (by omega)) ?_
                refine R_isub hC dX12_drawn_177 ⟨by omega, by omega⟩ ?_
                refine R_goto hC dX12_drawn_178 (tgt := 185) (by decide) ?_
                exact R_ireturn hC dX12_drawn_185 rfl (ret_P ⟨hF2, hT2, by (rw [if_pos hw2, if_pos hn4]; exact h42), fun _ => by (rw [show n = i by omega, ← hE]; first | (rw [if_pos hb145]) | (rw [if_neg hb145, if_pos hb159]) | (rw [if_neg hb145, if_neg hb159]))⟩)
            · skip
              refine R_aload_0 hC dX12_drawn_148 ?_
              refine R_bipush hC dX12_drawn_149 (by decide +kernel) ⟨by decide, by decide⟩ ?_
              refine R_callVq (as := [vI _]) hC dX12_drawn_151 mo_12_everything ml_12_338 (by decide) rfl rfl (c12_everything  hg2 hk3 (by omega) (by omega) hMe) rfl rfl hRm (by decide) (by decide) (Nat.le_of_ble_eq_true rfl) ?_
              refine R_goto hC dX12_drawn_154 (tgt := 185) (by decide) ?_
              exact R_ireturn hC dX12_drawn_185 rfl (ret_P ⟨hF2, hT2, by (rw [if_pos hw2, if_pos hn4]; exact h42), fun _ => by (rw [show n = i by omega, ← hE]; first | (rw [if_pos hb145]) | (rw [if_neg hb145, if_pos hb159]) | (rw [if_neg hb145, if_neg hb159]))⟩)
          · skip
            refine R_aload_0 hC dX12_drawn_59 ?_
            refine R_bipush hC dX12_drawn_60 (by decide +kernel) ⟨by decide, by decide⟩ ?_
            refine R_callVp (as := [vI _]) hC dX12_drawn_62 mo_12_draw ml_12_449 (by decide) rfl rfl (c12_draw  hg2 (by omega)) rfl rfl hRm (by decide) (by decide) (Nat.le_of_ble_eq_true rfl) (fun v13 Mc11 hq12 => ?_)
            have hFk : Fr [58, 63, 64, 65, 66, 67, 68, 69, 70, 71, 72, 77, 78, 79, 80] [(57, 4), (57, 22), (57, 23), (57, 30), (57, 47), (57, 48), (57, 49), (57, 52), (57, 53), (57, 54)] M Mc11 := Fr.tt hF2 (hq12.1.mo (by simp) (by simp))
            have hTk : TRo M Mc11 := TRo.tr hT2 (TRo.of hq12.1 (by decide) (by decide))
            have ekk := hq12.2.1
            have esk := hq12.2.2
            rw [hs2] at ekk esk
            have bk := drV_bd (s := s) (m := 6) (by decide)
            rw [← ekk] at bk
            have hpk : Mc11 57 54 = p := (hq12.1 57 54 (by decide) (by simp)).trans hp2
            have h4k : Mc11 57 4 = 0 := (hq12.1 57 4 (by decide) (by simp)).trans h42
            have b118 := hSe.2.2.2.2.1.1
            refine R_istore_5 hC dX12_drawn_65 rfl ?_
            refine R_iload_5 hC dX12_drawn_67 ?_
            refine R_iconst hC dX12_drawn_69 ⟨by decide, by decide⟩ ?_
            refine R_icmp_ne hC dX12_drawn_70 (tgt := 99) (by decide) (fun hb70 => ?_) (fun hb70 => ?_)
            · skip
              refine R_iload_5 hC dX12_drawn_99 ?_
              refine R_iconst hC dX12_drawn_101 ⟨by decide, by decide⟩ ?_
              refine R_icmp_ne hC dX12_drawn_102 (tgt := 132) (by decide) (fun hb102 => ?_) (fun hb102 => ?_)
              · skip
                refine R_aload_0 hC dX12_drawn_132 ?_
                refine R_iload_5 hC dX12_drawn_133 ?_
                have hG14 : GR Mc11 := (GR.fr hg2 hq12.1 (by decide +kernel))
                have hk15 : RW Mc11 114 e := (RW.fr hk3 hq12.1 (by decide +kernel))
                refine R_callVv (as := [vI _]) hC dX12_drawn_135 mo_12_drawnOnes ml_12_455 (by decide) rfl rfl (c12_drawnOnes (s := (nxS s)) hG14 hk15 hSe esk) rfl rfl hRm (by decide) (by decide) (Nat.le_of_ble_eq_true rfl) (fun Mc16 hq17 => ?_)
                have hkm : rnS (e, s, p) = ((dO e (nxS s) (drV s 6)).1, (dO e (nxS s) (drV s 6)).2, p) := by
                  by_cases z : 0 < e 121 ∧ 0 < e 122
                  · rw [rnS_m (fun z => hb70 (ekk.trans z)) (fun z => hb102 (ekk.trans z)) z, dO_t z]
                  · rw [rnS_n (fun z => hb70 (ekk.trans z)) (fun z => hb102 (ekk.trans z)) z, dO_f z]
                rw [← ekk] at hkm
                have hFo : Fr [58, 63, 64, 65, 66, 67, 68, 69, 70, 71, 72, 77, 78, 79, 80] [(57, 4), (57, 22), (57, 23), (57, 30), (57, 47), (57, 48), (57, 49), (57, 52), (57, 53), (57, 54)] M Mc16 := Fr.tt hFk (hq17.1.mo (by simp) (by simp))
                have hTo : TRo M Mc16 := TRo.tr hTk (hq17.2.1)
                have z4 : Mc16 57 4 = 0 := (hq17.1 57 4 (by decide) (by simp)).trans h4k
                have zF : Fr [58, 63, 64, 65, 66, 67, 68, 69, 70, 71, 72, 77, 78, 79, 80] [(57, 4), (57, 22), (57, 23), (57, 30), (57, 47), (57, 48), (57, 49), (57, 52), (57, 53), (57, 54)] M Mc16 := hFo
                have zT : TRo M Mc16 := hTo
                have hk18 : RW Mc16 114 ((dO e (nxS s) v13).1) := (hq17.2.2.1)
                have zr : RW Mc16 114 (rnS (e, s, p)).1 := by (rw [hkm]; exact hk18)
                have zs : Mc16 57 53 = (rnS (e, s, p)).2.1 := by (rw [hkm]; exact hq17.2.2.2)
                have zp : Mc16 57 54 = (rnS (e, s, p)).2.2 := by (rw [hkm]; exact (hq17.1 57 54 (by decide) (by simp)).trans hpk)
                have z4 : Mc16 57 4 = 0 := z4
                refine R_iinc_4 hC dX12_drawn_138 rfl ⟨by omega, by omega⟩ ?_
                refine R_goto hC dX12_drawn_141 (tgt := 53) (by decide) ?_
                refine R_weak (subL_c (subL_c (subL_c (subL_c (subL_c (subL_d subL_n)))))) ?_
                have hG19 : GR Mc16 := (GR.fr hG14 hq17.1 (by decide +kernel))
                have hk20 : RW Mc16 0 c := (RW.tro (RW.fr hk2 hq12.1 (by decide +kernel)) hq17.1 hq17.2.1 (by decide +kernel))
                exact ih53 _ ((rnS (e, s, p)).1) ((rnS (e, s, p)).2.1) ((rnS (e, s, p)).2.2) _ (by omega) (by omega) hG19 hk20 zr zF zT zs zp z4 (by (rw [rnF_s hi0 rfl, ← hE])) hok.1 (by omega) (by omega) (by omega) (by omega)
              · skip
                refine R_aload_0 hC dX12_drawn_105 ?_
                refine R_dup hC dX12_drawn_106 rfl ?_
                refine R_getIE hC dX12_drawn_107 fl_12_452 (by decide) rfl (by decide) (by decide) (fi := 54) rfl hpk ?_
                refine R_aload_0 hC dX12_drawn_110 ?_
                refine R_bipush hC dX12_drawn_111 (by decide +kernel) ⟨by decide, by decide⟩ ?_
                have hG21 : GR Mc11 := (GR.fr hg2 hq12.1 (by decide +kernel))
                have hk22 : RW Mc11 114 e := (RW.fr hk3 hq12.1 (by decide +kernel))
                refine R_callVp (as := [vI _]) hC dX12_drawn_113 mo_12_carries ml_12_427 (by decide) rfl rfl (c12_carries  hG21 hk22 (by omega) (by omega) hSe (by omega)) rfl rfl hRm (by decide) (by decide) (Nat.le_of_ble_eq_true rfl) (fun v25 Mc23 hq24 => ?_)
                have hk5 := rnS_5 (e := e) (p := p) (ekk.symm.trans hb102)
                have hFc : Fr [58, 63, 64, 65, 66, 67, 68, 69, 70, 71, 72, 77, 78, 79, 80] [(57, 4), (57, 22), (57, 23), (57, 30), (57, 47), (57, 48), (57, 49), (57, 52), (57, 53), (57, 54)] M Mc23 := Fr.tt hFk (hq24.1.mo (by simp) (by simp))
                have hTc : TRo M Mc23 := TRo.tr hTk (fun j q => hq24.2.1 j (by omega))
                have hvc := hq24.2.2.2
                have hk26 : RW Mc23 114 (coR e) := (hq24.2.2.1)
                have h5r : RW Mc23 114 (coR e) := hk26
                have h553 : Mc23 57 53 = nxS s := (hq24.1 57 53 (by decide) (by simp)).trans esk
                have h54 : Mc23 57 4 = 0 := (hq24.1 57 4 (by decide) (by simp)).trans h4k
                have bpl := plC_bd (SP.I hSe)
                refine R_iconst hC dX12_drawn_116 ⟨by decide, by decide⟩ ?_
                refine R_icmp_ne hC dX12_drawn_117 (tgt := 124) (by decide) (fun hb117 => ?_) (fun hb117 => ?_)
                · skip
                  have hpp : planI (insOf e) := Classical.byContradiction (fun z => by
                    rw [itc_f z] at hvc
                    exact hb117 hvc)
                  refine R_iconst hC dX12_drawn_124 ⟨by decide, by decide⟩ ?_
                  refine R_iadd hC dX12_drawn_125 ⟨by omega, by omega⟩ ?_
                  refine R_putI hC dX12_drawn_126 fl_12_452 (by decide) rfl (by decide) (by decide) (fi := 54) rfl ?_
                  have z4 : (uM Mc23 57 54 (p + 1)) 57 4 = 0 := (uM_k (by decide)).trans h54
                  have zF : Fr [58, 63, 64, 65, 66, 67, 68, 69, 70, 71, 72, 77, 78, 79, 80] [(57, 4), (57, 22), (57, 23), (57, 30), (57, 47), (57, 48), (57, 49), (57, 52), (57, 53), (57, 54)] M (uM Mc23 57 54 (p + 1)) := Fr.uB hFc (by decide)
                  have zT : TRo M (uM Mc23 57 54 (p + 1)) := hTc.h (by decide)
                  have hk27 : RW (uM Mc23 57 54 (p + 1)) 114 (coR e) := (RW.uf hk26 (by decide))
                  have zr : RW (uM Mc23 57 54 (p + 1)) 114 (rnS (e, s, p)).1 := by (rw [hk5]; exact hk27)
                  have zs : (uM Mc23 57 54 (p + 1)) 57 53 = (rnS (e, s, p)).2.1 := by (rw [hk5]; exact (uM_k (by decide)).trans h553)
                  have zp : (uM Mc23 57 54 (p + 1)) 57 54 = (rnS (e, s, p)).2.2 := by (rw [hk5]; exact uM_same.trans (by first | (rw [bP_neg hnp]) | (rw [bP_pos hpp])))
                  have z4 : (uM Mc23 57 54 (p + 1)) 57 4 = 0 := z4
                  refine R_goto hC dX12_drawn_129 (tgt := 138) (by decide) ?_
                  refine R_iinc_4 hC dX12_drawn_138 rfl ⟨by omega, by omega⟩ ?_
                  refine R_goto hC dX12_drawn_141 (tgt := 53) (by decide) ?_
                  refine R_weak (subL_c (subL_c (subL_c (subL_c (subL_c (subL_d subL_n)))))) ?_
                  have hG28 : GR (uM Mc23 57 54 (p + 1)) := (GR.uF (GR.fr hG21 hq24.1 (by decide +kernel)) (by decide +kernel) (by decide))
                  have hk29 : RW (uM Mc23 57 54 (p + 1)) 0 c := (RW.uf (RW.trb (RW.fr hk2 hq12.1 (by decide +kernel)) hq24.1 hq24.2.1 (by omega) (by decide +kernel)) (by decide))
                  exact ih53 _ ((rnS (e, s, p)).1) ((rnS (e, s, p)).2.1) ((rnS (e, s, p)).2.2) _ (by omega) (by omega) hG28 hk29 zr zF zT zs zp z4 (by (rw [rnF_s hi0 rfl, ← hE])) hok.1 (by omega) (by omega) (by omega) (by omega)
                · skip
                  have hnp : ¬ planI (insOf e) := fun z => by
                    rw [itc_t z] at hvc
                    omega
                  refine R_iconst hC dX12_drawn_120 ⟨by decide, by decide⟩ ?_
                  refine R_goto hC dX12_drawn_121 (tgt := 125) (by decide) ?_
                  refine R_iadd hC dX12_drawn_125 ⟨by omega, by omega⟩ ?_
                  refine R_putI hC dX12_drawn_126 fl_12_452 (by decide) rfl (by decide) (by decide) (fi := 54) rfl ?_
                  have z4 : (uM Mc23 57 54 (p + 0)) 57 4 = 0 := (uM_k (by decide)).trans h54
                  have zF : Fr [58, 63, 64, 65, 66, 67, 68, 69, 70, 71, 72, 77, 78, 79, 80] [(57, 4), (57, 22), (57, 23), (57, 30), (57, 47), (57, 48), (57, 49), (57, 52), (57, 53), (57, 54)] M (uM Mc23 57 54 (p + 0)) := Fr.uB hFc (by decide)
                  have zT : TRo M (uM Mc23 57 54 (p + 0)) := hTc.h (by decide)
                  have hk30 : RW (uM Mc23 57 54 (p + 0)) 114 (coR e) := (RW.uf hk26 (by decide))
                  have zr : RW (uM Mc23 57 54 (p + 0)) 114 (rnS (e, s, p)).1 := by (rw [hk5]; exact hk30)
                  have zs : (uM Mc23 57 54 (p + 0)) 57 53 = (rnS (e, s, p)).2.1 := by (rw [hk5]; exact (uM_k (by decide)).trans h553)
                  have zp : (uM Mc23 57 54 (p + 0)) 57 54 = (rnS (e, s, p)).2.2 := by (rw [hk5]; exact uM_same.trans (by first | (rw [bP_neg hnp]) | (rw [bP_pos hpp])))
                  have z4 : (uM Mc23 57 54 (p + 0)) 57 4 = 0 := z4
                  refine R_goto hC dX12_drawn_129 (tgt := 138) (by decide) ?_
                  refine R_iinc_4 hC dX12_drawn_138 rfl ⟨by omega, by omega⟩ ?_
                  refine R_goto hC dX12_drawn_141 (tgt := 53) (by decide) ?_
                  refine R_weak (subL_c (subL_c (subL_c (subL_c (subL_c (subL_d subL_n)))))) ?_
                  have hG31 : GR (uM Mc23 57 54 (p + 0)) := (GR.uF (GR.fr hG21 hq24.1 (by decide +kernel)) (by decide +kernel) (by decide))
                  have hk32 : RW (uM Mc23 57 54 (p + 0)) 0 c := (RW.uf (RW.trb (RW.fr hk2 hq12.1 (by decide +kernel)) hq24.1 hq24.2.1 (by omega) (by decide +kernel)) (by decide))
                  exact ih53 _ ((rnS (e, s, p)).1) ((rnS (e, s, p)).2.1) ((rnS (e, s, p)).2.2) _ (by omega) (by omega) hG31 hk32 zr zF zT zs zp z4 (by (rw [rnF_s hi0 rfl, ← hE])) hok.1 (by omega) (by omega) (by omega) (by omega)
            · skip
              refine R_aload_0 hC dX12_drawn_73 ?_
              have hG33 : GR Mc11 := (GR.fr hg2 hq12.1 (by decide +kernel))
              refine R_getR hC dX12_drawn_74 fl_12_9 (by decide) rfl (by decide) (by decide) (fi := 0) rfl (r := 58) (gr_57_0 hG33) ?_
              refine R_sipush hC dX12_drawn_77 (by decide +kernel) ⟨by decide, by decide⟩ ?_
              refine R_bipush hC dX12_drawn_80 (by decide +kernel) ⟨by decide, by decide⟩ ?_
              refine R_aload_0 hC dX12_drawn_82 ?_
              refine R_getR hC dX12_drawn_83 fl_12_9 (by decide) rfl (by decide) (by decide) (fi := 0) rfl (r := 58) (gr_57_0 hG33) ?_
              refine R_sipush hC dX12_drawn_86 (by decide +kernel) ⟨by decide, by decide⟩ ?_
              have hk34 : RW Mc11 114 e := (RW.fr hk3 hq12.1 (by decide +kernel))
              refine R_ialoadE hC dX12_drawn_89 (by decide) rfl (by omega) (by omega) (hk34.r5 (k := 118) (by omega) (by omega) (by omega)) ?_
              refine R_iconst hC dX12_drawn_90 ⟨by decide, by decide⟩ ?_
              refine R_iadd hC dX12_drawn_91 ⟨by omega, by omega⟩ ?_
              refine R_callSq (as := [vI _, vI _]) hC dX12_drawn_92 mo_12_lesser ml_12_126 (c12_lesser  ) rfl rfl hRm (by decide) (by decide) (Nat.le_of_ble_eq_true rfl) ?_
              refine R_iastore hC dX12_drawn_95 (by decide) rfl (by omega) (by omega) ?_
              have hk3 := rnS_3 (e := e) (p := p) (ekk.symm.trans hb70)
              have z4 : (uM Mc11 58 220 (min 60 (e 118 + 1))) 57 4 = 0 := (uM_h (by decide)).trans h4k
              have zF : Fr [58, 63, 64, 65, 66, 67, 68, 69, 70, 71, 72, 77, 78, 79, 80] [(57, 4), (57, 22), (57, 23), (57, 30), (57, 47), (57, 48), (57, 49), (57, 52), (57, 53), (57, 54)] M (uM Mc11 58 220 (min 60 (e 118 + 1))) := Fr.uA hFk (by decide)
              have zT : TRo M (uM Mc11 58 220 (min 60 (e 118 + 1))) := hTk.u (by omega) (by omega)
              have hk35 : RW (uM Mc11 58 220 (min 60 (e 118 + 1))) 114 (upd1 e 118 (min 60 (e 118 + 1))) := (hk34.w5 (k := 118) (by omega) (by omega) (by omega))
              have zr : RW (uM Mc11 58 220 (min 60 (e 118 + 1))) 114 (rnS (e, s, p)).1 := by (rw [hk3]; exact hk35)
              have zs : (uM Mc11 58 220 (min 60 (e 118 + 1))) 57 53 = (rnS (e, s, p)).2.1 := by (rw [hk3]; exact (uM_h (by decide)).trans esk)
              have zp : (uM Mc11 58 220 (min 60 (e 118 + 1))) 57 54 = (rnS (e, s, p)).2.2 := by (rw [hk3]; exact (uM_h (by decide)).trans hpk)
              have z4 : (uM Mc11 58 220 (min 60 (e 118 + 1))) 57 4 = 0 := z4
              refine R_goto hC dX12_drawn_96 (tgt := 138) (by decide) ?_
              refine R_iinc_4 hC dX12_drawn_138 rfl ⟨by omega, by omega⟩ ?_
              refine R_goto hC dX12_drawn_141 (tgt := 53) (by decide) ?_
              refine R_weak (subL_c (subL_c (subL_c (subL_c (subL_c (subL_d subL_n)))))) ?_
              have hG36 : GR (uM Mc11 58 220 (min 60 (e 118 + 1))) := (GR.uA hG33 (by decide +kernel) (.inl (by decide)))
              have hk37 : RW (uM Mc11 58 220 (min 60 (e 118 + 1))) 0 c := ((RW.fr hk2 hq12.1 (by decide +kernel)).ot (by omega))
              exact ih53 _ ((rnS (e, s, p)).1) ((rnS (e, s, p)).2.1) ((rnS (e, s, p)).2.2) _ (by omega) (by omega) hG36 hk37 zr zF zT zs zp z4 (by (rw [rnF_s hi0 rfl, ← hE])) hok.1 (by omega) (by omega) (by omega) (by omega)
      have hG38 : GR (uM (uM Mc9 57 53 f) 57 54 0) := (GR.uF (GR.uF (GR.fr hG7 hq10.1 (by decide +kernel)) (by decide +kernel) (by decide)) (by decide +kernel) (by decide))
      have hk39 : RW (uM (uM Mc9 57 53 f) 57 54 0) 0 c := (RW.uf (RW.uf (RW.tro hk8 hq10.1 hq10.2.1 (by decide +kernel)) (by decide)) (by decide))
      have hk40 : RW (uM (uM Mc9 57 53 f) 57 54 0) 114 c := (RW.uf (RW.uf (hq10.2.2.2) (by decide)) (by decide))
      exact L53 _ _ c f 0 _ (by omega) (by omega) hG38 hk39 hk40 (Fr.uB (Fr.uB hFt (by decide)) (by decide)) ((hTt.h (by decide)).h (by decide)) ((uM_k (by decide)).trans uM_same) uM_same ((uM_k (by decide)).trans ((uM_k (by decide)).trans h4t)) rfl hS (by omega) (by omega) (by omega) (Nat.lt_succ_self _)
    · skip
      have hn4n : ¬ (0 ≤ n ∧ n ≤ 40) := fun z => bP_z (hvd.symm.trans hb31) (h4d.trans (if_pos z))
      refine R_iconst hC dX12_drawn_34 ⟨by decide, by decide⟩ ?_
      exact R_ireturn hC dX12_drawn_35 rfl (ret_P ⟨by first | exact hFa | exact hFd, by first | exact hTa | exact hTd, by first | (rw [if_neg hw2n]; exact h4a.trans (if_neg hw2n)) | (rw [if_pos hw2, if_neg hn4n]; exact h4d.trans (if_neg hn4n)), fun z => by first | (rw [if_neg hw2n] at z; cases z) | (rw [if_pos hw2, if_neg hn4n] at z; cases z)⟩)
theorem dX12_fits_0 : decode cX12_fits 0 = .ok (.aload_n 0, 1) := by decide +kernel
theorem dX12_fits_1 : decode cX12_fits 1 = .ok (.iconst 0, 1) := by decide +kernel
theorem dX12_fits_2 : decode cX12_fits 2 = .ok (.putfield 84, 3) := by decide +kernel
theorem dX12_fits_5 : decode cX12_fits 5 = .ok (.aload_n 0, 1) := by decide +kernel
theorem dX12_fits_6 : decode cX12_fits 6 = .ok (.iload_n 1, 1) := by decide +kernel
theorem dX12_fits_7 : decode cX12_fits 7 = .ok (.iconst 0, 1) := by decide +kernel
theorem dX12_fits_8 : decode cX12_fits 8 = .ok (.iconst 2, 1) := by decide +kernel
theorem dX12_fits_9 : decode cX12_fits 9 = .ok (.invokestatic 235, 3) := by decide +kernel
theorem dX12_fits_12 : decode cX12_fits 12 = .ok (.iconst 1, 1) := by decide +kernel
theorem dX12_fits_13 : decode cX12_fits 13 = .ok (.invokevirtual 269, 3) := by decide +kernel
theorem dX12_fits_16 : decode cX12_fits 16 = .ok (.ifCond .ne 5, 3) := by decide +kernel
theorem dX12_fits_19 : decode cX12_fits 19 = .ok (.iconst 0, 1) := by decide +kernel
theorem dX12_fits_20 : decode cX12_fits 20 = .ok (.ireturn, 1) := by decide +kernel
theorem dX12_fits_21 : decode cX12_fits 21 = .ok (.iload_n 1, 1) := by decide +kernel
theorem dX12_fits_22 : decode cX12_fits 22 = .ok (.iconst 2, 1) := by decide +kernel
theorem dX12_fits_23 : decode cX12_fits 23 = .ok (.if_icmp .ne 17, 3) := by decide +kernel
theorem dX12_fits_26 : decode cX12_fits 26 = .ok (.aload_n 0, 1) := by decide +kernel
theorem dX12_fits_27 : decode cX12_fits 27 = .ok (.iconst 0, 1) := by decide +kernel
theorem dX12_fits_28 : decode cX12_fits 28 = .ok (.invokevirtual 433, 3) := by decide +kernel
theorem dX12_fits_31 : decode cX12_fits 31 = .ok (.ifCond .eq 7, 3) := by decide +kernel
theorem dX12_fits_34 : decode cX12_fits 34 = .ok (.iconst 1, 1) := by decide +kernel
theorem dX12_fits_35 : decode cX12_fits 35 = .ok (.goto 4, 3) := by decide +kernel
theorem dX12_fits_38 : decode cX12_fits 38 = .ok (.iconst 0, 1) := by decide +kernel
theorem dX12_fits_39 : decode cX12_fits 39 = .ok (.ireturn, 1) := by decide +kernel
theorem dX12_fits_40 : decode cX12_fits 40 = .ok (.aload_n 0, 1) := by decide +kernel
theorem dX12_fits_41 : decode cX12_fits 41 = .ok (.invokevirtual 436, 3) := by decide +kernel
theorem dX12_fits_44 : decode cX12_fits 44 = .ok (.iload_n 1, 1) := by decide +kernel
theorem dX12_fits_45 : decode cX12_fits 45 = .ok (.ifCond .ne 10, 3) := by decide +kernel
theorem dX12_fits_48 : decode cX12_fits 48 = .ok (.aload_n 0, 1) := by decide +kernel
theorem dX12_fits_49 : decode cX12_fits 49 = .ok (.getfield 430, 3) := by decide +kernel
theorem dX12_fits_52 : decode cX12_fits 52 = .ok (.goto 20, 3) := by decide +kernel
theorem dX12_fits_55 : decode cX12_fits 55 = .ok (.aload_n 0, 1) := by decide +kernel
theorem dX12_fits_56 : decode cX12_fits 56 = .ok (.getfield 430, 3) := by decide +kernel
theorem dX12_fits_59 : decode cX12_fits 59 = .ok (.ifCond .ne 7, 3) := by decide +kernel
theorem dX12_fits_62 : decode cX12_fits 62 = .ok (.iconst (-1), 1) := by decide +kernel
theorem dX12_fits_63 : decode cX12_fits 63 = .ok (.goto 9, 3) := by decide +kernel
theorem dX12_fits_66 : decode cX12_fits 66 = .ok (.aload_n 0, 1) := by decide +kernel
theorem dX12_fits_67 : decode cX12_fits 67 = .ok (.getfield 78, 3) := by decide +kernel
theorem dX12_fits_70 : decode cX12_fits 70 = .ok (.iconst 0, 1) := by decide +kernel
theorem dX12_fits_71 : decode cX12_fits 71 = .ok (.iaload, 1) := by decide +kernel
theorem dX12_fits_72 : decode cX12_fits 72 = .ok (.ireturn, 1) := by decide +kernel
set_option maxHeartbeats 1000000 in
theorem c12_fits {G : Gl} {l : Launch}  {M : Mem} {c : Int → Int} {w : Int} {n : Int} {no : Int → Int} (hG : GR M) (hK : RW M 0 c) (hS : SP c) (hn : M 57 9 = n) (hno : ∀ i, 0 ≤ i → i < n → M 60 i = no i) (hn0 : 0 ≤ n) (hn1 : n ≤ 6) : Ct G LY 82 l 9 m12_fits [vR 57, vI w] M (RP (fun v M' => Fr [58, 63, 64, 65, 66, 67, 68, 69, 70, 71, 72, 77, 78, 79, 80] [(57, 4), (57, 22), (57, 23), (57, 30), (57, 47), (57, 48), (57, 49), (57, 52), (57, 53), (57, 54)] M M' ∧ TRo M M' ∧ M' 57 4 = (if 0 ≤ w ∧ w ≤ 2 then (0 : Int) else 1) ∧ ((if 0 ≤ w ∧ w ≤ 2 then (0 : Int) else 1) = 0 → v = (if w = 2 then bP (∀ i, 0 ≤ i → i < n → no i = SPC (insOf c)) else if w = 0 then (ckA (fitP c no n) (c 122).toNat).1 else (ckA (fitP c no n) (c 122).toNat).2)))) := by
  refine R_start (by decide +kernel) (Nat.le_of_ble_eq_true rfl) (fun C hC hRm hlau => ?_)
  show RZ G LY C (Zn G LY 82 C (RP (fun v M' => Fr [58, 63, 64, 65, 66, 67, 68, 69, 70, 71, 72, 77, 78, 79, 80] [(57, 4), (57, 22), (57, 23), (57, 30), (57, 47), (57, 48), (57, 49), (57, 52), (57, 53), (57, 54)] M M' ∧ TRo M M' ∧ M' 57 4 = (if 0 ≤ w ∧ w ≤ 2 then (0 : Int) else 1) ∧ ((if 0 ≤ w ∧ w ≤ 2 then (0 : Int) else 1) = 0 → v = (if w = 2 then bP (∀ i, 0 ≤ i → i < n → no i = SPC (insOf c)) else if w = 0 then (ckA (fitP c no n) (c 122).toNat).1 else (ckA (fitP c no n) (c 122).toNat).2))))) 0 0 82 0 [some (vR 57), some (vI w)] [] M
  have hM := hS.m
  have hI := hM.I
  have hL := hM.1.1
  have hW := hM.1.2
  refine R_aload_0 hC dX12_fits_0 ?_
  refine R_iconst hC dX12_fits_1 ⟨by decide, by decide⟩ ?_
  refine R_putI hC dX12_fits_2 fl_12_84 (by decide) rfl (by decide) (by decide) (fi := 4) rfl ?_
  refine R_aload_0 hC dX12_fits_5 ?_
  refine R_iload_1 hC dX12_fits_6 ?_
  refine R_iconst hC dX12_fits_7 ⟨by decide, by decide⟩ ?_
  refine R_iconst hC dX12_fits_8 ⟨by decide, by decide⟩ ?_
  refine R_callSq (as := [vI _, vI _, vI _]) hC dX12_fits_9 mo_12_within ml_12_235 (c12_within  ) rfl rfl hRm (by decide) (by decide) (Nat.le_of_ble_eq_true rfl) ?_
  refine R_iconst hC dX12_fits_12 ⟨by decide, by decide⟩ ?_
  have hFz : Fr [58, 63, 64, 65, 66, 67, 68, 69, 70, 71, 72, 77, 78, 79, 80] [(57, 4), (57, 22), (57, 23), (57, 30), (57, 47), (57, 48), (57, 49), (57, 52), (57, 53), (57, 54)] M (uM M 57 4 0) := Fr.uB Fr.rf (by decide)
  have hTz : TRo M (uM M 57 4 0) := TRo.rf.h (by decide)
  refine R_callVp (as := [vI _, vI _]) hC dX12_fits_13 mo_12_right ml_12_269 (by decide) rfl rfl (c12_right  ) rfl rfl hRm (by decide) (by decide) (Nat.le_of_ble_eq_true rfl) (fun v3 Mc1 hq2 => ?_)
  have hFa : Fr [58, 63, 64, 65, 66, 67, 68, 69, 70, 71, 72, 77, 78, 79, 80] [(57, 4), (57, 22), (57, 23), (57, 30), (57, 47), (57, 48), (57, 49), (57, 52), (57, 53), (57, 54)] M Mc1 := Fr.tt hFz (hq2.1.mo (by simp) (by simp))
  have hTa : TRo M Mc1 := TRo.tr hTz (TRo.of hq2.1 (by decide) (by decide))
  have h4a := rt_d hq2.2.1 uM_same
  have hva := hq2.2.2
  refine R_if_ne hC dX12_fits_16 (tgt := 21) (by decide) (fun hb16 => ?_) (fun hb16 => ?_)
  · skip
    have hwok : 0 ≤ w ∧ w ≤ 2 := Classical.byContradiction (fun z => by
      have y := bP_nz (fun y => hb16 (hva.trans y))
      rw [h4a, if_neg z] at y
      cases y)
    have h4a0 := h4a.trans (if_pos hwok)
    refine R_iload_1 hC dX12_fits_21 ?_
    refine R_iconst hC dX12_fits_22 ⟨by decide, by decide⟩ ?_
    refine R_icmp_ne hC dX12_fits_23 (tgt := 40) (by decide) (fun hb23 => ?_) (fun hb23 => ?_)
    · skip
      refine R_aload_0 hC dX12_fits_40 ?_
      have hG4 : GR Mc1 := (GR.fr (GR.uF hG (by decide +kernel) (by decide)) hq2.1 (by decide +kernel))
      have hk5 : RW Mc1 0 c := (RW.fr (RW.uf hK (by decide)) hq2.1 (by decide +kernel))
      refine R_callVv (as := []) hC dX12_fits_41 mo_12_laysFits ml_12_436 (by decide) rfl rfl (c12_laysFits  hG4 hk5 hS ((hFa 57 9 (by decide) (by decide)).trans hn) (fun i a b => (congrFun (hFa.row (by decide) (by decide)) i).trans (hno i a b)) (by omega) (by omega)) rfl rfl hRm (by decide) (by decide) (Nat.le_of_ble_eq_true rfl) (fun Mc6 hq7 => ?_)
      have hFf : Fr [58, 63, 64, 65, 66, 67, 68, 69, 70, 71, 72, 77, 78, 79, 80] [(57, 4), (57, 22), (57, 23), (57, 30), (57, 47), (57, 48), (57, 49), (57, 52), (57, 53), (57, 54)] M Mc6 := Fr.tt hFa (hq7.1.mo (by simp) (by simp))
      have hTf : TRo M Mc6 := TRo.tr hTa (hq7.2.1)
      have h4f : Mc6 57 4 = 0 := (hq7.1 57 4 (by decide) (by simp)).trans h4a0
      have hck := ck_all (by omega) hq7.2.2.1 hq7.2.2.2
      have hm52 := hq7.2.2.1
      have b52 := cL_b (P := (fitP c no n)) (16 * c 122).toNat
      refine R_iload_1 hC dX12_fits_44 ?_
      refine R_if_ne hC dX12_fits_45 (tgt := 55) (by decide) (fun hb45 => ?_) (fun hb45 => ?_)
      · skip
        refine R_aload_0 hC dX12_fits_55 ?_
        refine R_getI hC dX12_fits_56 fl_12_430 (by decide) rfl (by decide) (by decide) (fi := 52) rfl ?_
        refine R_if_ne hC dX12_fits_59 (tgt := 66) (by decide) (fun hb59 => ?_) (fun hb59 => ?_)
        · skip
          refine R_aload_0 hC dX12_fits_66 ?_
          have hG8 : GR Mc6 := (GR.fr hG4 hq7.1 (by decide +kernel))
          refine R_getR hC dX12_fits_67 fl_12_78 (by decide) rfl (by decide) (by decide) (fi := 50) rfl (r := 79) (gr_57_50 hG8) ?_
          refine R_iconst hC dX12_fits_70 ⟨by decide, by decide⟩ ?_
          refine R_iaload hC dX12_fits_71 (by decide) rfl (by omega) (by omega) ?_
          exact R_ireturn hC dX12_fits_72 rfl (ret_P ⟨hFf, hTf, by (rw [if_pos hwok]; exact h4f), fun _ => by (rw [if_neg (show ¬ w = 2 by omega), hck]; first | (rw [if_pos (show w = 0 by omega)]) | (rw [if_neg (show ¬ w = 0 by omega), if_pos hb59]) | (rw [if_neg (show ¬ w = 0 by omega), if_neg hb59]))⟩)
        · skip
          refine R_iconst hC dX12_fits_62 ⟨by decide, by decide⟩ ?_
          refine R_goto hC dX12_fits_63 (tgt := 72) (by decide) ?_
          exact R_ireturn hC dX12_fits_72 rfl (ret_P ⟨hFf, hTf, by (rw [if_pos hwok]; exact h4f), fun _ => by (rw [if_neg (show ¬ w = 2 by omega), hck]; first | (rw [if_pos (show w = 0 by omega)]) | (rw [if_neg (show ¬ w = 0 by omega), if_pos hb59]) | (rw [if_neg (show ¬ w = 0 by omega), if_neg hb59]))⟩)
      · skip
        refine R_aload_0 hC dX12_fits_48 ?_
        refine R_getI hC dX12_fits_49 fl_12_430 (by decide) rfl (by decide) (by decide) (fi := 52) rfl ?_
        refine R_goto hC dX12_fits_52 (tgt := 72) (by decide) ?_
        exact R_ireturn hC dX12_fits_72 rfl (ret_P ⟨hFf, hTf, by (rw [if_pos hwok]; exact h4f), fun _ => by (rw [if_neg (show ¬ w = 2 by omega), hck]; first | (rw [if_pos (show w = 0 by omega)]) | (rw [if_neg (show ¬ w = 0 by omega), if_pos hb59]) | (rw [if_neg (show ¬ w = 0 by omega), if_neg hb59]))⟩)
    · skip
      refine R_aload_0 hC dX12_fits_26 ?_
      refine R_iconst hC dX12_fits_27 ⟨by decide, by decide⟩ ?_
      have hG9 : GR Mc1 := (GR.fr (GR.uF hG (by decide +kernel) (by decide)) hq2.1 (by decide +kernel))
      have hk10 : RW Mc1 0 c := (RW.fr (RW.uf hK (by decide)) hq2.1 (by decide +kernel))
      refine R_callVp (as := [vI _]) hC dX12_fits_28 mo_12_isNoted ml_12_433 (by decide) rfl rfl (c12_isNoted  hG9 hk10 (by omega) (by omega) hM ((hFa 57 9 (by decide) (by decide)).trans hn) (fun i a b => (congrFun (hFa.row (by decide) (by decide)) i).trans (hno i a b)) (by omega) (by omega)) rfl rfl hRm (by decide) (by decide) (Nat.le_of_ble_eq_true rfl) (fun v13 Mc11 hq12 => ?_)
      have hFn : Fr [58, 63, 64, 65, 66, 67, 68, 69, 70, 71, 72, 77, 78, 79, 80] [(57, 4), (57, 22), (57, 23), (57, 30), (57, 47), (57, 48), (57, 49), (57, 52), (57, 53), (57, 54)] M Mc11 := Fr.tt hFa (hq12.1.mo (by simp) (by simp))
      have hTn : TRo M Mc11 := TRo.tr hTa (TRo.of hq12.1 (by decide) (by decide))
      have hvn := hq12.2
      have h4n : Mc11 57 4 = 0 := (hq12.1 57 4 (by decide) (by simp)).trans h4a0
      refine R_if_eq hC dX12_fits_31 (tgt := 38) (by decide) (fun hb31 => ?_) (fun hb31 => ?_)
      · skip
        refine R_iconst hC dX12_fits_38 ⟨by decide, by decide⟩ ?_
        exact R_ireturn hC dX12_fits_39 rfl (ret_P ⟨hFn, hTn, by (rw [if_pos hwok]; exact h4n), fun _ => by (rw [if_pos (show w = 2 by omega)]; first | (rw [bP_pos (bP_nz (fun z => hb31 (hvn.trans z)))]) | (rw [bP_neg (bP_z (hvn.symm.trans hb31))]))⟩)
      · skip
        refine R_iconst hC dX12_fits_34 ⟨by decide, by decide⟩ ?_
        refine R_goto hC dX12_fits_35 (tgt := 39) (by decide) ?_
        exact R_ireturn hC dX12_fits_39 rfl (ret_P ⟨hFn, hTn, by (rw [if_pos hwok]; exact h4n), fun _ => by (rw [if_pos (show w = 2 by omega)]; first | (rw [bP_pos (bP_nz (fun z => hb31 (hvn.trans z)))]) | (rw [bP_neg (bP_z (hvn.symm.trans hb31))]))⟩)
  · skip
    have hwn : ¬ (0 ≤ w ∧ w ≤ 2) := fun z => bP_z (hva.symm.trans hb16) (h4a.trans (if_pos z))
    refine R_iconst hC dX12_fits_19 ⟨by decide, by decide⟩ ?_
    exact R_ireturn hC dX12_fits_20 rfl (ret_P ⟨hFa, hTa, h4a, fun z => by (rw [if_neg hwn] at z; cases z)⟩)
theorem dX12_look_0 : decode cX12_look 0 = .ok (.aload_n 0, 1) := by decide +kernel
theorem dX12_look_1 : decode cX12_look 1 = .ok (.iconst 0, 1) := by decide +kernel
theorem dX12_look_2 : decode cX12_look 2 = .ok (.putfield 84, 3) := by decide +kernel
theorem dX12_look_5 : decode cX12_look 5 = .ok (.aload_n 0, 1) := by decide +kernel
theorem dX12_look_6 : decode cX12_look 6 = .ok (.iload_n 1, 1) := by decide +kernel
theorem dX12_look_7 : decode cX12_look 7 = .ok (.iconst 0, 1) := by decide +kernel
theorem dX12_look_8 : decode cX12_look 8 = .ok (.iconst 1, 1) := by decide +kernel
theorem dX12_look_9 : decode cX12_look 9 = .ok (.invokestatic 235, 3) := by decide +kernel
theorem dX12_look_12 : decode cX12_look 12 = .ok (.iconst 1, 1) := by decide +kernel
theorem dX12_look_13 : decode cX12_look 13 = .ok (.invokevirtual 269, 3) := by decide +kernel
theorem dX12_look_16 : decode cX12_look 16 = .ok (.ifCond .ne 5, 3) := by decide +kernel
theorem dX12_look_19 : decode cX12_look 19 = .ok (.iconst 0, 1) := by decide +kernel
theorem dX12_look_20 : decode cX12_look 20 = .ok (.ireturn, 1) := by decide +kernel
theorem dX12_look_21 : decode cX12_look 21 = .ok (.aload_n 0, 1) := by decide +kernel
theorem dX12_look_22 : decode cX12_look 22 = .ok (.invokevirtual 436, 3) := by decide +kernel
theorem dX12_look_25 : decode cX12_look 25 = .ok (.aload_n 0, 1) := by decide +kernel
theorem dX12_look_26 : decode cX12_look 26 = .ok (.invokevirtual 439, 3) := by decide +kernel
theorem dX12_look_29 : decode cX12_look 29 = .ok (.iconst (-1), 1) := by decide +kernel
theorem dX12_look_30 : decode cX12_look 30 = .ok (.istore_n 2, 1) := by decide +kernel
theorem dX12_look_31 : decode cX12_look 31 = .ok (.iconst 0, 1) := by decide +kernel
theorem dX12_look_32 : decode cX12_look 32 = .ok (.istore_n 3, 1) := by decide +kernel
theorem dX12_look_33 : decode cX12_look 33 = .ok (.iconst 0, 1) := by decide +kernel
theorem dX12_look_34 : decode cX12_look 34 = .ok (.istore 4, 2) := by decide +kernel
theorem dX12_look_36 : decode cX12_look 36 = .ok (.iload 4, 2) := by decide +kernel
theorem dX12_look_38 : decode cX12_look 38 = .ok (.aload_n 0, 1) := by decide +kernel
theorem dX12_look_39 : decode cX12_look 39 = .ok (.getfield 105, 3) := by decide +kernel
theorem dX12_look_42 : decode cX12_look 42 = .ok (.if_icmp .ge 32, 3) := by decide +kernel
theorem dX12_look_45 : decode cX12_look 45 = .ok (.aload_n 0, 1) := by decide +kernel
theorem dX12_look_46 : decode cX12_look 46 = .ok (.iload 4, 2) := by decide +kernel
theorem dX12_look_48 : decode cX12_look 48 = .ok (.invokevirtual 442, 3) := by decide +kernel
theorem dX12_look_51 : decode cX12_look 51 = .ok (.istore 5, 2) := by decide +kernel
theorem dX12_look_53 : decode cX12_look 53 = .ok (.iload 5, 2) := by decide +kernel
theorem dX12_look_55 : decode cX12_look 55 = .ok (.iload_n 3, 1) := by decide +kernel
theorem dX12_look_56 : decode cX12_look 56 = .ok (.if_icmp .gt 6, 3) := by decide +kernel
theorem dX12_look_59 : decode cX12_look 59 = .ok (.goto 9, 3) := by decide +kernel
theorem dX12_look_62 : decode cX12_look 62 = .ok (.iload 4, 2) := by decide +kernel
theorem dX12_look_64 : decode cX12_look 64 = .ok (.istore_n 2, 1) := by decide +kernel
theorem dX12_look_65 : decode cX12_look 65 = .ok (.iload 5, 2) := by decide +kernel
theorem dX12_look_67 : decode cX12_look 67 = .ok (.istore_n 3, 1) := by decide +kernel
theorem dX12_look_68 : decode cX12_look 68 = .ok (.iinc 4 1, 3) := by decide +kernel
theorem dX12_look_71 : decode cX12_look 71 = .ok (.goto (-35), 3) := by decide +kernel
theorem dX12_look_74 : decode cX12_look 74 = .ok (.iload_n 1, 1) := by decide +kernel
theorem dX12_look_75 : decode cX12_look 75 = .ok (.ifCond .ne 7, 3) := by decide +kernel
theorem dX12_look_78 : decode cX12_look 78 = .ok (.iload_n 2, 1) := by decide +kernel
theorem dX12_look_79 : decode cX12_look 79 = .ok (.goto 4, 3) := by decide +kernel
theorem dX12_look_82 : decode cX12_look 82 = .ok (.iload_n 3, 1) := by decide +kernel
theorem dX12_look_83 : decode cX12_look 83 = .ok (.ireturn, 1) := by decide +kernel
set_option maxHeartbeats 1000000 in
theorem c12_look {G : Gl} {l : Launch}  {M : Mem} {c : Int → Int} {w : Int} {n : Int} {no : Int → Int} (hG : GR M) (hK : RW M 0 c) (hS : SP c) (hn : M 57 9 = n) (hno : ∀ i, 0 ≤ i → i < n → M 60 i = no i) (hn0 : 0 ≤ n) (hn1 : n ≤ 6) : Ct G LY 82 l 9 m12_look [vR 57, vI w] M (RP (fun v M' => Fr [58, 63, 64, 65, 66, 67, 68, 69, 70, 71, 72, 77, 78, 79, 80] [(57, 4), (57, 22), (57, 23), (57, 30), (57, 47), (57, 48), (57, 49), (57, 52), (57, 53), (57, 54)] M M' ∧ TRo M M' ∧ M' 57 4 = (if 0 ≤ w ∧ w ≤ 1 then (0 : Int) else 1) ∧ ((if 0 ≤ w ∧ w ≤ 1 then (0 : Int) else 1) = 0 → v = (if w = 0 then (ubF (fun x => (nwA (fitP c no n) (fun w k => spcK (UIx c x) c w k + 1) (c 122).toNat).1) (c 121).toNat).2 else (ubF (fun x => (nwA (fitP c no n) (fun w k => spcK (UIx c x) c w k + 1) (c 122).toNat).1) (c 121).toNat).1)))) := by
  refine R_start (by decide +kernel) (Nat.le_of_ble_eq_true rfl) (fun C hC hRm hlau => ?_)
  show RZ G LY C (Zn G LY 82 C (RP (fun v M' => Fr [58, 63, 64, 65, 66, 67, 68, 69, 70, 71, 72, 77, 78, 79, 80] [(57, 4), (57, 22), (57, 23), (57, 30), (57, 47), (57, 48), (57, 49), (57, 52), (57, 53), (57, 54)] M M' ∧ TRo M M' ∧ M' 57 4 = (if 0 ≤ w ∧ w ≤ 1 then (0 : Int) else 1) ∧ ((if 0 ≤ w ∧ w ≤ 1 then (0 : Int) else 1) = 0 → v = (if w = 0 then (ubF (fun x => (nwA (fitP c no n) (fun w k => spcK (UIx c x) c w k + 1) (c 122).toNat).1) (c 121).toNat).2 else (ubF (fun x => (nwA (fitP c no n) (fun w k => spcK (UIx c x) c w k + 1) (c 122).toNat).1) (c 121).toNat).1))))) 0 0 82 0 [some (vR 57), some (vI w), none, none, none, none] [] M
  have hM := hS.m
  have hI := hM.I
  have hL := hM.1.1
  have hW := hM.1.2
  refine R_aload_0 hC dX12_look_0 ?_
  refine R_iconst hC dX12_look_1 ⟨by decide, by decide⟩ ?_
  refine R_putI hC dX12_look_2 fl_12_84 (by decide) rfl (by decide) (by decide) (fi := 4) rfl ?_
  refine R_aload_0 hC dX12_look_5 ?_
  refine R_iload_1 hC dX12_look_6 ?_
  refine R_iconst hC dX12_look_7 ⟨by decide, by decide⟩ ?_
  refine R_iconst hC dX12_look_8 ⟨by decide, by decide⟩ ?_
  refine R_callSq (as := [vI _, vI _, vI _]) hC dX12_look_9 mo_12_within ml_12_235 (c12_within  ) rfl rfl hRm (by decide) (by decide) (Nat.le_of_ble_eq_true rfl) ?_
  refine R_iconst hC dX12_look_12 ⟨by decide, by decide⟩ ?_
  have hFz : Fr [58, 63, 64, 65, 66, 67, 68, 69, 70, 71, 72, 77, 78, 79, 80] [(57, 4), (57, 22), (57, 23), (57, 30), (57, 47), (57, 48), (57, 49), (57, 52), (57, 53), (57, 54)] M (uM M 57 4 0) := Fr.uB Fr.rf (by decide)
  have hTz : TRo M (uM M 57 4 0) := TRo.rf.h (by decide)
  refine R_callVp (as := [vI _, vI _]) hC dX12_look_13 mo_12_right ml_12_269 (by decide) rfl rfl (c12_right  ) rfl rfl hRm (by decide) (by decide) (Nat.le_of_ble_eq_true rfl) (fun v3 Mc1 hq2 => ?_)
  have hFa : Fr [58, 63, 64, 65, 66, 67, 68, 69, 70, 71, 72, 77, 78, 79, 80] [(57, 4), (57, 22), (57, 23), (57, 30), (57, 47), (57, 48), (57, 49), (57, 52), (57, 53), (57, 54)] M Mc1 := Fr.tt hFz (hq2.1.mo (by simp) (by simp))
  have hTa : TRo M Mc1 := TRo.tr hTz (TRo.of hq2.1 (by decide) (by decide))
  have h4a := rt_d hq2.2.1 uM_same
  have hva := hq2.2.2
  refine R_if_ne hC dX12_look_16 (tgt := 21) (by decide) (fun hb16 => ?_) (fun hb16 => ?_)
  · skip
    have hwok : 0 ≤ w ∧ w ≤ 1 := Classical.byContradiction (fun z => by
      have y := bP_nz (fun y => hb16 (hva.trans y))
      rw [h4a, if_neg z] at y
      cases y)
    have h4a0 := h4a.trans (if_pos hwok)
    refine R_aload_0 hC dX12_look_21 ?_
    have hG4 : GR Mc1 := (GR.fr (GR.uF hG (by decide +kernel) (by decide)) hq2.1 (by decide +kernel))
    have hk5 : RW Mc1 0 c := (RW.fr (RW.uf hK (by decide)) hq2.1 (by decide +kernel))
    refine R_callVv (as := []) hC dX12_look_22 mo_12_laysFits ml_12_436 (by decide) rfl rfl (c12_laysFits  hG4 hk5 hS ((hFa 57 9 (by decide) (by decide)).trans hn) (fun i a b => (congrFun (hFa.row (by decide) (by decide)) i).trans (hno i a b)) (by omega) (by omega)) rfl rfl hRm (by decide) (by decide) (Nat.le_of_ble_eq_true rfl) (fun Mc6 hq7 => ?_)
    have hFf : Fr [58, 63, 64, 65, 66, 67, 68, 69, 70, 71, 72, 77, 78, 79, 80] [(57, 4), (57, 22), (57, 23), (57, 30), (57, 47), (57, 48), (57, 49), (57, 52), (57, 53), (57, 54)] M Mc6 := Fr.tt hFa (hq7.1.mo (by simp) (by simp))
    have hTf : TRo M Mc6 := TRo.tr hTa (hq7.2.1)
    have h4f : Mc6 57 4 = 0 := (hq7.1 57 4 (by decide) (by simp)).trans h4a0
    have hm52 := hq7.2.2.1
    have b52 := cL_b (P := (fitP c no n)) (16 * c 122).toNat
    have hrng := FL_rng rfl hq7.2.2.2
    refine R_aload_0 hC dX12_look_25 ?_
    have hG8 : GR Mc6 := (GR.fr hG4 hq7.1 (by decide +kernel))
    have hk9 : RW Mc6 0 c := (RW.tro hk5 hq7.1 hq7.2.1 (by decide +kernel))
    refine R_callVv (as := []) hC dX12_look_26 mo_12_laysSpaces ml_12_439 (by decide) rfl rfl (c12_laysSpaces  hG8 hk9 hS hm52 (fun a a0 a1 => rfl) hrng (by omega) (by omega)) rfl rfl hRm (by decide) (by decide) (Nat.le_of_ble_eq_true rfl) (fun Mc10 hq11 => ?_)
    have hFs : Fr [58, 63, 64, 65, 66, 67, 68, 69, 70, 71, 72, 77, 78, 79, 80] [(57, 4), (57, 22), (57, 23), (57, 30), (57, 47), (57, 48), (57, 49), (57, 52), (57, 53), (57, 54)] M Mc10 := Fr.tt hFf (hq11.1.mo (by simp) (by simp))
    have hTs : TRo M Mc10 := TRo.tr hTf (hq11.2.1)
    have h4s : Mc10 57 4 = 0 := (hq11.1 57 4 (by decide) (by simp)).trans h4f
    have hUx : ∀ x, 0 ≤ x → x < c 121 → uL (fun a => Mc10 80 (5 * a + x)) (cL (fitP c no n) (16 * c 122).toNat).toNat = (fun x => (nwA (fitP c no n) (fun w k => spcK (UIx c x) c w k + 1) (c 122).toNat).1) x := fun x x0 x1 => look_U (by omega) rfl hq7.2.2.2 x0 x1 hq11.2.2
    have h52s := (hq11.1 57 52 (by decide) (by simp)).trans hm52
    have bU : ∀ x, 0 ≤ x → x < c 121 → (fun x => (nwA (fitP c no n) (fun w k => spcK (UIx c x) c w k + 1) (c 122).toNat).1) x ≤ 96 := fun x x0 x1 => by
      rw [← hUx x x0 x1]
      have := (uL_b (G := fun a => Mc10 80 (5 * a + x)) (cL (fitP c no n) (16 * c 122).toNat).toNat).2
      omega
    refine R_iconst hC dX12_look_29 ⟨by decide, by decide⟩ ?_
    refine R_istore_2 hC dX12_look_30 rfl ?_
    refine R_iconst hC dX12_look_31 ⟨by decide, by decide⟩ ?_
    refine R_istore_3 hC dX12_look_32 rfl ?_
    refine R_iconst hC dX12_look_33 ⟨by decide, by decide⟩ ?_
    refine R_istore_4 hC dX12_look_34 rfl ?_
    have L36 : ∀ (mq : Nat) (t : Int) (u : Int) (x : Int), (0 ≤ x) → (x ≤ c 121) → ((u, t) = ubF (fun x => (nwA (fitP c no n) (fun w k => spcK (UIx c x) c w k + 1) (c 122).toNat).1) x.toNat) → (0 ≤ u) → (u ≤ 96) → (c 121 - x).toNat < mq → RZ G LY C (Zn G LY 82 C (RP (fun v M' => Fr [58, 63, 64, 65, 66, 67, 68, 69, 70, 71, 72, 77, 78, 79, 80] [(57, 4), (57, 22), (57, 23), (57, 30), (57, 47), (57, 48), (57, 49), (57, 52), (57, 53), (57, 54)] M M' ∧ TRo M M' ∧ M' 57 4 = (if 0 ≤ w ∧ w ≤ 1 then (0 : Int) else 1) ∧ ((if 0 ≤ w ∧ w ≤ 1 then (0 : Int) else 1) = 0 → v = (if w = 0 then (ubF (fun x => (nwA (fitP c no n) (fun w k => spcK (UIx c x) c w k + 1) (c 122).toNat).1) (c 121).toNat).2 else (ubF (fun x => (nwA (fitP c no n) (fun w k => spcK (UIx c x) c w k + 1) (c 122).toNat).1) (c 121).toNat).1))))) 0 0 82 36 [some (vR 57), some (vI w), some (vI t), some (vI u), some (vI x), none] [] Mc10 := by
      intro mq
      induction mq with
      | zero =>
        intro t u x hx0 hx1 ht hu0 hu1 hm
        exact absurd hm (Nat.not_lt_zero _)
      | succ mq ih36 =>
        intro t u x hx0 hx1 ht hu0 hu1 hm36
        refine R_iload_4 hC dX12_look_36 ?_
        refine R_aload_0 hC dX12_look_38 ?_
        have hk12 : RW Mc10 0 c := (RW.tro hk9 hq11.1 hq11.2.1 (by decide +kernel))
        refine R_getIE hC dX12_look_39 fl_12_105 (by decide) rfl (by decide) (by decide) (fi := 5) rfl hk12.l ?_
        refine R_icmp_ge hC dX12_look_42 (tgt := 74) (by decide) (fun hb42 => ?_) (fun hb42 => ?_)
        · skip
          refine R_iload_1 hC dX12_look_74 ?_
          refine R_if_ne hC dX12_look_75 (tgt := 82) (by decide) (fun hb75 => ?_) (fun hb75 => ?_)
          · skip
            refine R_iload_3 hC dX12_look_82 ?_
            exact R_ireturn hC dX12_look_83 rfl (ret_P ⟨hFs, hTs, by (rw [if_pos hwok]; exact h4s), fun _ => by (rw [show c 121 = x by omega, ← ht]; first | (rw [if_pos hb75]) | (rw [if_neg hb75]))⟩)
          · skip
            refine R_iload_2 hC dX12_look_78 ?_
            refine R_goto hC dX12_look_79 (tgt := 83) (by decide) ?_
            exact R_ireturn hC dX12_look_83 rfl (ret_P ⟨hFs, hTs, by (rw [if_pos hwok]; exact h4s), fun _ => by (rw [show c 121 = x by omega, ← ht]; first | (rw [if_pos hb75]) | (rw [if_neg hb75]))⟩)
        · skip
          refine R_aload_0 hC dX12_look_45 ?_
          refine R_iload_4 hC dX12_look_46 ?_
          have hG13 : GR Mc10 := (GR.fr hG8 hq11.1 (by decide +kernel))
          refine R_callVq (as := [vI _]) hC dX12_look_48 mo_12_unlike ml_12_442 (by decide) rfl rfl (c12_unlike  hG13 hk12 hS (by omega) (by omega) h52s (fun a a0 a1 => rfl) (by omega) (by omega)) rfl rfl hRm (by decide) (by decide) (Nat.le_of_ble_eq_true rfl) ?_
          refine R_istore_5 hC dX12_look_51 rfl ?_
          refine R_iload_5 hC dX12_look_53 ?_
          refine R_iload_3 hC dX12_look_55 ?_
          refine R_icmp_gt hC dX12_look_56 (tgt := 62) (by decide) (fun hb56 => ?_) (fun hb56 => ?_)
          · skip
            have z1 : u < (fun x => (nwA (fitP c no n) (fun w k => spcK (UIx c x) c w k + 1) (c 122).toNat).1) x := Int.lt_of_lt_of_le hb56 (Int.le_of_eq (hUx x hx0 hb42))
            have z2 : ubF (fun x => (nwA (fitP c no n) (fun w k => spcK (UIx c x) c w k + 1) (c 122).toNat).1) (x + 1).toNat = ((fun x => (nwA (fitP c no n) (fun w k => spcK (UIx c x) c w k + 1) (c 122).toNat).1) x, x) := ubF_t hx0 rfl (by rw [← ht]; exact z1)
            have ht9 := (congrArg (fun v : Int => (v, x)) (hUx x hx0 hb42)).trans z2.symm
            have b9 := Int.le_trans (Int.le_of_eq (hUx x hx0 hb42)) (bU x hx0 hb42)
            refine R_iload_4 hC dX12_look_62 ?_
            refine R_istore_2 hC dX12_look_64 rfl ?_
            refine R_iload_5 hC dX12_look_65 ?_
            refine R_istore_3 hC dX12_look_67 rfl ?_
            refine R_iinc_4 hC dX12_look_68 rfl ⟨by omega, by omega⟩ ?_
            refine R_goto hC dX12_look_71 (tgt := 36) (by decide) ?_
            refine R_weak (subL_c (subL_c (subL_c (subL_c (subL_c (subL_d subL_n)))))) ?_
            exact ih36 _ _ _ (by omega) (by omega) (by first | exact ht9 | exact ht.trans z2.symm) (by omega) (by omega) (by omega)
          · skip
            have z2 : ubF (fun x => (nwA (fitP c no n) (fun w k => spcK (UIx c x) c w k + 1) (c 122).toNat).1) (x + 1).toNat = ubF (fun x => (nwA (fitP c no n) (fun w k => spcK (UIx c x) c w k + 1) (c 122).toNat).1) x.toNat := ubF_f hx0 rfl (by rw [← ht]; exact fun q => absurd (Int.lt_of_lt_of_le q (Int.le_of_eq (hUx x hx0 hb42).symm)) (Int.not_lt.mpr hb56))
            refine R_goto hC dX12_look_59 (tgt := 68) (by decide) ?_
            refine R_iinc_4 hC dX12_look_68 rfl ⟨by omega, by omega⟩ ?_
            refine R_goto hC dX12_look_71 (tgt := 36) (by decide) ?_
            refine R_weak (subL_c (subL_c (subL_c (subL_c (subL_c (subL_d subL_n)))))) ?_
            exact ih36 _ _ _ (by omega) (by omega) (by first | exact ht9 | exact ht.trans z2.symm) (by omega) (by omega) (by omega)
    exact L36 _ _ _ _ (by omega) (by omega) rfl (by omega) (by omega) (Nat.lt_succ_self _)
  · skip
    have hwn : ¬ (0 ≤ w ∧ w ≤ 1) := fun z => bP_z (hva.symm.trans hb16) (h4a.trans (if_pos z))
    refine R_iconst hC dX12_look_19 ⟨by decide, by decide⟩ ?_
    exact R_ireturn hC dX12_look_20 rfl (ret_P ⟨hFa, hTa, h4a, fun z => by (rw [if_neg hwn] at z; cases z)⟩)
