/-! Draws: YEARS by a seed -/
def nxS (s : Int) : Int := ((s * 1103515245).bmod 4294967296 + 12345).bmod 4294967296
def drV (s m : Int) : Int := if 0 < m then (nxS s % 4294967296 / 2 ^ Int.toNat 16).bmod 4294967296 % 2 ^ 15 % m else 0
theorem drV_bd {s m : Int} (h : 0 < m) : 0 ≤ drV s m ∧ drV s m < m := by
  unfold drV
  rw [if_pos h]
  exact ⟨Int.emod_nonneg _ (by omega), Int.emod_lt_of_pos _ h⟩
noncomputable def mcG (d : Int → Int) (w x t k s2 s3 : Int) : (Int → Int) × Int :=
  if k < 2 then (upd1 d (28 + (x * 6 + w)) (min 3 (d (28 + (x * 6 + w)) + 1)), s2)
  else if k = 2 then (@ite (Int → Int) (mayGo d x w) (Classical.propDecidable _) (upd1 (upd1 d (28 + (x * 6 + w)) (d (28 + (x * 6 + w)) - 1)) 119 (d 119 + 1)) d, s2)
  else (@ite (Int → Int) (mayGive d x t w) (Classical.propDecidable _) (mvR d x t w) d, s3)
noncomputable def mcF (d : Int → Int) (s k : Int) : (Int → Int) × Int := mcG d (drV s (d 122)) (drV (nxS s) (d 121)) (drV (nxS (nxS s)) (d 121)) k (nxS (nxS s)) (nxS (nxS (nxS s)))
theorem mcG_0 {d : Int → Int} {w x t k s2 s3 : Int} (h : k < 2) : mcG d w x t k s2 s3 = (upd1 d (28 + (x * 6 + w)) (min 3 (d (28 + (x * 6 + w)) + 1)), s2) := by
  unfold mcG
  rw [if_pos h]
theorem mcG_2t {d : Int → Int} {w x t k s2 s3 : Int} (h : k = 2) (g : mayGo d x w) : mcG d w x t k s2 s3 = (upd1 (upd1 d (28 + (x * 6 + w)) (d (28 + (x * 6 + w)) - 1)) 119 (d 119 + 1), s2) := by
  unfold mcG
  rw [if_neg (by omega), if_pos h, if_pos g]
theorem mcG_2f {d : Int → Int} {w x t k s2 s3 : Int} (h : k = 2) (g : ¬ mayGo d x w) : mcG d w x t k s2 s3 = (d, s2) := by
  unfold mcG
  rw [if_neg (by omega), if_pos h, if_neg g]
theorem mcG_3t {d : Int → Int} {w x t k s2 s3 : Int} (h : 2 < k) (g : mayGive d x t w) : mcG d w x t k s2 s3 = (mvR d x t w, s3) := by
  unfold mcG
  rw [if_neg (by omega), if_neg (by omega), if_pos g]
theorem mcG_3f {d : Int → Int} {w x t k s2 s3 : Int} (h : 2 < k) (g : ¬ mayGive d x t w) : mcG d w x t k s2 s3 = (d, s3) := by
  unfold mcG
  rw [if_neg (by omega), if_neg (by omega), if_neg g]

theorem dX1_draw_0 : decode cX1_draw 0 = .ok (.aload_n 0, 1) := by decide +kernel
theorem dX1_draw_1 : decode cX1_draw 1 = .ok (.aload_n 0, 1) := by decide +kernel
theorem dX1_draw_2 : decode cX1_draw 2 = .ok (.getfield 26, 3) := by decide +kernel
theorem dX1_draw_5 : decode cX1_draw 5 = .ok (.ldc 61, 2) := by decide +kernel
theorem dX1_draw_7 : decode cX1_draw 7 = .ok (.imul, 1) := by decide +kernel
theorem dX1_draw_8 : decode cX1_draw 8 = .ok (.sipush 12345, 3) := by decide +kernel
theorem dX1_draw_11 : decode cX1_draw 11 = .ok (.iadd, 1) := by decide +kernel
theorem dX1_draw_12 : decode cX1_draw 12 = .ok (.putfield 26, 3) := by decide +kernel
theorem dX1_draw_15 : decode cX1_draw 15 = .ok (.iload_n 1, 1) := by decide +kernel
theorem dX1_draw_16 : decode cX1_draw 16 = .ok (.ifCond .le 19, 3) := by decide +kernel
theorem dX1_draw_19 : decode cX1_draw 19 = .ok (.aload_n 0, 1) := by decide +kernel
theorem dX1_draw_20 : decode cX1_draw 20 = .ok (.getfield 26, 3) := by decide +kernel
theorem dX1_draw_23 : decode cX1_draw 23 = .ok (.bipush 16, 2) := by decide +kernel
theorem dX1_draw_25 : decode cX1_draw 25 = .ok (.iushr, 1) := by decide +kernel
theorem dX1_draw_26 : decode cX1_draw 26 = .ok (.sipush 32767, 3) := by decide +kernel
theorem dX1_draw_29 : decode cX1_draw 29 = .ok (.iand, 1) := by decide +kernel
theorem dX1_draw_30 : decode cX1_draw 30 = .ok (.iload_n 1, 1) := by decide +kernel
theorem dX1_draw_31 : decode cX1_draw 31 = .ok (.irem, 1) := by decide +kernel
theorem dX1_draw_32 : decode cX1_draw 32 = .ok (.goto 4, 3) := by decide +kernel
theorem dX1_draw_35 : decode cX1_draw 35 = .ok (.iconst 0, 1) := by decide +kernel
theorem dX1_draw_36 : decode cX1_draw 36 = .ok (.ireturn, 1) := by decide +kernel
set_option maxHeartbeats 400000 in
theorem c1_draw {G : Gl} {l : Launch}  {M : Mem} {n : Int} (hG : GR M) : Ct G LY 82 l 0 m1_draw [vR 52, vI n] M (RP (fun v M' => Fr [] [(52, 1)] M M' ∧ v = drV (M 52 1) n ∧ M' 52 1 = nxS (M 52 1))) := by
  refine R_start (by decide +kernel) (Nat.le_of_ble_eq_true rfl) (fun C hC hRm hlau => ?_)
  show RZ G LY C (Zn G LY 82 C (RP (fun v M' => Fr [] [(52, 1)] M M' ∧ v = drV (M 52 1) n ∧ M' 52 1 = nxS (M 52 1)))) 0 0 82 0 [some (vR 52), some (vI n)] [] M
  refine R_aload_0 hC dX1_draw_0 ?_
  refine R_aload_0 hC dX1_draw_1 ?_
  refine R_getI hC dX1_draw_2 fl_1_26 (by decide) rfl (by decide) (by decide) (fi := 1) rfl ?_
  refine R_ldc hC dX1_draw_5 ck_1_61 (c := 1103515245) (by decide +kernel) ⟨by decide, by decide⟩ ?_
  refine R_imulw hC dX1_draw_7 ?_
  refine R_sipush hC dX1_draw_8 (by decide +kernel) ⟨by decide, by decide⟩ ?_
  refine R_iaddw hC dX1_draw_11 ?_
  refine R_putI hC dX1_draw_12 fl_1_26 (by decide) rfl (by decide) (by decide) (fi := 1) rfl ?_
  refine R_iload_1 hC dX1_draw_15 ?_
  refine R_if_le hC dX1_draw_16 (tgt := 35) (by decide) (fun hb16 => ?_) (fun hb16 => ?_)
  · skip
    refine R_iconst hC dX1_draw_35 ⟨by decide, by decide⟩ ?_
    exact R_ireturn hC dX1_draw_36 rfl (ret_P ⟨Fr.uB Fr.rf (by decide), by unfold drV; first | (rw [if_pos (show 0 < n by omega)]; rfl) | (rw [if_neg (show ¬ 0 < n by omega)]), uM_same⟩)
  · skip
    refine R_aload_0 hC dX1_draw_19 ?_
    refine R_getIE hC dX1_draw_20 fl_1_26 (by decide) rfl (by decide) (by decide) (fi := 1) rfl uM_same ?_
    refine R_bipush hC dX1_draw_23 (by decide +kernel) ⟨by decide, by decide⟩ ?_
    refine R_iushr hC dX1_draw_25 (by omega) (by omega) ?_
    refine R_sipush hC dX1_draw_26 (by decide +kernel) ⟨by decide, by decide⟩ ?_
    refine R_iandm hC dX1_draw_29 (m := 15) (by decide) (by decide) ?_
    refine R_iload_1 hC dX1_draw_30 ?_
    refine R_irem hC dX1_draw_31 (by omega) (by omega) ?_
    refine R_goto hC dX1_draw_32 (tgt := 36) (by decide) ?_
    exact R_ireturn hC dX1_draw_36 rfl (ret_P ⟨Fr.uB Fr.rf (by decide), by unfold drV; first | (rw [if_pos (show 0 < n by omega)]; rfl) | (rw [if_neg (show ¬ 0 < n by omega)]), uM_same⟩)
theorem dX1_moveCopy_0 : decode cX1_moveCopy 0 = .ok (.aload_n 0, 1) := by decide +kernel
theorem dX1_moveCopy_1 : decode cX1_moveCopy 1 = .ok (.aload_n 0, 1) := by decide +kernel
theorem dX1_moveCopy_2 : decode cX1_moveCopy 2 = .ok (.getfield 18, 3) := by decide +kernel
theorem dX1_moveCopy_5 : decode cX1_moveCopy 5 = .ok (.invokevirtual 54, 3) := by decide +kernel
theorem dX1_moveCopy_8 : decode cX1_moveCopy 8 = .ok (.invokevirtual 33, 3) := by decide +kernel
theorem dX1_moveCopy_11 : decode cX1_moveCopy 11 = .ok (.istore_n 2, 1) := by decide +kernel
theorem dX1_moveCopy_12 : decode cX1_moveCopy 12 = .ok (.aload_n 0, 1) := by decide +kernel
theorem dX1_moveCopy_13 : decode cX1_moveCopy 13 = .ok (.aload_n 0, 1) := by decide +kernel
theorem dX1_moveCopy_14 : decode cX1_moveCopy 14 = .ok (.getfield 18, 3) := by decide +kernel
theorem dX1_moveCopy_17 : decode cX1_moveCopy 17 = .ok (.invokevirtual 50, 3) := by decide +kernel
theorem dX1_moveCopy_20 : decode cX1_moveCopy 20 = .ok (.invokevirtual 33, 3) := by decide +kernel
theorem dX1_moveCopy_23 : decode cX1_moveCopy 23 = .ok (.istore_n 3, 1) := by decide +kernel
theorem dX1_moveCopy_24 : decode cX1_moveCopy 24 = .ok (.bipush 28, 2) := by decide +kernel
theorem dX1_moveCopy_26 : decode cX1_moveCopy 26 = .ok (.iload_n 3, 1) := by decide +kernel
theorem dX1_moveCopy_27 : decode cX1_moveCopy 27 = .ok (.iload_n 2, 1) := by decide +kernel
theorem dX1_moveCopy_28 : decode cX1_moveCopy 28 = .ok (.invokestatic 62, 3) := by decide +kernel
theorem dX1_moveCopy_31 : decode cX1_moveCopy 31 = .ok (.iadd, 1) := by decide +kernel
theorem dX1_moveCopy_32 : decode cX1_moveCopy 32 = .ok (.istore 4, 2) := by decide +kernel
theorem dX1_moveCopy_34 : decode cX1_moveCopy 34 = .ok (.iload_n 1, 1) := by decide +kernel
theorem dX1_moveCopy_35 : decode cX1_moveCopy 35 = .ok (.iconst 2, 1) := by decide +kernel
theorem dX1_moveCopy_36 : decode cX1_moveCopy 36 = .ok (.if_icmp .ge 32, 3) := by decide +kernel
theorem dX1_moveCopy_39 : decode cX1_moveCopy 39 = .ok (.aload_n 0, 1) := by decide +kernel
theorem dX1_moveCopy_40 : decode cX1_moveCopy 40 = .ok (.getfield 18, 3) := by decide +kernel
theorem dX1_moveCopy_43 : decode cX1_moveCopy 43 = .ok (.getfield 37, 3) := by decide +kernel
theorem dX1_moveCopy_46 : decode cX1_moveCopy 46 = .ok (.iload 4, 2) := by decide +kernel
theorem dX1_moveCopy_48 : decode cX1_moveCopy 48 = .ok (.iconst 3, 1) := by decide +kernel
theorem dX1_moveCopy_49 : decode cX1_moveCopy 49 = .ok (.aload_n 0, 1) := by decide +kernel
theorem dX1_moveCopy_50 : decode cX1_moveCopy 50 = .ok (.getfield 18, 3) := by decide +kernel
theorem dX1_moveCopy_53 : decode cX1_moveCopy 53 = .ok (.getfield 37, 3) := by decide +kernel
theorem dX1_moveCopy_56 : decode cX1_moveCopy 56 = .ok (.iload 4, 2) := by decide +kernel
theorem dX1_moveCopy_58 : decode cX1_moveCopy 58 = .ok (.iaload, 1) := by decide +kernel
theorem dX1_moveCopy_59 : decode cX1_moveCopy 59 = .ok (.iconst 1, 1) := by decide +kernel
theorem dX1_moveCopy_60 : decode cX1_moveCopy 60 = .ok (.iadd, 1) := by decide +kernel
theorem dX1_moveCopy_61 : decode cX1_moveCopy 61 = .ok (.invokestatic 41, 3) := by decide +kernel
theorem dX1_moveCopy_64 : decode cX1_moveCopy 64 = .ok (.iastore, 1) := by decide +kernel
theorem dX1_moveCopy_65 : decode cX1_moveCopy 65 = .ok (.goto 89, 3) := by decide +kernel
theorem dX1_moveCopy_68 : decode cX1_moveCopy 68 = .ok (.iload_n 1, 1) := by decide +kernel
theorem dX1_moveCopy_69 : decode cX1_moveCopy 69 = .ok (.iconst 2, 1) := by decide +kernel
theorem dX1_moveCopy_70 : decode cX1_moveCopy 70 = .ok (.if_icmp .ne 46, 3) := by decide +kernel
theorem dX1_moveCopy_73 : decode cX1_moveCopy 73 = .ok (.aload_n 0, 1) := by decide +kernel
theorem dX1_moveCopy_74 : decode cX1_moveCopy 74 = .ok (.getfield 18, 3) := by decide +kernel
theorem dX1_moveCopy_77 : decode cX1_moveCopy 77 = .ok (.iload_n 3, 1) := by decide +kernel
theorem dX1_moveCopy_78 : decode cX1_moveCopy 78 = .ok (.iload_n 2, 1) := by decide +kernel
theorem dX1_moveCopy_79 : decode cX1_moveCopy 79 = .ok (.invokevirtual 65, 3) := by decide +kernel
theorem dX1_moveCopy_82 : decode cX1_moveCopy 82 = .ok (.ifCond .eq 72, 3) := by decide +kernel
theorem dX1_moveCopy_85 : decode cX1_moveCopy 85 = .ok (.aload_n 0, 1) := by decide +kernel
theorem dX1_moveCopy_86 : decode cX1_moveCopy 86 = .ok (.getfield 18, 3) := by decide +kernel
theorem dX1_moveCopy_89 : decode cX1_moveCopy 89 = .ok (.getfield 37, 3) := by decide +kernel
theorem dX1_moveCopy_92 : decode cX1_moveCopy 92 = .ok (.iload 4, 2) := by decide +kernel
theorem dX1_moveCopy_94 : decode cX1_moveCopy 94 = .ok (.dup2, 1) := by decide +kernel
theorem dX1_moveCopy_95 : decode cX1_moveCopy 95 = .ok (.iaload, 1) := by decide +kernel
theorem dX1_moveCopy_96 : decode cX1_moveCopy 96 = .ok (.iconst 1, 1) := by decide +kernel
theorem dX1_moveCopy_97 : decode cX1_moveCopy 97 = .ok (.isub, 1) := by decide +kernel
theorem dX1_moveCopy_98 : decode cX1_moveCopy 98 = .ok (.iastore, 1) := by decide +kernel
theorem dX1_moveCopy_99 : decode cX1_moveCopy 99 = .ok (.aload_n 0, 1) := by decide +kernel
theorem dX1_moveCopy_100 : decode cX1_moveCopy 100 = .ok (.getfield 18, 3) := by decide +kernel
theorem dX1_moveCopy_103 : decode cX1_moveCopy 103 = .ok (.getfield 37, 3) := by decide +kernel
theorem dX1_moveCopy_106 : decode cX1_moveCopy 106 = .ok (.bipush 119, 2) := by decide +kernel
theorem dX1_moveCopy_108 : decode cX1_moveCopy 108 = .ok (.dup2, 1) := by decide +kernel
theorem dX1_moveCopy_109 : decode cX1_moveCopy 109 = .ok (.iaload, 1) := by decide +kernel
theorem dX1_moveCopy_110 : decode cX1_moveCopy 110 = .ok (.iconst 1, 1) := by decide +kernel
theorem dX1_moveCopy_111 : decode cX1_moveCopy 111 = .ok (.iadd, 1) := by decide +kernel
theorem dX1_moveCopy_112 : decode cX1_moveCopy 112 = .ok (.iastore, 1) := by decide +kernel
theorem dX1_moveCopy_113 : decode cX1_moveCopy 113 = .ok (.goto 41, 3) := by decide +kernel
theorem dX1_moveCopy_116 : decode cX1_moveCopy 116 = .ok (.aload_n 0, 1) := by decide +kernel
theorem dX1_moveCopy_117 : decode cX1_moveCopy 117 = .ok (.aload_n 0, 1) := by decide +kernel
theorem dX1_moveCopy_118 : decode cX1_moveCopy 118 = .ok (.getfield 18, 3) := by decide +kernel
theorem dX1_moveCopy_121 : decode cX1_moveCopy 121 = .ok (.invokevirtual 50, 3) := by decide +kernel
theorem dX1_moveCopy_124 : decode cX1_moveCopy 124 = .ok (.invokevirtual 33, 3) := by decide +kernel
theorem dX1_moveCopy_127 : decode cX1_moveCopy 127 = .ok (.istore 5, 2) := by decide +kernel
theorem dX1_moveCopy_129 : decode cX1_moveCopy 129 = .ok (.aload_n 0, 1) := by decide +kernel
theorem dX1_moveCopy_130 : decode cX1_moveCopy 130 = .ok (.getfield 18, 3) := by decide +kernel
theorem dX1_moveCopy_133 : decode cX1_moveCopy 133 = .ok (.iload_n 3, 1) := by decide +kernel
theorem dX1_moveCopy_134 : decode cX1_moveCopy 134 = .ok (.iload 5, 2) := by decide +kernel
theorem dX1_moveCopy_136 : decode cX1_moveCopy 136 = .ok (.iload_n 2, 1) := by decide +kernel
theorem dX1_moveCopy_137 : decode cX1_moveCopy 137 = .ok (.invokevirtual 69, 3) := by decide +kernel
theorem dX1_moveCopy_140 : decode cX1_moveCopy 140 = .ok (.ifCond .eq 14, 3) := by decide +kernel
theorem dX1_moveCopy_143 : decode cX1_moveCopy 143 = .ok (.aload_n 0, 1) := by decide +kernel
theorem dX1_moveCopy_144 : decode cX1_moveCopy 144 = .ok (.getfield 18, 3) := by decide +kernel
theorem dX1_moveCopy_147 : decode cX1_moveCopy 147 = .ok (.iload_n 3, 1) := by decide +kernel
theorem dX1_moveCopy_148 : decode cX1_moveCopy 148 = .ok (.iload 5, 2) := by decide +kernel
theorem dX1_moveCopy_150 : decode cX1_moveCopy 150 = .ok (.iload_n 2, 1) := by decide +kernel
theorem dX1_moveCopy_151 : decode cX1_moveCopy 151 = .ok (.invokevirtual 73, 3) := by decide +kernel
theorem dX1_moveCopy_154 : decode cX1_moveCopy 154 = .ok (.return_, 1) := by decide +kernel
set_option maxHeartbeats 1000000 in
theorem c1_moveCopy {G : Gl} {l : Launch}  {M : Mem} {k : Int} {d : Int → Int} (hG : GR M) (hD : M 56 = d) (hB : SB d) (hL1 : 0 < d 121) (hW1 : 0 < d 122) : Ct G LY 82 l 3 m1_moveCopy [vR 52, vI k] M (RV (fun M' => Fr [56] [(52, 1)] M M' ∧ GR M' ∧ M' 56 = (mcF d (M 52 1) k).1 ∧ M' 52 1 = (mcF d (M 52 1) k).2)) := by
  refine R_start (by decide +kernel) (Nat.le_of_ble_eq_true rfl) (fun C hC hRm hlau => ?_)
  show RZ G LY C (Zn G LY 82 C (RV (fun M' => Fr [56] [(52, 1)] M M' ∧ GR M' ∧ M' 56 = (mcF d (M 52 1) k).1 ∧ M' 52 1 = (mcF d (M 52 1) k).2))) 0 0 82 0 [some (vR 52), some (vI k), none, none, none, none] [] M
  have hLd := hB.L
  have hWd := hB.W
  have h119 := hB.1 119 (by omega) (by omega)
  refine R_aload_0 hC dX1_moveCopy_0 ?_
  refine R_aload_0 hC dX1_moveCopy_1 ?_
  refine R_getR hC dX1_moveCopy_2 fl_1_18 (by decide) rfl (by decide) (by decide) (fi := 2) rfl (r := 55) (gr_52_2 hG) ?_
  refine R_callVq (as := []) hC dX1_moveCopy_5 mo_8_works ml_1_54 (by decide) rfl rfl (c8_works_d  hD hG sh_55) rfl rfl hRm (by decide) (by decide) (Nat.le_of_ble_eq_true rfl) ?_
  refine R_callVp (as := [vI _]) hC dX1_moveCopy_8 mo_1_draw ml_1_33 (by decide) rfl rfl (c1_draw  hG) rfl rfl hRm (by decide) (by decide) (Nat.le_of_ble_eq_true rfl) (fun v3 Mc1 hq2 => ?_)
  have ew := hq2.2.1
  have bw := drV_bd (s := M 52 1) hW1
  rw [← ew] at bw
  refine R_istore_2 hC dX1_moveCopy_11 rfl ?_
  refine R_aload_0 hC dX1_moveCopy_12 ?_
  refine R_aload_0 hC dX1_moveCopy_13 ?_
  have hG4 : GR Mc1 := (GR.fr hG hq2.1 (by decide +kernel))
  refine R_getR hC dX1_moveCopy_14 fl_1_18 (by decide) rfl (by decide) (by decide) (fi := 2) rfl (r := 55) (gr_52_2 hG4) ?_
  have hr5 : Mc1 56 = d := ((hq2.1.row (by decide) (by decide)).trans hD)
  refine R_callVq (as := []) hC dX1_moveCopy_17 mo_8_libraries ml_1_50 (by decide) rfl rfl (c8_libraries_d  hr5 hG4 sh_55) rfl rfl hRm (by decide) (by decide) (Nat.le_of_ble_eq_true rfl) ?_
  refine R_callVp (as := [vI _]) hC dX1_moveCopy_20 mo_1_draw ml_1_33 (by decide) rfl rfl (c1_draw  hG4) rfl rfl hRm (by decide) (by decide) (Nat.le_of_ble_eq_true rfl) (fun v8 Mc6 hq7 => ?_)
  have ex := hq7.2.1
  rw [hq2.2.2] at ex
  have bx := drV_bd (s := nxS (M 52 1)) hL1
  rw [← ex] at bx
  have es2 : Mc6 52 1 = nxS (nxS (M 52 1)) := hq7.2.2.trans (by rw [hq2.2.2])
  have hFb : Fr [56] [(52, 1)] M Mc6 := Fr.tt (hq2.1.mo (by decide) (by decide)) (hq7.1.mo (by decide) (by decide))
  have hr9 : Mc6 56 = d := ((hq7.1.row (by decide) (by decide)).trans hr5)
  have hR := hr9
  refine R_istore_3 hC dX1_moveCopy_23 rfl ?_
  refine R_bipush hC dX1_moveCopy_24 (by decide +kernel) ⟨by decide, by decide⟩ ?_
  refine R_iload_3 hC dX1_moveCopy_26 ?_
  refine R_iload_2 hC dX1_moveCopy_27 ?_
  refine R_callSNq (as := [vI _, vI _]) hC dX1_moveCopy_28 mo_11_pairOf mn_1_62 (c11_pairOf  (by omega) (by omega) (by omega) (by omega)) rfl rfl hRm (by decide) (by decide) (Nat.le_of_ble_eq_true rfl) ?_
  refine R_iadd hC dX1_moveCopy_31 ⟨by omega, by omega⟩ ?_
  refine R_istore_4 hC dX1_moveCopy_32 rfl ?_
  have b28 := hB.1 (28 + (v8 * 6 + v3)) (by omega) (by omega)
  refine R_iload_1 hC dX1_moveCopy_34 ?_
  refine R_iconst hC dX1_moveCopy_35 ⟨by decide, by decide⟩ ?_
  refine R_icmp_ge hC dX1_moveCopy_36 (tgt := 68) (by decide) (fun hb36 => ?_) (fun hb36 => ?_)
  · skip
    refine R_iload_1 hC dX1_moveCopy_68 ?_
    refine R_iconst hC dX1_moveCopy_69 ⟨by decide, by decide⟩ ?_
    refine R_icmp_ne hC dX1_moveCopy_70 (tgt := 116) (by decide) (fun hb70 => ?_) (fun hb70 => ?_)
    · skip
      refine R_aload_0 hC dX1_moveCopy_116 ?_
      refine R_aload_0 hC dX1_moveCopy_117 ?_
      have hG10 : GR Mc6 := (GR.fr hG4 hq7.1 (by decide +kernel))
      refine R_getR hC dX1_moveCopy_118 fl_1_18 (by decide) rfl (by decide) (by decide) (fi := 2) rfl (r := 55) (gr_52_2 hG10) ?_
      refine R_callVq (as := []) hC dX1_moveCopy_121 mo_8_libraries ml_1_50 (by decide) rfl rfl (c8_libraries_d  hr9 hG10 sh_55) rfl rfl hRm (by decide) (by decide) (Nat.le_of_ble_eq_true rfl) ?_
      refine R_callVp (as := [vI _]) hC dX1_moveCopy_124 mo_1_draw ml_1_33 (by decide) rfl rfl (c1_draw  hG10) rfl rfl hRm (by decide) (by decide) (Nat.le_of_ble_eq_true rfl) (fun v13 Mc11 hq12 => ?_)
      have et := hq12.2.1
      rw [es2] at et
      have bt := drV_bd (s := nxS (nxS (M 52 1))) hL1
      rw [← et] at bt
      have es3 : Mc11 52 1 = nxS (nxS (nxS (M 52 1))) := hq12.2.2.trans (by rw [es2])
      have hFc : Fr [56] [(52, 1)] M Mc11 := Fr.tt hFb (hq12.1.mo (by decide) (by decide))
      have hr14 : Mc11 56 = d := ((hq12.1.row (by decide) (by decide)).trans hr9)
      have hR3 := hr14
      refine R_istore_5 hC dX1_moveCopy_127 rfl ?_
      refine R_aload_0 hC dX1_moveCopy_129 ?_
      have hG15 : GR Mc11 := (GR.fr hG10 hq12.1 (by decide +kernel))
      refine R_getR hC dX1_moveCopy_130 fl_1_18 (by decide) rfl (by decide) (by decide) (fi := 2) rfl (r := 55) (gr_52_2 hG15) ?_
      refine R_iload_3 hC dX1_moveCopy_133 ?_
      refine R_iload_5 hC dX1_moveCopy_134 ?_
      refine R_iload_2 hC dX1_moveCopy_136 ?_
      refine R_callVq (as := [vI _, vI _, vI _]) hC dX1_moveCopy_137 mo_8_mayGive ml_1_69 (by decide) rfl rfl (c8_mayGive_d  hr14 hG15 sh_55 hB (by omega) (by omega) (by omega) (by omega) (by omega) (by omega)) rfl rfl hRm (by decide) (by decide) (Nat.le_of_ble_eq_true rfl) ?_
      refine R_if_eq hC dX1_moveCopy_140 (tgt := 154) (by decide) (fun hb140 => ?_) (fun hb140 => ?_)
      · skip
        replace hb140 := bP_z hb140
        have hmc : mcF d (M 52 1) k = mcG d (drV (M 52 1) (d 122)) (drV (nxS (M 52 1)) (d 121)) (drV (nxS (nxS (M 52 1))) (d 121)) k (nxS (nxS (M 52 1))) (nxS (nxS (nxS (M 52 1)))) := rfl
        rw [← ew, ← ex] at hmc
        exact R_return hC dX1_moveCopy_154 rfl (ret_V ⟨by first | exact Fr.uA hFb (by decide) | exact Fr.uA (Fr.uA hFb (by decide)) (by decide) | exact hFb | exact hFc | exact Fr.tt hFc ({qd}.1.mo (by decide) (by decide)), hG15, by
              first
                | (rw [hmc, mcG_0 (show k < 2 by omega), uM_row, hR]; all_goals rfl)
                | (rw [hmc, mcG_2t (show k = 2 by omega) hb82, uM_row, uM_row, hR]; all_goals rfl)
                | (rw [hmc, mcG_2f (show k = 2 by omega) hb82]; exact hR)
                | (rw [hmc, ← et, mcG_3t (show 2 < k by omega) hb140]; exact {qd}.2.2)
                | (rw [hmc, ← et, mcG_3f (show 2 < k by omega) hb140]; exact hR3), by
              first
                | (rw [hmc, mcG_0 (show k < 2 by omega)]; exact (uM_h (by decide)).trans es2)
                | (rw [hmc, mcG_2t (show k = 2 by omega) hb82]; exact (uM_h (by decide)).trans ((uM_h (by decide)).trans es2))
                | (rw [hmc, mcG_2f (show k = 2 by omega) hb82]; exact es2)
                | (rw [hmc, ← et, mcG_3t (show 2 < k by omega) hb140]; exact ({qd}.1 52 1 (by decide) (by decide)).trans es3)
                | (rw [hmc, ← et, mcG_3f (show 2 < k by omega) hb140]; exact es3)⟩)
      · skip
        replace hb140 := bP_nz hb140
        refine R_aload_0 hC dX1_moveCopy_143 ?_
        refine R_getR hC dX1_moveCopy_144 fl_1_18 (by decide) rfl (by decide) (by decide) (fi := 2) rfl (r := 55) (gr_52_2 hG15) ?_
        refine R_iload_3 hC dX1_moveCopy_147 ?_
        refine R_iload_5 hC dX1_moveCopy_148 ?_
        refine R_iload_2 hC dX1_moveCopy_150 ?_
        refine R_callVv (as := [vI _, vI _, vI _]) hC dX1_moveCopy_151 mo_8_moveOne ml_1_73 (by decide) rfl rfl (c8_moveOne  hG15 sh_55 hr14 hB (by omega) (by omega) (by omega) (by omega) (by omega) (by omega)) rfl rfl hRm (by decide) (by decide) (Nat.le_of_ble_eq_true rfl) (fun Mc16 hq17 => ?_)
        have hG18 := hq17.2.1
        have hr19 := hq17.2.2
        have hmc : mcF d (M 52 1) k = mcG d (drV (M 52 1) (d 122)) (drV (nxS (M 52 1)) (d 121)) (drV (nxS (nxS (M 52 1))) (d 121)) k (nxS (nxS (M 52 1))) (nxS (nxS (nxS (M 52 1)))) := rfl
        rw [← ew, ← ex] at hmc
        exact R_return hC dX1_moveCopy_154 rfl (ret_V ⟨by first | exact Fr.uA hFb (by decide) | exact Fr.uA (Fr.uA hFb (by decide)) (by decide) | exact hFb | exact hFc | exact Fr.tt hFc (hq17.1.mo (by decide) (by decide)), hG18, by
              first
                | (rw [hmc, mcG_0 (show k < 2 by omega), uM_row, hR]; all_goals rfl)
                | (rw [hmc, mcG_2t (show k = 2 by omega) hb82, uM_row, uM_row, hR]; all_goals rfl)
                | (rw [hmc, mcG_2f (show k = 2 by omega) hb82]; exact hR)
                | (rw [hmc, ← et, mcG_3t (show 2 < k by omega) hb140]; exact hq17.2.2)
                | (rw [hmc, ← et, mcG_3f (show 2 < k by omega) hb140]; exact hR3), by
              first
                | (rw [hmc, mcG_0 (show k < 2 by omega)]; exact (uM_h (by decide)).trans es2)
                | (rw [hmc, mcG_2t (show k = 2 by omega) hb82]; exact (uM_h (by decide)).trans ((uM_h (by decide)).trans es2))
                | (rw [hmc, mcG_2f (show k = 2 by omega) hb82]; exact es2)
                | (rw [hmc, ← et, mcG_3t (show 2 < k by omega) hb140]; exact (hq17.1 52 1 (by decide) (by decide)).trans es3)
                | (rw [hmc, ← et, mcG_3f (show 2 < k by omega) hb140]; exact es3)⟩)
    · skip
      refine R_aload_0 hC dX1_moveCopy_73 ?_
      have hG20 : GR Mc6 := (GR.fr hG4 hq7.1 (by decide +kernel))
      refine R_getR hC dX1_moveCopy_74 fl_1_18 (by decide) rfl (by decide) (by decide) (fi := 2) rfl (r := 55) (gr_52_2 hG20) ?_
      refine R_iload_3 hC dX1_moveCopy_77 ?_
      refine R_iload_2 hC dX1_moveCopy_78 ?_
      refine R_callVq (as := [vI _, vI _]) hC dX1_moveCopy_79 mo_8_mayGo ml_1_65 (by decide) rfl rfl (c8_mayGo_d  hr9 hG20 sh_55 hB (by omega) (by omega) (by omega) (by omega)) rfl rfl hRm (by decide) (by decide) (Nat.le_of_ble_eq_true rfl) ?_
      refine R_if_eq hC dX1_moveCopy_82 (tgt := 154) (by decide) (fun hb82 => ?_) (fun hb82 => ?_)
      · skip
        replace hb82 := bP_z hb82
        have hmc : mcF d (M 52 1) k = mcG d (drV (M 52 1) (d 122)) (drV (nxS (M 52 1)) (d 121)) (drV (nxS (nxS (M 52 1))) (d 121)) k (nxS (nxS (M 52 1))) (nxS (nxS (nxS (M 52 1)))) := rfl
        rw [← ew, ← ex] at hmc
        exact R_return hC dX1_moveCopy_154 rfl (ret_V ⟨by first | exact Fr.uA hFb (by decide) | exact Fr.uA (Fr.uA hFb (by decide)) (by decide) | exact hFb | exact hFc | exact Fr.tt hFc ({qd}.1.mo (by decide) (by decide)), hG20, by
              first
                | (rw [hmc, mcG_0 (show k < 2 by omega), uM_row, hR]; all_goals rfl)
                | (rw [hmc, mcG_2t (show k = 2 by omega) hb82, uM_row, uM_row, hR]; all_goals rfl)
                | (rw [hmc, mcG_2f (show k = 2 by omega) hb82]; exact hR)
                | (rw [hmc, ← et, mcG_3t (show 2 < k by omega) hb140]; exact {qd}.2.2)
                | (rw [hmc, ← et, mcG_3f (show 2 < k by omega) hb140]; exact hR3), by
              first
                | (rw [hmc, mcG_0 (show k < 2 by omega)]; exact (uM_h (by decide)).trans es2)
                | (rw [hmc, mcG_2t (show k = 2 by omega) hb82]; exact (uM_h (by decide)).trans ((uM_h (by decide)).trans es2))
                | (rw [hmc, mcG_2f (show k = 2 by omega) hb82]; exact es2)
                | (rw [hmc, ← et, mcG_3t (show 2 < k by omega) hb140]; exact ({qd}.1 52 1 (by decide) (by decide)).trans es3)
                | (rw [hmc, ← et, mcG_3f (show 2 < k by omega) hb140]; exact es3)⟩)
      · skip
        replace hb82 := bP_nz hb82
        refine R_aload_0 hC dX1_moveCopy_85 ?_
        refine R_getR hC dX1_moveCopy_86 fl_1_18 (by decide) rfl (by decide) (by decide) (fi := 2) rfl (r := 55) (gr_52_2 hG20) ?_
        refine R_getR hC dX1_moveCopy_89 fl_1_37 (by decide) rfl (by decide) (by decide) (fi := 0) rfl (r := 56) (gr_55_0 hG20) ?_
        refine R_iload_4 hC dX1_moveCopy_92 ?_
        refine R_dup2 hC dX1_moveCopy_94 rfl rfl ?_
        refine R_ialoadE hC dX1_moveCopy_95 (by decide) rfl (by omega) (by omega) (congrFun hr9 _) ?_
        refine R_iconst hC dX1_moveCopy_96 ⟨by decide, by decide⟩ ?_
        refine R_isub hC dX1_moveCopy_97 ⟨by omega, by omega⟩ ?_
        refine R_iastore hC dX1_moveCopy_98 (by decide) rfl (by omega) (by omega) ?_
        refine R_aload_0 hC dX1_moveCopy_99 ?_
        have hG21 : GR (uM Mc6 56 (28 + (v8 * 6 + v3)) ((d (28 + (v8 * 6 + v3))) - 1)) := (GR.uA hG20 (by decide +kernel) (.inr ⟨by omega, by omega⟩))
        refine R_getR hC dX1_moveCopy_100 fl_1_18 (by decide) rfl (by decide) (by decide) (fi := 2) rfl (r := 55) (gr_52_2 hG21) ?_
        refine R_getR hC dX1_moveCopy_103 fl_1_37 (by decide) rfl (by decide) (by decide) (fi := 0) rfl (r := 56) (gr_55_0 hG21) ?_
        refine R_bipush hC dX1_moveCopy_106 (by decide +kernel) ⟨by decide, by decide⟩ ?_
        refine R_dup2 hC dX1_moveCopy_108 rfl rfl ?_
        refine R_iaload hC dX1_moveCopy_109 (by decide) rfl (by omega) (by omega) ?_
        rw [show (uM Mc6 56 (28 + (v8 * 6 + v3)) ((d (28 + (v8 * 6 + v3))) - 1)) 56 119 = d 119 from (uM_k (by omega)).trans (congrFun hR _)]
        refine R_iconst hC dX1_moveCopy_110 ⟨by decide, by decide⟩ ?_
        refine R_iadd hC dX1_moveCopy_111 ⟨by omega, by omega⟩ ?_
        refine R_iastore hC dX1_moveCopy_112 (by decide) rfl (by omega) (by omega) ?_
        refine R_goto hC dX1_moveCopy_113 (tgt := 154) (by decide) ?_
        have hmc : mcF d (M 52 1) k = mcG d (drV (M 52 1) (d 122)) (drV (nxS (M 52 1)) (d 121)) (drV (nxS (nxS (M 52 1))) (d 121)) k (nxS (nxS (M 52 1))) (nxS (nxS (nxS (M 52 1)))) := rfl
        rw [← ew, ← ex] at hmc
        have hG22 : GR (uM (uM Mc6 56 (28 + (v8 * 6 + v3)) ((d (28 + (v8 * 6 + v3))) - 1)) 56 119 (d 119 + 1)) := (GR.uA hG21 (by decide +kernel) (.inr ⟨by omega, by omega⟩))
        exact R_return hC dX1_moveCopy_154 rfl (ret_V ⟨by first | exact Fr.uA hFb (by decide) | exact Fr.uA (Fr.uA hFb (by decide)) (by decide) | exact hFb | exact hFc | exact Fr.tt hFc ({qd}.1.mo (by decide) (by decide)), hG22, by
              first
                | (rw [hmc, mcG_0 (show k < 2 by omega), uM_row, hR]; all_goals rfl)
                | (rw [hmc, mcG_2t (show k = 2 by omega) hb82, uM_row, uM_row, hR]; all_goals rfl)
                | (rw [hmc, mcG_2f (show k = 2 by omega) hb82]; exact hR)
                | (rw [hmc, ← et, mcG_3t (show 2 < k by omega) hb140]; exact {qd}.2.2)
                | (rw [hmc, ← et, mcG_3f (show 2 < k by omega) hb140]; exact hR3), by
              first
                | (rw [hmc, mcG_0 (show k < 2 by omega)]; exact (uM_h (by decide)).trans es2)
                | (rw [hmc, mcG_2t (show k = 2 by omega) hb82]; exact (uM_h (by decide)).trans ((uM_h (by decide)).trans es2))
                | (rw [hmc, mcG_2f (show k = 2 by omega) hb82]; exact es2)
                | (rw [hmc, ← et, mcG_3t (show 2 < k by omega) hb140]; exact ({qd}.1 52 1 (by decide) (by decide)).trans es3)
                | (rw [hmc, ← et, mcG_3f (show 2 < k by omega) hb140]; exact es3)⟩)
  · skip
    refine R_aload_0 hC dX1_moveCopy_39 ?_
    have hG23 : GR Mc6 := (GR.fr hG4 hq7.1 (by decide +kernel))
    refine R_getR hC dX1_moveCopy_40 fl_1_18 (by decide) rfl (by decide) (by decide) (fi := 2) rfl (r := 55) (gr_52_2 hG23) ?_
    refine R_getR hC dX1_moveCopy_43 fl_1_37 (by decide) rfl (by decide) (by decide) (fi := 0) rfl (r := 56) (gr_55_0 hG23) ?_
    refine R_iload_4 hC dX1_moveCopy_46 ?_
    refine R_iconst hC dX1_moveCopy_48 ⟨by decide, by decide⟩ ?_
    refine R_aload_0 hC dX1_moveCopy_49 ?_
    refine R_getR hC dX1_moveCopy_50 fl_1_18 (by decide) rfl (by decide) (by decide) (fi := 2) rfl (r := 55) (gr_52_2 hG23) ?_
    refine R_getR hC dX1_moveCopy_53 fl_1_37 (by decide) rfl (by decide) (by decide) (fi := 0) rfl (r := 56) (gr_55_0 hG23) ?_
    refine R_iload_4 hC dX1_moveCopy_56 ?_
    refine R_ialoadE hC dX1_moveCopy_58 (by decide) rfl (by omega) (by omega) (congrFun hr9 _) ?_
    refine R_iconst hC dX1_moveCopy_59 ⟨by decide, by decide⟩ ?_
    refine R_iadd hC dX1_moveCopy_60 ⟨by omega, by omega⟩ ?_
    refine R_min hC dX1_moveCopy_61 jl_1_41 hRm (by decide) (Nat.le_of_ble_eq_true rfl) ?_
    refine R_iastore hC dX1_moveCopy_64 (by decide) rfl (by omega) (by omega) ?_
    refine R_goto hC dX1_moveCopy_65 (tgt := 154) (by decide) ?_
    have hmc : mcF d (M 52 1) k = mcG d (drV (M 52 1) (d 122)) (drV (nxS (M 52 1)) (d 121)) (drV (nxS (nxS (M 52 1))) (d 121)) k (nxS (nxS (M 52 1))) (nxS (nxS (nxS (M 52 1)))) := rfl
    rw [← ew, ← ex] at hmc
    have hG24 : GR (uM Mc6 56 (28 + (v8 * 6 + v3)) (min 3 ((d (28 + (v8 * 6 + v3))) + 1))) := (GR.uA hG23 (by decide +kernel) (.inr ⟨by omega, by omega⟩))
    exact R_return hC dX1_moveCopy_154 rfl (ret_V ⟨by first | exact Fr.uA hFb (by decide) | exact Fr.uA (Fr.uA hFb (by decide)) (by decide) | exact hFb | exact hFc | exact Fr.tt hFc ({qd}.1.mo (by decide) (by decide)), hG24, by
          first
            | (rw [hmc, mcG_0 (show k < 2 by omega), uM_row, hR]; all_goals rfl)
            | (rw [hmc, mcG_2t (show k = 2 by omega) hb82, uM_row, uM_row, hR]; all_goals rfl)
            | (rw [hmc, mcG_2f (show k = 2 by omega) hb82]; exact hR)
            | (rw [hmc, ← et, mcG_3t (show 2 < k by omega) hb140]; exact {qd}.2.2)
            | (rw [hmc, ← et, mcG_3f (show 2 < k by omega) hb140]; exact hR3), by
          first
            | (rw [hmc, mcG_0 (show k < 2 by omega)]; exact (uM_h (by decide)).trans es2)
            | (rw [hmc, mcG_2t (show k = 2 by omega) hb82]; exact (uM_h (by decide)).trans ((uM_h (by decide)).trans es2))
            | (rw [hmc, mcG_2f (show k = 2 by omega) hb82]; exact es2)
            | (rw [hmc, ← et, mcG_3t (show 2 < k by omega) hb140]; exact ({qd}.1 52 1 (by decide) (by decide)).trans es3)
            | (rw [hmc, ← et, mcG_3f (show 2 < k by omega) hb140]; exact es3)⟩)
