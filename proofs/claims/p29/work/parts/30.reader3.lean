/-! TextReader: a library or a work -/
theorem ck_bd2 {r : Int → Int} {n a b : Int} {S : RT} (h : a ≤ b) : a ≤ (ckR r n a b S).1 ∧ (ckR r n a b S).1 ≤ b := by
  unfold ckR
  split
  · split
    · split
      · rename_i q
        exact q.2
      · exact ⟨Int.le_refl _, h⟩
    · exact ⟨Int.le_refl _, h⟩
  · exact ⟨Int.le_refl _, h⟩
theorem refR_n {v : Int} {S : RT} (h : S.2.2.2.1 ≠ 0) : refR v S = S := if_neg h
def noA (told : Int) (c : Int × RT) : RT := if told ≤ c.1 then refR 3 c.2 else c.2
def noB (d : Int → Int) (row v : Int) (S : RT) : RT := if 0 ≤ row ∧ row + v < 123 ∧ 0 < d (row + v) then refR 4 S else S
noncomputable def noC (r : Int → Int) (n : Int) (S : RT) : RT := if S.2.2.2.1 = 0 then nxR r n S else S
noncomputable def noR (r : Int → Int) (n : Int) (d : Int → Int) (most told row : Int) (S : RT) : Int × RT :=
  (if (noC r n (noB d row (ckR r n 0 (most - 1) S).1 (noA told (ckR r n 0 (most - 1) S)))).2.2.2.1 = 0 then (ckR r n 0 (most - 1) S).1 else 0, noC r n (noB d row (ckR r n 0 (most - 1) S).1 (noA told (ckR r n 0 (most - 1) S))))
theorem noA_n {told : Int} {c : Int × RT} (h : c.2.2.2.2.1 ≠ 0) : noA told c = c.2 := by
  unfold noA
  split
  · exact refR_n h
  · rfl
theorem noA_t {told : Int} {c : Int × RT} (h : told ≤ c.1) : noA told c = refR 3 c.2 := if_pos h
theorem noA_f {told : Int} {c : Int × RT} (h : ¬ told ≤ c.1) : noA told c = c.2 := if_neg h
theorem noB_n {d : Int → Int} {row v : Int} {S : RT} (h : S.2.2.2.1 ≠ 0) : noB d row v S = S := by
  unfold noB
  split
  · exact refR_n h
  · rfl
theorem noB_t {d : Int → Int} {row v : Int} {S : RT} (h : 0 ≤ row ∧ row + v < 123 ∧ 0 < d (row + v)) : noB d row v S = refR 4 S := if_pos h
theorem noB_f {d : Int → Int} {row v : Int} {S : RT} (h : ¬ (0 ≤ row ∧ row + v < 123 ∧ 0 < d (row + v))) : noB d row v S = S := if_neg h
theorem RG.noA {n told : Int} {c : Int × RT} (h : RG n c.2) : RG n (noA told c) := by
  show RG n (if told ≤ c.1 then refR 3 c.2 else c.2)
  split
  · exact h.rf
  · exact h
theorem RG.noB {d : Int → Int} {n row v : Int} {S : RT} (h : RG n S) : RG n (noB d row v S) := by
  show RG n (if 0 ≤ row ∧ row + v < 123 ∧ 0 < d (row + v) then refR 4 S else S)
  split
  · exact h.rf
  · exact h

theorem dX9_readNumberOf_0 : decode cX9_readNumberOf 0 = .ok (.aload_n 0, 1) := by decide +kernel
theorem dX9_readNumberOf_1 : decode cX9_readNumberOf 1 = .ok (.iconst 0, 1) := by decide +kernel
theorem dX9_readNumberOf_2 : decode cX9_readNumberOf 2 = .ok (.iload_n 1, 1) := by decide +kernel
theorem dX9_readNumberOf_3 : decode cX9_readNumberOf 3 = .ok (.iconst 1, 1) := by decide +kernel
theorem dX9_readNumberOf_4 : decode cX9_readNumberOf 4 = .ok (.isub, 1) := by decide +kernel
theorem dX9_readNumberOf_5 : decode cX9_readNumberOf 5 = .ok (.invokevirtual 139, 3) := by decide +kernel
theorem dX9_readNumberOf_8 : decode cX9_readNumberOf 8 = .ok (.istore 4, 2) := by decide +kernel
theorem dX9_readNumberOf_10 : decode cX9_readNumberOf 10 = .ok (.aload_n 0, 1) := by decide +kernel
theorem dX9_readNumberOf_11 : decode cX9_readNumberOf 11 = .ok (.getfield 41, 3) := by decide +kernel
theorem dX9_readNumberOf_14 : decode cX9_readNumberOf 14 = .ok (.ifCond .ne 14, 3) := by decide +kernel
theorem dX9_readNumberOf_17 : decode cX9_readNumberOf 17 = .ok (.iload 4, 2) := by decide +kernel
theorem dX9_readNumberOf_19 : decode cX9_readNumberOf 19 = .ok (.iload_n 2, 1) := by decide +kernel
theorem dX9_readNumberOf_20 : decode cX9_readNumberOf 20 = .ok (.if_icmp .lt 8, 3) := by decide +kernel
theorem dX9_readNumberOf_23 : decode cX9_readNumberOf 23 = .ok (.aload_n 0, 1) := by decide +kernel
theorem dX9_readNumberOf_24 : decode cX9_readNumberOf 24 = .ok (.iconst 3, 1) := by decide +kernel
theorem dX9_readNumberOf_25 : decode cX9_readNumberOf 25 = .ok (.invokevirtual 108, 3) := by decide +kernel
theorem dX9_readNumberOf_28 : decode cX9_readNumberOf 28 = .ok (.aload_n 0, 1) := by decide +kernel
theorem dX9_readNumberOf_29 : decode cX9_readNumberOf 29 = .ok (.getfield 41, 3) := by decide +kernel
theorem dX9_readNumberOf_32 : decode cX9_readNumberOf 32 = .ok (.ifCond .ne 36, 3) := by decide +kernel
theorem dX9_readNumberOf_35 : decode cX9_readNumberOf 35 = .ok (.iload_n 3, 1) := by decide +kernel
theorem dX9_readNumberOf_36 : decode cX9_readNumberOf 36 = .ok (.ifCond .lt 32, 3) := by decide +kernel
theorem dX9_readNumberOf_39 : decode cX9_readNumberOf 39 = .ok (.iload_n 3, 1) := by decide +kernel
theorem dX9_readNumberOf_40 : decode cX9_readNumberOf 40 = .ok (.iload 4, 2) := by decide +kernel
theorem dX9_readNumberOf_42 : decode cX9_readNumberOf 42 = .ok (.iadd, 1) := by decide +kernel
theorem dX9_readNumberOf_43 : decode cX9_readNumberOf 43 = .ok (.bipush 123, 2) := by decide +kernel
theorem dX9_readNumberOf_45 : decode cX9_readNumberOf 45 = .ok (.if_icmp .ge 23, 3) := by decide +kernel
theorem dX9_readNumberOf_48 : decode cX9_readNumberOf 48 = .ok (.aload_n 0, 1) := by decide +kernel
theorem dX9_readNumberOf_49 : decode cX9_readNumberOf 49 = .ok (.getfield 28, 3) := by decide +kernel
theorem dX9_readNumberOf_52 : decode cX9_readNumberOf 52 = .ok (.getfield 135, 3) := by decide +kernel
theorem dX9_readNumberOf_55 : decode cX9_readNumberOf 55 = .ok (.iload_n 3, 1) := by decide +kernel
theorem dX9_readNumberOf_56 : decode cX9_readNumberOf 56 = .ok (.iload 4, 2) := by decide +kernel
theorem dX9_readNumberOf_58 : decode cX9_readNumberOf 58 = .ok (.iadd, 1) := by decide +kernel
theorem dX9_readNumberOf_59 : decode cX9_readNumberOf 59 = .ok (.iaload, 1) := by decide +kernel
theorem dX9_readNumberOf_60 : decode cX9_readNumberOf 60 = .ok (.ifCond .le 8, 3) := by decide +kernel
theorem dX9_readNumberOf_63 : decode cX9_readNumberOf 63 = .ok (.aload_n 0, 1) := by decide +kernel
theorem dX9_readNumberOf_64 : decode cX9_readNumberOf 64 = .ok (.iconst 4, 1) := by decide +kernel
theorem dX9_readNumberOf_65 : decode cX9_readNumberOf 65 = .ok (.invokevirtual 108, 3) := by decide +kernel
theorem dX9_readNumberOf_68 : decode cX9_readNumberOf 68 = .ok (.aload_n 0, 1) := by decide +kernel
theorem dX9_readNumberOf_69 : decode cX9_readNumberOf 69 = .ok (.getfield 41, 3) := by decide +kernel
theorem dX9_readNumberOf_72 : decode cX9_readNumberOf 72 = .ok (.ifCond .ne 7, 3) := by decide +kernel
theorem dX9_readNumberOf_75 : decode cX9_readNumberOf 75 = .ok (.aload_n 0, 1) := by decide +kernel
theorem dX9_readNumberOf_76 : decode cX9_readNumberOf 76 = .ok (.invokevirtual 47, 3) := by decide +kernel
theorem dX9_readNumberOf_79 : decode cX9_readNumberOf 79 = .ok (.aload_n 0, 1) := by decide +kernel
theorem dX9_readNumberOf_80 : decode cX9_readNumberOf 80 = .ok (.getfield 41, 3) := by decide +kernel
theorem dX9_readNumberOf_83 : decode cX9_readNumberOf 83 = .ok (.ifCond .ne 8, 3) := by decide +kernel
theorem dX9_readNumberOf_86 : decode cX9_readNumberOf 86 = .ok (.iload 4, 2) := by decide +kernel
theorem dX9_readNumberOf_88 : decode cX9_readNumberOf 88 = .ok (.goto 4, 3) := by decide +kernel
theorem dX9_readNumberOf_91 : decode cX9_readNumberOf 91 = .ok (.iconst 0, 1) := by decide +kernel
theorem dX9_readNumberOf_92 : decode cX9_readNumberOf 92 = .ok (.ireturn, 1) := by decide +kernel
set_option maxHeartbeats 1000000 in
theorem c9_readNumberOf {G : Gl} {l : Launch}  {M : Mem} {n o q p : Int} {r d : Int → Int} (hG : GR M) (hTx : M 22 0 = 1) (hN : M 22 1 = n) (hn0 : 0 ≤ n) (hn1 : n ≤ 700) (hr : M 1 = r) (hRg : RG n (RD M)) (hSk : M 22 2 = 20) (hD : M 21 = d) (ho0 : 1 ≤ o) (ho1 : o ≤ 6) (hp0 : -1 ≤ p) (hp1 : p ≤ 122) : Ct G LY 57 l 2 m9_readNumberOf [vR 22, vI o, vI q, vI p] M (RP (fun v M' => Fr [] [(22, 4), (22, 5), (22, 6), (22, 7), (22, 8)] M M' ∧ v = (noR r n d o q p (RD M)).1 ∧ RD M' = (noR r n d o q p (RD M)).2)) := by
  refine R_start (by decide +kernel) (Nat.le_of_ble_eq_true rfl) (fun C hC hRm hlau => ?_)
  show RZ G LY C (Zn G LY 57 C (RP (fun v M' => Fr [] [(22, 4), (22, 5), (22, 6), (22, 7), (22, 8)] M M' ∧ v = (noR r n d o q p (RD M)).1 ∧ RD M' = (noR r n d o q p (RD M)).2))) 0 0 57 0 [some (vR 22), some (vI o), some (vI q), some (vI p), none] [] M
  refine R_aload_0 hC dX9_readNumberOf_0 ?_
  refine R_iconst hC dX9_readNumberOf_1 ⟨by decide, by decide⟩ ?_
  refine R_iload_1 hC dX9_readNumberOf_2 ?_
  refine R_iconst hC dX9_readNumberOf_3 ⟨by decide, by decide⟩ ?_
  refine R_isub hC dX9_readNumberOf_4 ⟨by omega, by omega⟩ ?_
  refine R_callVp (as := [vI _, vI _]) hC dX9_readNumberOf_5 mo_9_checkNumber ml_9_139 (by decide) rfl rfl (c9_checkNumber  hG hTx hN (by omega) (by omega) hr hRg) rfl rfl hRm (by decide) (by decide) (Nat.le_of_ble_eq_true rfl) (fun v3 Mc1 hq2 => ?_)
  have ev := hq2.2.1
  have bv := ck_bd2 (r := r) (n := n) (S := RD M) (show (0 : Int) ≤ o - 1 by omega)
  rw [← ev] at bv
  refine R_istore_4 hC dX9_readNumberOf_8 rfl ?_
  refine R_aload_0 hC dX9_readNumberOf_10 ?_
  refine R_getI hC dX9_readNumberOf_11 fl_9_41 (by decide) rfl (by decide) (by decide) (fi := 7) rfl ?_
  have L28 : ∀  (M2 : Mem), (GR M2) → (M2 21 = d) → (M2 1 = r) → (Fr [] [(22, 4), (22, 5), (22, 6), (22, 7), (22, 8)] M M2) → (RD M2 = (noA q (ckR r n 0 (o - 1) (RD M)))) → RZ G LY C (Zn G LY 57 C (RP (fun v M' => Fr [] [(22, 4), (22, 5), (22, 6), (22, 7), (22, 8)] M M' ∧ v = (noR r n d o q p (RD M)).1 ∧ RD M' = (noR r n d o q p (RD M)).2))) 0 0 57 28 [some (vR 22), some (vI o), some (vI q), some (vI p), some (vI v3)] [] M2 := by
    intro M2 hg2 gra2 grb2 hF2 hS2
    refine R_aload_0 hC dX9_readNumberOf_28 ?_
    refine R_getI hC dX9_readNumberOf_29 fl_9_41 (by decide) rfl (by decide) (by decide) (fi := 7) rfl ?_
    have L68 : ∀  (M3 : Mem), (GR M3) → (M3 21 = d) → (M3 1 = r) → (Fr [] [(22, 4), (22, 5), (22, 6), (22, 7), (22, 8)] M M3) → (RD M3 = (noB d p (ckR r n 0 (o - 1) (RD M)).1 (noA q (ckR r n 0 (o - 1) (RD M))))) → RZ G LY C (Zn G LY 57 C (RP (fun v M' => Fr [] [(22, 4), (22, 5), (22, 6), (22, 7), (22, 8)] M M' ∧ v = (noR r n d o q p (RD M)).1 ∧ RD M' = (noR r n d o q p (RD M)).2))) 0 0 57 68 [some (vR 22), some (vI o), some (vI q), some (vI p), some (vI v3)] [] M3 := by
      intro M3 hg3 gra3 grb3 hF3 hS3
      refine R_aload_0 hC dX9_readNumberOf_68 ?_
      refine R_getI hC dX9_readNumberOf_69 fl_9_41 (by decide) rfl (by decide) (by decide) (fi := 7) rfl ?_
      have L79 : ∀  (M4 : Mem), (GR M4) → (M4 21 = d) → (M4 1 = r) → (Fr [] [(22, 4), (22, 5), (22, 6), (22, 7), (22, 8)] M M4) → (RD M4 = noC r n (noB d p (ckR r n 0 (o - 1) (RD M)).1 (noA q (ckR r n 0 (o - 1) (RD M))))) → RZ G LY C (Zn G LY 57 C (RP (fun v M' => Fr [] [(22, 4), (22, 5), (22, 6), (22, 7), (22, 8)] M M' ∧ v = (noR r n d o q p (RD M)).1 ∧ RD M' = (noR r n d o q p (RD M)).2))) 0 0 57 79 [some (vR 22), some (vI o), some (vI q), some (vI p), some (vI v3)] [] M4 := by
        intro M4 hg4 gra4 grb4 hF4 hS4
        refine R_aload_0 hC dX9_readNumberOf_79 ?_
        refine R_getI hC dX9_readNumberOf_80 fl_9_41 (by decide) rfl (by decide) (by decide) (fi := 7) rfl ?_
        refine R_if_ne hC dX9_readNumberOf_83 (tgt := 91) (by decide) (fun hb83 => ?_) (fun hb83 => ?_)
        · skip
          refine R_iconst hC dX9_readNumberOf_91 ⟨by decide, by decide⟩ ?_
          exact R_ireturn hC dX9_readNumberOf_92 rfl (ret_P ⟨hF4, by
                show _ = (if (noC r n (noB d p (ckR r n 0 (o - 1) (RD M)).1 (noA q (ckR r n 0 (o - 1) (RD M))))).2.2.2.1 = 0 then (ckR r n 0 (o - 1) (RD M)).1 else 0)
                rw [← hS4, ← ev]
                first
                  | exact (if_pos hb83).symm
                  | exact (if_neg hb83).symm, hS4⟩)
        · skip
          refine R_iload_4 hC dX9_readNumberOf_86 ?_
          refine R_goto hC dX9_readNumberOf_88 (tgt := 92) (by decide) ?_
          exact R_ireturn hC dX9_readNumberOf_92 rfl (ret_P ⟨hF4, by
                show _ = (if (noC r n (noB d p (ckR r n 0 (o - 1) (RD M)).1 (noA q (ckR r n 0 (o - 1) (RD M))))).2.2.2.1 = 0 then (ckR r n 0 (o - 1) (RD M)).1 else 0)
                rw [← hS4, ← ev]
                first
                  | exact (if_pos hb83).symm
                  | exact (if_neg hb83).symm, hS4⟩)
      refine R_if_ne hC dX9_readNumberOf_72 (tgt := 79) (by decide) (fun hb72 => ?_) (fun hb72 => ?_)
      · skip
        have zF4 := hF3
        have zS4 : RD M3 = noC r n (noB d p (ckR r n 0 (o - 1) (RD M)).1 (noA q (ckR r n 0 (o - 1) (RD M)))) := by
          rw [hS3]
          exact (if_neg (by rw [← hS3]; exact hb72)).symm
        exact L79 _ hg3 gra3 grb3 zF4 zS4
      · skip
        refine R_aload_0 hC dX9_readNumberOf_75 ?_
        have hRg3 : RG n (RD M3) := by
          rw [hS3]
          exact RG.noB (RG.noA hRg.ck)
        refine R_callVv (as := []) hC dX9_readNumberOf_76 mo_9_next ml_9_47 (by decide) rfl rfl (c9_next  hg3 ((hF3 22 0 (by decide) (by decide)).trans hTx) ((hF3 22 1 (by decide) (by decide)).trans hN) (by omega) (by omega) grb3 (Int.le_trans hRg3.1 hRg3.2.1) hRg3.2.2) rfl rfl hRm (by decide) (by decide) (Nat.le_of_ble_eq_true rfl) (fun Mc4 hq5 => ?_)
        have zF4 := Fr.tt hF3 (hq5.1.mo (by decide) (by decide))
        have zS4 : RD Mc4 = noC r n (noB d p (ckR r n 0 (o - 1) (RD M)).1 (noA q (ckR r n 0 (o - 1) (RD M)))) := (RD_nx hq5).trans (by rw [hS3]; exact (if_pos (by rw [← hS3]; exact hb72)).symm)
        have hG6 : GR Mc4 := (GR.fr hg3 hq5.1 (by decide +kernel))
        have hr7 : Mc4 21 = d := ((hq5.1.row (by decide) (by decide)).trans gra3)
        have hr8 : Mc4 1 = r := ((hq5.1.row (by decide) (by decide)).trans grb3)
        exact L79 _ hG6 hr7 hr8 zF4 zS4
    refine R_if_ne hC dX9_readNumberOf_32 (tgt := 68) (by decide) (fun hb32 => ?_) (fun hb32 => ?_)
    · skip
      have zF3 := hF2
      have zS3 : RD M2 = (noB d p (ckR r n 0 (o - 1) (RD M)).1 (noA q (ckR r n 0 (o - 1) (RD M)))) := by
        rw [noB_n (by rw [← hS2]; exact hb32)]
        exact hS2
      exact L68 _ hg2 gra2 grb2 zF3 zS3
    · skip
      refine R_iload_3 hC dX9_readNumberOf_35 ?_
      refine R_if_lt hC dX9_readNumberOf_36 (tgt := 68) (by decide) (fun hb36 => ?_) (fun hb36 => ?_)
      · skip
        have zF3 := hF2
        have zS3 : RD M2 = (noB d p (ckR r n 0 (o - 1) (RD M)).1 (noA q (ckR r n 0 (o - 1) (RD M)))) := by
          rw [noB_f (by omega)]
          exact hS2
        exact L68 _ hg2 gra2 grb2 zF3 zS3
      · skip
        refine R_iload_3 hC dX9_readNumberOf_39 ?_
        refine R_iload_4 hC dX9_readNumberOf_40 ?_
        refine R_iadd hC dX9_readNumberOf_42 ⟨by omega, by omega⟩ ?_
        refine R_bipush hC dX9_readNumberOf_43 (by decide +kernel) ⟨by decide, by decide⟩ ?_
        refine R_icmp_ge hC dX9_readNumberOf_45 (tgt := 68) (by decide) (fun hb45 => ?_) (fun hb45 => ?_)
        · skip
          have zF3 := hF2
          have zS3 : RD M2 = (noB d p (ckR r n 0 (o - 1) (RD M)).1 (noA q (ckR r n 0 (o - 1) (RD M)))) := by
            rw [noB_f (by rw [← ev]; omega)]
            exact hS2
          exact L68 _ hg2 gra2 grb2 zF3 zS3
        · skip
          refine R_aload_0 hC dX9_readNumberOf_48 ?_
          refine R_getR hC dX9_readNumberOf_49 fl_9_28 (by decide) rfl (by decide) (by decide) (fi := 2) rfl (r := 20) ((hF2 22 2 (by decide) (by decide)).trans hSk) ?_
          refine R_getR hC dX9_readNumberOf_52 fl_9_135 (by decide) rfl (by decide) (by decide) (fi := 0) rfl (r := 21) (gr_20_0 hg2) ?_
          refine R_iload_3 hC dX9_readNumberOf_55 ?_
          refine R_iload_4 hC dX9_readNumberOf_56 ?_
          refine R_iadd hC dX9_readNumberOf_58 ⟨by omega, by omega⟩ ?_
          have b59 : 0 ≤ p ∧ p + 0 ≤ 122 := by omega
          refine R_ialoadE hC dX9_readNumberOf_59 (by decide) rfl (by omega) (by omega) (congrFun gra2 _) ?_
          refine R_if_le hC dX9_readNumberOf_60 (tgt := 68) (by decide) (fun hb60 => ?_) (fun hb60 => ?_)
          · skip
            have zF3 := hF2
            have zS3 : RD M2 = (noB d p (ckR r n 0 (o - 1) (RD M)).1 (noA q (ckR r n 0 (o - 1) (RD M)))) := by
              rw [noB_f (by rw [← ev]; omega)]
              exact hS2
            exact L68 _ hg2 gra2 grb2 zF3 zS3
          · skip
            refine R_aload_0 hC dX9_readNumberOf_63 ?_
            refine R_iconst hC dX9_readNumberOf_64 ⟨by decide, by decide⟩ ?_
            refine R_callVv (as := [vI _]) hC dX9_readNumberOf_65 mo_9_refuse ml_9_108 (by decide) rfl rfl (c9_refuse  hg2) rfl rfl hRm (by decide) (by decide) (Nat.le_of_ble_eq_true rfl) (fun Mc9 hq10 => ?_)
            have zF3 := Fr.tt hF2 (hq10.1.mo (by decide) (by decide))
            have zS3 : RD Mc9 = (noB d p (ckR r n 0 (o - 1) (RD M)).1 (noA q (ckR r n 0 (o - 1) (RD M)))) := (RD_rf hq10).trans (by rw [hS2, noB_t ⟨by omega, by rw [← ev]; omega, by rw [← ev]; omega⟩])
            have hG11 : GR Mc9 := (GR.fr hg2 hq10.1 (by decide +kernel))
            have hr12 : Mc9 21 = d := ((hq10.1.row (by decide) (by decide)).trans gra2)
            have hr13 : Mc9 1 = r := ((hq10.1.row (by decide) (by decide)).trans grb2)
            exact L68 _ hG11 hr12 hr13 zF3 zS3
  refine R_if_ne hC dX9_readNumberOf_14 (tgt := 28) (by decide) (fun hb14 => ?_) (fun hb14 => ?_)
  · skip
    have zF2 := hq2.1
    have zS2 : RD Mc1 = (noA q (ckR r n 0 (o - 1) (RD M))) := by
      rw [noA_n (by rw [← hq2.2.2]; exact hb14)]
      exact hq2.2.2
    have hG14 : GR Mc1 := (GR.fr hG hq2.1 (by decide +kernel))
    have hr15 : Mc1 21 = d := ((hq2.1.row (by decide) (by decide)).trans hD)
    have hr16 : Mc1 1 = r := ((hq2.1.row (by decide) (by decide)).trans hr)
    exact L28 _ hG14 hr15 hr16 zF2 zS2
  · skip
    refine R_iload_4 hC dX9_readNumberOf_17 ?_
    refine R_iload_2 hC dX9_readNumberOf_19 ?_
    refine R_icmp_lt hC dX9_readNumberOf_20 (tgt := 28) (by decide) (fun hb20 => ?_) (fun hb20 => ?_)
    · skip
      have zF2 := hq2.1
      have zS2 : RD Mc1 = (noA q (ckR r n 0 (o - 1) (RD M))) := by
        rw [noA_f (by rw [← ev]; omega)]
        exact hq2.2.2
      have hG17 : GR Mc1 := (GR.fr hG hq2.1 (by decide +kernel))
      have hr18 : Mc1 21 = d := ((hq2.1.row (by decide) (by decide)).trans hD)
      have hr19 : Mc1 1 = r := ((hq2.1.row (by decide) (by decide)).trans hr)
      exact L28 _ hG17 hr18 hr19 zF2 zS2
    · skip
      refine R_aload_0 hC dX9_readNumberOf_23 ?_
      refine R_iconst hC dX9_readNumberOf_24 ⟨by decide, by decide⟩ ?_
      have hG20 : GR Mc1 := (GR.fr hG hq2.1 (by decide +kernel))
      refine R_callVv (as := [vI _]) hC dX9_readNumberOf_25 mo_9_refuse ml_9_108 (by decide) rfl rfl (c9_refuse  hG20) rfl rfl hRm (by decide) (by decide) (Nat.le_of_ble_eq_true rfl) (fun Mc21 hq22 => ?_)
      have zF2 := Fr.tt hq2.1 (hq22.1.mo (by decide) (by decide))
      have zS2 : RD Mc21 = (noA q (ckR r n 0 (o - 1) (RD M))) := (RD_rf hq22).trans (by rw [hq2.2.2, noA_t (by rw [← ev]; omega)])
      have hG23 : GR Mc21 := (GR.fr hG20 hq22.1 (by decide +kernel))
      have hr24 : Mc21 21 = d := ((hq22.1.row (by decide) (by decide)).trans ((hq2.1.row (by decide) (by decide)).trans hD))
      have hr25 : Mc21 1 = r := ((hq22.1.row (by decide) (by decide)).trans ((hq2.1.row (by decide) (by decide)).trans hr))
      exact L28 _ hG23 hr24 hr25 zF2 zS2
