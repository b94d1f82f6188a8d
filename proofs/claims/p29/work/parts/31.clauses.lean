/-! TextReader: the clauses -/
theorem RG.rn {r : Int → Int} {n a b : Int} {S : RT} (h : RG n S) : RG n (rnR r n a b S).2 := by
  unfold rnR
  split
  · exact (RG.ck h).nx
  · exact RG.ck h
theorem RG.sg {r : Int → Int} {n : Int} {S : RT} (h : RG n S) : RG n (sgR r n S) := by
  unfold sgR
  split
  · split
    · exact h.nx
    · exact h.rf
  · exact h
noncomputable def wkR (r : Int → Int) (n : Int) (d : Int → Int) (S : RT) : (Int → Int) × RT :=
  if d 122 < 6 then (upd1 (upd1 (upd1 d (10 + d 122) (rnR r n 1 9 (nxR r n S)).1) (16 + d 122) (rnR r n 0 15 (rnR r n 1 9 (nxR r n S)).2).1) 122 (d 122 + 1), sgR r n (rnR r n 0 15 (rnR r n 1 9 (nxR r n S)).2).2)
  else (d, refR 2 S)
noncomputable def lb2 (r : Int → Int) (n : Int) (c : Int × RT) : Int × RT := if c.2.2.2.2.1 = 0 ∧ c.2.1 = 2 then rnR r n 0 20 c.2 else (20, c.2)
noncomputable def lbR (r : Int → Int) (n : Int) (d : Int → Int) (S : RT) : (Int → Int) × RT :=
  if d 121 < 5 then (upd1 (upd1 (upd1 d (0 + d 121) (rnR r n 0 20 (nxR r n S)).1) (5 + d 121) (lb2 r n (rnR r n 0 20 (nxR r n S))).1) 121 (d 121 + 1), sgR r n (lb2 r n (rnR r n 0 20 (nxR r n S))).2)
  else (d, refR 2 S)
theorem lb2_t {r : Int → Int} {n : Int} {c : Int × RT} (h : c.2.2.2.2.1 = 0) (k : c.2.1 = 2) : lb2 r n c = rnR r n 0 20 c.2 := if_pos ⟨h, k⟩
theorem lb2_f {r : Int → Int} {n : Int} {c : Int × RT} (h : ¬ (c.2.2.2.2.1 = 0 ∧ c.2.1 = 2)) : lb2 r n c = (20, c.2) := if_neg h
theorem RG.lb {r : Int → Int} {n : Int} {c : Int × RT} (h : RG n c.2) : RG n (lb2 r n c).2 := by
  unfold lb2
  split
  · exact RG.rn h
  · exact h
theorem RD_z {M : Mem} {v : Int} : RD (uM M 22 3 v) = RD M := by
  unfold RD
  rw [uM_k (by decide), uM_k (by decide), uM_k (by decide), uM_k (by decide), uM_k (by decide)]
theorem RD_h {M : Mem} {k v : Int} : RD (uM M 21 k v) = RD M := by
  unfold RD
  rw [uM_h (by decide), uM_h (by decide), uM_h (by decide), uM_h (by decide), uM_h (by decide)]
theorem noR_bd {r : Int → Int} {n : Int} {d : Int → Int} {o q p : Int} {S : RT} (h : 1 ≤ o) : 0 ≤ (noR r n d o q p S).1 ∧ (noR r n d o q p S).1 ≤ o - 1 := by
  have b := ck_bd2 (r := r) (n := n) (a := 0) (b := o - 1) (S := S) (by omega)
  unfold noR
  simp only
  split
  · exact b
  · omega
theorem RG.no {r : Int → Int} {n : Int} {d : Int → Int} {o q p : Int} {S : RT} (h : RG n S) : RG n (noR r n d o q p S).2 := by
  show RG n (noC r n _)
  unfold noC
  have g := RG.noB (d := d) (row := p) (v := (ckR r n 0 (o - 1) S).1) (RG.noA (told := q) (c := ckR r n 0 (o - 1) S) (RG.ck h))
  split
  · exact g.nx
  · exact g
noncomputable def hdL (r : Int → Int) (n : Int) (d : Int → Int) (S : RT) : Int × RT := noR r n d 5 (d 121) (-1) (nxR r n S)
noncomputable def hdW (r : Int → Int) (n : Int) (d : Int → Int) (b : Int) (S : RT) : Int × RT := noR r n d 6 (d 122) (b + (hdL r n d S).1 * 6) (hdL r n d S).2
noncomputable def hdC (r : Int → Int) (n : Int) (d : Int → Int) (S : RT) : Int × RT := rnR r n 1 3 (hdW r n d 28 S).2
noncomputable def hdR (r : Int → Int) (n : Int) (d : Int → Int) (S : RT) : (Int → Int) × RT :=
  (if (sgR r n (hdC r n d S).2).2.2.2.1 = 0 then upd1 d (28 + (hdL r n d S).1 * 6 + (hdW r n d 28 S).1) (hdC r n d S).1 else d, sgR r n (hdC r n d S).2)
noncomputable def pmM (r : Int → Int) (n : Int) (d : Int → Int) (S : RT) : Int × RT := rnR r n 1 3 (hdW r n d 58 S).2
noncomputable def pmY (r : Int → Int) (n : Int) (d : Int → Int) (S : RT) : Int × RT := rnR r n 0 60 (pmM r n d S).2
noncomputable def pmR (r : Int → Int) (n : Int) (d : Int → Int) (S : RT) : (Int → Int) × RT :=
  (if (sgR r n (pmY r n d S).2).2.2.2.1 = 0 then upd1 (upd1 d (58 + (hdL r n d S).1 * 6 + (hdW r n d 58 S).1) (pmM r n d S).1) (88 + (hdL r n d S).1 * 6 + (hdW r n d 58 S).1) (pmY r n d S).1 else d, sgR r n (pmY r n d S).2)

theorem dX9_readWorkClause_0 : decode cX9_readWorkClause 0 = .ok (.aload_n 0, 1) := by decide +kernel
theorem dX9_readWorkClause_1 : decode cX9_readWorkClause 1 = .ok (.getfield 28, 3) := by decide +kernel
theorem dX9_readWorkClause_4 : decode cX9_readWorkClause 4 = .ok (.invokevirtual 125, 3) := by decide +kernel
theorem dX9_readWorkClause_7 : decode cX9_readWorkClause 7 = .ok (.bipush 6, 2) := by decide +kernel
theorem dX9_readWorkClause_9 : decode cX9_readWorkClause 9 = .ok (.if_icmp .lt 9, 3) := by decide +kernel
theorem dX9_readWorkClause_12 : decode cX9_readWorkClause 12 = .ok (.aload_n 0, 1) := by decide +kernel
theorem dX9_readWorkClause_13 : decode cX9_readWorkClause 13 = .ok (.iconst 2, 1) := by decide +kernel
theorem dX9_readWorkClause_14 : decode cX9_readWorkClause 14 = .ok (.invokevirtual 108, 3) := by decide +kernel
theorem dX9_readWorkClause_17 : decode cX9_readWorkClause 17 = .ok (.return_, 1) := by decide +kernel
theorem dX9_readWorkClause_18 : decode cX9_readWorkClause 18 = .ok (.aload_n 0, 1) := by decide +kernel
theorem dX9_readWorkClause_19 : decode cX9_readWorkClause 19 = .ok (.invokevirtual 47, 3) := by decide +kernel
theorem dX9_readWorkClause_22 : decode cX9_readWorkClause 22 = .ok (.aload_n 0, 1) := by decide +kernel
theorem dX9_readWorkClause_23 : decode cX9_readWorkClause 23 = .ok (.iconst 1, 1) := by decide +kernel
theorem dX9_readWorkClause_24 : decode cX9_readWorkClause 24 = .ok (.bipush 9, 2) := by decide +kernel
theorem dX9_readWorkClause_26 : decode cX9_readWorkClause 26 = .ok (.invokevirtual 115, 3) := by decide +kernel
theorem dX9_readWorkClause_29 : decode cX9_readWorkClause 29 = .ok (.istore_n 1, 1) := by decide +kernel
theorem dX9_readWorkClause_30 : decode cX9_readWorkClause 30 = .ok (.aload_n 0, 1) := by decide +kernel
theorem dX9_readWorkClause_31 : decode cX9_readWorkClause 31 = .ok (.iconst 0, 1) := by decide +kernel
theorem dX9_readWorkClause_32 : decode cX9_readWorkClause 32 = .ok (.bipush 15, 2) := by decide +kernel
theorem dX9_readWorkClause_34 : decode cX9_readWorkClause 34 = .ok (.invokevirtual 115, 3) := by decide +kernel
theorem dX9_readWorkClause_37 : decode cX9_readWorkClause 37 = .ok (.istore_n 2, 1) := by decide +kernel
theorem dX9_readWorkClause_38 : decode cX9_readWorkClause 38 = .ok (.aload_n 0, 1) := by decide +kernel
theorem dX9_readWorkClause_39 : decode cX9_readWorkClause 39 = .ok (.invokevirtual 118, 3) := by decide +kernel
theorem dX9_readWorkClause_42 : decode cX9_readWorkClause 42 = .ok (.aload_n 0, 1) := by decide +kernel
theorem dX9_readWorkClause_43 : decode cX9_readWorkClause 43 = .ok (.getfield 28, 3) := by decide +kernel
theorem dX9_readWorkClause_46 : decode cX9_readWorkClause 46 = .ok (.iload_n 1, 1) := by decide +kernel
theorem dX9_readWorkClause_47 : decode cX9_readWorkClause 47 = .ok (.iload_n 2, 1) := by decide +kernel
theorem dX9_readWorkClause_48 : decode cX9_readWorkClause 48 = .ok (.invokevirtual 128, 3) := by decide +kernel
theorem dX9_readWorkClause_51 : decode cX9_readWorkClause 51 = .ok (.return_, 1) := by decide +kernel
set_option maxHeartbeats 400000 in
theorem c9_readWorkClause {G : Gl} {l : Launch}  {M : Mem} {n : Int} {r d : Int → Int} (hG : GR M) (hTx : M 22 0 = 1) (hN : M 22 1 = n) (hn0 : 0 ≤ n) (hn1 : n ≤ 700) (hr : M 1 = r) (hRg : RG n (RD M)) (hSk : M 22 2 = 20) (hD : M 21 = d) (hW0 : 0 ≤ d 122) (hW1 : d 122 ≤ 6) : Ct G LY 57 l 3 m9_readWorkClause [vR 22] M (RV (fun M' => Fr [21] [(22, 4), (22, 5), (22, 6), (22, 7), (22, 8)] M M' ∧ GR M' ∧ M' 21 = (wkR r n d (RD M)).1 ∧ RD M' = (wkR r n d (RD M)).2)) := by
  refine R_start (by decide +kernel) (Nat.le_of_ble_eq_true rfl) (fun C hC hRm hlau => ?_)
  show RZ G LY C (Zn G LY 57 C (RV (fun M' => Fr [21] [(22, 4), (22, 5), (22, 6), (22, 7), (22, 8)] M M' ∧ GR M' ∧ M' 21 = (wkR r n d (RD M)).1 ∧ RD M' = (wkR r n d (RD M)).2))) 0 0 57 0 [some (vR 22), none, none] [] M
  refine R_aload_0 hC dX9_readWorkClause_0 ?_
  refine R_getR hC dX9_readWorkClause_1 fl_9_28 (by decide) rfl (by decide) (by decide) (fi := 2) rfl (r := 20) (by first | exact hSk | exact (hFd 22 2 (by decide) (by decide)).trans hSk) ?_
  refine R_callVq (as := []) hC dX9_readWorkClause_4 mo_8_works ml_9_125 (by decide) rfl rfl (c8_works_d  hD hG sh_20) rfl rfl hRm (by decide) (by decide) (Nat.le_of_ble_eq_true rfl) ?_
  refine R_bipush hC dX9_readWorkClause_7 (by decide +kernel) ⟨by decide, by decide⟩ ?_
  refine R_icmp_lt hC dX9_readWorkClause_9 (tgt := 18) (by decide) (fun hb9 => ?_) (fun hb9 => ?_)
  · skip
    refine R_aload_0 hC dX9_readWorkClause_18 ?_
    refine R_callVv (as := []) hC dX9_readWorkClause_19 mo_9_next ml_9_47 (by decide) rfl rfl (c9_next  hG hTx hN (by omega) (by omega) hr (by (have z := hRg.1; have y := hRg.2.1; show 0 ≤ (RD M).2.2.1; omega)) hRg.2.2) rfl rfl hRm (by decide) (by decide) (Nat.le_of_ble_eq_true rfl) (fun Mc1 hq2 => ?_)
    have hFa : Fr [] [(22, 4), (22, 5), (22, 6), (22, 7), (22, 8)] M Mc1 := hq2.1.mo (by decide) (by decide)
    have hSa : RD Mc1 = (nxR r n (RD M)) := RD_nx hq2
    have hRa : RG n (RD Mc1) := by
      rw [hSa]
      exact hRg.nx
    refine R_aload_0 hC dX9_readWorkClause_22 ?_
    refine R_iconst hC dX9_readWorkClause_23 ⟨by decide, by decide⟩ ?_
    refine R_bipush hC dX9_readWorkClause_24 (by decide +kernel) ⟨by decide, by decide⟩ ?_
    have hG3 : GR Mc1 := (GR.fr hG hq2.1 (by decide +kernel))
    have hr4 : Mc1 1 = r := ((hq2.1.row (by decide) (by decide)).trans hr)
    refine R_callVp (as := [vI _, vI _]) hC dX9_readWorkClause_26 mo_9_readNumber ml_9_115 (by decide) rfl rfl (c9_readNumber  hG3 ((hFa 22 0 (by decide) (by decide)).trans hTx) ((hFa 22 1 (by decide) (by decide)).trans hN) (by omega) (by omega) hr4 hRa) rfl rfl hRm (by decide) (by decide) (Nat.le_of_ble_eq_true rfl) (fun v7 Mc5 hq6 => ?_)
    have hFb : Fr [] [(22, 4), (22, 5), (22, 6), (22, 7), (22, 8)] M Mc5 := Fr.tt hFa hq6.1
    have ev := hq6.2.1
    have hSb := hq6.2.2
    rw [hSa] at ev hSb
    have hRb : RG n (RD Mc5) := by
      rw [hSb]
      exact RG.rn hRg.nx
    refine R_istore_1 hC dX9_readWorkClause_29 rfl ?_
    refine R_aload_0 hC dX9_readWorkClause_30 ?_
    refine R_iconst hC dX9_readWorkClause_31 ⟨by decide, by decide⟩ ?_
    refine R_bipush hC dX9_readWorkClause_32 (by decide +kernel) ⟨by decide, by decide⟩ ?_
    have hG8 : GR Mc5 := (GR.fr hG3 hq6.1 (by decide +kernel))
    have hr9 : Mc5 1 = r := ((hq6.1.row (by decide) (by decide)).trans hr4)
    refine R_callVp (as := [vI _, vI _]) hC dX9_readWorkClause_34 mo_9_readNumber ml_9_115 (by decide) rfl rfl (c9_readNumber  hG8 ((hFb 22 0 (by decide) (by decide)).trans hTx) ((hFb 22 1 (by decide) (by decide)).trans hN) (by omega) (by omega) hr9 hRb) rfl rfl hRm (by decide) (by decide) (Nat.le_of_ble_eq_true rfl) (fun v12 Mc10 hq11 => ?_)
    have hFc : Fr [] [(22, 4), (22, 5), (22, 6), (22, 7), (22, 8)] M Mc10 := Fr.tt hFb hq11.1
    have eu := hq11.2.1
    have hSc := hq11.2.2
    rw [hSb] at eu hSc
    have hRc : RG n (RD Mc10) := by
      rw [hSc]
      exact RG.rn (RG.rn hRg.nx)
    refine R_istore_2 hC dX9_readWorkClause_37 rfl ?_
    refine R_aload_0 hC dX9_readWorkClause_38 ?_
    have hG13 : GR Mc10 := (GR.fr hG8 hq11.1 (by decide +kernel))
    have hr14 : Mc10 1 = r := ((hq11.1.row (by decide) (by decide)).trans hr9)
    refine R_callVv (as := []) hC dX9_readWorkClause_39 mo_9_readSign ml_9_118 (by decide) rfl rfl (c9_readSign  hG13 ((hFc 22 0 (by decide) (by decide)).trans hTx) ((hFc 22 1 (by decide) (by decide)).trans hN) (by omega) (by omega) hr14 hRc) rfl rfl hRm (by decide) (by decide) (Nat.le_of_ble_eq_true rfl) (fun Mc15 hq16 => ?_)
    have hFd : Fr [] [(22, 4), (22, 5), (22, 6), (22, 7), (22, 8)] M Mc15 := Fr.tt hFc hq16.1
    have hSd := hq16.2
    rw [hSc] at hSd
    refine R_aload_0 hC dX9_readWorkClause_42 ?_
    refine R_getR hC dX9_readWorkClause_43 fl_9_28 (by decide) rfl (by decide) (by decide) (fi := 2) rfl (r := 20) (by first | exact hSk | exact (hFd 22 2 (by decide) (by decide)).trans hSk) ?_
    refine R_iload_1 hC dX9_readWorkClause_46 ?_
    refine R_iload_2 hC dX9_readWorkClause_47 ?_
    have hG17 : GR Mc15 := (GR.fr hG13 hq16.1 (by decide +kernel))
    have hr18 : Mc15 21 = d := ((hq16.1.row (by decide) (by decide)).trans ((hq11.1.row (by decide) (by decide)).trans ((hq6.1.row (by decide) (by decide)).trans ((hq2.1.row (by decide) (by decide)).trans hD))))
    refine R_callVv (as := [vI _, vI _]) hC dX9_readWorkClause_48 mo_8_addWork ml_9_128 (by decide) rfl rfl (c8_addWork  hG17 sh_20 hr18 (by omega) (by omega)) rfl rfl hRm (by decide) (by decide) (Nat.le_of_ble_eq_true rfl) (fun Mc19 hq20 => ?_)
    have hG21 := hq20.2.1
    have hr22 := hq20.2.2
    exact R_return hC dX9_readWorkClause_51 rfl (ret_V (by
          have e : wkR r n d (RD M) = (upd1 (upd1 (upd1 d (10 + d 122) (rnR r n 1 9 (nxR r n (RD M))).1) (16 + d 122) (rnR r n 0 15 (rnR r n 1 9 (nxR r n (RD M))).2).1) 122 (d 122 + 1), sgR r n (rnR r n 0 15 (rnR r n 1 9 (nxR r n (RD M))).2).2) := if_pos (by omega)
          rw [e]
          refine ⟨Fr.tt (hFd.mo (by decide) (by decide)) (hq20.1.mo (by decide) (by decide)), hG21, hq20.2.2.trans (by rw [ev, eu]), ?_⟩
          refine Eq.trans ?_ hSd
          unfold RD
          rw [hq20.1 22 4 (by decide) (by decide), hq20.1 22 5 (by decide) (by decide), hq20.1 22 6 (by decide) (by decide), hq20.1 22 7 (by decide) (by decide), hq20.1 22 8 (by decide) (by decide)]))
  · skip
    refine R_aload_0 hC dX9_readWorkClause_12 ?_
    refine R_iconst hC dX9_readWorkClause_13 ⟨by decide, by decide⟩ ?_
    refine R_callVv (as := [vI _]) hC dX9_readWorkClause_14 mo_9_refuse ml_9_108 (by decide) rfl rfl (c9_refuse  hG) rfl rfl hRm (by decide) (by decide) (Nat.le_of_ble_eq_true rfl) (fun Mc23 hq24 => ?_)
    have hG25 : GR Mc23 := (GR.fr hG hq24.1 (by decide +kernel))
    have hr26 : Mc23 21 = d := ((hq24.1.row (by decide) (by decide)).trans hD)
    exact R_return hC dX9_readWorkClause_17 rfl (ret_V (by
          have e : wkR r n d (RD M) = (d, refR 2 (RD M)) := if_neg (by omega)
          rw [e]
          exact ⟨hq24.1.mo (by decide) (by decide), hG25, hr26, RD_rf hq24⟩))
theorem dX9_readLibraryClause_0 : decode cX9_readLibraryClause 0 = .ok (.aload_n 0, 1) := by decide +kernel
theorem dX9_readLibraryClause_1 : decode cX9_readLibraryClause 1 = .ok (.getfield 28, 3) := by decide +kernel
theorem dX9_readLibraryClause_4 : decode cX9_readLibraryClause 4 = .ok (.invokevirtual 112, 3) := by decide +kernel
theorem dX9_readLibraryClause_7 : decode cX9_readLibraryClause 7 = .ok (.iconst 5, 1) := by decide +kernel
theorem dX9_readLibraryClause_8 : decode cX9_readLibraryClause 8 = .ok (.if_icmp .lt 9, 3) := by decide +kernel
theorem dX9_readLibraryClause_11 : decode cX9_readLibraryClause 11 = .ok (.aload_n 0, 1) := by decide +kernel
theorem dX9_readLibraryClause_12 : decode cX9_readLibraryClause 12 = .ok (.iconst 2, 1) := by decide +kernel
theorem dX9_readLibraryClause_13 : decode cX9_readLibraryClause 13 = .ok (.invokevirtual 108, 3) := by decide +kernel
theorem dX9_readLibraryClause_16 : decode cX9_readLibraryClause 16 = .ok (.return_, 1) := by decide +kernel
theorem dX9_readLibraryClause_17 : decode cX9_readLibraryClause 17 = .ok (.aload_n 0, 1) := by decide +kernel
theorem dX9_readLibraryClause_18 : decode cX9_readLibraryClause 18 = .ok (.invokevirtual 47, 3) := by decide +kernel
theorem dX9_readLibraryClause_21 : decode cX9_readLibraryClause 21 = .ok (.aload_n 0, 1) := by decide +kernel
theorem dX9_readLibraryClause_22 : decode cX9_readLibraryClause 22 = .ok (.iconst 0, 1) := by decide +kernel
theorem dX9_readLibraryClause_23 : decode cX9_readLibraryClause 23 = .ok (.bipush 20, 2) := by decide +kernel
theorem dX9_readLibraryClause_25 : decode cX9_readLibraryClause 25 = .ok (.invokevirtual 115, 3) := by decide +kernel
theorem dX9_readLibraryClause_28 : decode cX9_readLibraryClause 28 = .ok (.istore_n 1, 1) := by decide +kernel
theorem dX9_readLibraryClause_29 : decode cX9_readLibraryClause 29 = .ok (.bipush 20, 2) := by decide +kernel
theorem dX9_readLibraryClause_31 : decode cX9_readLibraryClause 31 = .ok (.istore_n 2, 1) := by decide +kernel
theorem dX9_readLibraryClause_32 : decode cX9_readLibraryClause 32 = .ok (.aload_n 0, 1) := by decide +kernel
theorem dX9_readLibraryClause_33 : decode cX9_readLibraryClause 33 = .ok (.getfield 41, 3) := by decide +kernel
theorem dX9_readLibraryClause_36 : decode cX9_readLibraryClause 36 = .ok (.ifCond .ne 19, 3) := by decide +kernel
theorem dX9_readLibraryClause_39 : decode cX9_readLibraryClause 39 = .ok (.aload_n 0, 1) := by decide +kernel
theorem dX9_readLibraryClause_40 : decode cX9_readLibraryClause 40 = .ok (.getfield 50, 3) := by decide +kernel
theorem dX9_readLibraryClause_43 : decode cX9_readLibraryClause 43 = .ok (.iconst 2, 1) := by decide +kernel
theorem dX9_readLibraryClause_44 : decode cX9_readLibraryClause 44 = .ok (.if_icmp .ne 11, 3) := by decide +kernel
theorem dX9_readLibraryClause_47 : decode cX9_readLibraryClause 47 = .ok (.aload_n 0, 1) := by decide +kernel
theorem dX9_readLibraryClause_48 : decode cX9_readLibraryClause 48 = .ok (.iconst 0, 1) := by decide +kernel
theorem dX9_readLibraryClause_49 : decode cX9_readLibraryClause 49 = .ok (.bipush 20, 2) := by decide +kernel
theorem dX9_readLibraryClause_51 : decode cX9_readLibraryClause 51 = .ok (.invokevirtual 115, 3) := by decide +kernel
theorem dX9_readLibraryClause_54 : decode cX9_readLibraryClause 54 = .ok (.istore_n 2, 1) := by decide +kernel
theorem dX9_readLibraryClause_55 : decode cX9_readLibraryClause 55 = .ok (.aload_n 0, 1) := by decide +kernel
theorem dX9_readLibraryClause_56 : decode cX9_readLibraryClause 56 = .ok (.invokevirtual 118, 3) := by decide +kernel
theorem dX9_readLibraryClause_59 : decode cX9_readLibraryClause 59 = .ok (.aload_n 0, 1) := by decide +kernel
theorem dX9_readLibraryClause_60 : decode cX9_readLibraryClause 60 = .ok (.getfield 28, 3) := by decide +kernel
theorem dX9_readLibraryClause_63 : decode cX9_readLibraryClause 63 = .ok (.iload_n 1, 1) := by decide +kernel
theorem dX9_readLibraryClause_64 : decode cX9_readLibraryClause 64 = .ok (.iload_n 2, 1) := by decide +kernel
theorem dX9_readLibraryClause_65 : decode cX9_readLibraryClause 65 = .ok (.invokevirtual 121, 3) := by decide +kernel
theorem dX9_readLibraryClause_68 : decode cX9_readLibraryClause 68 = .ok (.return_, 1) := by decide +kernel
set_option maxHeartbeats 400000 in
theorem c9_readLibraryClause {G : Gl} {l : Launch}  {M : Mem} {n : Int} {r d : Int → Int} (hG : GR M) (hTx : M 22 0 = 1) (hN : M 22 1 = n) (hn0 : 0 ≤ n) (hn1 : n ≤ 700) (hr : M 1 = r) (hRg : RG n (RD M)) (hSk : M 22 2 = 20) (hD : M 21 = d) (hW0 : 0 ≤ d 121) (hW1 : d 121 ≤ 5) : Ct G LY 57 l 3 m9_readLibraryClause [vR 22] M (RV (fun M' => Fr [21] [(22, 4), (22, 5), (22, 6), (22, 7), (22, 8)] M M' ∧ GR M' ∧ M' 21 = (lbR r n d (RD M)).1 ∧ RD M' = (lbR r n d (RD M)).2)) := by
  refine R_start (by decide +kernel) (Nat.le_of_ble_eq_true rfl) (fun C hC hRm hlau => ?_)
  show RZ G LY C (Zn G LY 57 C (RV (fun M' => Fr [21] [(22, 4), (22, 5), (22, 6), (22, 7), (22, 8)] M M' ∧ GR M' ∧ M' 21 = (lbR r n d (RD M)).1 ∧ RD M' = (lbR r n d (RD M)).2))) 0 0 57 0 [some (vR 22), none, none] [] M
  refine R_aload_0 hC dX9_readLibraryClause_0 ?_
  refine R_getR hC dX9_readLibraryClause_1 fl_9_28 (by decide) rfl (by decide) (by decide) (fi := 2) rfl (r := 20) (by first | exact hSk | exact (hFd 22 2 (by decide) (by decide)).trans hSk) ?_
  refine R_callVq (as := []) hC dX9_readLibraryClause_4 mo_8_libraries ml_9_112 (by decide) rfl rfl (c8_libraries_d  hD hG sh_20) rfl rfl hRm (by decide) (by decide) (Nat.le_of_ble_eq_true rfl) ?_
  refine R_iconst hC dX9_readLibraryClause_7 ⟨by decide, by decide⟩ ?_
  refine R_icmp_lt hC dX9_readLibraryClause_8 (tgt := 17) (by decide) (fun hb8 => ?_) (fun hb8 => ?_)
  · skip
    refine R_aload_0 hC dX9_readLibraryClause_17 ?_
    refine R_callVv (as := []) hC dX9_readLibraryClause_18 mo_9_next ml_9_47 (by decide) rfl rfl (c9_next  hG hTx hN (by omega) (by omega) hr (by (have z := hRg.1; have y := hRg.2.1; show 0 ≤ (RD M).2.2.1; omega)) hRg.2.2) rfl rfl hRm (by decide) (by decide) (Nat.le_of_ble_eq_true rfl) (fun Mc1 hq2 => ?_)
    have hFa : Fr [] [(22, 4), (22, 5), (22, 6), (22, 7), (22, 8)] M Mc1 := hq2.1.mo (by decide) (by decide)
    have hSa : RD Mc1 = (nxR r n (RD M)) := RD_nx hq2
    have hRa : RG n (RD Mc1) := by
      rw [hSa]
      exact hRg.nx
    refine R_aload_0 hC dX9_readLibraryClause_21 ?_
    refine R_iconst hC dX9_readLibraryClause_22 ⟨by decide, by decide⟩ ?_
    refine R_bipush hC dX9_readLibraryClause_23 (by decide +kernel) ⟨by decide, by decide⟩ ?_
    have hG3 : GR Mc1 := (GR.fr hG hq2.1 (by decide +kernel))
    have hr4 : Mc1 1 = r := ((hq2.1.row (by decide) (by decide)).trans hr)
    refine R_callVp (as := [vI _, vI _]) hC dX9_readLibraryClause_25 mo_9_readNumber ml_9_115 (by decide) rfl rfl (c9_readNumber  hG3 ((hFa 22 0 (by decide) (by decide)).trans hTx) ((hFa 22 1 (by decide) (by decide)).trans hN) (by omega) (by omega) hr4 hRa) rfl rfl hRm (by decide) (by decide) (Nat.le_of_ble_eq_true rfl) (fun v7 Mc5 hq6 => ?_)
    have hFb : Fr [] [(22, 4), (22, 5), (22, 6), (22, 7), (22, 8)] M Mc5 := Fr.tt hFa hq6.1
    have ev := hq6.2.1
    have hSb := hq6.2.2
    rw [hSa] at ev hSb
    have hRb : RG n (RD Mc5) := by
      rw [hSb]
      exact RG.rn hRg.nx
    refine R_istore_1 hC dX9_readLibraryClause_28 rfl ?_
    refine R_bipush hC dX9_readLibraryClause_29 (by decide +kernel) ⟨by decide, by decide⟩ ?_
    refine R_istore_2 hC dX9_readLibraryClause_31 rfl ?_
    refine R_aload_0 hC dX9_readLibraryClause_32 ?_
    refine R_getI hC dX9_readLibraryClause_33 fl_9_41 (by decide) rfl (by decide) (by decide) (fi := 7) rfl ?_
    have L55 : ∀ (w : Int) (M2 : Mem), (GR M2) → (M2 21 = d) → (M2 1 = r) → (Fr [] [(22, 4), (22, 5), (22, 6), (22, 7), (22, 8)] M M2) → (w = (lb2 r n (rnR r n 0 20 (nxR r n (RD M)))).1) → (RD M2 = (lb2 r n (rnR r n 0 20 (nxR r n (RD M)))).2) → RZ G LY C (Zn G LY 57 C (RV (fun M' => Fr [21] [(22, 4), (22, 5), (22, 6), (22, 7), (22, 8)] M M' ∧ GR M' ∧ M' 21 = (lbR r n d (RD M)).1 ∧ RD M' = (lbR r n d (RD M)).2))) 0 0 57 55 [some (vR 22), some (vI v7), some (vI w)] [] M2 := by
      intro w M2 hg2 gra2 grb2 hFc eu hSc
      have hRc : RG n (RD M2) := by
        rw [hSc]
        exact RG.lb (RG.rn hRg.nx)
      refine R_aload_0 hC dX9_readLibraryClause_55 ?_
      refine R_callVv (as := []) hC dX9_readLibraryClause_56 mo_9_readSign ml_9_118 (by decide) rfl rfl (c9_readSign  hg2 ((hFc 22 0 (by decide) (by decide)).trans hTx) ((hFc 22 1 (by decide) (by decide)).trans hN) (by omega) (by omega) grb2 hRc) rfl rfl hRm (by decide) (by decide) (Nat.le_of_ble_eq_true rfl) (fun Mc8 hq9 => ?_)
      have hFd : Fr [] [(22, 4), (22, 5), (22, 6), (22, 7), (22, 8)] M Mc8 := Fr.tt hFc hq9.1
      have hSd := hq9.2
      rw [hSc] at hSd
      refine R_aload_0 hC dX9_readLibraryClause_59 ?_
      refine R_getR hC dX9_readLibraryClause_60 fl_9_28 (by decide) rfl (by decide) (by decide) (fi := 2) rfl (r := 20) (by first | exact hSk | exact (hFd 22 2 (by decide) (by decide)).trans hSk) ?_
      refine R_iload_1 hC dX9_readLibraryClause_63 ?_
      refine R_iload_2 hC dX9_readLibraryClause_64 ?_
      have hG10 : GR Mc8 := (GR.fr hg2 hq9.1 (by decide +kernel))
      have hr11 : Mc8 21 = d := ((hq9.1.row (by decide) (by decide)).trans gra2)
      refine R_callVv (as := [vI _, vI _]) hC dX9_readLibraryClause_65 mo_8_addLibrary ml_9_121 (by decide) rfl rfl (c8_addLibrary  hG10 sh_20 hr11 (by omega) (by omega)) rfl rfl hRm (by decide) (by decide) (Nat.le_of_ble_eq_true rfl) (fun Mc12 hq13 => ?_)
      have hG14 := hq13.2.1
      have hr15 := hq13.2.2
      exact R_return hC dX9_readLibraryClause_68 rfl (ret_V (by
            have e : lbR r n d (RD M) = (upd1 (upd1 (upd1 d (0 + d 121) (rnR r n 0 20 (nxR r n (RD M))).1) (5 + d 121) (lb2 r n (rnR r n 0 20 (nxR r n (RD M)))).1) 121 (d 121 + 1), sgR r n (lb2 r n (rnR r n 0 20 (nxR r n (RD M)))).2) := if_pos (by omega)
            rw [e]
            refine ⟨Fr.tt (hFd.mo (by decide) (by decide)) (hq13.1.mo (by decide) (by decide)), hG14, hq13.2.2.trans (by rw [ev, eu]), ?_⟩
            refine Eq.trans ?_ hSd
            unfold RD
            rw [hq13.1 22 4 (by decide) (by decide), hq13.1 22 5 (by decide) (by decide), hq13.1 22 6 (by decide) (by decide), hq13.1 22 7 (by decide) (by decide), hq13.1 22 8 (by decide) (by decide)]))
    refine R_if_ne hC dX9_readLibraryClause_36 (tgt := 55) (by decide) (fun hb36 => ?_) (fun hb36 => ?_)
    · skip
      have hlf : lb2 r n (rnR r n 0 20 (nxR r n (RD M))) = (20, (rnR r n 0 20 (nxR r n (RD M))).2) := lb2_f (fun z => hb36 (by (have z1 := z.1; rw [← hSb] at z1; exact z1)))
      have hG16 : GR Mc5 := (GR.fr hG3 hq6.1 (by decide +kernel))
      have hr17 : Mc5 21 = d := ((hq6.1.row (by decide) (by decide)).trans ((hq2.1.row (by decide) (by decide)).trans hD))
      have hr18 : Mc5 1 = r := ((hq6.1.row (by decide) (by decide)).trans hr4)
      exact L55 _ _ hG16 hr17 hr18 (by first | exact hFb | exact Fr.tt hFb {qc}.1) (by first | (rw [hlf]) | (rw [hlt]; exact {qc}.2.1.trans (by rw [hSb]))) (by first | (rw [hlf]; exact hSb) | (rw [hlt]; exact {qc}.2.2.trans (by rw [hSb])))
    · skip
      refine R_aload_0 hC dX9_readLibraryClause_39 ?_
      refine R_getI hC dX9_readLibraryClause_40 fl_9_50 (by decide) rfl (by decide) (by decide) (fi := 4) rfl ?_
      refine R_iconst hC dX9_readLibraryClause_43 ⟨by decide, by decide⟩ ?_
      refine R_icmp_ne hC dX9_readLibraryClause_44 (tgt := 55) (by decide) (fun hb44 => ?_) (fun hb44 => ?_)
      · skip
        have hlf : lb2 r n (rnR r n 0 20 (nxR r n (RD M))) = (20, (rnR r n 0 20 (nxR r n (RD M))).2) := lb2_f (fun z => hb44 (by (have z1 := z.2; rw [← hSb] at z1; exact z1)))
        have hG19 : GR Mc5 := (GR.fr hG3 hq6.1 (by decide +kernel))
        have hr20 : Mc5 21 = d := ((hq6.1.row (by decide) (by decide)).trans ((hq2.1.row (by decide) (by decide)).trans hD))
        have hr21 : Mc5 1 = r := ((hq6.1.row (by decide) (by decide)).trans hr4)
        exact L55 _ _ hG19 hr20 hr21 (by first | exact hFb | exact Fr.tt hFb {qc}.1) (by first | (rw [hlf]) | (rw [hlt]; exact {qc}.2.1.trans (by rw [hSb]))) (by first | (rw [hlf]; exact hSb) | (rw [hlt]; exact {qc}.2.2.trans (by rw [hSb])))
      · skip
        have hlt : lb2 r n (rnR r n 0 20 (nxR r n (RD M))) = rnR r n 0 20 (rnR r n 0 20 (nxR r n (RD M))).2 := lb2_t (by (rw [← hSb]; exact hb36)) (by (rw [← hSb]; exact hb44))
        refine R_aload_0 hC dX9_readLibraryClause_47 ?_
        refine R_iconst hC dX9_readLibraryClause_48 ⟨by decide, by decide⟩ ?_
        refine R_bipush hC dX9_readLibraryClause_49 (by decide +kernel) ⟨by decide, by decide⟩ ?_
        have hG22 : GR Mc5 := (GR.fr hG3 hq6.1 (by decide +kernel))
        have hr23 : Mc5 1 = r := ((hq6.1.row (by decide) (by decide)).trans hr4)
        refine R_callVp (as := [vI _, vI _]) hC dX9_readLibraryClause_51 mo_9_readNumber ml_9_115 (by decide) rfl rfl (c9_readNumber  hG22 ((hFb 22 0 (by decide) (by decide)).trans hTx) ((hFb 22 1 (by decide) (by decide)).trans hN) (by omega) (by omega) hr23 hRb) rfl rfl hRm (by decide) (by decide) (Nat.le_of_ble_eq_true rfl) (fun v26 Mc24 hq25 => ?_)
        refine R_istore_2 hC dX9_readLibraryClause_54 rfl ?_
        have hG27 : GR Mc24 := (GR.fr hG22 hq25.1 (by decide +kernel))
        have hr28 : Mc24 21 = d := ((hq25.1.row (by decide) (by decide)).trans ((hq6.1.row (by decide) (by decide)).trans ((hq2.1.row (by decide) (by decide)).trans hD)))
        have hr29 : Mc24 1 = r := ((hq25.1.row (by decide) (by decide)).trans hr23)
        exact L55 _ _ hG27 hr28 hr29 (by first | exact hFb | exact Fr.tt hFb hq25.1) (by first | (rw [hlf]) | (rw [hlt]; exact hq25.2.1.trans (by rw [hSb]))) (by first | (rw [hlf]; exact hSb) | (rw [hlt]; exact hq25.2.2.trans (by rw [hSb])))
  · skip
    refine R_aload_0 hC dX9_readLibraryClause_11 ?_
    refine R_iconst hC dX9_readLibraryClause_12 ⟨by decide, by decide⟩ ?_
    refine R_callVv (as := [vI _]) hC dX9_readLibraryClause_13 mo_9_refuse ml_9_108 (by decide) rfl rfl (c9_refuse  hG) rfl rfl hRm (by decide) (by decide) (Nat.le_of_ble_eq_true rfl) (fun Mc30 hq31 => ?_)
    have hG32 : GR Mc30 := (GR.fr hG hq31.1 (by decide +kernel))
    have hr33 : Mc30 21 = d := ((hq31.1.row (by decide) (by decide)).trans hD)
    exact R_return hC dX9_readLibraryClause_16 rfl (ret_V (by
          have e : lbR r n d (RD M) = (d, refR 2 (RD M)) := if_neg (by omega)
          rw [e]
          exact ⟨hq31.1.mo (by decide) (by decide), hG32, hr33, RD_rf hq31⟩))
theorem dX9_readStoreClause_0 : decode cX9_readStoreClause 0 = .ok (.aload_n 0, 1) := by decide +kernel
theorem dX9_readStoreClause_1 : decode cX9_readStoreClause 1 = .ok (.getfield 37, 3) := by decide +kernel
theorem dX9_readStoreClause_4 : decode cX9_readStoreClause 4 = .ok (.ifCond .eq 9, 3) := by decide +kernel
theorem dX9_readStoreClause_7 : decode cX9_readStoreClause 7 = .ok (.aload_n 0, 1) := by decide +kernel
theorem dX9_readStoreClause_8 : decode cX9_readStoreClause 8 = .ok (.iconst 4, 1) := by decide +kernel
theorem dX9_readStoreClause_9 : decode cX9_readStoreClause 9 = .ok (.invokevirtual 108, 3) := by decide +kernel
theorem dX9_readStoreClause_12 : decode cX9_readStoreClause 12 = .ok (.return_, 1) := by decide +kernel
theorem dX9_readStoreClause_13 : decode cX9_readStoreClause 13 = .ok (.aload_n 0, 1) := by decide +kernel
theorem dX9_readStoreClause_14 : decode cX9_readStoreClause 14 = .ok (.iconst 1, 1) := by decide +kernel
theorem dX9_readStoreClause_15 : decode cX9_readStoreClause 15 = .ok (.putfield 37, 3) := by decide +kernel
theorem dX9_readStoreClause_18 : decode cX9_readStoreClause 18 = .ok (.aload_n 0, 1) := by decide +kernel
theorem dX9_readStoreClause_19 : decode cX9_readStoreClause 19 = .ok (.invokevirtual 47, 3) := by decide +kernel
theorem dX9_readStoreClause_22 : decode cX9_readStoreClause 22 = .ok (.aload_n 0, 1) := by decide +kernel
theorem dX9_readStoreClause_23 : decode cX9_readStoreClause 23 = .ok (.iconst 0, 1) := by decide +kernel
theorem dX9_readStoreClause_24 : decode cX9_readStoreClause 24 = .ok (.bipush 20, 2) := by decide +kernel
theorem dX9_readStoreClause_26 : decode cX9_readStoreClause 26 = .ok (.invokevirtual 115, 3) := by decide +kernel
theorem dX9_readStoreClause_29 : decode cX9_readStoreClause 29 = .ok (.istore_n 1, 1) := by decide +kernel
theorem dX9_readStoreClause_30 : decode cX9_readStoreClause 30 = .ok (.aload_n 0, 1) := by decide +kernel
theorem dX9_readStoreClause_31 : decode cX9_readStoreClause 31 = .ok (.invokevirtual 118, 3) := by decide +kernel
theorem dX9_readStoreClause_34 : decode cX9_readStoreClause 34 = .ok (.aload_n 0, 1) := by decide +kernel
theorem dX9_readStoreClause_35 : decode cX9_readStoreClause 35 = .ok (.getfield 28, 3) := by decide +kernel
theorem dX9_readStoreClause_38 : decode cX9_readStoreClause 38 = .ok (.getfield 135, 3) := by decide +kernel
theorem dX9_readStoreClause_41 : decode cX9_readStoreClause 41 = .ok (.bipush 120, 2) := by decide +kernel
theorem dX9_readStoreClause_43 : decode cX9_readStoreClause 43 = .ok (.iload_n 1, 1) := by decide +kernel
theorem dX9_readStoreClause_44 : decode cX9_readStoreClause 44 = .ok (.iastore, 1) := by decide +kernel
theorem dX9_readStoreClause_45 : decode cX9_readStoreClause 45 = .ok (.return_, 1) := by decide +kernel
set_option maxHeartbeats 400000 in
theorem c9_readStoreClause {G : Gl} {l : Launch}  {M : Mem} {n : Int} {r d : Int → Int} (hG : GR M) (hTx : M 22 0 = 1) (hN : M 22 1 = n) (hn0 : 0 ≤ n) (hn1 : n ≤ 700) (hr : M 1 = r) (hRg : RG n (RD M)) (hSk : M 22 2 = 20) (hD : M 21 = d) : Ct G LY 57 l 3 m9_readStoreClause [vR 22] M (RV (fun M' => Fr [21] [(22, 3), (22, 4), (22, 5), (22, 6), (22, 7), (22, 8)] M M' ∧ GR M' ∧ M' 21 = (if M 22 3 = 0 then upd1 d 120 (rnR r n 0 20 (nxR r n (RD M))).1 else d) ∧ RD M' = (if M 22 3 = 0 then sgR r n (rnR r n 0 20 (nxR r n (RD M))).2 else refR 4 (RD M)) ∧ M' 22 3 = (if M 22 3 = 0 then 1 else M 22 3))) := by
  refine R_start (by decide +kernel) (Nat.le_of_ble_eq_true rfl) (fun C hC hRm hlau => ?_)
  show RZ G LY C (Zn G LY 57 C (RV (fun M' => Fr [21] [(22, 3), (22, 4), (22, 5), (22, 6), (22, 7), (22, 8)] M M' ∧ GR M' ∧ M' 21 = (if M 22 3 = 0 then upd1 d 120 (rnR r n 0 20 (nxR r n (RD M))).1 else d) ∧ RD M' = (if M 22 3 = 0 then sgR r n (rnR r n 0 20 (nxR r n (RD M))).2 else refR 4 (RD M)) ∧ M' 22 3 = (if M 22 3 = 0 then 1 else M 22 3)))) 0 0 57 0 [some (vR 22), none] [] M
  refine R_aload_0 hC dX9_readStoreClause_0 ?_
  refine R_getI hC dX9_readStoreClause_1 fl_9_37 (by decide) rfl (by decide) (by decide) (fi := 3) rfl ?_
  refine R_if_eq hC dX9_readStoreClause_4 (tgt := 13) (by decide) (fun hb4 => ?_) (fun hb4 => ?_)
  · skip
    refine R_aload_0 hC dX9_readStoreClause_13 ?_
    refine R_iconst hC dX9_readStoreClause_14 ⟨by decide, by decide⟩ ?_
    refine R_putZ hC dX9_readStoreClause_15 fl_9_37 (by decide) rfl (by decide) (by decide) (.inr rfl) (fi := 3) rfl ?_
    refine R_aload_0 hC dX9_readStoreClause_18 ?_
    have hF0 : Fr [] [(22, 3), (22, 4), (22, 5), (22, 6), (22, 7), (22, 8)] M (uM M 22 3 1) := Fr.uB Fr.rf (by decide)
    have hS0 : RD (uM M 22 3 1) = RD M := RD_z
    have h30 : (uM M 22 3 1) 22 3 = 1 := uM_same
    have hR0 : RG n (RD (uM M 22 3 1)) := by
      rw [hS0]
      exact hRg
    have hG1 : GR (uM M 22 3 1) := (GR.uF hG (by decide +kernel) (by decide))
    have hr2 : (uM M 22 3 1) 1 = r := ((uM_ne (by decide)).trans hr)
    refine R_callVv (as := []) hC dX9_readStoreClause_19 mo_9_next ml_9_47 (by decide) rfl rfl (c9_next  hG1 ((hF0 22 0 (by decide) (by decide)).trans hTx) ((hF0 22 1 (by decide) (by decide)).trans hN) (by omega) (by omega) hr2 (Int.le_trans hR0.1 hR0.2.1) hR0.2.2) rfl rfl hRm (by decide) (by decide) (Nat.le_of_ble_eq_true rfl) (fun Mc3 hq4 => ?_)
    have hFa : Fr [] [(22, 3), (22, 4), (22, 5), (22, 6), (22, 7), (22, 8)] M Mc3 := Fr.tt hF0 (hq4.1.mo (by decide) (by decide))
    have hSa : RD Mc3 = (nxR r n (RD M)) := (RD_nx hq4).trans (by rw [hS0])
    have hRa : RG n (RD Mc3) := by
      rw [hSa]
      exact hRg.nx
    refine R_aload_0 hC dX9_readStoreClause_22 ?_
    refine R_iconst hC dX9_readStoreClause_23 ⟨by decide, by decide⟩ ?_
    refine R_bipush hC dX9_readStoreClause_24 (by decide +kernel) ⟨by decide, by decide⟩ ?_
    have hG5 : GR Mc3 := (GR.fr hG1 hq4.1 (by decide +kernel))
    have hr6 : Mc3 1 = r := ((hq4.1.row (by decide) (by decide)).trans hr2)
    refine R_callVp (as := [vI _, vI _]) hC dX9_readStoreClause_26 mo_9_readNumber ml_9_115 (by decide) rfl rfl (c9_readNumber  hG5 ((hFa 22 0 (by decide) (by decide)).trans hTx) ((hFa 22 1 (by decide) (by decide)).trans hN) (by omega) (by omega) hr6 hRa) rfl rfl hRm (by decide) (by decide) (Nat.le_of_ble_eq_true rfl) (fun v9 Mc7 hq8 => ?_)
    have hFb : Fr [] [(22, 3), (22, 4), (22, 5), (22, 6), (22, 7), (22, 8)] M Mc7 := Fr.tt hFa (hq8.1.mo (by decide) (by decide))
    have ev := hq8.2.1
    have hSb := hq8.2.2
    rw [hSa] at ev hSb
    have hRb : RG n (RD Mc7) := by
      rw [hSb]
      exact RG.rn hRg.nx
    refine R_istore_1 hC dX9_readStoreClause_29 rfl ?_
    refine R_aload_0 hC dX9_readStoreClause_30 ?_
    have hG10 : GR Mc7 := (GR.fr hG5 hq8.1 (by decide +kernel))
    have hr11 : Mc7 1 = r := ((hq8.1.row (by decide) (by decide)).trans hr6)
    refine R_callVv (as := []) hC dX9_readStoreClause_31 mo_9_readSign ml_9_118 (by decide) rfl rfl (c9_readSign  hG10 ((hFb 22 0 (by decide) (by decide)).trans hTx) ((hFb 22 1 (by decide) (by decide)).trans hN) (by omega) (by omega) hr11 hRb) rfl rfl hRm (by decide) (by decide) (Nat.le_of_ble_eq_true rfl) (fun Mc12 hq13 => ?_)
    have hFd : Fr [] [(22, 3), (22, 4), (22, 5), (22, 6), (22, 7), (22, 8)] M Mc12 := Fr.tt hFb (hq13.1.mo (by decide) (by decide))
    have hSd := hq13.2
    rw [hSb] at hSd
    have hr14 : Mc12 21 = d := ((hq13.1.row (by decide) (by decide)).trans ((hq8.1.row (by decide) (by decide)).trans ((hq4.1.row (by decide) (by decide)).trans ((uM_ne (by decide)).trans hD))))
    have hRo := hr14
    have h33 : Mc12 22 3 = 1 := (hq13.1 22 3 (by decide) (by decide)).trans ((hq8.1 22 3 (by decide) (by decide)).trans ((hq4.1 22 3 (by decide) (by decide)).trans h30))
    refine R_aload_0 hC dX9_readStoreClause_34 ?_
    refine R_getR hC dX9_readStoreClause_35 fl_9_28 (by decide) rfl (by decide) (by decide) (fi := 2) rfl (r := 20) ((hFd 22 2 (by decide) (by decide)).trans hSk) ?_
    have hG15 : GR Mc12 := (GR.fr hG10 hq13.1 (by decide +kernel))
    refine R_getR hC dX9_readStoreClause_38 fl_9_135 (by decide) rfl (by decide) (by decide) (fi := 0) rfl (r := 21) (gr_20_0 hG15) ?_
    refine R_bipush hC dX9_readStoreClause_41 (by decide +kernel) ⟨by decide, by decide⟩ ?_
    refine R_iload_1 hC dX9_readStoreClause_43 ?_
    refine R_iastore hC dX9_readStoreClause_44 (by decide) rfl (by omega) (by omega) ?_
    have hG16 : GR (uM Mc12 21 120 v9) := (GR.uA hG15 (by decide +kernel) (.inr ⟨by omega, by omega⟩))
    exact R_return hC dX9_readStoreClause_45 rfl (ret_V ⟨Fr.uA (hFd.mo (by decide) (by decide)) (by decide), hG16, by
          rw [if_pos hb4, uM_row, hRo, ev]
          all_goals rfl, by
          rw [if_pos hb4, RD_h]
          exact hSd, by
          rw [if_pos hb4]
          exact (uM_h (by decide)).trans h33⟩)
  · skip
    refine R_aload_0 hC dX9_readStoreClause_7 ?_
    refine R_iconst hC dX9_readStoreClause_8 ⟨by decide, by decide⟩ ?_
    refine R_callVv (as := [vI _]) hC dX9_readStoreClause_9 mo_9_refuse ml_9_108 (by decide) rfl rfl (c9_refuse  hG) rfl rfl hRm (by decide) (by decide) (Nat.le_of_ble_eq_true rfl) (fun Mc17 hq18 => ?_)
    have hG19 : GR Mc17 := (GR.fr hG hq18.1 (by decide +kernel))
    have hr20 : Mc17 21 = d := ((hq18.1.row (by decide) (by decide)).trans hD)
    exact R_return hC dX9_readStoreClause_12 rfl (ret_V ⟨hq18.1.mo (by decide) (by decide), hG19, by (rw [if_neg hb4]; exact hr20), by (rw [if_neg hb4]; exact RD_rf hq18), by (rw [if_neg hb4]; exact hq18.1 22 3 (by decide) (by decide))⟩)
theorem dX9_readHoldsClause_0 : decode cX9_readHoldsClause 0 = .ok (.aload_n 0, 1) := by decide +kernel
theorem dX9_readHoldsClause_1 : decode cX9_readHoldsClause 1 = .ok (.invokevirtual 47, 3) := by decide +kernel
theorem dX9_readHoldsClause_4 : decode cX9_readHoldsClause 4 = .ok (.aload_n 0, 1) := by decide +kernel
theorem dX9_readHoldsClause_5 : decode cX9_readHoldsClause 5 = .ok (.iconst 5, 1) := by decide +kernel
theorem dX9_readHoldsClause_6 : decode cX9_readHoldsClause 6 = .ok (.aload_n 0, 1) := by decide +kernel
theorem dX9_readHoldsClause_7 : decode cX9_readHoldsClause 7 = .ok (.getfield 28, 3) := by decide +kernel
theorem dX9_readHoldsClause_10 : decode cX9_readHoldsClause 10 = .ok (.invokevirtual 112, 3) := by decide +kernel
theorem dX9_readHoldsClause_13 : decode cX9_readHoldsClause 13 = .ok (.iconst (-1), 1) := by decide +kernel
theorem dX9_readHoldsClause_14 : decode cX9_readHoldsClause 14 = .ok (.invokevirtual 131, 3) := by decide +kernel
theorem dX9_readHoldsClause_17 : decode cX9_readHoldsClause 17 = .ok (.istore_n 1, 1) := by decide +kernel
theorem dX9_readHoldsClause_18 : decode cX9_readHoldsClause 18 = .ok (.aload_n 0, 1) := by decide +kernel
theorem dX9_readHoldsClause_19 : decode cX9_readHoldsClause 19 = .ok (.bipush 6, 2) := by decide +kernel
theorem dX9_readHoldsClause_21 : decode cX9_readHoldsClause 21 = .ok (.aload_n 0, 1) := by decide +kernel
theorem dX9_readHoldsClause_22 : decode cX9_readHoldsClause 22 = .ok (.getfield 28, 3) := by decide +kernel
theorem dX9_readHoldsClause_25 : decode cX9_readHoldsClause 25 = .ok (.invokevirtual 125, 3) := by decide +kernel
theorem dX9_readHoldsClause_28 : decode cX9_readHoldsClause 28 = .ok (.bipush 28, 2) := by decide +kernel
theorem dX9_readHoldsClause_30 : decode cX9_readHoldsClause 30 = .ok (.iload_n 1, 1) := by decide +kernel
theorem dX9_readHoldsClause_31 : decode cX9_readHoldsClause 31 = .ok (.bipush 6, 2) := by decide +kernel
theorem dX9_readHoldsClause_33 : decode cX9_readHoldsClause 33 = .ok (.imul, 1) := by decide +kernel
theorem dX9_readHoldsClause_34 : decode cX9_readHoldsClause 34 = .ok (.iadd, 1) := by decide +kernel
theorem dX9_readHoldsClause_35 : decode cX9_readHoldsClause 35 = .ok (.invokevirtual 131, 3) := by decide +kernel
theorem dX9_readHoldsClause_38 : decode cX9_readHoldsClause 38 = .ok (.istore_n 2, 1) := by decide +kernel
theorem dX9_readHoldsClause_39 : decode cX9_readHoldsClause 39 = .ok (.aload_n 0, 1) := by decide +kernel
theorem dX9_readHoldsClause_40 : decode cX9_readHoldsClause 40 = .ok (.iconst 1, 1) := by decide +kernel
theorem dX9_readHoldsClause_41 : decode cX9_readHoldsClause 41 = .ok (.iconst 3, 1) := by decide +kernel
theorem dX9_readHoldsClause_42 : decode cX9_readHoldsClause 42 = .ok (.invokevirtual 115, 3) := by decide +kernel
theorem dX9_readHoldsClause_45 : decode cX9_readHoldsClause 45 = .ok (.istore_n 3, 1) := by decide +kernel
theorem dX9_readHoldsClause_46 : decode cX9_readHoldsClause 46 = .ok (.aload_n 0, 1) := by decide +kernel
theorem dX9_readHoldsClause_47 : decode cX9_readHoldsClause 47 = .ok (.invokevirtual 118, 3) := by decide +kernel
theorem dX9_readHoldsClause_50 : decode cX9_readHoldsClause 50 = .ok (.aload_n 0, 1) := by decide +kernel
theorem dX9_readHoldsClause_51 : decode cX9_readHoldsClause 51 = .ok (.getfield 41, 3) := by decide +kernel
theorem dX9_readHoldsClause_54 : decode cX9_readHoldsClause 54 = .ok (.ifCond .ne 21, 3) := by decide +kernel
theorem dX9_readHoldsClause_57 : decode cX9_readHoldsClause 57 = .ok (.aload_n 0, 1) := by decide +kernel
theorem dX9_readHoldsClause_58 : decode cX9_readHoldsClause 58 = .ok (.getfield 28, 3) := by decide +kernel
theorem dX9_readHoldsClause_61 : decode cX9_readHoldsClause 61 = .ok (.getfield 135, 3) := by decide +kernel
theorem dX9_readHoldsClause_64 : decode cX9_readHoldsClause 64 = .ok (.bipush 28, 2) := by decide +kernel
theorem dX9_readHoldsClause_66 : decode cX9_readHoldsClause 66 = .ok (.iload_n 1, 1) := by decide +kernel
theorem dX9_readHoldsClause_67 : decode cX9_readHoldsClause 67 = .ok (.bipush 6, 2) := by decide +kernel
theorem dX9_readHoldsClause_69 : decode cX9_readHoldsClause 69 = .ok (.imul, 1) := by decide +kernel
theorem dX9_readHoldsClause_70 : decode cX9_readHoldsClause 70 = .ok (.iadd, 1) := by decide +kernel
theorem dX9_readHoldsClause_71 : decode cX9_readHoldsClause 71 = .ok (.iload_n 2, 1) := by decide +kernel
theorem dX9_readHoldsClause_72 : decode cX9_readHoldsClause 72 = .ok (.iadd, 1) := by decide +kernel
theorem dX9_readHoldsClause_73 : decode cX9_readHoldsClause 73 = .ok (.iload_n 3, 1) := by decide +kernel
theorem dX9_readHoldsClause_74 : decode cX9_readHoldsClause 74 = .ok (.iastore, 1) := by decide +kernel
theorem dX9_readHoldsClause_75 : decode cX9_readHoldsClause 75 = .ok (.return_, 1) := by decide +kernel
set_option maxHeartbeats 1000000 in
theorem c9_readHoldsClause {G : Gl} {l : Launch}  {M : Mem} {n : Int} {r d : Int → Int} (hG : GR M) (hTx : M 22 0 = 1) (hN : M 22 1 = n) (hn0 : 0 ≤ n) (hn1 : n ≤ 700) (hr : M 1 = r) (hRg : RG n (RD M)) (hSk : M 22 2 = 20) (hD : M 21 = d) : Ct G LY 57 l 3 m9_readHoldsClause [vR 22] M (RV (fun M' => Fr [21] [(22, 4), (22, 5), (22, 6), (22, 7), (22, 8)] M M' ∧ GR M' ∧ M' 21 = (hdR r n d (RD M)).1 ∧ RD M' = (hdR r n d (RD M)).2)) := by
  refine R_start (by decide +kernel) (Nat.le_of_ble_eq_true rfl) (fun C hC hRm hlau => ?_)
  show RZ G LY C (Zn G LY 57 C (RV (fun M' => Fr [21] [(22, 4), (22, 5), (22, 6), (22, 7), (22, 8)] M M' ∧ GR M' ∧ M' 21 = (hdR r n d (RD M)).1 ∧ RD M' = (hdR r n d (RD M)).2))) 0 0 57 0 [some (vR 22), none, none, none] [] M
  refine R_aload_0 hC dX9_readHoldsClause_0 ?_
  refine R_callVv (as := []) hC dX9_readHoldsClause_1 mo_9_next ml_9_47 (by decide) rfl rfl (c9_next  hG hTx hN (by omega) (by omega) hr (by (have z := hRg.1; have y := hRg.2.1; show 0 ≤ (RD M).2.2.1; omega)) hRg.2.2) rfl rfl hRm (by decide) (by decide) (Nat.le_of_ble_eq_true rfl) (fun Mc1 hq2 => ?_)
  have hFa : Fr [] [(22, 4), (22, 5), (22, 6), (22, 7), (22, 8)] M Mc1 := hq2.1.mo (by decide) (by decide)
  have hSa : RD Mc1 = (nxR r n (RD M)) := RD_nx hq2
  have hRa : RG n (RD Mc1) := by
    rw [hSa]
    exact hRg.nx
  refine R_aload_0 hC dX9_readHoldsClause_4 ?_
  refine R_iconst hC dX9_readHoldsClause_5 ⟨by decide, by decide⟩ ?_
  refine R_aload_0 hC dX9_readHoldsClause_6 ?_
  refine R_getR hC dX9_readHoldsClause_7 fl_9_28 (by decide) rfl (by decide) (by decide) (fi := 2) rfl (r := 20) (by first | exact (hFd 22 2 (by decide) (by decide)).trans hSk | exact (hFb 22 2 (by decide) (by decide)).trans hSk | exact (hFa 22 2 (by decide) (by decide)).trans hSk) ?_
  have hr3 : Mc1 21 = d := ((hq2.1.row (by decide) (by decide)).trans hD)
  have hG4 : GR Mc1 := (GR.fr hG hq2.1 (by decide +kernel))
  refine R_callVq (as := []) hC dX9_readHoldsClause_10 mo_8_libraries ml_9_112 (by decide) rfl rfl (c8_libraries_d  hr3 hG4 sh_20) rfl rfl hRm (by decide) (by decide) (Nat.le_of_ble_eq_true rfl) ?_
  refine R_iconst hC dX9_readHoldsClause_13 ⟨by decide, by decide⟩ ?_
  have hr5 : Mc1 1 = r := ((hq2.1.row (by decide) (by decide)).trans hr)
  refine R_callVp (as := [vI _, vI _, vI _]) hC dX9_readHoldsClause_14 mo_9_readNumberOf ml_9_131 (by decide) rfl rfl (c9_readNumberOf  hG4 ((hFa 22 0 (by decide) (by decide)).trans hTx) ((hFa 22 1 (by decide) (by decide)).trans hN) (by omega) (by omega) hr5 hRa ((hFa 22 2 (by decide) (by decide)).trans hSk) hr3 (by omega) (by omega) (by omega) (by omega)) rfl rfl hRm (by decide) (by decide) (Nat.le_of_ble_eq_true rfl) (fun v8 Mc6 hq7 => ?_)
  have hFb : Fr [] [(22, 4), (22, 5), (22, 6), (22, 7), (22, 8)] M Mc6 := Fr.tt hFa hq7.1
  have e1 := hq7.2.1
  have hSb := hq7.2.2
  rw [hSa] at e1 hSb
  have b1 := noR_bd (r := r) (n := n) (d := d) (o := 5) (q := d 121) (p := -1) (S := (nxR r n (RD M))) (by decide)
  rw [← e1] at b1
  have e1 : _ = (hdL r n d (RD M)).1 := e1
  have hSb : _ = (hdL r n d (RD M)).2 := hSb
  have hRb : RG n (RD Mc6) := by
    rw [hSb]
    exact RG.no hRg.nx
  refine R_istore_1 hC dX9_readHoldsClause_17 rfl ?_
  refine R_aload_0 hC dX9_readHoldsClause_18 ?_
  refine R_bipush hC dX9_readHoldsClause_19 (by decide +kernel) ⟨by decide, by decide⟩ ?_
  refine R_aload_0 hC dX9_readHoldsClause_21 ?_
  refine R_getR hC dX9_readHoldsClause_22 fl_9_28 (by decide) rfl (by decide) (by decide) (fi := 2) rfl (r := 20) (by first | exact (hFd 22 2 (by decide) (by decide)).trans hSk | exact (hFb 22 2 (by decide) (by decide)).trans hSk | exact (hFa 22 2 (by decide) (by decide)).trans hSk) ?_
  have hr9 : Mc6 21 = d := ((hq7.1.row (by decide) (by decide)).trans hr3)
  have hG10 : GR Mc6 := (GR.fr hG4 hq7.1 (by decide +kernel))
  refine R_callVq (as := []) hC dX9_readHoldsClause_25 mo_8_works ml_9_125 (by decide) rfl rfl (c8_works_d  hr9 hG10 sh_20) rfl rfl hRm (by decide) (by decide) (Nat.le_of_ble_eq_true rfl) ?_
  refine R_bipush hC dX9_readHoldsClause_28 (by decide +kernel) ⟨by decide, by decide⟩ ?_
  refine R_iload_1 hC dX9_readHoldsClause_30 ?_
  refine R_bipush hC dX9_readHoldsClause_31 (by decide +kernel) ⟨by decide, by decide⟩ ?_
  refine R_imul hC dX9_readHoldsClause_33 ⟨by omega, by omega⟩ ?_
  refine R_iadd hC dX9_readHoldsClause_34 ⟨by omega, by omega⟩ ?_
  have hr11 : Mc6 1 = r := ((hq7.1.row (by decide) (by decide)).trans hr5)
  refine R_callVp (as := [vI _, vI _, vI _]) hC dX9_readHoldsClause_35 mo_9_readNumberOf ml_9_131 (by decide) rfl rfl (c9_readNumberOf  hG10 ((hFb 22 0 (by decide) (by decide)).trans hTx) ((hFb 22 1 (by decide) (by decide)).trans hN) (by omega) (by omega) hr11 hRb ((hFb 22 2 (by decide) (by decide)).trans hSk) hr9 (by omega) (by omega) (by omega) (by omega)) rfl rfl hRm (by decide) (by decide) (Nat.le_of_ble_eq_true rfl) (fun v14 Mc12 hq13 => ?_)
  have hFc : Fr [] [(22, 4), (22, 5), (22, 6), (22, 7), (22, 8)] M Mc12 := Fr.tt hFb hq13.1
  have e2 := hq13.2.1
  have hSc := hq13.2.2
  rw [hSb, e1] at e2 hSc
  have b2 := noR_bd (r := r) (n := n) (d := d) (o := 6) (q := d 122) (p := 28 + (hdL r n d (RD M)).1 * 6) (S := (hdL r n d (RD M)).2) (by decide)
  rw [← e2] at b2
  have e2 : _ = (hdW r n d 28 (RD M)).1 := e2
  have hSc : _ = (hdW r n d 28 (RD M)).2 := hSc
  have hRc : RG n (RD Mc12) := by
    rw [hSc]
    exact RG.no (RG.no hRg.nx)
  refine R_istore_2 hC dX9_readHoldsClause_38 rfl ?_
  refine R_aload_0 hC dX9_readHoldsClause_39 ?_
  refine R_iconst hC dX9_readHoldsClause_40 ⟨by decide, by decide⟩ ?_
  refine R_iconst hC dX9_readHoldsClause_41 ⟨by decide, by decide⟩ ?_
  have hG15 : GR Mc12 := (GR.fr hG10 hq13.1 (by decide +kernel))
  have hr16 : Mc12 1 = r := ((hq13.1.row (by decide) (by decide)).trans hr11)
  refine R_callVp (as := [vI _, vI _]) hC dX9_readHoldsClause_42 mo_9_readNumber ml_9_115 (by decide) rfl rfl (c9_readNumber  hG15 ((hFc 22 0 (by decide) (by decide)).trans hTx) ((hFc 22 1 (by decide) (by decide)).trans hN) (by omega) (by omega) hr16 hRc) rfl rfl hRm (by decide) (by decide) (Nat.le_of_ble_eq_true rfl) (fun v19 Mc17 hq18 => ?_)
  have hFe : Fr [] [(22, 4), (22, 5), (22, 6), (22, 7), (22, 8)] M Mc17 := Fr.tt hFc hq18.1
  have e3 := hq18.2.1
  have hSe := hq18.2.2
  rw [hSc] at e3 hSe
  have e3 : _ = (hdC r n d (RD M)).1 := e3
  have hSe : _ = (hdC r n d (RD M)).2 := hSe
  have hRe : RG n (RD Mc17) := by
    rw [hSe]
    exact RG.rn (RG.no (RG.no hRg.nx))
  refine R_istore_3 hC dX9_readHoldsClause_45 rfl ?_
  refine R_aload_0 hC dX9_readHoldsClause_46 ?_
  have hG20 : GR Mc17 := (GR.fr hG15 hq18.1 (by decide +kernel))
  have hr21 : Mc17 1 = r := ((hq18.1.row (by decide) (by decide)).trans hr16)
  refine R_callVv (as := []) hC dX9_readHoldsClause_47 mo_9_readSign ml_9_118 (by decide) rfl rfl (c9_readSign  hG20 ((hFe 22 0 (by decide) (by decide)).trans hTx) ((hFe 22 1 (by decide) (by decide)).trans hN) (by omega) (by omega) hr21 hRe) rfl rfl hRm (by decide) (by decide) (Nat.le_of_ble_eq_true rfl) (fun Mc22 hq23 => ?_)
  have hFd : Fr [] [(22, 4), (22, 5), (22, 6), (22, 7), (22, 8)] M Mc22 := Fr.tt hFe hq23.1
  have hSd := hq23.2
  rw [hSe] at hSd
  have hr24 : Mc22 21 = d := ((hq23.1.row (by decide) (by decide)).trans ((hq18.1.row (by decide) (by decide)).trans ((hq13.1.row (by decide) (by decide)).trans hr9)))
  have hRo := hr24
  refine R_aload_0 hC dX9_readHoldsClause_50 ?_
  refine R_getI hC dX9_readHoldsClause_51 fl_9_41 (by decide) rfl (by decide) (by decide) (fi := 7) rfl ?_
  refine R_if_ne hC dX9_readHoldsClause_54 (tgt := 75) (by decide) (fun hb54 => ?_) (fun hb54 => ?_)
  · skip
    have hG25 : GR Mc22 := (GR.fr hG20 hq23.1 (by decide +kernel))
    exact R_return hC dX9_readHoldsClause_75 rfl (ret_V ⟨by
          first
            | exact hFd.mo (by decide) (by decide)
            | exact Fr.uA (hFd.mo (by decide) (by decide)) (by decide), hG25, by
          show _ = (if (sgR r n (hdC r n d (RD M)).2).2.2.2.1 = 0 then upd1 d (28 + (hdL r n d (RD M)).1 * 6 + (hdW r n d 28 (RD M)).1) (hdC r n d (RD M)).1 else d)
          rw [← hSd]
          first
            | exact hRo.trans (if_neg hb54).symm
            | (rw [uM_row, hRo, ← e1, ← e2, ← e3]; exact (if_pos hb54).symm), by
          show _ = sgR r n (hdC r n d (RD M)).2
          first
            | exact hSd
            | (rw [RD_h]; exact hSd)⟩)
  · skip
    refine R_aload_0 hC dX9_readHoldsClause_57 ?_
    refine R_getR hC dX9_readHoldsClause_58 fl_9_28 (by decide) rfl (by decide) (by decide) (fi := 2) rfl (r := 20) (by first | exact (hFd 22 2 (by decide) (by decide)).trans hSk | exact (hFb 22 2 (by decide) (by decide)).trans hSk | exact (hFa 22 2 (by decide) (by decide)).trans hSk) ?_
    have hG26 : GR Mc22 := (GR.fr hG20 hq23.1 (by decide +kernel))
    refine R_getR hC dX9_readHoldsClause_61 fl_9_135 (by decide) rfl (by decide) (by decide) (fi := 0) rfl (r := 21) (gr_20_0 hG26) ?_
    refine R_bipush hC dX9_readHoldsClause_64 (by decide +kernel) ⟨by decide, by decide⟩ ?_
    refine R_iload_1 hC dX9_readHoldsClause_66 ?_
    refine R_bipush hC dX9_readHoldsClause_67 (by decide +kernel) ⟨by decide, by decide⟩ ?_
    refine R_imul hC dX9_readHoldsClause_69 ⟨by omega, by omega⟩ ?_
    refine R_iadd hC dX9_readHoldsClause_70 ⟨by omega, by omega⟩ ?_
    refine R_iload_2 hC dX9_readHoldsClause_71 ?_
    refine R_iadd hC dX9_readHoldsClause_72 ⟨by omega, by omega⟩ ?_
    refine R_iload_3 hC dX9_readHoldsClause_73 ?_
    refine R_iastore hC dX9_readHoldsClause_74 (by decide) rfl (by omega) (by omega) ?_
    have hG27 : GR (uM Mc22 21 ((28 + (v8 * 6)) + v14) v19) := (GR.uA hG26 (by decide +kernel) (.inr ⟨by omega, by omega⟩))
    exact R_return hC dX9_readHoldsClause_75 rfl (ret_V ⟨by
          first
            | exact hFd.mo (by decide) (by decide)
            | exact Fr.uA (hFd.mo (by decide) (by decide)) (by decide), hG27, by
          show _ = (if (sgR r n (hdC r n d (RD M)).2).2.2.2.1 = 0 then upd1 d (28 + (hdL r n d (RD M)).1 * 6 + (hdW r n d 28 (RD M)).1) (hdC r n d (RD M)).1 else d)
          rw [← hSd]
          first
            | exact hRo.trans (if_neg hb54).symm
            | (rw [uM_row, hRo, ← e1, ← e2, ← e3]; exact (if_pos hb54).symm), by
          show _ = sgR r n (hdC r n d (RD M)).2
          first
            | exact hSd
            | (rw [RD_h]; exact hSd)⟩)
theorem dX9_readPromiseClause_0 : decode cX9_readPromiseClause 0 = .ok (.aload_n 0, 1) := by decide +kernel
theorem dX9_readPromiseClause_1 : decode cX9_readPromiseClause 1 = .ok (.invokevirtual 47, 3) := by decide +kernel
theorem dX9_readPromiseClause_4 : decode cX9_readPromiseClause 4 = .ok (.aload_n 0, 1) := by decide +kernel
theorem dX9_readPromiseClause_5 : decode cX9_readPromiseClause 5 = .ok (.iconst 5, 1) := by decide +kernel
theorem dX9_readPromiseClause_6 : decode cX9_readPromiseClause 6 = .ok (.aload_n 0, 1) := by decide +kernel
theorem dX9_readPromiseClause_7 : decode cX9_readPromiseClause 7 = .ok (.getfield 28, 3) := by decide +kernel
theorem dX9_readPromiseClause_10 : decode cX9_readPromiseClause 10 = .ok (.invokevirtual 112, 3) := by decide +kernel
theorem dX9_readPromiseClause_13 : decode cX9_readPromiseClause 13 = .ok (.iconst (-1), 1) := by decide +kernel
theorem dX9_readPromiseClause_14 : decode cX9_readPromiseClause 14 = .ok (.invokevirtual 131, 3) := by decide +kernel
theorem dX9_readPromiseClause_17 : decode cX9_readPromiseClause 17 = .ok (.istore_n 1, 1) := by decide +kernel
theorem dX9_readPromiseClause_18 : decode cX9_readPromiseClause 18 = .ok (.aload_n 0, 1) := by decide +kernel
theorem dX9_readPromiseClause_19 : decode cX9_readPromiseClause 19 = .ok (.bipush 6, 2) := by decide +kernel
theorem dX9_readPromiseClause_21 : decode cX9_readPromiseClause 21 = .ok (.aload_n 0, 1) := by decide +kernel
theorem dX9_readPromiseClause_22 : decode cX9_readPromiseClause 22 = .ok (.getfield 28, 3) := by decide +kernel
theorem dX9_readPromiseClause_25 : decode cX9_readPromiseClause 25 = .ok (.invokevirtual 125, 3) := by decide +kernel
theorem dX9_readPromiseClause_28 : decode cX9_readPromiseClause 28 = .ok (.bipush 58, 2) := by decide +kernel
theorem dX9_readPromiseClause_30 : decode cX9_readPromiseClause 30 = .ok (.iload_n 1, 1) := by decide +kernel
theorem dX9_readPromiseClause_31 : decode cX9_readPromiseClause 31 = .ok (.bipush 6, 2) := by decide +kernel
theorem dX9_readPromiseClause_33 : decode cX9_readPromiseClause 33 = .ok (.imul, 1) := by decide +kernel
theorem dX9_readPromiseClause_34 : decode cX9_readPromiseClause 34 = .ok (.iadd, 1) := by decide +kernel
theorem dX9_readPromiseClause_35 : decode cX9_readPromiseClause 35 = .ok (.invokevirtual 131, 3) := by decide +kernel
theorem dX9_readPromiseClause_38 : decode cX9_readPromiseClause 38 = .ok (.istore_n 2, 1) := by decide +kernel
theorem dX9_readPromiseClause_39 : decode cX9_readPromiseClause 39 = .ok (.aload_n 0, 1) := by decide +kernel
theorem dX9_readPromiseClause_40 : decode cX9_readPromiseClause 40 = .ok (.iconst 1, 1) := by decide +kernel
theorem dX9_readPromiseClause_41 : decode cX9_readPromiseClause 41 = .ok (.iconst 3, 1) := by decide +kernel
theorem dX9_readPromiseClause_42 : decode cX9_readPromiseClause 42 = .ok (.invokevirtual 115, 3) := by decide +kernel
theorem dX9_readPromiseClause_45 : decode cX9_readPromiseClause 45 = .ok (.istore_n 3, 1) := by decide +kernel
theorem dX9_readPromiseClause_46 : decode cX9_readPromiseClause 46 = .ok (.aload_n 0, 1) := by decide +kernel
theorem dX9_readPromiseClause_47 : decode cX9_readPromiseClause 47 = .ok (.iconst 0, 1) := by decide +kernel
theorem dX9_readPromiseClause_48 : decode cX9_readPromiseClause 48 = .ok (.bipush 60, 2) := by decide +kernel
theorem dX9_readPromiseClause_50 : decode cX9_readPromiseClause 50 = .ok (.invokevirtual 115, 3) := by decide +kernel
theorem dX9_readPromiseClause_53 : decode cX9_readPromiseClause 53 = .ok (.istore 4, 2) := by decide +kernel
theorem dX9_readPromiseClause_55 : decode cX9_readPromiseClause 55 = .ok (.aload_n 0, 1) := by decide +kernel
theorem dX9_readPromiseClause_56 : decode cX9_readPromiseClause 56 = .ok (.invokevirtual 118, 3) := by decide +kernel
theorem dX9_readPromiseClause_59 : decode cX9_readPromiseClause 59 = .ok (.aload_n 0, 1) := by decide +kernel
theorem dX9_readPromiseClause_60 : decode cX9_readPromiseClause 60 = .ok (.getfield 41, 3) := by decide +kernel
theorem dX9_readPromiseClause_63 : decode cX9_readPromiseClause 63 = .ok (.ifCond .ne 40, 3) := by decide +kernel
theorem dX9_readPromiseClause_66 : decode cX9_readPromiseClause 66 = .ok (.aload_n 0, 1) := by decide +kernel
theorem dX9_readPromiseClause_67 : decode cX9_readPromiseClause 67 = .ok (.getfield 28, 3) := by decide +kernel
theorem dX9_readPromiseClause_70 : decode cX9_readPromiseClause 70 = .ok (.getfield 135, 3) := by decide +kernel
theorem dX9_readPromiseClause_73 : decode cX9_readPromiseClause 73 = .ok (.bipush 58, 2) := by decide +kernel
theorem dX9_readPromiseClause_75 : decode cX9_readPromiseClause 75 = .ok (.iload_n 1, 1) := by decide +kernel
theorem dX9_readPromiseClause_76 : decode cX9_readPromiseClause 76 = .ok (.bipush 6, 2) := by decide +kernel
theorem dX9_readPromiseClause_78 : decode cX9_readPromiseClause 78 = .ok (.imul, 1) := by decide +kernel
theorem dX9_readPromiseClause_79 : decode cX9_readPromiseClause 79 = .ok (.iadd, 1) := by decide +kernel
theorem dX9_readPromiseClause_80 : decode cX9_readPromiseClause 80 = .ok (.iload_n 2, 1) := by decide +kernel
theorem dX9_readPromiseClause_81 : decode cX9_readPromiseClause 81 = .ok (.iadd, 1) := by decide +kernel
theorem dX9_readPromiseClause_82 : decode cX9_readPromiseClause 82 = .ok (.iload_n 3, 1) := by decide +kernel
theorem dX9_readPromiseClause_83 : decode cX9_readPromiseClause 83 = .ok (.iastore, 1) := by decide +kernel
theorem dX9_readPromiseClause_84 : decode cX9_readPromiseClause 84 = .ok (.aload_n 0, 1) := by decide +kernel
theorem dX9_readPromiseClause_85 : decode cX9_readPromiseClause 85 = .ok (.getfield 28, 3) := by decide +kernel
theorem dX9_readPromiseClause_88 : decode cX9_readPromiseClause 88 = .ok (.getfield 135, 3) := by decide +kernel
theorem dX9_readPromiseClause_91 : decode cX9_readPromiseClause 91 = .ok (.bipush 88, 2) := by decide +kernel
theorem dX9_readPromiseClause_93 : decode cX9_readPromiseClause 93 = .ok (.iload_n 1, 1) := by decide +kernel
theorem dX9_readPromiseClause_94 : decode cX9_readPromiseClause 94 = .ok (.bipush 6, 2) := by decide +kernel
theorem dX9_readPromiseClause_96 : decode cX9_readPromiseClause 96 = .ok (.imul, 1) := by decide +kernel
theorem dX9_readPromiseClause_97 : decode cX9_readPromiseClause 97 = .ok (.iadd, 1) := by decide +kernel
theorem dX9_readPromiseClause_98 : decode cX9_readPromiseClause 98 = .ok (.iload_n 2, 1) := by decide +kernel
theorem dX9_readPromiseClause_99 : decode cX9_readPromiseClause 99 = .ok (.iadd, 1) := by decide +kernel
theorem dX9_readPromiseClause_100 : decode cX9_readPromiseClause 100 = .ok (.iload 4, 2) := by decide +kernel
theorem dX9_readPromiseClause_102 : decode cX9_readPromiseClause 102 = .ok (.iastore, 1) := by decide +kernel
theorem dX9_readPromiseClause_103 : decode cX9_readPromiseClause 103 = .ok (.return_, 1) := by decide +kernel
set_option maxHeartbeats 1000000 in
theorem c9_readPromiseClause {G : Gl} {l : Launch}  {M : Mem} {n : Int} {r d : Int → Int} (hG : GR M) (hTx : M 22 0 = 1) (hN : M 22 1 = n) (hn0 : 0 ≤ n) (hn1 : n ≤ 700) (hr : M 1 = r) (hRg : RG n (RD M)) (hSk : M 22 2 = 20) (hD : M 21 = d) : Ct G LY 57 l 3 m9_readPromiseClause [vR 22] M (RV (fun M' => Fr [21] [(22, 4), (22, 5), (22, 6), (22, 7), (22, 8)] M M' ∧ GR M' ∧ M' 21 = (pmR r n d (RD M)).1 ∧ RD M' = (pmR r n d (RD M)).2)) := by
  refine R_start (by decide +kernel) (Nat.le_of_ble_eq_true rfl) (fun C hC hRm hlau => ?_)
  show RZ G LY C (Zn G LY 57 C (RV (fun M' => Fr [21] [(22, 4), (22, 5), (22, 6), (22, 7), (22, 8)] M M' ∧ GR M' ∧ M' 21 = (pmR r n d (RD M)).1 ∧ RD M' = (pmR r n d (RD M)).2))) 0 0 57 0 [some (vR 22), none, none, none, none] [] M
  refine R_aload_0 hC dX9_readPromiseClause_0 ?_
  refine R_callVv (as := []) hC dX9_readPromiseClause_1 mo_9_next ml_9_47 (by decide) rfl rfl (c9_next  hG hTx hN (by omega) (by omega) hr (by (have z := hRg.1; have y := hRg.2.1; show 0 ≤ (RD M).2.2.1; omega)) hRg.2.2) rfl rfl hRm (by decide) (by decide) (Nat.le_of_ble_eq_true rfl) (fun Mc1 hq2 => ?_)
  have hFa : Fr [] [(22, 4), (22, 5), (22, 6), (22, 7), (22, 8)] M Mc1 := hq2.1.mo (by decide) (by decide)
  have hSa : RD Mc1 = (nxR r n (RD M)) := RD_nx hq2
  have hRa : RG n (RD Mc1) := by
    rw [hSa]
    exact hRg.nx
  refine R_aload_0 hC dX9_readPromiseClause_4 ?_
  refine R_iconst hC dX9_readPromiseClause_5 ⟨by decide, by decide⟩ ?_
  refine R_aload_0 hC dX9_readPromiseClause_6 ?_
  refine R_getR hC dX9_readPromiseClause_7 fl_9_28 (by decide) rfl (by decide) (by decide) (fi := 2) rfl (r := 20) (by first | exact (hFd 22 2 (by decide) (by decide)).trans hSk | exact (uM_h (by decide)).trans ((hFd 22 2 (by decide) (by decide)).trans hSk) | exact (hFb 22 2 (by decide) (by decide)).trans hSk | exact (hFa 22 2 (by decide) (by decide)).trans hSk) ?_
  have hr3 : Mc1 21 = d := ((hq2.1.row (by decide) (by decide)).trans hD)
  have hG4 : GR Mc1 := (GR.fr hG hq2.1 (by decide +kernel))
  refine R_callVq (as := []) hC dX9_readPromiseClause_10 mo_8_libraries ml_9_112 (by decide) rfl rfl (c8_libraries_d  hr3 hG4 sh_20) rfl rfl hRm (by decide) (by decide) (Nat.le_of_ble_eq_true rfl) ?_
  refine R_iconst hC dX9_readPromiseClause_13 ⟨by decide, by decide⟩ ?_
  have hr5 : Mc1 1 = r := ((hq2.1.row (by decide) (by decide)).trans hr)
  refine R_callVp (as := [vI _, vI _, vI _]) hC dX9_readPromiseClause_14 mo_9_readNumberOf ml_9_131 (by decide) rfl rfl (c9_readNumberOf  hG4 ((hFa 22 0 (by decide) (by decide)).trans hTx) ((hFa 22 1 (by decide) (by decide)).trans hN) (by omega) (by omega) hr5 hRa ((hFa 22 2 (by decide) (by decide)).trans hSk) hr3 (by omega) (by omega) (by omega) (by omega)) rfl rfl hRm (by decide) (by decide) (Nat.le_of_ble_eq_true rfl) (fun v8 Mc6 hq7 => ?_)
  have hFb : Fr [] [(22, 4), (22, 5), (22, 6), (22, 7), (22, 8)] M Mc6 := Fr.tt hFa hq7.1
  have e1 := hq7.2.1
  have hSb := hq7.2.2
  rw [hSa] at e1 hSb
  have b1 := noR_bd (r := r) (n := n) (d := d) (o := 5) (q := d 121) (p := -1) (S := (nxR r n (RD M))) (by decide)
  rw [← e1] at b1
  have e1 : _ = (hdL r n d (RD M)).1 := e1
  have hSb : _ = (hdL r n d (RD M)).2 := hSb
  have hRb : RG n (RD Mc6) := by
    rw [hSb]
    exact RG.no hRg.nx
  refine R_istore_1 hC dX9_readPromiseClause_17 rfl ?_
  refine R_aload_0 hC dX9_readPromiseClause_18 ?_
  refine R_bipush hC dX9_readPromiseClause_19 (by decide +kernel) ⟨by decide, by decide⟩ ?_
  refine R_aload_0 hC dX9_readPromiseClause_21 ?_
  refine R_getR hC dX9_readPromiseClause_22 fl_9_28 (by decide) rfl (by decide) (by decide) (fi := 2) rfl (r := 20) (by first | exact (hFd 22 2 (by decide) (by decide)).trans hSk | exact (uM_h (by decide)).trans ((hFd 22 2 (by decide) (by decide)).trans hSk) | exact (hFb 22 2 (by decide) (by decide)).trans hSk | exact (hFa 22 2 (by decide) (by decide)).trans hSk) ?_
  have hr9 : Mc6 21 = d := ((hq7.1.row (by decide) (by decide)).trans hr3)
  have hG10 : GR Mc6 := (GR.fr hG4 hq7.1 (by decide +kernel))
  refine R_callVq (as := []) hC dX9_readPromiseClause_25 mo_8_works ml_9_125 (by decide) rfl rfl (c8_works_d  hr9 hG10 sh_20) rfl rfl hRm (by decide) (by decide) (Nat.le_of_ble_eq_true rfl) ?_
  refine R_bipush hC dX9_readPromiseClause_28 (by decide +kernel) ⟨by decide, by decide⟩ ?_
  refine R_iload_1 hC dX9_readPromiseClause_30 ?_
  refine R_bipush hC dX9_readPromiseClause_31 (by decide +kernel) ⟨by decide, by decide⟩ ?_
  refine R_imul hC dX9_readPromiseClause_33 ⟨by omega, by omega⟩ ?_
  refine R_iadd hC dX9_readPromiseClause_34 ⟨by omega, by omega⟩ ?_
  have hr11 : Mc6 1 = r := ((hq7.1.row (by decide) (by decide)).trans hr5)
  refine R_callVp (as := [vI _, vI _, vI _]) hC dX9_readPromiseClause_35 mo_9_readNumberOf ml_9_131 (by decide) rfl rfl (c9_readNumberOf  hG10 ((hFb 22 0 (by decide) (by decide)).trans hTx) ((hFb 22 1 (by decide) (by decide)).trans hN) (by omega) (by omega) hr11 hRb ((hFb 22 2 (by decide) (by decide)).trans hSk) hr9 (by omega) (by omega) (by omega) (by omega)) rfl rfl hRm (by decide) (by decide) (Nat.le_of_ble_eq_true rfl) (fun v14 Mc12 hq13 => ?_)
  have hFc : Fr [] [(22, 4), (22, 5), (22, 6), (22, 7), (22, 8)] M Mc12 := Fr.tt hFb hq13.1
  have e2 := hq13.2.1
  have hSc := hq13.2.2
  rw [hSb, e1] at e2 hSc
  have b2 := noR_bd (r := r) (n := n) (d := d) (o := 6) (q := d 122) (p := 58 + (hdL r n d (RD M)).1 * 6) (S := (hdL r n d (RD M)).2) (by decide)
  rw [← e2] at b2
  have e2 : _ = (hdW r n d 58 (RD M)).1 := e2
  have hSc : _ = (hdW r n d 58 (RD M)).2 := hSc
  have hRc : RG n (RD Mc12) := by
    rw [hSc]
    exact RG.no (RG.no hRg.nx)
  refine R_istore_2 hC dX9_readPromiseClause_38 rfl ?_
  refine R_aload_0 hC dX9_readPromiseClause_39 ?_
  refine R_iconst hC dX9_readPromiseClause_40 ⟨by decide, by decide⟩ ?_
  refine R_iconst hC dX9_readPromiseClause_41 ⟨by decide, by decide⟩ ?_
  have hG15 : GR Mc12 := (GR.fr hG10 hq13.1 (by decide +kernel))
  have hr16 : Mc12 1 = r := ((hq13.1.row (by decide) (by decide)).trans hr11)
  refine R_callVp (as := [vI _, vI _]) hC dX9_readPromiseClause_42 mo_9_readNumber ml_9_115 (by decide) rfl rfl (c9_readNumber  hG15 ((hFc 22 0 (by decide) (by decide)).trans hTx) ((hFc 22 1 (by decide) (by decide)).trans hN) (by omega) (by omega) hr16 hRc) rfl rfl hRm (by decide) (by decide) (Nat.le_of_ble_eq_true rfl) (fun v19 Mc17 hq18 => ?_)
  have hFe : Fr [] [(22, 4), (22, 5), (22, 6), (22, 7), (22, 8)] M Mc17 := Fr.tt hFc hq18.1
  have e3 := hq18.2.1
  have hSe := hq18.2.2
  rw [hSc] at e3 hSe
  have e3 : _ = (pmM r n d (RD M)).1 := e3
  have hSe : _ = (pmM r n d (RD M)).2 := hSe
  have hRe : RG n (RD Mc17) := by
    rw [hSe]
    exact RG.rn (RG.no (RG.no hRg.nx))
  refine R_istore_3 hC dX9_readPromiseClause_45 rfl ?_
  refine R_aload_0 hC dX9_readPromiseClause_46 ?_
  refine R_iconst hC dX9_readPromiseClause_47 ⟨by decide, by decide⟩ ?_
  refine R_bipush hC dX9_readPromiseClause_48 (by decide +kernel) ⟨by decide, by decide⟩ ?_
  have hG20 : GR Mc17 := (GR.fr hG15 hq18.1 (by decide +kernel))
  have hr21 : Mc17 1 = r := ((hq18.1.row (by decide) (by decide)).trans hr16)
  refine R_callVp (as := [vI _, vI _]) hC dX9_readPromiseClause_50 mo_9_readNumber ml_9_115 (by decide) rfl rfl (c9_readNumber  hG20 ((hFe 22 0 (by decide) (by decide)).trans hTx) ((hFe 22 1 (by decide) (by decide)).trans hN) (by omega) (by omega) hr21 hRe) rfl rfl hRm (by decide) (by decide) (Nat.le_of_ble_eq_true rfl) (fun v24 Mc22 hq23 => ?_)
  have hFy : Fr [] [(22, 4), (22, 5), (22, 6), (22, 7), (22, 8)] M Mc22 := Fr.tt hFe hq23.1
  have e4 := hq23.2.1
  have hSy := hq23.2.2
  rw [hSe] at e4 hSy
  have e4 : _ = (pmY r n d (RD M)).1 := e4
  have hSy : _ = (pmY r n d (RD M)).2 := hSy
  have hRy : RG n (RD Mc22) := by
    rw [hSy]
    exact RG.rn (RG.rn (RG.no (RG.no hRg.nx)))
  refine R_istore_4 hC dX9_readPromiseClause_53 rfl ?_
  refine R_aload_0 hC dX9_readPromiseClause_55 ?_
  have hG25 : GR Mc22 := (GR.fr hG20 hq23.1 (by decide +kernel))
  have hr26 : Mc22 1 = r := ((hq23.1.row (by decide) (by decide)).trans hr21)
  refine R_callVv (as := []) hC dX9_readPromiseClause_56 mo_9_readSign ml_9_118 (by decide) rfl rfl (c9_readSign  hG25 ((hFy 22 0 (by decide) (by decide)).trans hTx) ((hFy 22 1 (by decide) (by decide)).trans hN) (by omega) (by omega) hr26 hRy) rfl rfl hRm (by decide) (by decide) (Nat.le_of_ble_eq_true rfl) (fun Mc27 hq28 => ?_)
  have hFd : Fr [] [(22, 4), (22, 5), (22, 6), (22, 7), (22, 8)] M Mc27 := Fr.tt hFy hq28.1
  have hSd := hq28.2
  rw [hSy] at hSd
  have hr29 : Mc27 21 = d := ((hq28.1.row (by decide) (by decide)).trans ((hq23.1.row (by decide) (by decide)).trans ((hq18.1.row (by decide) (by decide)).trans ((hq13.1.row (by decide) (by decide)).trans hr9))))
  have hRo := hr29
  refine R_aload_0 hC dX9_readPromiseClause_59 ?_
  refine R_getI hC dX9_readPromiseClause_60 fl_9_41 (by decide) rfl (by decide) (by decide) (fi := 7) rfl ?_
  refine R_if_ne hC dX9_readPromiseClause_63 (tgt := 103) (by decide) (fun hb63 => ?_) (fun hb63 => ?_)
  · skip
    have hG30 : GR Mc27 := (GR.fr hG25 hq28.1 (by decide +kernel))
    exact R_return hC dX9_readPromiseClause_103 rfl (ret_V ⟨by
          first
            | exact hFd.mo (by decide) (by decide)
            | exact Fr.uA (Fr.uA (hFd.mo (by decide) (by decide)) (by decide)) (by decide), hG30, by
          show _ = (if (sgR r n (pmY r n d (RD M)).2).2.2.2.1 = 0 then upd1 (upd1 d (58 + (hdL r n d (RD M)).1 * 6 + (hdW r n d 58 (RD M)).1) (pmM r n d (RD M)).1) (88 + (hdL r n d (RD M)).1 * 6 + (hdW r n d 58 (RD M)).1) (pmY r n d (RD M)).1 else d)
          rw [← hSd]
          first
            | exact hRo.trans (if_neg hb63).symm
            | (rw [uM_row, uM_row, hRo, ← e1, ← e2, ← e3, ← e4]; exact (if_pos hb63).symm), by
          show _ = sgR r n (pmY r n d (RD M)).2
          first
            | exact hSd
            | (rw [RD_h, RD_h]; exact hSd)⟩)
  · skip
    refine R_aload_0 hC dX9_readPromiseClause_66 ?_
    refine R_getR hC dX9_readPromiseClause_67 fl_9_28 (by decide) rfl (by decide) (by decide) (fi := 2) rfl (r := 20) (by first | exact (hFd 22 2 (by decide) (by decide)).trans hSk | exact (uM_h (by decide)).trans ((hFd 22 2 (by decide) (by decide)).trans hSk) | exact (hFb 22 2 (by decide) (by decide)).trans hSk | exact (hFa 22 2 (by decide) (by decide)).trans hSk) ?_
    have hG31 : GR Mc27 := (GR.fr hG25 hq28.1 (by decide +kernel))
    refine R_getR hC dX9_readPromiseClause_70 fl_9_135 (by decide) rfl (by decide) (by decide) (fi := 0) rfl (r := 21) (gr_20_0 hG31) ?_
    refine R_bipush hC dX9_readPromiseClause_73 (by decide +kernel) ⟨by decide, by decide⟩ ?_
    refine R_iload_1 hC dX9_readPromiseClause_75 ?_
    refine R_bipush hC dX9_readPromiseClause_76 (by decide +kernel) ⟨by decide, by decide⟩ ?_
    refine R_imul hC dX9_readPromiseClause_78 ⟨by omega, by omega⟩ ?_
    refine R_iadd hC dX9_readPromiseClause_79 ⟨by omega, by omega⟩ ?_
    refine R_iload_2 hC dX9_readPromiseClause_80 ?_
    refine R_iadd hC dX9_readPromiseClause_81 ⟨by omega, by omega⟩ ?_
    refine R_iload_3 hC dX9_readPromiseClause_82 ?_
    refine R_iastore hC dX9_readPromiseClause_83 (by decide) rfl (by omega) (by omega) ?_
    refine R_aload_0 hC dX9_readPromiseClause_84 ?_
    refine R_getR hC dX9_readPromiseClause_85 fl_9_28 (by decide) rfl (by decide) (by decide) (fi := 2) rfl (r := 20) (by first | exact (hFd 22 2 (by decide) (by decide)).trans hSk | exact (uM_h (by decide)).trans ((hFd 22 2 (by decide) (by decide)).trans hSk) | exact (hFb 22 2 (by decide) (by decide)).trans hSk | exact (hFa 22 2 (by decide) (by decide)).trans hSk) ?_
    have hG32 : GR (uM Mc27 21 ((58 + (v8 * 6)) + v14) v19) := (GR.uA hG31 (by decide +kernel) (.inr ⟨by omega, by omega⟩))
    refine R_getR hC dX9_readPromiseClause_88 fl_9_135 (by decide) rfl (by decide) (by decide) (fi := 0) rfl (r := 21) (gr_20_0 hG32) ?_
    refine R_bipush hC dX9_readPromiseClause_91 (by decide +kernel) ⟨by decide, by decide⟩ ?_
    refine R_iload_1 hC dX9_readPromiseClause_93 ?_
    refine R_bipush hC dX9_readPromiseClause_94 (by decide +kernel) ⟨by decide, by decide⟩ ?_
    refine R_imul hC dX9_readPromiseClause_96 ⟨by omega, by omega⟩ ?_
    refine R_iadd hC dX9_readPromiseClause_97 ⟨by omega, by omega⟩ ?_
    refine R_iload_2 hC dX9_readPromiseClause_98 ?_
    refine R_iadd hC dX9_readPromiseClause_99 ⟨by omega, by omega⟩ ?_
    refine R_iload_4 hC dX9_readPromiseClause_100 ?_
    refine R_iastore hC dX9_readPromiseClause_102 (by decide) rfl (by omega) (by omega) ?_
    have hG33 : GR (uM (uM Mc27 21 ((58 + (v8 * 6)) + v14) v19) 21 ((88 + (v8 * 6)) + v14) v24) := (GR.uA hG32 (by decide +kernel) (.inr ⟨by omega, by omega⟩))
    exact R_return hC dX9_readPromiseClause_103 rfl (ret_V ⟨by
          first
            | exact hFd.mo (by decide) (by decide)
            | exact Fr.uA (Fr.uA (hFd.mo (by decide) (by decide)) (by decide)) (by decide), hG33, by
          show _ = (if (sgR r n (pmY r n d (RD M)).2).2.2.2.1 = 0 then upd1 (upd1 d (58 + (hdL r n d (RD M)).1 * 6 + (hdW r n d 58 (RD M)).1) (pmM r n d (RD M)).1) (88 + (hdL r n d (RD M)).1 * 6 + (hdW r n d 58 (RD M)).1) (pmY r n d (RD M)).1 else d)
          rw [← hSd]
          first
            | exact hRo.trans (if_neg hb63).symm
            | (rw [uM_row, uM_row, hRo, ← e1, ← e2, ← e3, ← e4]; exact (if_pos hb63).symm), by
          show _ = sgR r n (pmY r n d (RD M)).2
          first
            | exact hSd
            | (rw [RD_h, RD_h]; exact hSd)⟩)
