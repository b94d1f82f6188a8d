/-! TextReader: the clauses -/
theorem RG.rn {r : Int → Int} {n a b : Int} {S : RT} (h : RG n S) : RG n (rnR r n a b S).2 := by
  unfold rnR
  split
  · exact (RG.ck h).nx
  · exact RG.ck h
theorem RG.sg {r : Int → Int} {n : Int} {S : RT} (h : RG n S) : RG n (sgR r n S) := by
  unfold sgR
  split
  · split
    · exact h.nx
    · exact h.rf
  · exact h
noncomputable def wkR (r : Int → Int) (n : Int) (d : Int → Int) (S : RT) : (Int → Int) × RT :=
  if d 122 < 6 then (upd1 (upd1 (upd1 d (10 + d 122) (rnR r n 1 9 (nxR r n S)).1) (16 + d 122) (rnR r n 0 15 (rnR r n 1 9 (nxR r n S)).2).1) 122 (d 122 + 1), sgR r n (rnR r n 0 15 (rnR r n 1 9 (nxR r n S)).2).2)
  else (d, refR 2 S)

theorem dX9_readWorkClause_0 : decode cX9_readWorkClause 0 = .ok (.aload_n 0, 1) := by decide +kernel
theorem dX9_readWorkClause_1 : decode cX9_readWorkClause 1 = .ok (.getfield 28, 3) := by decide +kernel
theorem dX9_readWorkClause_4 : decode cX9_readWorkClause 4 = .ok (.invokevirtual 125, 3) := by decide +kernel
theorem dX9_readWorkClause_7 : decode cX9_readWorkClause 7 = .ok (.bipush 6, 2) := by decide +kernel
theorem dX9_readWorkClause_9 : decode cX9_readWorkClause 9 = .ok (.if_icmp .lt 9, 3) := by decide +kernel
theorem dX9_readWorkClause_12 : decode cX9_readWorkClause 12 = .ok (.aload_n 0, 1) := by decide +kernel
theorem dX9_readWorkClause_13 : decode cX9_readWorkClause 13 = .ok (.iconst 2, 1) := by decide +kernel
theorem dX9_readWorkClause_14 : decode cX9_readWorkClause 14 = .ok (.invokevirtual 108, 3) := by decide +kernel
theorem dX9_readWorkClause_17 : decode cX9_readWorkClause 17 = .ok (.return_, 1) := by decide +kernel
theorem dX9_readWorkClause_18 : decode cX9_readWorkClause 18 = .ok (.aload_n 0, 1) := by decide +kernel
theorem dX9_readWorkClause_19 : decode cX9_readWorkClause 19 = .ok (.invokevirtual 47, 3) := by decide +kernel
theorem dX9_readWorkClause_22 : decode cX9_readWorkClause 22 = .ok (.aload_n 0, 1) := by decide +kernel
theorem dX9_readWorkClause_23 : decode cX9_readWorkClause 23 = .ok (.iconst 1, 1) := by decide +kernel
theorem dX9_readWorkClause_24 : decode cX9_readWorkClause 24 = .ok (.bipush 9, 2) := by decide +kernel
theorem dX9_readWorkClause_26 : decode cX9_readWorkClause 26 = .ok (.invokevirtual 115, 3) := by decide +kernel
theorem dX9_readWorkClause_29 : decode cX9_readWorkClause 29 = .ok (.istore_n 1, 1) := by decide +kernel
theorem dX9_readWorkClause_30 : decode cX9_readWorkClause 30 = .ok (.aload_n 0, 1) := by decide +kernel
theorem dX9_readWorkClause_31 : decode cX9_readWorkClause 31 = .ok (.iconst 0, 1) := by decide +kernel
theorem dX9_readWorkClause_32 : decode cX9_readWorkClause 32 = .ok (.bipush 15, 2) := by decide +kernel
theorem dX9_readWorkClause_34 : decode cX9_readWorkClause 34 = .ok (.invokevirtual 115, 3) := by decide +kernel
theorem dX9_readWorkClause_37 : decode cX9_readWorkClause 37 = .ok (.istore_n 2, 1) := by decide +kernel
theorem dX9_readWorkClause_38 : decode cX9_readWorkClause 38 = .ok (.aload_n 0, 1) := by decide +kernel
theorem dX9_readWorkClause_39 : decode cX9_readWorkClause 39 = .ok (.invokevirtual 118, 3) := by decide +kernel
theorem dX9_readWorkClause_42 : decode cX9_readWorkClause 42 = .ok (.aload_n 0, 1) := by decide +kernel
theorem dX9_readWorkClause_43 : decode cX9_readWorkClause 43 = .ok (.getfield 28, 3) := by decide +kernel
theorem dX9_readWorkClause_46 : decode cX9_readWorkClause 46 = .ok (.iload_n 1, 1) := by decide +kernel
theorem dX9_readWorkClause_47 : decode cX9_readWorkClause 47 = .ok (.iload_n 2, 1) := by decide +kernel
theorem dX9_readWorkClause_48 : decode cX9_readWorkClause 48 = .ok (.invokevirtual 128, 3) := by decide +kernel
theorem dX9_readWorkClause_51 : decode cX9_readWorkClause 51 = .ok (.return_, 1) := by decide +kernel
set_option maxHeartbeats 400000 in
theorem c9_readWorkClause {G : Gl} {l : Launch}  {M : Mem} {n : Int} {r d : Int → Int} (hG : GR M) (hTx : M 22 0 = 1) (hN : M 22 1 = n) (hn0 : 0 ≤ n) (hn1 : n ≤ 700) (hr : M 1 = r) (hRg : RG n (RD M)) (hSk : M 22 2 = 20) (hD : M 21 = d) (hW0 : 0 ≤ d 122) (hW1 : d 122 ≤ 6) : Ct G LY 82 l 3 m9_readWorkClause [vR 22] M (RV (fun M' => Fr [21] [(22, 4), (22, 5), (22, 6), (22, 7), (22, 8)] M M' ∧ GR M' ∧ M' 21 = (wkR r n d (RD M)).1 ∧ RD M' = (wkR r n d (RD M)).2)) := by
  refine R_start (by decide +kernel) (Nat.le_of_ble_eq_true rfl) (fun C hC hRm hlau => ?_)
  show RZ G LY C (Zn G LY 82 C (RV (fun M' => Fr [21] [(22, 4), (22, 5), (22, 6), (22, 7), (22, 8)] M M' ∧ GR M' ∧ M' 21 = (wkR r n d (RD M)).1 ∧ RD M' = (wkR r n d (RD M)).2))) 0 0 82 0 [some (vR 22), none, none] [] M
  refine R_aload_0 hC dX9_readWorkClause_0 ?_
  refine R_getR hC dX9_readWorkClause_1 fl_9_28 (by decide) rfl (by decide) (by decide) (fi := 2) rfl (r := 20) (by first | exact hSk | exact (hFd 22 2 (by decide) (by decide)).trans hSk) ?_
  refine R_callVq (as := []) hC dX9_readWorkClause_4 mo_8_works ml_9_125 (by decide) rfl rfl (c8_works_d  hD hG sh_20) rfl rfl hRm (by decide) (by decide) (Nat.le_of_ble_eq_true rfl) ?_
  refine R_bipush hC dX9_readWorkClause_7 (by decide +kernel) ⟨by decide, by decide⟩ ?_
  refine R_icmp_lt hC dX9_readWorkClause_9 (tgt := 18) (by decide) (fun hb9 => ?_) (fun hb9 => ?_)
  · skip
    refine R_aload_0 hC dX9_readWorkClause_18 ?_
    refine R_callVv (as := []) hC dX9_readWorkClause_19 mo_9_next ml_9_47 (by decide) rfl rfl (c9_next  hG hTx hN (by omega) (by omega) hr (by (have z := hRg.1; have y := hRg.2.1; show 0 ≤ (RD M).2.2.1; omega)) hRg.2.2) rfl rfl hRm (by decide) (by decide) (Nat.le_of_ble_eq_true rfl) (fun Mc1 hq2 => ?_)
    have hFa : Fr [] [(22, 4), (22, 5), (22, 6), (22, 7), (22, 8)] M Mc1 := hq2.1.mo (by decide) (by decide)
    have hSa : RD Mc1 = (nxR r n (RD M)) := RD_nx hq2
    have hRa : RG n (RD Mc1) := by
      rw [hSa]
      exact hRg.nx
    refine R_aload_0 hC dX9_readWorkClause_22 ?_
    refine R_iconst hC dX9_readWorkClause_23 ⟨by decide, by decide⟩ ?_
    refine R_bipush hC dX9_readWorkClause_24 (by decide +kernel) ⟨by decide, by decide⟩ ?_
    have hG3 : GR Mc1 := (GR.fr hG hq2.1 (by decide +kernel))
    have hr4 : Mc1 1 = r := ((hq2.1.row (by decide) (by decide)).trans hr)
    refine R_callVp (as := [vI _, vI _]) hC dX9_readWorkClause_26 mo_9_readNumber ml_9_115 (by decide) rfl rfl (c9_readNumber  hG3 ((hFa 22 0 (by decide) (by decide)).trans hTx) ((hFa 22 1 (by decide) (by decide)).trans hN) (by omega) (by omega) hr4 hRa) rfl rfl hRm (by decide) (by decide) (Nat.le_of_ble_eq_true rfl) (fun v7 Mc5 hq6 => ?_)
    have hFb : Fr [] [(22, 4), (22, 5), (22, 6), (22, 7), (22, 8)] M Mc5 := Fr.tt hFa hq6.1
    have ev := hq6.2.1
    have hSb := hq6.2.2
    rw [hSa] at ev hSb
    have hRb : RG n (RD Mc5) := by
      rw [hSb]
      exact RG.rn hRg.nx
    refine R_istore_1 hC dX9_readWorkClause_29 rfl ?_
    refine R_aload_0 hC dX9_readWorkClause_30 ?_
    refine R_iconst hC dX9_readWorkClause_31 ⟨by decide, by decide⟩ ?_
    refine R_bipush hC dX9_readWorkClause_32 (by decide +kernel) ⟨by decide, by decide⟩ ?_
    have hG8 : GR Mc5 := (GR.fr hG3 hq6.1 (by decide +kernel))
    have hr9 : Mc5 1 = r := ((hq6.1.row (by decide) (by decide)).trans hr4)
    refine R_callVp (as := [vI _, vI _]) hC dX9_readWorkClause_34 mo_9_readNumber ml_9_115 (by decide) rfl rfl (c9_readNumber  hG8 ((hFb 22 0 (by decide) (by decide)).trans hTx) ((hFb 22 1 (by decide) (by decide)).trans hN) (by omega) (by omega) hr9 hRb) rfl rfl hRm (by decide) (by decide) (Nat.le_of_ble_eq_true rfl) (fun v12 Mc10 hq11 => ?_)
    have hFc : Fr [] [(22, 4), (22, 5), (22, 6), (22, 7), (22, 8)] M Mc10 := Fr.tt hFb hq11.1
    have eu := hq11.2.1
    have hSc := hq11.2.2
    rw [hSb] at eu hSc
    have hRc : RG n (RD Mc10) := by
      rw [hSc]
      exact RG.rn (RG.rn hRg.nx)
    refine R_istore_2 hC dX9_readWorkClause_37 rfl ?_
    refine R_aload_0 hC dX9_readWorkClause_38 ?_
    have hG13 : GR Mc10 := (GR.fr hG8 hq11.1 (by decide +kernel))
    have hr14 : Mc10 1 = r := ((hq11.1.row (by decide) (by decide)).trans hr9)
    refine R_callVv (as := []) hC dX9_readWorkClause_39 mo_9_readSign ml_9_118 (by decide) rfl rfl (c9_readSign  hG13 ((hFc 22 0 (by decide) (by decide)).trans hTx) ((hFc 22 1 (by decide) (by decide)).trans hN) (by omega) (by omega) hr14 hRc) rfl rfl hRm (by decide) (by decide) (Nat.le_of_ble_eq_true rfl) (fun Mc15 hq16 => ?_)
    have hFd : Fr [] [(22, 4), (22, 5), (22, 6), (22, 7), (22, 8)] M Mc15 := Fr.tt hFc hq16.1
    have hSd := hq16.2
    rw [hSc] at hSd
    refine R_aload_0 hC dX9_readWorkClause_42 ?_
    refine R_getR hC dX9_readWorkClause_43 fl_9_28 (by decide) rfl (by decide) (by decide) (fi := 2) rfl (r := 20) (by first | exact hSk | exact (hFd 22 2 (by decide) (by decide)).trans hSk) ?_
    refine R_iload_1 hC dX9_readWorkClause_46 ?_
    refine R_iload_2 hC dX9_readWorkClause_47 ?_
    have hG17 : GR Mc15 := (GR.fr hG13 hq16.1 (by decide +kernel))
    have hr18 : Mc15 21 = d := ((hq16.1.row (by decide) (by decide)).trans ((hq11.1.row (by decide) (by decide)).trans ((hq6.1.row (by decide) (by decide)).trans ((hq2.1.row (by decide) (by decide)).trans hD))))
    refine R_callVv (as := [vI _, vI _]) hC dX9_readWorkClause_48 mo_8_addWork ml_9_128 (by decide) rfl rfl (c8_addWork  hG17 sh_20 hr18 (by omega) (by omega)) rfl rfl hRm (by decide) (by decide) (Nat.le_of_ble_eq_true rfl) (fun Mc19 hq20 => ?_)
    have hG21 := hq20.2.1
    have hr22 := hq20.2.2
    exact R_return hC dX9_readWorkClause_51 rfl (ret_V (by
          have e : wkR r n d (RD M) = (upd1 (upd1 (upd1 d (10 + d 122) (rnR r n 1 9 (nxR r n (RD M))).1) (16 + d 122) (rnR r n 0 15 (rnR r n 1 9 (nxR r n (RD M))).2).1) 122 (d 122 + 1), sgR r n (rnR r n 0 15 (rnR r n 1 9 (nxR r n (RD M))).2).2) := if_pos (by omega)
          rw [e]
          refine ⟨Fr.tt (hFd.mo (by decide) (by decide)) (hq20.1.mo (by decide) (by decide)), hG21, hq20.2.2.trans (by rw [ev, eu]), ?_⟩
          refine Eq.trans ?_ hSd
          unfold RD
          rw [hq20.1 22 4 (by decide) (by decide), hq20.1 22 5 (by decide) (by decide), hq20.1 22 6 (by decide) (by decide), hq20.1 22 7 (by decide) (by decide), hq20.1 22 8 (by decide) (by decide)]))
  · skip
    refine R_aload_0 hC dX9_readWorkClause_12 ?_
    refine R_iconst hC dX9_readWorkClause_13 ⟨by decide, by decide⟩ ?_
    refine R_callVv (as := [vI _]) hC dX9_readWorkClause_14 mo_9_refuse ml_9_108 (by decide) rfl rfl (c9_refuse  hG) rfl rfl hRm (by decide) (by decide) (Nat.le_of_ble_eq_true rfl) (fun Mc23 hq24 => ?_)
    have hG25 : GR Mc23 := (GR.fr hG hq24.1 (by decide +kernel))
    have hr26 : Mc23 21 = d := ((hq24.1.row (by decide) (by decide)).trans hD)
    exact R_return hC dX9_readWorkClause_17 rfl (ret_V (by
          have e : wkR r n d (RD M) = (d, refR 2 (RD M)) := if_neg (by omega)
          rw [e]
          exact ⟨hq24.1.mo (by decide) (by decide), hG25, hr26, RD_rf hq24⟩))
