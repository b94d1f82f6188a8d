/-! the model's acts: go, give, send, carry, undo, note -/
theorem SP.goR {d : Int → Int} (h : SP d) {x w : Int} (x0 : 0 ≤ x) (x1 : x < 5) (w0 : 0 ≤ w) (w1 : w < 6) (hg : mayGo d x w) (hb : d 119 ≤ 89900) : SP (gsR d x w 1) := by
  have o := (h.off x0 x1 w0 w1).2
  have g1 := hg.1
  have c := (h.2.2.2.1 (x * 6 + w) (by omega) (by omega)).1
  have b := h.2.2.2.2.1.2.1.1
  rw [show 28 + x * 6 + w = 28 + (x * 6 + w) by omega] at o
  exact (h.cell (by omega) (by omega) (by omega) (by omega)).went (by omega) (by omega)
theorem un_ok {M : Mem} {n f : Int} {s : Int → Int → Int} {v : Int} (h : RNG M n f s) (hn : n ≠ 0) : RW (cpM (uM (uM M 57 4 v) 57 7 (n - 1)) 58 0 58 (slq f (n - 1)) 114) 0 (s (n - 1)) ∧ RNG (cpM (uM (uM M 57 4 v) 57 7 (n - 1)) 58 0 58 (slq f (n - 1)) 114) (n - 1) f s := by
  have b := h.1
  have sb := slq_b f (n - 1)
  have z : ∀ i, 0 ≤ i → i < n → RW (uM (uM M 57 4 v) 57 7 (n - 1)) (slq f i) (s i) := fun i i0 i1 => ((h.2.2 i i0 i1).uf (by decide)).uf (by decide)
  refine ⟨RW.cp (z (n - 1) (by omega) (by omega)) 0, ⟨⟨by omega, by omega⟩, b.2⟩, ⟨?_, ?_⟩, fun i i0 i1 => ?_⟩
  · exact (if_neg (fun q => by cases q.1)).trans uM_same
  · exact (if_neg (fun q => by cases q.1)).trans ((uM_k (by decide)).trans ((uM_k (by decide)).trans h.2.1.2))
  · have := slq_b f i
    exact RW.cpo (z i i0 (by omega)) (by omega)

theorem dX12_go__0 : decode cX12_go_ 0 = .ok (.aload_n 0, 1) := by decide +kernel
theorem dX12_go__1 : decode cX12_go_ 1 = .ok (.iconst 0, 1) := by decide +kernel
theorem dX12_go__2 : decode cX12_go_ 2 = .ok (.putfield 84, 3) := by decide +kernel
theorem dX12_go__5 : decode cX12_go_ 5 = .ok (.aload_n 0, 1) := by decide +kernel
theorem dX12_go__6 : decode cX12_go_ 6 = .ok (.iload_n 1, 1) := by decide +kernel
theorem dX12_go__7 : decode cX12_go_ 7 = .ok (.iload_n 2, 1) := by decide +kernel
theorem dX12_go__8 : decode cX12_go_ 8 = .ok (.invokevirtual 415, 3) := by decide +kernel
theorem dX12_go__11 : decode cX12_go_ 11 = .ok (.ifCond .eq 13, 3) := by decide +kernel
theorem dX12_go__14 : decode cX12_go_ 14 = .ok (.aload_n 0, 1) := by decide +kernel
theorem dX12_go__15 : decode cX12_go_ 15 = .ok (.iconst 0, 1) := by decide +kernel
theorem dX12_go__16 : decode cX12_go_ 16 = .ok (.iload_n 1, 1) := by decide +kernel
theorem dX12_go__17 : decode cX12_go_ 17 = .ok (.iload_n 2, 1) := by decide +kernel
theorem dX12_go__18 : decode cX12_go_ 18 = .ok (.invokevirtual 406, 3) := by decide +kernel
theorem dX12_go__21 : decode cX12_go_ 21 = .ok (.ifCond .eq 9, 3) := by decide +kernel
theorem dX12_go__24 : decode cX12_go_ 24 = .ok (.aload_n 0, 1) := by decide +kernel
theorem dX12_go__25 : decode cX12_go_ 25 = .ok (.iconst 1, 1) := by decide +kernel
theorem dX12_go__26 : decode cX12_go_ 26 = .ok (.invokevirtual 418, 3) := by decide +kernel
theorem dX12_go__29 : decode cX12_go_ 29 = .ok (.ireturn, 1) := by decide +kernel
theorem dX12_go__30 : decode cX12_go_ 30 = .ok (.aload_n 0, 1) := by decide +kernel
theorem dX12_go__31 : decode cX12_go_ 31 = .ok (.invokevirtual 412, 3) := by decide +kernel
theorem dX12_go__34 : decode cX12_go_ 34 = .ok (.aload_n 0, 1) := by decide +kernel
theorem dX12_go__35 : decode cX12_go_ 35 = .ok (.iconst 0, 1) := by decide +kernel
theorem dX12_go__36 : decode cX12_go_ 36 = .ok (.iload_n 1, 1) := by decide +kernel
theorem dX12_go__37 : decode cX12_go_ 37 = .ok (.iload_n 2, 1) := by decide +kernel
theorem dX12_go__38 : decode cX12_go_ 38 = .ok (.iconst 1, 1) := by decide +kernel
theorem dX12_go__39 : decode cX12_go_ 39 = .ok (.invokevirtual 424, 3) := by decide +kernel
theorem dX12_go__42 : decode cX12_go_ 42 = .ok (.aload_n 0, 1) := by decide +kernel
theorem dX12_go__43 : decode cX12_go_ 43 = .ok (.iconst 0, 1) := by decide +kernel
theorem dX12_go__44 : decode cX12_go_ 44 = .ok (.iload_n 2, 1) := by decide +kernel
theorem dX12_go__45 : decode cX12_go_ 45 = .ok (.invokevirtual 120, 3) := by decide +kernel
theorem dX12_go__48 : decode cX12_go_ 48 = .ok (.ireturn, 1) := by decide +kernel
set_option maxHeartbeats 400000 in
theorem c12_go_ {G : Gl} {l : Launch}  {M : Mem} {c : Int → Int} {x w : Int} {rn rf : Int} {rs : Int → Int → Int} (hG : GR M) (hK : RW M 0 c) (hS : SP c) (hR : RNG M rn rf rs) (hr0 : 0 ≤ M 61 1) (hr1 : M 61 1 ≤ 1000000000) (hb9 : c 119 ≤ 89900) : Ct G LY 82 l 5 m12_go_ [vR 57, vI x, vI w] M (RP (fun v M' => M' 57 4 = 0 ∧ (((((0 ≤ x ∧ x < c 121) ∧ 0 ≤ w ∧ w < c 122) ∧ mayGo c x w) ∧ (Fr [58] [(57, 4), (57, 7), (57, 8)] M M' ∧ HI M M' ∧ RW M' 0 (gsR c x w 1) ∧ RNG M' (kpN rn) (kpF rn rf) (kpS rn rs c)) ∧ v = spr (gsR c x w 1) w) ∨ (¬ (((0 ≤ x ∧ x < c 121) ∧ 0 ≤ w ∧ w < c 122) ∧ mayGo c x w) ∧ (Fr [61] [(57, 4)] M M' ∧ M' 61 1 = M 61 1 + 1 ∧ ∀ j, j ≠ 1 → M' 61 j = M 61 j) ∧ v = -1)))) := by
  refine R_start (by decide +kernel) (Nat.le_of_ble_eq_true rfl) (fun C hC hRm hlau => ?_)
  show RZ G LY C (Zn G LY 82 C (RP (fun v M' => M' 57 4 = 0 ∧ (((((0 ≤ x ∧ x < c 121) ∧ 0 ≤ w ∧ w < c 122) ∧ mayGo c x w) ∧ (Fr [58] [(57, 4), (57, 7), (57, 8)] M M' ∧ HI M M' ∧ RW M' 0 (gsR c x w 1) ∧ RNG M' (kpN rn) (kpF rn rf) (kpS rn rs c)) ∧ v = spr (gsR c x w 1) w) ∨ (¬ (((0 ≤ x ∧ x < c 121) ∧ 0 ≤ w ∧ w < c 122) ∧ mayGo c x w) ∧ (Fr [61] [(57, 4)] M M' ∧ M' 61 1 = M 61 1 + 1 ∧ ∀ j, j ≠ 1 → M' 61 j = M 61 j) ∧ v = -1))))) 0 0 82 0 [some (vR 57), some (vI x), some (vI w)] [] M
  have hM := hS.m
  have hI := hM.I
  have hL := hM.1.1
  have hW := hM.1.2
  have b119 := hS.2.2.2.2.1.2.1
  refine R_aload_0 hC dX12_go__0 ?_
  refine R_iconst hC dX12_go__1 ⟨by decide, by decide⟩ ?_
  refine R_putI hC dX12_go__2 fl_12_84 (by decide) rfl (by decide) (by decide) (fi := 4) rfl ?_
  refine R_aload_0 hC dX12_go__5 ?_
  refine R_iload_1 hC dX12_go__6 ?_
  refine R_iload_2 hC dX12_go__7 ?_
  have hG1 : GR (uM M 57 4 0) := (GR.uF hG (by decide +kernel) (by decide))
  have hk2 : RW (uM M 57 4 0) 0 c := (RW.uf hK (by decide))
  refine R_callVq (as := [vI _, vI _]) hC dX12_go__8 mo_12_isCell ml_12_415 (by decide) rfl rfl (c12_isCell  hG1 hk2 hS) rfl rfl hRm (by decide) (by decide) (Nat.le_of_ble_eq_true rfl) ?_
  refine R_if_eq hC dX12_go__11 (tgt := 24) (by decide) (fun hb11 => ?_) (fun hb11 => ?_)
  · skip
    replace hb11 := bP_z hb11
    refine R_aload_0 hC dX12_go__24 ?_
    refine R_iconst hC dX12_go__25 ⟨by decide, by decide⟩ ?_
    refine R_callVp (as := [vI _]) hC dX12_go__26 mo_12_refuses ml_12_418 (by decide) rfl rfl (c12_refuses  hG1 (by omega) (by omega) (by (rw [show uM M 57 4 0 61 1 = M 61 1 from uM_h (by decide)]; exact hr0)) (by (rw [show uM M 57 4 0 61 1 = M 61 1 from uM_h (by decide)]; exact hr1))) rfl rfl hRm (by decide) (by decide) (Nat.le_of_ble_eq_true rfl) (fun v5 Mc3 hq4 => ?_)
    exact R_ireturn hC dX12_go__29 rfl (ret_P ⟨by (rw [hq4.2.1]; exact (uM_h (by decide)).trans uM_same), .inr ⟨by (intro z; first | exact hb11 z.1 | exact hb21 ((whyN_0 hM (by omega) (by omega) (by omega) (by omega)).mpr z.2)), ⟨Fr.tt (Fr.uB Fr.rf (by decide)) (hq4.1.mo (by simp) (by simp)), by (rw [hq4.2.1]; exact uM_same.trans (congrArg (· + 1) (uM_h (by decide)))), fun j ne => by (rw [hq4.2.1]; exact (uM_k ne).trans (uM_h (by decide)))⟩, hq4.2.2⟩⟩)
  · skip
    replace hb11 := bP_nz hb11
    refine R_aload_0 hC dX12_go__14 ?_
    refine R_iconst hC dX12_go__15 ⟨by decide, by decide⟩ ?_
    refine R_iload_1 hC dX12_go__16 ?_
    refine R_iload_2 hC dX12_go__17 ?_
    refine R_callVq (as := [vI _, vI _, vI _]) hC dX12_go__18 mo_12_why ml_12_406 (by decide) rfl rfl (c12_why  hG1 hk2 (by omega) (by omega) hM (by omega) (by omega) (by omega) (by omega)) rfl rfl hRm (by decide) (by decide) (Nat.le_of_ble_eq_true rfl) ?_
    refine R_if_eq hC dX12_go__21 (tgt := 30) (by decide) (fun hb21 => ?_) (fun hb21 => ?_)
    · skip
      have hgo : mayGo c x w := (whyN_0 hM (by omega) (by omega) (by omega) (by omega)).mp hb21
      have bkk := (hM.2.2.2.1 (x * 6 + w) (by omega) (by omega)).1
      refine R_aload_0 hC dX12_go__30 ?_
      refine R_callVv (as := []) hC dX12_go__31 mo_12_keeps ml_12_412 (by decide) rfl rfl (c12_keeps  hG1 hk2 hR.u4) rfl rfl hRm (by decide) (by decide) (Nat.le_of_ble_eq_true rfl) (fun Mc6 hq7 => ?_)
      have hF9 : Fr [58] [(57, 4), (57, 7), (57, 8)] M Mc6 := Fr.tt (Fr.uB Fr.rf (by decide)) (hq7.1.mo (by simp) (by simp))
      have hI9 : HI M Mc6 := fun j e => (hq7.2.1 j e).trans (uM_h (by decide))
      have h49 : Mc6 57 4 = 0 := (hq7.1 57 4 (by decide) (by decide)).trans uM_same
      have hR9 : RNG Mc6 (kpN rn) (kpF rn rf) (kpS rn rs c) := hq7.2.2.2
      refine R_aload_0 hC dX12_go__34 ?_
      refine R_iconst hC dX12_go__35 ⟨by decide, by decide⟩ ?_
      refine R_iload_1 hC dX12_go__36 ?_
      refine R_iload_2 hC dX12_go__37 ?_
      refine R_iconst hC dX12_go__38 ⟨by decide, by decide⟩ ?_
      have hG8 : GR Mc6 := (GR.fr hG1 hq7.1 (by decide +kernel))
      have hk9 : RW Mc6 0 c := (hq7.2.2.1)
      refine R_callVv (as := [vI _, vI _, vI _, vI _]) hC dX12_go__39 mo_12_goes ml_12_424 (by decide) rfl rfl (c12_goes  hG8 hk9 (by omega) (by omega) (by omega) (by omega) (by omega) (by omega) (by omega) (by omega) (by omega) (by omega) (by omega) (by omega)) rfl rfl hRm (by decide) (by decide) (Nat.le_of_ble_eq_true rfl) (fun Mc10 hq11 => ?_)
      have h4g : Mc10 57 4 = 0 := (hq11.1 57 4 (by decide) (by simp)).trans h49
      have hFg : Fr [58] [(57, 4), (57, 7), (57, 8)] M Mc10 := Fr.tt hF9 (hq11.1.mo (by simp) (by simp))
      have hIg : HI M Mc10 := hI9.tr (fun j e => hq11.2.1 j (.inr (by omega)))
      have hRg : RNG Mc10 (kpN rn) (kpF rn rf) (kpS rn rs c) := hR9.of hq11.1 (fun j e _ => hq11.2.1 j (.inr (by omega))) (by decide)
      have hSg := hS.goR (by omega) (by omega) (by omega) (by omega) hgo hb9
      have hMg := hSg.m
      refine R_aload_0 hC dX12_go__42 ?_
      refine R_iconst hC dX12_go__43 ⟨by decide, by decide⟩ ?_
      refine R_iload_2 hC dX12_go__44 ?_
      have hG12 : GR Mc10 := (GR.fr hG8 hq11.1 (by decide +kernel))
      have hk13 : RW Mc10 0 (gsR c x w 1) := (hq11.2.2)
      refine R_callVq (as := [vI _, vI _]) hC dX12_go__45 mo_12_spareOf ml_12_120 (by decide) rfl rfl (c12_spareOf  hG12 hk13 (by omega) (by omega) (by omega) (by omega) hMg) rfl rfl hRm (by decide) (by decide) (Nat.le_of_ble_eq_true rfl) ?_
      exact R_ireturn hC dX12_go__48 rfl (ret_P ⟨h4g, .inl ⟨⟨hb11, hgo⟩, ⟨hFg, hIg, hk13, hRg⟩, rfl⟩⟩)
    · skip
      refine R_aload_0 hC dX12_go__24 ?_
      refine R_iconst hC dX12_go__25 ⟨by decide, by decide⟩ ?_
      refine R_callVp (as := [vI _]) hC dX12_go__26 mo_12_refuses ml_12_418 (by decide) rfl rfl (c12_refuses  hG1 (by omega) (by omega) (by (rw [show uM M 57 4 0 61 1 = M 61 1 from uM_h (by decide)]; exact hr0)) (by (rw [show uM M 57 4 0 61 1 = M 61 1 from uM_h (by decide)]; exact hr1))) rfl rfl hRm (by decide) (by decide) (Nat.le_of_ble_eq_true rfl) (fun v16 Mc14 hq15 => ?_)
      exact R_ireturn hC dX12_go__29 rfl (ret_P ⟨by (rw [hq15.2.1]; exact (uM_h (by decide)).trans uM_same), .inr ⟨by (intro z; first | exact hb11 z.1 | exact hb21 ((whyN_0 hM (by omega) (by omega) (by omega) (by omega)).mpr z.2)), ⟨Fr.tt (Fr.uB Fr.rf (by decide)) (hq15.1.mo (by simp) (by simp)), by (rw [hq15.2.1]; exact uM_same.trans (congrArg (· + 1) (uM_h (by decide)))), fun j ne => by (rw [hq15.2.1]; exact (uM_k ne).trans (uM_h (by decide)))⟩, hq15.2.2⟩⟩)
theorem dX12_give_0 : decode cX12_give 0 = .ok (.aload_n 0, 1) := by decide +kernel
theorem dX12_give_1 : decode cX12_give 1 = .ok (.iconst 0, 1) := by decide +kernel
theorem dX12_give_2 : decode cX12_give 2 = .ok (.putfield 84, 3) := by decide +kernel
theorem dX12_give_5 : decode cX12_give 5 = .ok (.aload_n 0, 1) := by decide +kernel
theorem dX12_give_6 : decode cX12_give 6 = .ok (.iload_n 1, 1) := by decide +kernel
theorem dX12_give_7 : decode cX12_give 7 = .ok (.iload_n 3, 1) := by decide +kernel
theorem dX12_give_8 : decode cX12_give 8 = .ok (.invokevirtual 415, 3) := by decide +kernel
theorem dX12_give_11 : decode cX12_give 11 = .ok (.ifCond .eq 23, 3) := by decide +kernel
theorem dX12_give_14 : decode cX12_give 14 = .ok (.aload_n 0, 1) := by decide +kernel
theorem dX12_give_15 : decode cX12_give 15 = .ok (.iload_n 2, 1) := by decide +kernel
theorem dX12_give_16 : decode cX12_give 16 = .ok (.iload_n 3, 1) := by decide +kernel
theorem dX12_give_17 : decode cX12_give 17 = .ok (.invokevirtual 415, 3) := by decide +kernel
theorem dX12_give_20 : decode cX12_give 20 = .ok (.ifCond .eq 14, 3) := by decide +kernel
theorem dX12_give_23 : decode cX12_give 23 = .ok (.aload_n 0, 1) := by decide +kernel
theorem dX12_give_24 : decode cX12_give 24 = .ok (.iconst 0, 1) := by decide +kernel
theorem dX12_give_25 : decode cX12_give 25 = .ok (.iload_n 1, 1) := by decide +kernel
theorem dX12_give_26 : decode cX12_give 26 = .ok (.iload_n 2, 1) := by decide +kernel
theorem dX12_give_27 : decode cX12_give 27 = .ok (.iload_n 3, 1) := by decide +kernel
theorem dX12_give_28 : decode cX12_give 28 = .ok (.invokevirtual 299, 3) := by decide +kernel
theorem dX12_give_31 : decode cX12_give 31 = .ok (.ifCond .ne 9, 3) := by decide +kernel
theorem dX12_give_34 : decode cX12_give 34 = .ok (.aload_n 0, 1) := by decide +kernel
theorem dX12_give_35 : decode cX12_give 35 = .ok (.iconst 1, 1) := by decide +kernel
theorem dX12_give_36 : decode cX12_give 36 = .ok (.invokevirtual 418, 3) := by decide +kernel
theorem dX12_give_39 : decode cX12_give 39 = .ok (.ireturn, 1) := by decide +kernel
theorem dX12_give_40 : decode cX12_give 40 = .ok (.aload_n 0, 1) := by decide +kernel
theorem dX12_give_41 : decode cX12_give 41 = .ok (.invokevirtual 412, 3) := by decide +kernel
theorem dX12_give_44 : decode cX12_give 44 = .ok (.aload_n 0, 1) := by decide +kernel
theorem dX12_give_45 : decode cX12_give 45 = .ok (.iconst 0, 1) := by decide +kernel
theorem dX12_give_46 : decode cX12_give 46 = .ok (.iload_n 1, 1) := by decide +kernel
theorem dX12_give_47 : decode cX12_give 47 = .ok (.iload_n 2, 1) := by decide +kernel
theorem dX12_give_48 : decode cX12_give 48 = .ok (.iload_n 3, 1) := by decide +kernel
theorem dX12_give_49 : decode cX12_give 49 = .ok (.invokevirtual 303, 3) := by decide +kernel
theorem dX12_give_52 : decode cX12_give 52 = .ok (.aload_n 0, 1) := by decide +kernel
theorem dX12_give_53 : decode cX12_give 53 = .ok (.iconst 0, 1) := by decide +kernel
theorem dX12_give_54 : decode cX12_give 54 = .ok (.iload_n 2, 1) := by decide +kernel
theorem dX12_give_55 : decode cX12_give 55 = .ok (.iload_n 3, 1) := by decide +kernel
theorem dX12_give_56 : decode cX12_give 56 = .ok (.invokevirtual 95, 3) := by decide +kernel
theorem dX12_give_59 : decode cX12_give 59 = .ok (.ireturn, 1) := by decide +kernel
set_option maxHeartbeats 400000 in
theorem c12_give {G : Gl} {l : Launch}  {M : Mem} {c : Int → Int} {x t w : Int} {rn rf : Int} {rs : Int → Int → Int} (hG : GR M) (hK : RW M 0 c) (hS : SP c) (hR : RNG M rn rf rs) (hr0 : 0 ≤ M 61 1) (hr1 : M 61 1 ≤ 1000000000) : Ct G LY 82 l 4 m12_give [vR 57, vI x, vI t, vI w] M (RP (fun v M' => M' 57 4 = 0 ∧ (((((0 ≤ x ∧ x < c 121) ∧ 0 ≤ w ∧ w < c 122) ∧ ((0 ≤ t ∧ t < c 121) ∧ 0 ≤ w ∧ w < c 122) ∧ mayGive c x t w) ∧ (Fr [58] [(57, 4), (57, 7), (57, 8)] M M' ∧ HI M M' ∧ RW M' 0 (mvR c x t w) ∧ RNG M' (kpN rn) (kpF rn rf) (kpS rn rs c)) ∧ v = mvR c x t w (28 + t * 6 + w)) ∨ (¬ (((0 ≤ x ∧ x < c 121) ∧ 0 ≤ w ∧ w < c 122) ∧ ((0 ≤ t ∧ t < c 121) ∧ 0 ≤ w ∧ w < c 122) ∧ mayGive c x t w) ∧ (Fr [61] [(57, 4)] M M' ∧ M' 61 1 = M 61 1 + 1 ∧ ∀ j, j ≠ 1 → M' 61 j = M 61 j) ∧ v = -1)))) := by
  refine R_start (by decide +kernel) (Nat.le_of_ble_eq_true rfl) (fun C hC hRm hlau => ?_)
  show RZ G LY C (Zn G LY 82 C (RP (fun v M' => M' 57 4 = 0 ∧ (((((0 ≤ x ∧ x < c 121) ∧ 0 ≤ w ∧ w < c 122) ∧ ((0 ≤ t ∧ t < c 121) ∧ 0 ≤ w ∧ w < c 122) ∧ mayGive c x t w) ∧ (Fr [58] [(57, 4), (57, 7), (57, 8)] M M' ∧ HI M M' ∧ RW M' 0 (mvR c x t w) ∧ RNG M' (kpN rn) (kpF rn rf) (kpS rn rs c)) ∧ v = mvR c x t w (28 + t * 6 + w)) ∨ (¬ (((0 ≤ x ∧ x < c 121) ∧ 0 ≤ w ∧ w < c 122) ∧ ((0 ≤ t ∧ t < c 121) ∧ 0 ≤ w ∧ w < c 122) ∧ mayGive c x t w) ∧ (Fr [61] [(57, 4)] M M' ∧ M' 61 1 = M 61 1 + 1 ∧ ∀ j, j ≠ 1 → M' 61 j = M 61 j) ∧ v = -1))))) 0 0 82 0 [some (vR 57), some (vI x), some (vI t), some (vI w)] [] M
  have hM := hS.m
  have hI := hM.I
  have hL := hM.1.1
  have hW := hM.1.2
  refine R_aload_0 hC dX12_give_0 ?_
  refine R_iconst hC dX12_give_1 ⟨by decide, by decide⟩ ?_
  refine R_putI hC dX12_give_2 fl_12_84 (by decide) rfl (by decide) (by decide) (fi := 4) rfl ?_
  refine R_aload_0 hC dX12_give_5 ?_
  refine R_iload_1 hC dX12_give_6 ?_
  refine R_iload_3 hC dX12_give_7 ?_
  have hG1 : GR (uM M 57 4 0) := (GR.uF hG (by decide +kernel) (by decide))
  have hk2 : RW (uM M 57 4 0) 0 c := (RW.uf hK (by decide))
  refine R_callVq (as := [vI _, vI _]) hC dX12_give_8 mo_12_isCell ml_12_415 (by decide) rfl rfl (c12_isCell  hG1 hk2 hS) rfl rfl hRm (by decide) (by decide) (Nat.le_of_ble_eq_true rfl) ?_
  refine R_if_eq hC dX12_give_11 (tgt := 34) (by decide) (fun hb11 => ?_) (fun hb11 => ?_)
  · skip
    replace hb11 := bP_z hb11
    refine R_aload_0 hC dX12_give_34 ?_
    refine R_iconst hC dX12_give_35 ⟨by decide, by decide⟩ ?_
    refine R_callVp (as := [vI _]) hC dX12_give_36 mo_12_refuses ml_12_418 (by decide) rfl rfl (c12_refuses  hG1 (by omega) (by omega) (by (rw [show uM M 57 4 0 61 1 = M 61 1 from uM_h (by decide)]; exact hr0)) (by (rw [show uM M 57 4 0 61 1 = M 61 1 from uM_h (by decide)]; exact hr1))) rfl rfl hRm (by decide) (by decide) (Nat.le_of_ble_eq_true rfl) (fun v5 Mc3 hq4 => ?_)
    exact R_ireturn hC dX12_give_39 rfl (ret_P ⟨by (rw [hq4.2.1]; exact (uM_h (by decide)).trans uM_same), .inr ⟨by (intro z; first | exact hb11 z.1 | exact hb20 z.2.1 | exact hb31 z.2.2), ⟨Fr.tt (Fr.uB Fr.rf (by decide)) (hq4.1.mo (by simp) (by simp)), by (rw [hq4.2.1]; exact uM_same.trans (congrArg (· + 1) (uM_h (by decide)))), fun j ne => by (rw [hq4.2.1]; exact (uM_k ne).trans (uM_h (by decide)))⟩, hq4.2.2⟩⟩)
  · skip
    replace hb11 := bP_nz hb11
    refine R_aload_0 hC dX12_give_14 ?_
    refine R_iload_2 hC dX12_give_15 ?_
    refine R_iload_3 hC dX12_give_16 ?_
    refine R_callVq (as := [vI _, vI _]) hC dX12_give_17 mo_12_isCell ml_12_415 (by decide) rfl rfl (c12_isCell  hG1 hk2 hS) rfl rfl hRm (by decide) (by decide) (Nat.le_of_ble_eq_true rfl) ?_
    refine R_if_eq hC dX12_give_20 (tgt := 34) (by decide) (fun hb20 => ?_) (fun hb20 => ?_)
    · skip
      replace hb20 := bP_z hb20
      refine R_aload_0 hC dX12_give_34 ?_
      refine R_iconst hC dX12_give_35 ⟨by decide, by decide⟩ ?_
      refine R_callVp (as := [vI _]) hC dX12_give_36 mo_12_refuses ml_12_418 (by decide) rfl rfl (c12_refuses  hG1 (by omega) (by omega) (by (rw [show uM M 57 4 0 61 1 = M 61 1 from uM_h (by decide)]; exact hr0)) (by (rw [show uM M 57 4 0 61 1 = M 61 1 from uM_h (by decide)]; exact hr1))) rfl rfl hRm (by decide) (by decide) (Nat.le_of_ble_eq_true rfl) (fun v8 Mc6 hq7 => ?_)
      exact R_ireturn hC dX12_give_39 rfl (ret_P ⟨by (rw [hq7.2.1]; exact (uM_h (by decide)).trans uM_same), .inr ⟨by (intro z; first | exact hb11 z.1 | exact hb20 z.2.1 | exact hb31 z.2.2), ⟨Fr.tt (Fr.uB Fr.rf (by decide)) (hq7.1.mo (by simp) (by simp)), by (rw [hq7.2.1]; exact uM_same.trans (congrArg (· + 1) (uM_h (by decide)))), fun j ne => by (rw [hq7.2.1]; exact (uM_k ne).trans (uM_h (by decide)))⟩, hq7.2.2⟩⟩)
    · skip
      replace hb20 := bP_nz hb20
      refine R_aload_0 hC dX12_give_23 ?_
      refine R_iconst hC dX12_give_24 ⟨by decide, by decide⟩ ?_
      refine R_iload_1 hC dX12_give_25 ?_
      refine R_iload_2 hC dX12_give_26 ?_
      refine R_iload_3 hC dX12_give_27 ?_
      refine R_callVq (as := [vI _, vI _, vI _, vI _]) hC dX12_give_28 mo_12_canGive ml_12_299 (by decide) rfl rfl (c12_canGive  hG1 hk2 (by omega) (by omega) hM (by omega) (by omega) (by omega) (by omega) (by omega) (by omega)) rfl rfl hRm (by decide) (by decide) (Nat.le_of_ble_eq_true rfl) ?_
      refine R_if_ne hC dX12_give_31 (tgt := 40) (by decide) (fun hb31 => ?_) (fun hb31 => ?_)
      · skip
        replace hb31 := bP_nz hb31
        refine R_aload_0 hC dX12_give_40 ?_
        refine R_callVv (as := []) hC dX12_give_41 mo_12_keeps ml_12_412 (by decide) rfl rfl (c12_keeps  hG1 hk2 hR.u4) rfl rfl hRm (by decide) (by decide) (Nat.le_of_ble_eq_true rfl) (fun Mc9 hq10 => ?_)
        have hF9 : Fr [58] [(57, 4), (57, 7), (57, 8)] M Mc9 := Fr.tt (Fr.uB Fr.rf (by decide)) (hq10.1.mo (by simp) (by simp))
        have hI9 : HI M Mc9 := fun j e => (hq10.2.1 j e).trans (uM_h (by decide))
        have h49 : Mc9 57 4 = 0 := (hq10.1 57 4 (by decide) (by decide)).trans uM_same
        have hR9 : RNG Mc9 (kpN rn) (kpF rn rf) (kpS rn rs c) := hq10.2.2.2
        refine R_aload_0 hC dX12_give_44 ?_
        refine R_iconst hC dX12_give_45 ⟨by decide, by decide⟩ ?_
        refine R_iload_1 hC dX12_give_46 ?_
        refine R_iload_2 hC dX12_give_47 ?_
        refine R_iload_3 hC dX12_give_48 ?_
        have hG11 : GR Mc9 := (GR.fr hG1 hq10.1 (by decide +kernel))
        have hk12 : RW Mc9 0 c := (hq10.2.2.1)
        refine R_callVv (as := [vI _, vI _, vI _, vI _]) hC dX12_give_49 mo_12_gives ml_12_303 (by decide) rfl rfl (c12_gives  hG11 hk12 (by omega) (by omega) hM (by omega) (by omega) (by omega) (by omega) (by omega) (by omega)) rfl rfl hRm (by decide) (by decide) (Nat.le_of_ble_eq_true rfl) (fun Mc13 hq14 => ?_)
        have h4g : Mc13 57 4 = 0 := (hq14.1 57 4 (by decide) (by simp)).trans h49
        have hFg : Fr [58] [(57, 4), (57, 7), (57, 8)] M Mc13 := Fr.tt hF9 (hq14.1.mo (by simp) (by simp))
        have hIg : HI M Mc13 := hI9.tr (fun j e => hq14.2.1 j (.inr (by omega)))
        have hRg : RNG Mc13 (kpN rn) (kpF rn rf) (kpS rn rs c) := hR9.of hq14.1 (fun j e _ => hq14.2.1 j (.inr (by omega))) (by decide)
        refine R_aload_0 hC dX12_give_52 ?_
        refine R_iconst hC dX12_give_53 ⟨by decide, by decide⟩ ?_
        refine R_iload_2 hC dX12_give_54 ?_
        refine R_iload_3 hC dX12_give_55 ?_
        have hG15 : GR Mc13 := (GR.fr hG11 hq14.1 (by decide +kernel))
        have hk16 : RW Mc13 0 (mvR c x t w) := (hq14.2.2)
        refine R_callVq (as := [vI _, vI _, vI _]) hC dX12_give_56 mo_12_holds ml_12_95 (by decide) rfl rfl (c12_holds  hG15 hk16 (by omega) (by omega) (by omega) (by omega) (by omega) (by omega)) rfl rfl hRm (by decide) (by decide) (Nat.le_of_ble_eq_true rfl) ?_
        exact R_ireturn hC dX12_give_59 rfl (ret_P ⟨h4g, .inl ⟨⟨hb11, hb20, hb31⟩, ⟨hFg, hIg, hk16, hRg⟩, rfl⟩⟩)
      · skip
        replace hb31 := bP_z hb31
        refine R_aload_0 hC dX12_give_34 ?_
        refine R_iconst hC dX12_give_35 ⟨by decide, by decide⟩ ?_
        refine R_callVp (as := [vI _]) hC dX12_give_36 mo_12_refuses ml_12_418 (by decide) rfl rfl (c12_refuses  hG1 (by omega) (by omega) (by (rw [show uM M 57 4 0 61 1 = M 61 1 from uM_h (by decide)]; exact hr0)) (by (rw [show uM M 57 4 0 61 1 = M 61 1 from uM_h (by decide)]; exact hr1))) rfl rfl hRm (by decide) (by decide) (Nat.le_of_ble_eq_true rfl) (fun v19 Mc17 hq18 => ?_)
        exact R_ireturn hC dX12_give_39 rfl (ret_P ⟨by (rw [hq18.2.1]; exact (uM_h (by decide)).trans uM_same), .inr ⟨by (intro z; first | exact hb11 z.1 | exact hb20 z.2.1 | exact hb31 z.2.2), ⟨Fr.tt (Fr.uB Fr.rf (by decide)) (hq18.1.mo (by simp) (by simp)), by (rw [hq18.2.1]; exact uM_same.trans (congrArg (· + 1) (uM_h (by decide)))), fun j ne => by (rw [hq18.2.1]; exact (uM_k ne).trans (uM_h (by decide)))⟩, hq18.2.2⟩⟩)
theorem dX12_send_0 : decode cX12_send 0 = .ok (.aload_n 0, 1) := by decide +kernel
theorem dX12_send_1 : decode cX12_send 1 = .ok (.iconst 0, 1) := by decide +kernel
theorem dX12_send_2 : decode cX12_send 2 = .ok (.putfield 84, 3) := by decide +kernel
theorem dX12_send_5 : decode cX12_send 5 = .ok (.aload_n 0, 1) := by decide +kernel
theorem dX12_send_6 : decode cX12_send 6 = .ok (.iload_n 1, 1) := by decide +kernel
theorem dX12_send_7 : decode cX12_send 7 = .ok (.iload_n 2, 1) := by decide +kernel
theorem dX12_send_8 : decode cX12_send 8 = .ok (.invokevirtual 415, 3) := by decide +kernel
theorem dX12_send_11 : decode cX12_send 11 = .ok (.ifCond .eq 25, 3) := by decide +kernel
theorem dX12_send_14 : decode cX12_send 14 = .ok (.aload_n 0, 1) := by decide +kernel
theorem dX12_send_15 : decode cX12_send 15 = .ok (.iconst 0, 1) := by decide +kernel
theorem dX12_send_16 : decode cX12_send 16 = .ok (.iload_n 1, 1) := by decide +kernel
theorem dX12_send_17 : decode cX12_send 17 = .ok (.iload_n 2, 1) := by decide +kernel
theorem dX12_send_18 : decode cX12_send 18 = .ok (.invokevirtual 117, 3) := by decide +kernel
theorem dX12_send_21 : decode cX12_send 21 = .ok (.ifCond .eq 15, 3) := by decide +kernel
theorem dX12_send_24 : decode cX12_send 24 = .ok (.aload_n 0, 1) := by decide +kernel
theorem dX12_send_25 : decode cX12_send 25 = .ok (.iconst 0, 1) := by decide +kernel
theorem dX12_send_26 : decode cX12_send 26 = .ok (.invokevirtual 366, 3) := by decide +kernel
theorem dX12_send_29 : decode cX12_send 29 = .ok (.aload_n 0, 1) := by decide +kernel
theorem dX12_send_30 : decode cX12_send 30 = .ok (.getfield 275, 3) := by decide +kernel
theorem dX12_send_33 : decode cX12_send 33 = .ok (.if_icmp .lt 9, 3) := by decide +kernel
theorem dX12_send_36 : decode cX12_send 36 = .ok (.aload_n 0, 1) := by decide +kernel
theorem dX12_send_37 : decode cX12_send 37 = .ok (.iconst 1, 1) := by decide +kernel
theorem dX12_send_38 : decode cX12_send 38 = .ok (.invokevirtual 418, 3) := by decide +kernel
theorem dX12_send_41 : decode cX12_send 41 = .ok (.ireturn, 1) := by decide +kernel
theorem dX12_send_42 : decode cX12_send 42 = .ok (.aload_n 0, 1) := by decide +kernel
theorem dX12_send_43 : decode cX12_send 43 = .ok (.invokevirtual 412, 3) := by decide +kernel
theorem dX12_send_46 : decode cX12_send 46 = .ok (.aload_n 0, 1) := by decide +kernel
theorem dX12_send_47 : decode cX12_send 47 = .ok (.getfield 9, 3) := by decide +kernel
theorem dX12_send_50 : decode cX12_send 50 = .ok (.bipush 10, 2) := by decide +kernel
theorem dX12_send_52 : decode cX12_send 52 = .ok (.iload_n 1, 1) := by decide +kernel
theorem dX12_send_53 : decode cX12_send 53 = .ok (.iload_n 2, 1) := by decide +kernel
theorem dX12_send_54 : decode cX12_send 54 = .ok (.invokestatic 87, 3) := by decide +kernel
theorem dX12_send_57 : decode cX12_send 57 = .ok (.iadd, 1) := by decide +kernel
theorem dX12_send_58 : decode cX12_send 58 = .ok (.dup2, 1) := by decide +kernel
theorem dX12_send_59 : decode cX12_send 59 = .ok (.iaload, 1) := by decide +kernel
theorem dX12_send_60 : decode cX12_send 60 = .ok (.iconst 1, 1) := by decide +kernel
theorem dX12_send_61 : decode cX12_send 61 = .ok (.isub, 1) := by decide +kernel
theorem dX12_send_62 : decode cX12_send 62 = .ok (.iastore, 1) := by decide +kernel
theorem dX12_send_63 : decode cX12_send 63 = .ok (.aload_n 0, 1) := by decide +kernel
theorem dX12_send_64 : decode cX12_send 64 = .ok (.getfield 9, 3) := by decide +kernel
theorem dX12_send_67 : decode cX12_send 67 = .ok (.bipush 108, 2) := by decide +kernel
theorem dX12_send_69 : decode cX12_send 69 = .ok (.iload_n 2, 1) := by decide +kernel
theorem dX12_send_70 : decode cX12_send 70 = .ok (.iadd, 1) := by decide +kernel
theorem dX12_send_71 : decode cX12_send 71 = .ok (.dup2, 1) := by decide +kernel
theorem dX12_send_72 : decode cX12_send 72 = .ok (.iaload, 1) := by decide +kernel
theorem dX12_send_73 : decode cX12_send 73 = .ok (.iconst 1, 1) := by decide +kernel
theorem dX12_send_74 : decode cX12_send 74 = .ok (.iadd, 1) := by decide +kernel
theorem dX12_send_75 : decode cX12_send 75 = .ok (.iastore, 1) := by decide +kernel
theorem dX12_send_76 : decode cX12_send 76 = .ok (.aload_n 0, 1) := by decide +kernel
theorem dX12_send_77 : decode cX12_send 77 = .ok (.getfield 9, 3) := by decide +kernel
theorem dX12_send_80 : decode cX12_send 80 = .ok (.bipush 108, 2) := by decide +kernel
theorem dX12_send_82 : decode cX12_send 82 = .ok (.iload_n 2, 1) := by decide +kernel
theorem dX12_send_83 : decode cX12_send 83 = .ok (.iadd, 1) := by decide +kernel
theorem dX12_send_84 : decode cX12_send 84 = .ok (.iaload, 1) := by decide +kernel
theorem dX12_send_85 : decode cX12_send 85 = .ok (.ireturn, 1) := by decide +kernel
set_option maxHeartbeats 400000 in
theorem c12_send {G : Gl} {l : Launch}  {M : Mem} {c : Int → Int} {x w : Int} {rn rf : Int} {rs : Int → Int → Int} (hG : GR M) (hK : RW M 0 c) (hS : SP c) (hR : RNG M rn rf rs) (hr0 : 0 ≤ M 61 1) (hr1 : M 61 1 ≤ 1000000000) : Ct G LY 82 l 3 m12_send [vR 57, vI x, vI w] M (RP (fun v M' => M' 57 4 = 0 ∧ (((((0 ≤ x ∧ x < c 121) ∧ 0 ≤ w ∧ w < c 122) ∧ 0 < offr c x w ∧ stor c < c 120) ∧ (Fr [58] [(57, 4), (57, 7), (57, 8)] M M' ∧ HI M M' ∧ RW M' 0 (upd1 (upd1 c (28 + (x * 6 + w)) (c (28 + (x * 6 + w)) - 1)) (22 + w) (c (22 + w) + 1)) ∧ RNG M' (kpN rn) (kpF rn rf) (kpS rn rs c)) ∧ v = (c (22 + w) + 1)) ∨ (¬ (((0 ≤ x ∧ x < c 121) ∧ 0 ≤ w ∧ w < c 122) ∧ 0 < offr c x w ∧ stor c < c 120) ∧ (Fr [61] [(57, 4)] M M' ∧ M' 61 1 = M 61 1 + 1 ∧ ∀ j, j ≠ 1 → M' 61 j = M 61 j) ∧ v = -1)))) := by
  refine R_start (by decide +kernel) (Nat.le_of_ble_eq_true rfl) (fun C hC hRm hlau => ?_)
  show RZ G LY C (Zn G LY 82 C (RP (fun v M' => M' 57 4 = 0 ∧ (((((0 ≤ x ∧ x < c 121) ∧ 0 ≤ w ∧ w < c 122) ∧ 0 < offr c x w ∧ stor c < c 120) ∧ (Fr [58] [(57, 4), (57, 7), (57, 8)] M M' ∧ HI M M' ∧ RW M' 0 (upd1 (upd1 c (28 + (x * 6 + w)) (c (28 + (x * 6 + w)) - 1)) (22 + w) (c (22 + w) + 1)) ∧ RNG M' (kpN rn) (kpF rn rf) (kpS rn rs c)) ∧ v = (c (22 + w) + 1)) ∨ (¬ (((0 ≤ x ∧ x < c 121) ∧ 0 ≤ w ∧ w < c 122) ∧ 0 < offr c x w ∧ stor c < c 120) ∧ (Fr [61] [(57, 4)] M M' ∧ M' 61 1 = M 61 1 + 1 ∧ ∀ j, j ≠ 1 → M' 61 j = M 61 j) ∧ v = -1))))) 0 0 82 0 [some (vR 57), some (vI x), some (vI w)] [] M
  have hM := hS.m
  have hI := hM.I
  have hL := hM.1.1
  have hW := hM.1.2
  refine R_aload_0 hC dX12_send_0 ?_
  refine R_iconst hC dX12_send_1 ⟨by decide, by decide⟩ ?_
  refine R_putI hC dX12_send_2 fl_12_84 (by decide) rfl (by decide) (by decide) (fi := 4) rfl ?_
  refine R_aload_0 hC dX12_send_5 ?_
  refine R_iload_1 hC dX12_send_6 ?_
  refine R_iload_2 hC dX12_send_7 ?_
  have hG1 : GR (uM M 57 4 0) := (GR.uF hG (by decide +kernel) (by decide))
  have hk2 : RW (uM M 57 4 0) 0 c := (RW.uf hK (by decide))
  refine R_callVq (as := [vI _, vI _]) hC dX12_send_8 mo_12_isCell ml_12_415 (by decide) rfl rfl (c12_isCell  hG1 hk2 hS) rfl rfl hRm (by decide) (by decide) (Nat.le_of_ble_eq_true rfl) ?_
  refine R_if_eq hC dX12_send_11 (tgt := 36) (by decide) (fun hb11 => ?_) (fun hb11 => ?_)
  · skip
    replace hb11 := bP_z hb11
    refine R_aload_0 hC dX12_send_36 ?_
    refine R_iconst hC dX12_send_37 ⟨by decide, by decide⟩ ?_
    refine R_callVp (as := [vI _]) hC dX12_send_38 mo_12_refuses ml_12_418 (by decide) rfl rfl (c12_refuses  hG1 (by omega) (by omega) (by (rw [show uM M 57 4 0 61 1 = M 61 1 from uM_h (by decide)]; exact hr0)) (by (rw [show uM M 57 4 0 61 1 = M 61 1 from uM_h (by decide)]; exact hr1))) rfl rfl hRm (by decide) (by decide) (Nat.le_of_ble_eq_true rfl) (fun v5 Mc3 hq4 => ?_)
    exact R_ireturn hC dX12_send_41 rfl (ret_P ⟨by (rw [hq4.2.1]; exact (uM_h (by decide)).trans uM_same), .inr ⟨by (intro z; first | exact hb11 z.1 | omega), ⟨Fr.tt (Fr.uB Fr.rf (by decide)) (hq4.1.mo (by simp) (by simp)), by (rw [hq4.2.1]; exact uM_same.trans (congrArg (· + 1) (uM_h (by decide)))), fun j ne => by (rw [hq4.2.1]; exact (uM_k ne).trans (uM_h (by decide)))⟩, hq4.2.2⟩⟩)
  · skip
    replace hb11 := bP_nz hb11
    refine R_aload_0 hC dX12_send_14 ?_
    refine R_iconst hC dX12_send_15 ⟨by decide, by decide⟩ ?_
    refine R_iload_1 hC dX12_send_16 ?_
    refine R_iload_2 hC dX12_send_17 ?_
    refine R_callVq (as := [vI _, vI _, vI _]) hC dX12_send_18 mo_12_offerOf ml_12_117 (by decide) rfl rfl (c12_offerOf  hG1 hk2 (by omega) (by omega) (by omega) (by omega) (by omega) (by omega) hM) rfl rfl hRm (by decide) (by decide) (Nat.le_of_ble_eq_true rfl) ?_
    have e18_6 := (hM).off (x := x) (w := w) (by omega) (by omega) (by omega) (by omega)
    have bof := hM.off (show 0 ≤ x by omega) (show x < 5 by omega) (show 0 ≤ w by omega) (show w < 6 by omega)
    refine R_if_eq hC dX12_send_21 (tgt := 36) (by decide) (fun hb21 => ?_) (fun hb21 => ?_)
    · skip
      refine R_aload_0 hC dX12_send_36 ?_
      refine R_iconst hC dX12_send_37 ⟨by decide, by decide⟩ ?_
      refine R_callVp (as := [vI _]) hC dX12_send_38 mo_12_refuses ml_12_418 (by decide) rfl rfl (c12_refuses  hG1 (by omega) (by omega) (by (rw [show uM M 57 4 0 61 1 = M 61 1 from uM_h (by decide)]; exact hr0)) (by (rw [show uM M 57 4 0 61 1 = M 61 1 from uM_h (by decide)]; exact hr1))) rfl rfl hRm (by decide) (by decide) (Nat.le_of_ble_eq_true rfl) (fun v9 Mc7 hq8 => ?_)
      exact R_ireturn hC dX12_send_41 rfl (ret_P ⟨by (rw [hq8.2.1]; exact (uM_h (by decide)).trans uM_same), .inr ⟨by (intro z; first | exact hb11 z.1 | omega), ⟨Fr.tt (Fr.uB Fr.rf (by decide)) (hq8.1.mo (by simp) (by simp)), by (rw [hq8.2.1]; exact uM_same.trans (congrArg (· + 1) (uM_h (by decide)))), fun j ne => by (rw [hq8.2.1]; exact (uM_k ne).trans (uM_h (by decide)))⟩, hq8.2.2⟩⟩)
    · skip
      refine R_aload_0 hC dX12_send_24 ?_
      refine R_iconst hC dX12_send_25 ⟨by decide, by decide⟩ ?_
      refine R_callVq (as := [vI _]) hC dX12_send_26 mo_12_stored ml_12_366 (by decide) rfl rfl (c12_stored  hG1 hk2 (by omega) (by omega) hM) rfl rfl hRm (by decide) (by decide) (Nat.le_of_ble_eq_true rfl) ?_
      refine R_aload_0 hC dX12_send_29 ?_
      refine R_getIE hC dX12_send_30 fl_12_275 (by decide) rfl (by decide) (by decide) (fi := 14) rfl hk2.o ?_
      refine R_icmp_lt hC dX12_send_33 (tgt := 42) (by decide) (fun hb33 => ?_) (fun hb33 => ?_)
      · skip
        refine R_aload_0 hC dX12_send_42 ?_
        refine R_callVv (as := []) hC dX12_send_43 mo_12_keeps ml_12_412 (by decide) rfl rfl (c12_keeps  hG1 hk2 hR.u4) rfl rfl hRm (by decide) (by decide) (Nat.le_of_ble_eq_true rfl) (fun Mc10 hq11 => ?_)
        have hF9 : Fr [58] [(57, 4), (57, 7), (57, 8)] M Mc10 := Fr.tt (Fr.uB Fr.rf (by decide)) (hq11.1.mo (by simp) (by simp))
        have hI9 : HI M Mc10 := fun j e => (hq11.2.1 j e).trans (uM_h (by decide))
        have h49 : Mc10 57 4 = 0 := (hq11.1 57 4 (by decide) (by decide)).trans uM_same
        have hR9 : RNG Mc10 (kpN rn) (kpF rn rf) (kpS rn rs c) := hq11.2.2.2
        refine R_aload_0 hC dX12_send_46 ?_
        have hG12 : GR Mc10 := (GR.fr hG1 hq11.1 (by decide +kernel))
        refine R_getR hC dX12_send_47 fl_12_9 (by decide) rfl (by decide) (by decide) (fi := 0) rfl (r := 58) (gr_57_0 hG12) ?_
        refine R_bipush hC dX12_send_50 (by decide +kernel) ⟨by decide, by decide⟩ ?_
        refine R_iload_1 hC dX12_send_52 ?_
        refine R_iload_2 hC dX12_send_53 ?_
        refine R_callSq (as := [vI _, vI _]) hC dX12_send_54 mo_12_cell ml_12_87 (c12_cell  (by omega) (by omega) (by omega) (by omega)) rfl rfl hRm (by decide) (by decide) (Nat.le_of_ble_eq_true rfl) ?_
        refine R_iadd hC dX12_send_57 ⟨by omega, by omega⟩ ?_
        refine R_dup2 hC dX12_send_58 rfl rfl ?_
        have bkk := (hM.2.2.2.1 (x * 6 + w) (by omega) (by omega)).1
        have bks := (hM.2.2.1 w (by omega) (by omega)).2.2
        have hk13 : RW Mc10 0 c := (hq11.2.2.1)
        refine R_ialoadE hC dX12_send_59 (by decide) rfl (by omega) (by omega) (hk13.r4 (k := 28 + (x * 6 + w)) (by omega) (by omega) (by omega)) ?_
        refine R_iconst hC dX12_send_60 ⟨by decide, by decide⟩ ?_
        refine R_isub hC dX12_send_61 ⟨by omega, by omega⟩ ?_
        refine R_iastore hC dX12_send_62 (by decide) rfl (by omega) (by omega) ?_
        refine R_aload_0 hC dX12_send_63 ?_
        have hG14 : GR (uM Mc10 58 (10 + (6 * x + w)) (c (28 + (x * 6 + w)) - 1)) := (GR.uA hG12 (by decide +kernel) (.inl (by decide)))
        refine R_getR hC dX12_send_64 fl_12_9 (by decide) rfl (by decide) (by decide) (fi := 0) rfl (r := 58) (gr_57_0 hG14) ?_
        refine R_bipush hC dX12_send_67 (by decide +kernel) ⟨by decide, by decide⟩ ?_
        refine R_iload_2 hC dX12_send_69 ?_
        refine R_iadd hC dX12_send_70 ⟨by omega, by omega⟩ ?_
        refine R_dup2 hC dX12_send_71 rfl rfl ?_
        have hk15 : RW (uM Mc10 58 (10 + (6 * x + w)) (c (28 + (x * 6 + w)) - 1)) 0 (upd1 c (28 + (x * 6 + w)) (c (28 + (x * 6 + w)) - 1)) := (hk13.w4 (k := 28 + (x * 6 + w)) (by omega) (by omega) (by omega))
        refine R_ialoadE hC dX12_send_72 (by decide) rfl (by omega) (by omega) ((hk15.r3 (k := 22 + w) (by omega) (by omega) (by omega)).trans (upd1_o (by omega))) ?_
        refine R_iconst hC dX12_send_73 ⟨by decide, by decide⟩ ?_
        refine R_iadd hC dX12_send_74 ⟨by omega, by omega⟩ ?_
        refine R_iastore hC dX12_send_75 (by decide) rfl (by omega) (by omega) ?_
        refine R_aload_0 hC dX12_send_76 ?_
        have hG16 : GR (uM (uM Mc10 58 (10 + (6 * x + w)) (c (28 + (x * 6 + w)) - 1)) 58 (108 + w) (c (22 + w) + 1)) := (GR.uA hG14 (by decide +kernel) (.inl (by decide)))
        refine R_getR hC dX12_send_77 fl_12_9 (by decide) rfl (by decide) (by decide) (fi := 0) rfl (r := 58) (gr_57_0 hG16) ?_
        refine R_bipush hC dX12_send_80 (by decide +kernel) ⟨by decide, by decide⟩ ?_
        refine R_iload_2 hC dX12_send_82 ?_
        refine R_iadd hC dX12_send_83 ⟨by omega, by omega⟩ ?_
        have hk17 : RW (uM (uM Mc10 58 (10 + (6 * x + w)) (c (28 + (x * 6 + w)) - 1)) 58 (108 + w) (c (22 + w) + 1)) 0 (upd1 (upd1 c (28 + (x * 6 + w)) (c (28 + (x * 6 + w)) - 1)) (22 + w) (c (22 + w) + 1)) := (hk15.w3 (k := 22 + w) (by omega) (by omega) (by omega))
        refine R_ialoadE hC dX12_send_84 (by decide) rfl (by omega) (by omega) ((hk17.r3 (k := 22 + w) (by omega) (by omega) (by omega)).trans upd1_e) ?_
        exact R_ireturn hC dX12_send_85 rfl (ret_P ⟨(uM_h (by decide)).trans ((uM_h (by decide)).trans h49), .inl ⟨⟨hb11, by omega, by omega⟩, ⟨Fr.uA (Fr.uA hF9 (by decide)) (by decide), (hI9.u (by omega)).u (by omega), hk17, (hR9.u8 (by omega)).u8 (by omega)⟩, rfl⟩⟩)
      · skip
        refine R_aload_0 hC dX12_send_36 ?_
        refine R_iconst hC dX12_send_37 ⟨by decide, by decide⟩ ?_
        refine R_callVp (as := [vI _]) hC dX12_send_38 mo_12_refuses ml_12_418 (by decide) rfl rfl (c12_refuses  hG1 (by omega) (by omega) (by (rw [show uM M 57 4 0 61 1 = M 61 1 from uM_h (by decide)]; exact hr0)) (by (rw [show uM M 57 4 0 61 1 = M 61 1 from uM_h (by decide)]; exact hr1))) rfl rfl hRm (by decide) (by decide) (Nat.le_of_ble_eq_true rfl) (fun v20 Mc18 hq19 => ?_)
        exact R_ireturn hC dX12_send_41 rfl (ret_P ⟨by (rw [hq19.2.1]; exact (uM_h (by decide)).trans uM_same), .inr ⟨by (intro z; first | exact hb11 z.1 | omega), ⟨Fr.tt (Fr.uB Fr.rf (by decide)) (hq19.1.mo (by simp) (by simp)), by (rw [hq19.2.1]; exact uM_same.trans (congrArg (· + 1) (uM_h (by decide)))), fun j ne => by (rw [hq19.2.1]; exact (uM_k ne).trans (uM_h (by decide)))⟩, hq19.2.2⟩⟩)
theorem dX12_carry_0 : decode cX12_carry 0 = .ok (.aload_n 0, 1) := by decide +kernel
theorem dX12_carry_1 : decode cX12_carry 1 = .ok (.iconst 0, 1) := by decide +kernel
theorem dX12_carry_2 : decode cX12_carry 2 = .ok (.putfield 84, 3) := by decide +kernel
theorem dX12_carry_5 : decode cX12_carry 5 = .ok (.aload_n 0, 1) := by decide +kernel
theorem dX12_carry_6 : decode cX12_carry 6 = .ok (.iconst 0, 1) := by decide +kernel
theorem dX12_carry_7 : decode cX12_carry 7 = .ok (.invokevirtual 296, 3) := by decide +kernel
theorem dX12_carry_10 : decode cX12_carry 10 = .ok (.ifCond .ne 9, 3) := by decide +kernel
theorem dX12_carry_13 : decode cX12_carry 13 = .ok (.aload_n 0, 1) := by decide +kernel
theorem dX12_carry_14 : decode cX12_carry 14 = .ok (.iconst 1, 1) := by decide +kernel
theorem dX12_carry_15 : decode cX12_carry 15 = .ok (.invokevirtual 418, 3) := by decide +kernel
theorem dX12_carry_18 : decode cX12_carry 18 = .ok (.ireturn, 1) := by decide +kernel
theorem dX12_carry_19 : decode cX12_carry 19 = .ok (.aload_n 0, 1) := by decide +kernel
theorem dX12_carry_20 : decode cX12_carry 20 = .ok (.invokevirtual 412, 3) := by decide +kernel
theorem dX12_carry_23 : decode cX12_carry 23 = .ok (.aload_n 0, 1) := by decide +kernel
theorem dX12_carry_24 : decode cX12_carry 24 = .ok (.iconst 0, 1) := by decide +kernel
theorem dX12_carry_25 : decode cX12_carry 25 = .ok (.invokevirtual 427, 3) := by decide +kernel
theorem dX12_carry_28 : decode cX12_carry 28 = .ok (.ireturn, 1) := by decide +kernel
set_option maxHeartbeats 400000 in
theorem c12_carry {G : Gl} {l : Launch}  {M : Mem} {c : Int → Int} {rn rf : Int} {rs : Int → Int → Int} (hG : GR M) (hK : RW M 0 c) (hS : SP c) (hR : RNG M rn rf rs) (hr0 : 0 ≤ M 61 1) (hr1 : M 61 1 ≤ 1000000000) (hb9 : c 119 ≤ 89900) : Ct G LY 82 l 9 m12_carry [vR 57] M (RP (fun v M' => M' 57 4 = 0 ∧ ((planI (insOf c) ∧ (Fr [58, 63, 64, 65, 66, 67, 68, 69, 70, 71, 72] [(57, 4), (57, 7), (57, 8), (57, 22), (57, 23), (57, 30)] M M' ∧ HI M M' ∧ RW M' 0 (coR c) ∧ RNG M' (kpN rn) (kpF rn rf) (kpS rn rs c)) ∧ v = plC (insOf c)) ∨ (¬ planI (insOf c) ∧ (Fr [61, 63, 64, 65, 66] [(57, 4), (57, 22), (57, 23)] M M' ∧ M' 61 1 = M 61 1 + 1 ∧ ∀ j, j ≠ 1 → M' 61 j = M 61 j) ∧ v = -1)))) := by
  refine R_start (by decide +kernel) (Nat.le_of_ble_eq_true rfl) (fun C hC hRm hlau => ?_)
  show RZ G LY C (Zn G LY 82 C (RP (fun v M' => M' 57 4 = 0 ∧ ((planI (insOf c) ∧ (Fr [58, 63, 64, 65, 66, 67, 68, 69, 70, 71, 72] [(57, 4), (57, 7), (57, 8), (57, 22), (57, 23), (57, 30)] M M' ∧ HI M M' ∧ RW M' 0 (coR c) ∧ RNG M' (kpN rn) (kpF rn rf) (kpS rn rs c)) ∧ v = plC (insOf c)) ∨ (¬ planI (insOf c) ∧ (Fr [61, 63, 64, 65, 66] [(57, 4), (57, 22), (57, 23)] M M' ∧ M' 61 1 = M 61 1 + 1 ∧ ∀ j, j ≠ 1 → M' 61 j = M 61 j) ∧ v = -1))))) 0 0 82 0 [some (vR 57)] [] M
  have hM := hS.m
  have hI := hM.I
  have hL := hM.1.1
  have hW := hM.1.2
  refine R_aload_0 hC dX12_carry_0 ?_
  refine R_iconst hC dX12_carry_1 ⟨by decide, by decide⟩ ?_
  refine R_putI hC dX12_carry_2 fl_12_84 (by decide) rfl (by decide) (by decide) (fi := 4) rfl ?_
  refine R_aload_0 hC dX12_carry_5 ?_
  refine R_iconst hC dX12_carry_6 ⟨by decide, by decide⟩ ?_
  have hG1 : GR (uM M 57 4 0) := (GR.uF hG (by decide +kernel) (by decide))
  have hk2 : RW (uM M 57 4 0) 0 c := (RW.uf hK (by decide))
  refine R_callVp (as := [vI _]) hC dX12_carry_7 mo_12_isPlanOf ml_12_296 (by decide) rfl rfl (c12_isPlanOf  hG1 hk2 (by omega) (by omega) hM) rfl rfl hRm (by decide) (by decide) (Nat.le_of_ble_eq_true rfl) (fun v5 Mc3 hq4 => ?_)
  have h4p : Mc3 57 4 = 0 := (hq4.1 57 4 (by decide) (by simp)).trans uM_same
  have hFp : Fr [61, 63, 64, 65, 66] [(57, 4), (57, 22), (57, 23)] M Mc3 := Fr.tt (Fr.uB Fr.rf (by decide)) (hq4.1.mo (by simp) (by simp))
  have h61p : ∀ j, Mc3 61 j = M 61 j := fun j => (hq4.1 61 j (by decide) (by simp)).trans (uM_h (by decide))
  have h58p : ∀ j, Mc3 58 j = M 58 j := fun j => (hq4.1 58 j (by decide) (by simp)).trans (uM_h (by decide))
  have hRp : RNG Mc3 rn rf rs := hR.u4.of hq4.1 (fun j _ _ => hq4.1 58 j (by decide) (by simp)) (by decide)
  have hvp := hq4.2.2
  refine R_if_ne hC dX12_carry_10 (tgt := 19) (by decide) (fun hb10 => ?_) (fun hb10 => ?_)
  · skip
    have hpl := bP_nz (fun z => hb10 (hvp.trans z))
    refine R_aload_0 hC dX12_carry_19 ?_
    have hG6 : GR Mc3 := (GR.fr hG1 hq4.1 (by decide +kernel))
    have hk7 : RW Mc3 0 c := (RW.fr hk2 hq4.1 (by decide +kernel))
    refine R_callVv (as := []) hC dX12_carry_20 mo_12_keeps ml_12_412 (by decide) rfl rfl (c12_keeps  hG6 hk7 hRp) rfl rfl hRm (by decide) (by decide) (Nat.le_of_ble_eq_true rfl) (fun Mc8 hq9 => ?_)
    have hFk : Fr [58, 63, 64, 65, 66, 67, 68, 69, 70, 71, 72] [(57, 4), (57, 7), (57, 8), (57, 22), (57, 23), (57, 30)] M Mc8 := Fr.tt (Fr.tt (Fr.uB Fr.rf (by decide)) (hq4.1.mo (by simp) (by simp))) (hq9.1.mo (by simp) (by simp))
    have hIk : HI M Mc8 := fun j e => (hq9.2.1 j e).trans (h58p j)
    have h4k : Mc8 57 4 = 0 := (hq9.1 57 4 (by decide) (by decide)).trans h4p
    refine R_aload_0 hC dX12_carry_23 ?_
    refine R_iconst hC dX12_carry_24 ⟨by decide, by decide⟩ ?_
    have hG10 : GR Mc8 := (GR.fr hG6 hq9.1 (by decide +kernel))
    have hk11 : RW Mc8 0 c := (hq9.2.2.1)
    refine R_callVp (as := [vI _]) hC dX12_carry_25 mo_12_carries ml_12_427 (by decide) rfl rfl (c12_carries  hG10 hk11 (by omega) (by omega) hS (by omega)) rfl rfl hRm (by decide) (by decide) (Nat.le_of_ble_eq_true rfl) (fun v14 Mc12 hq13 => ?_)
    have hFc : Fr [58, 63, 64, 65, 66, 67, 68, 69, 70, 71, 72] [(57, 4), (57, 7), (57, 8), (57, 22), (57, 23), (57, 30)] M Mc12 := Fr.tt hFk (hq13.1.mo (by simp) (by simp))
    have hIc : HI M Mc12 := hIk.tr (fun j e => hq13.2.1 j (.inr (by omega)))
    have h4c : Mc12 57 4 = 0 := (hq13.1 57 4 (by decide) (by simp)).trans h4k
    have hRc : RNG Mc12 (kpN rn) (kpF rn rf) (kpS rn rs c) := hq9.2.2.2.of hq13.1 (fun j e _ => hq13.2.1 j (.inr (by omega))) (by decide)
    have hk15 : RW Mc12 0 (coR c) := (hq13.2.2.1)
    exact R_ireturn hC dX12_carry_28 rfl (ret_P ⟨h4c, .inl ⟨hpl, ⟨hFc, hIc, hk15, hRc⟩, hq13.2.2.2.trans (itc_t hpl)⟩⟩)
  · skip
    have hnp := bP_z (hvp.symm.trans hb10)
    refine R_aload_0 hC dX12_carry_13 ?_
    refine R_iconst hC dX12_carry_14 ⟨by decide, by decide⟩ ?_
    have hG16 : GR Mc3 := (GR.fr hG1 hq4.1 (by decide +kernel))
    refine R_callVp (as := [vI _]) hC dX12_carry_15 mo_12_refuses ml_12_418 (by decide) rfl rfl (c12_refuses  hG16 (by omega) (by omega) (by (rw [h61p]; exact hr0)) (by (rw [h61p]; exact hr1))) rfl rfl hRm (by decide) (by decide) (Nat.le_of_ble_eq_true rfl) (fun v19 Mc17 hq18 => ?_)
    exact R_ireturn hC dX12_carry_18 rfl (ret_P ⟨(hq18.1 57 4 (by decide) (by simp)).trans h4p, .inr ⟨hnp, ⟨Fr.tt hFp (hq18.1.mo (by simp) (by simp)), by (rw [hq18.2.1, uM_same, h61p]), fun j ne => by (rw [hq18.2.1, uM_k ne, h61p])⟩, hq18.2.2⟩⟩)
theorem dX12_undo_0 : decode cX12_undo 0 = .ok (.aload_n 0, 1) := by decide +kernel
theorem dX12_undo_1 : decode cX12_undo 1 = .ok (.iconst 0, 1) := by decide +kernel
theorem dX12_undo_2 : decode cX12_undo 2 = .ok (.putfield 84, 3) := by decide +kernel
theorem dX12_undo_5 : decode cX12_undo 5 = .ok (.aload_n 0, 1) := by decide +kernel
theorem dX12_undo_6 : decode cX12_undo 6 = .ok (.getfield 287, 3) := by decide +kernel
theorem dX12_undo_9 : decode cX12_undo 9 = .ok (.ifCond .ne 5, 3) := by decide +kernel
theorem dX12_undo_12 : decode cX12_undo 12 = .ok (.iconst (-1), 1) := by decide +kernel
theorem dX12_undo_13 : decode cX12_undo 13 = .ok (.ireturn, 1) := by decide +kernel
theorem dX12_undo_14 : decode cX12_undo 14 = .ok (.aload_n 0, 1) := by decide +kernel
theorem dX12_undo_15 : decode cX12_undo 15 = .ok (.dup, 1) := by decide +kernel
theorem dX12_undo_16 : decode cX12_undo 16 = .ok (.getfield 287, 3) := by decide +kernel
theorem dX12_undo_19 : decode cX12_undo 19 = .ok (.iconst 1, 1) := by decide +kernel
theorem dX12_undo_20 : decode cX12_undo 20 = .ok (.isub, 1) := by decide +kernel
theorem dX12_undo_21 : decode cX12_undo 21 = .ok (.putfield 287, 3) := by decide +kernel
theorem dX12_undo_24 : decode cX12_undo 24 = .ok (.aload_n 0, 1) := by decide +kernel
theorem dX12_undo_25 : decode cX12_undo 25 = .ok (.aload_n 0, 1) := by decide +kernel
theorem dX12_undo_26 : decode cX12_undo 26 = .ok (.getfield 284, 3) := by decide +kernel
theorem dX12_undo_29 : decode cX12_undo 29 = .ok (.aload_n 0, 1) := by decide +kernel
theorem dX12_undo_30 : decode cX12_undo 30 = .ok (.getfield 287, 3) := by decide +kernel
theorem dX12_undo_33 : decode cX12_undo 33 = .ok (.invokestatic 409, 3) := by decide +kernel
theorem dX12_undo_36 : decode cX12_undo 36 = .ok (.iconst 0, 1) := by decide +kernel
theorem dX12_undo_37 : decode cX12_undo 37 = .ok (.bipush 114, 2) := by decide +kernel
theorem dX12_undo_39 : decode cX12_undo 39 = .ok (.invokevirtual 290, 3) := by decide +kernel
theorem dX12_undo_42 : decode cX12_undo 42 = .ok (.aload_n 0, 1) := by decide +kernel
theorem dX12_undo_43 : decode cX12_undo 43 = .ok (.getfield 287, 3) := by decide +kernel
theorem dX12_undo_46 : decode cX12_undo 46 = .ok (.ireturn, 1) := by decide +kernel
set_option maxHeartbeats 400000 in
theorem c12_undo {G : Gl} {l : Launch}  {M : Mem} {c : Int → Int} {rn rf : Int} {rs : Int → Int → Int} (hG : GR M) (hK : RW M 0 c) (hS : SP c) (hR : RNG M rn rf rs) : Ct G LY 82 l 1 m12_undo [vR 57] M (RP (fun v M' => M' 57 4 = 0 ∧ ((rn = 0 ∧ (Fr [] [(57, 4)] M M') ∧ v = -1) ∨ (rn ≠ 0 ∧ (Fr [58] [(57, 4), (57, 7)] M M' ∧ HI M M' ∧ RW M' 0 (rs (rn - 1)) ∧ RNG M' (rn - 1) rf rs) ∧ v = rn - 1)))) := by
  refine R_start (by decide +kernel) (Nat.le_of_ble_eq_true rfl) (fun C hC hRm hlau => ?_)
  show RZ G LY C (Zn G LY 82 C (RP (fun v M' => M' 57 4 = 0 ∧ ((rn = 0 ∧ (Fr [] [(57, 4)] M M') ∧ v = -1) ∨ (rn ≠ 0 ∧ (Fr [58] [(57, 4), (57, 7)] M M' ∧ HI M M' ∧ RW M' 0 (rs (rn - 1)) ∧ RNG M' (rn - 1) rf rs) ∧ v = rn - 1))))) 0 0 82 0 [some (vR 57)] [] M
  have hM := hS.m
  have hI := hM.I
  have hL := hM.1.1
  have hW := hM.1.2
  have h7 := hR.2.1.1
  have h8 := hR.2.1.2
  have hb1 := hR.1
  have bsl := slq_b rf (rn - 1)
  refine R_aload_0 hC dX12_undo_0 ?_
  refine R_iconst hC dX12_undo_1 ⟨by decide, by decide⟩ ?_
  refine R_putI hC dX12_undo_2 fl_12_84 (by decide) rfl (by decide) (by decide) (fi := 4) rfl ?_
  refine R_aload_0 hC dX12_undo_5 ?_
  refine R_getIE hC dX12_undo_6 fl_12_287 (by decide) rfl (by decide) (by decide) (fi := 7) rfl ((uM_k (by decide)).trans h7) ?_
  refine R_if_ne hC dX12_undo_9 (tgt := 14) (by decide) (fun hb9 => ?_) (fun hb9 => ?_)
  · skip
    refine R_aload_0 hC dX12_undo_14 ?_
    refine R_dup hC dX12_undo_15 rfl ?_
    refine R_getIE hC dX12_undo_16 fl_12_287 (by decide) rfl (by decide) (by decide) (fi := 7) rfl ((uM_k (by decide)).trans h7) ?_
    refine R_iconst hC dX12_undo_19 ⟨by decide, by decide⟩ ?_
    refine R_isub hC dX12_undo_20 ⟨by omega, by omega⟩ ?_
    refine R_putI hC dX12_undo_21 fl_12_287 (by decide) rfl (by decide) (by decide) (fi := 7) rfl ?_
    refine R_aload_0 hC dX12_undo_24 ?_
    refine R_aload_0 hC dX12_undo_25 ?_
    refine R_getIE hC dX12_undo_26 fl_12_284 (by decide) rfl (by decide) (by decide) (fi := 8) rfl ((uM_k (by decide)).trans ((uM_k (by decide)).trans h8)) ?_
    refine R_aload_0 hC dX12_undo_29 ?_
    refine R_getIE hC dX12_undo_30 fl_12_287 (by decide) rfl (by decide) (by decide) (fi := 7) rfl uM_same ?_
    refine R_callSq (as := [vI _, vI _]) hC dX12_undo_33 mo_12_keptAt ml_12_409 (c12_keptAt  (by omega) (by omega) (by omega) (by omega)) rfl rfl hRm (by decide) (by decide) (Nat.le_of_ble_eq_true rfl) ?_
    refine R_iconst hC dX12_undo_36 ⟨by decide, by decide⟩ ?_
    refine R_bipush hC dX12_undo_37 (by decide +kernel) ⟨by decide, by decide⟩ ?_
    have hG1 : GR (uM (uM M 57 4 0) 57 7 (rn - 1)) := (GR.uF (GR.uF hG (by decide +kernel) (by decide)) (by decide +kernel) (by decide))
    refine R_callVv (as := [vI _, vI _, vI _]) hC dX12_undo_39 mo_12_copies ml_12_290 (by decide) rfl rfl (c12_copies  hG1 (by omega) (by omega) (by omega) (by omega) (by omega) (by omega)) rfl rfl hRm (by decide) (by decide) (Nat.le_of_ble_eq_true rfl) (fun Mc2 hq3 => ?_)
    have hu := un_ok (v := 0) hR hb9
    rw [← hq3] at hu
    have e7 : Mc2 57 7 = rn - 1 := hu.2.2.1.1
    refine R_aload_0 hC dX12_undo_42 ?_
    refine R_getIE hC dX12_undo_43 fl_12_287 (by decide) rfl (by decide) (by decide) (fi := 7) rfl e7 ?_
    exact R_ireturn hC dX12_undo_46 rfl (ret_P (by
        refine ⟨?_, .inr ⟨hb9, ⟨fun a j p q => ?_, fun j e => ?_, hu⟩, rfl⟩⟩
        · rw [hq3]; exact (if_neg (fun q => by cases q.1)).trans ((uM_k (by decide)).trans uM_same)
        · rw [hq3]
          refine (if_neg (fun z => p (by rw [z.1]; simp))).trans ?_
          exact (if_neg (fun z => q (by rw [z.1, z.2]; simp))).trans (if_neg (fun z => q (by rw [z.1, z.2]; simp)))
        · rw [hq3]
          exact (if_neg (fun z => by omega)).trans ((uM_h (by decide)).trans (uM_h (by decide)))))
  · skip
    refine R_iconst hC dX12_undo_12 ⟨by decide, by decide⟩ ?_
    exact R_ireturn hC dX12_undo_13 rfl (ret_P ⟨uM_same, .inl ⟨hb9, Fr.uB Fr.rf (by decide), rfl⟩⟩)
