theorem dX10_lineUp_0 : decode cX10_lineUp 0 = .ok (.iload_n 1, 1) := by decide +kernel
theorem dX10_lineUp_1 : decode cX10_lineUp 1 = .ok (.aload_n 0, 1) := by decide +kernel
theorem dX10_lineUp_2 : decode cX10_lineUp 2 = .ok (.getfield 9, 3) := by decide +kernel
theorem dX10_lineUp_5 : decode cX10_lineUp 5 = .ok (.getfield 45, 3) := by decide +kernel
theorem dX10_lineUp_8 : decode cX10_lineUp 8 = .ok (.if_icmp .ge 8, 3) := by decide +kernel
theorem dX10_lineUp_16 : decode cX10_lineUp 16 = .ok (.aload_n 0, 1) := by decide +kernel
theorem dX10_lineUp_17 : decode cX10_lineUp 17 = .ok (.dup, 1) := by decide +kernel
theorem dX10_lineUp_18 : decode cX10_lineUp 18 = .ok (.getfield 58, 3) := by decide +kernel
theorem dX10_lineUp_21 : decode cX10_lineUp 21 = .ok (.iconst 1, 1) := by decide +kernel
theorem dX10_lineUp_22 : decode cX10_lineUp 22 = .ok (.iadd, 1) := by decide +kernel
theorem dX10_lineUp_23 : decode cX10_lineUp 23 = .ok (.putfield 58, 3) := by decide +kernel
theorem dX10_lineUp_26 : decode cX10_lineUp 26 = .ok (.iload_n 3, 1) := by decide +kernel
theorem dX10_lineUp_27 : decode cX10_lineUp 27 = .ok (.aload_n 0, 1) := by decide +kernel
theorem dX10_lineUp_28 : decode cX10_lineUp 28 = .ok (.getfield 61, 3) := by decide +kernel
theorem dX10_lineUp_31 : decode cX10_lineUp 31 = .ok (.if_icmp .le 22, 3) := by decide +kernel
theorem dX10_lineUp_34 : decode cX10_lineUp 34 = .ok (.aload_n 0, 1) := by decide +kernel
theorem dX10_lineUp_35 : decode cX10_lineUp 35 = .ok (.iload_n 3, 1) := by decide +kernel
theorem dX10_lineUp_36 : decode cX10_lineUp 36 = .ok (.putfield 61, 3) := by decide +kernel
theorem dX10_lineUp_39 : decode cX10_lineUp 39 = .ok (.aload_n 0, 1) := by decide +kernel
theorem dX10_lineUp_40 : decode cX10_lineUp 40 = .ok (.getfield 19, 3) := by decide +kernel
theorem dX10_lineUp_43 : decode cX10_lineUp 43 = .ok (.iconst 0, 1) := by decide +kernel
theorem dX10_lineUp_44 : decode cX10_lineUp 44 = .ok (.aload_n 0, 1) := by decide +kernel
theorem dX10_lineUp_45 : decode cX10_lineUp 45 = .ok (.getfield 22, 3) := by decide +kernel
theorem dX10_lineUp_48 : decode cX10_lineUp 48 = .ok (.iconst 0, 1) := by decide +kernel
theorem dX10_lineUp_49 : decode cX10_lineUp 49 = .ok (.iconst 5, 1) := by decide +kernel
theorem dX10_lineUp_50 : decode cX10_lineUp 50 = .ok (.invokestatic 68, 3) := by decide +kernel
theorem dX10_lineUp_53 : decode cX10_lineUp 53 = .ok (.return_, 1) := by decide +kernel
set_option maxHeartbeats 400000 in
theorem c10_lineUp_0 {G : Gl} {l : Launch}  {M : Mem} {I : Ins} {t dn sp : Int} {s b ord : Int → Int} {a : AC} (hG : GR M) (h30 : M 30 = b) (hI : SC M I) (hIb : IB I) (ht0 : 0 ≤ t) (htn : t + ((0 : Nat) : Int) = iL I) (hd0 : 0 ≤ dn) (hd1 : dn < 32) (hs0 : 0 ≤ sp) (hs1 : sp ≤ t * 162) (hs : ∀ w, 0 ≤ w → w < iW I → M 42 (t * 6 + w) = s w) (hsb : ∀ w, 0 ≤ w → w < iW I → 0 ≤ s w ∧ s w ≤ 1000) (ho : ∀ j, 0 ≤ j → j < t → M 43 j = ord j) (h7 : M 41 7 = a.1) (h8 : M 41 8 = a.2.1) (h4 : ∀ j, 0 ≤ j → j < iL I → M 44 j = a.2.2 j) (ha0 : 0 ≤ a.1) (ha1 : a.1 + 5 ^ (0) ≤ 4000) : Ct G LY 57 l (2 + 0) m10_lineUp [vR 41, vI t, vI dn, vI sp] M (RV (fun M' => Fr [42, 43, 44] [(41, 3), (41, 7), (41, 8)] M M' ∧ (∀ k, k < t * 6 + 6 → M' 42 k = M 42 k) ∧ (∀ j, 0 ≤ j → j < t → M' 43 j = M 43 j) ∧ M' 41 7 = (luF I b 0 t dn sp s ord a).1 ∧ M' 41 8 = (luF I b 0 t dn sp s ord a).2.1 ∧ ∀ j, 0 ≤ j → j < iL I → M' 44 j = (luF I b 0 t dn sp s ord a).2.2 j)) := by
  refine R_start (by decide +kernel) (Nat.le_of_ble_eq_true rfl) (fun C hC hRm hlau => ?_)
  show RZ G LY C (Zn G LY 57 C (RV (fun M' => Fr [42, 43, 44] [(41, 3), (41, 7), (41, 8)] M M' ∧ (∀ k, k < t * 6 + 6 → M' 42 k = M 42 k) ∧ (∀ j, 0 ≤ j → j < t → M' 43 j = M 43 j) ∧ M' 41 7 = (luF I b 0 t dn sp s ord a).1 ∧ M' 41 8 = (luF I b 0 t dn sp s ord a).2.1 ∧ ∀ j, 0 ≤ j → j < iL I → M' 44 j = (luF I b 0 t dn sp s ord a).2.2 j))) 0 0 57 0 [some (vR 41), some (vI t), some (vI dn), some (vI sp), none, none] [] M
  have hLb := hIb.1
  have h11 := hI.1.1
  refine R_iload_1 hC dX10_lineUp_0 ?_
  refine R_aload_0 hC dX10_lineUp_1 ?_
  refine R_getR hC dX10_lineUp_2 fl_10_9 (by decide) rfl (by decide) (by decide) (fi := 0) rfl (r := 24) (gr_41_0 hG) ?_
  refine R_getI hC dX10_lineUp_5 fl_10_45 (by decide) rfl (by decide) (by decide) (fi := 11) rfl ?_
  refine R_icmp_ge hC dX10_lineUp_8 (tgt := 16) (by decide) (fun hb8 => ?_) (fun hb8 => ?_)
  · skip
    refine R_aload_0 hC dX10_lineUp_16 ?_
    refine R_dup hC dX10_lineUp_17 rfl ?_
    refine R_getI hC dX10_lineUp_18 fl_10_58 (by decide) rfl (by decide) (by decide) (fi := 7) rfl ?_
    have q7 : M 41 7 = a.1 := h7
    refine R_iconst hC dX10_lineUp_21 ⟨by decide, by decide⟩ ?_
    refine R_iadd hC dX10_lineUp_22 ⟨by omega, by omega⟩ ?_
    refine R_putI hC dX10_lineUp_23 fl_10_58 (by decide) rfl (by decide) (by decide) (fi := 7) rfl ?_
    refine R_iload_3 hC dX10_lineUp_26 ?_
    refine R_aload_0 hC dX10_lineUp_27 ?_
    refine R_getIE hC dX10_lineUp_28 fl_10_61 (by decide) rfl (by decide) (by decide) (fi := 8) rfl (uM_k (by decide)) ?_
    refine R_icmp_le hC dX10_lineUp_31 (tgt := 53) (by decide) (fun hb31 => ?_) (fun hb31 => ?_)
    · skip
      exact R_return hC dX10_lineUp_53 rfl (ret_V ⟨by first | exact Fr.uB Fr.rf (by decide) | exact (Fr.uB (Fr.uB Fr.rf (by decide)) (by decide)).tt (cpM_fr (by decide)), fun k _ => by first | exact uM_h (by decide) | exact (cpM_h (by decide)).trans ((uM_h (by decide)).trans (uM_h (by decide))), fun j _ _ => by first | exact uM_h (by decide) | exact (cpM_h (by decide)).trans ((uM_h (by decide)).trans (uM_h (by decide))), by first | exact uM_same.trans (by rw [h7]; rfl) | exact (cpM_h (by decide)).trans ((uM_k (by decide)).trans (uM_same.trans (by rw [h7]; rfl))), by
            show _ = if a.2.1 < sp then sp else a.2.1
            first
              | (rw [if_neg (by omega)]; exact (uM_k (by decide)).trans h8)
              | (rw [if_pos (by omega)]; exact (cpM_h (by decide)).trans uM_same), fun j j0 j1 => by
            show _ = (if a.2.1 < sp then ord else a.2.2) j
            first
              | (rw [if_neg (by omega)]; exact (uM_h (by decide)).trans (h4 j j0 j1))
              | (rw [if_pos (by omega)]; unfold cpM; rw [if_pos ⟨rfl, j0, by omega⟩, show 0 + (j - 0) = j by omega, uM_h (by decide), uM_h (by decide)]; exact ho j j0 (by omega))⟩)
    · skip
      refine R_aload_0 hC dX10_lineUp_34 ?_
      refine R_iload_3 hC dX10_lineUp_35 ?_
      refine R_putI hC dX10_lineUp_36 fl_10_61 (by decide) rfl (by decide) (by decide) (fi := 8) rfl ?_
      refine R_aload_0 hC dX10_lineUp_39 ?_
      have hG1 : GR (uM (uM M 41 7 ((M 41 7) + 1)) 41 8 sp) := (GR.uF (GR.uF hG (by decide +kernel) (by decide)) (by decide +kernel) (by decide))
      refine R_getR hC dX10_lineUp_40 fl_10_19 (by decide) rfl (by decide) (by decide) (fi := 2) rfl (r := 43) (gr_41_2 hG1) ?_
      refine R_iconst hC dX10_lineUp_43 ⟨by decide, by decide⟩ ?_
      refine R_aload_0 hC dX10_lineUp_44 ?_
      refine R_getR hC dX10_lineUp_45 fl_10_22 (by decide) rfl (by decide) (by decide) (fi := 4) rfl (r := 44) (gr_41_4 hG1) ?_
      refine R_iconst hC dX10_lineUp_48 ⟨by decide, by decide⟩ ?_
      refine R_iconst hC dX10_lineUp_49 ⟨by decide, by decide⟩ ?_
      refine R_copyI hC dX10_lineUp_50 jl_10_68 (by decide) rfl (by decide) rfl (by omega) (by omega) (by omega) (by omega) (by omega) hRm (by omega) (Nat.le_of_ble_eq_true rfl) ?_
      exact R_return hC dX10_lineUp_53 rfl (ret_V ⟨by first | exact Fr.uB Fr.rf (by decide) | exact (Fr.uB (Fr.uB Fr.rf (by decide)) (by decide)).tt (cpM_fr (by decide)), fun k _ => by first | exact uM_h (by decide) | exact (cpM_h (by decide)).trans ((uM_h (by decide)).trans (uM_h (by decide))), fun j _ _ => by first | exact uM_h (by decide) | exact (cpM_h (by decide)).trans ((uM_h (by decide)).trans (uM_h (by decide))), by first | exact uM_same.trans (by rw [h7]; rfl) | exact (cpM_h (by decide)).trans ((uM_k (by decide)).trans (uM_same.trans (by rw [h7]; rfl))), by
            show _ = if a.2.1 < sp then sp else a.2.1
            first
              | (rw [if_neg (by omega)]; exact (uM_k (by decide)).trans h8)
              | (rw [if_pos (by omega)]; exact (cpM_h (by decide)).trans uM_same), fun j j0 j1 => by
            show _ = (if a.2.1 < sp then ord else a.2.2) j
            first
              | (rw [if_neg (by omega)]; exact (uM_h (by decide)).trans (h4 j j0 j1))
              | (rw [if_pos (by omega)]; unfold cpM; rw [if_pos ⟨rfl, j0, by omega⟩, show 0 + (j - 0) = j by omega, uM_h (by decide), uM_h (by decide)]; exact ho j j0 (by omega))⟩)
  · skip
    omega
theorem dX10_lineUp_11 : decode cX10_lineUp 11 = .ok (.iload_n 1, 1) := by decide +kernel
theorem dX10_lineUp_12 : decode cX10_lineUp 12 = .ok (.iconst 5, 1) := by decide +kernel
theorem dX10_lineUp_13 : decode cX10_lineUp 13 = .ok (.if_icmp .lt 41, 3) := by decide +kernel
theorem dX10_lineUp_54 : decode cX10_lineUp 54 = .ok (.iconst 0, 1) := by decide +kernel
theorem dX10_lineUp_55 : decode cX10_lineUp 55 = .ok (.istore 4, 2) := by decide +kernel
theorem dX10_lineUp_57 : decode cX10_lineUp 57 = .ok (.iload 4, 2) := by decide +kernel
theorem dX10_lineUp_59 : decode cX10_lineUp 59 = .ok (.aload_n 0, 1) := by decide +kernel
theorem dX10_lineUp_60 : decode cX10_lineUp 60 = .ok (.getfield 9, 3) := by decide +kernel
theorem dX10_lineUp_63 : decode cX10_lineUp 63 = .ok (.getfield 45, 3) := by decide +kernel
theorem dX10_lineUp_66 : decode cX10_lineUp 66 = .ok (.if_icmp .ge 69, 3) := by decide +kernel
theorem dX10_lineUp_69 : decode cX10_lineUp 69 = .ok (.iload_n 2, 1) := by decide +kernel
theorem dX10_lineUp_70 : decode cX10_lineUp 70 = .ok (.iload 4, 2) := by decide +kernel
theorem dX10_lineUp_72 : decode cX10_lineUp 72 = .ok (.ishr, 1) := by decide +kernel
theorem dX10_lineUp_73 : decode cX10_lineUp 73 = .ok (.iconst 1, 1) := by decide +kernel
theorem dX10_lineUp_74 : decode cX10_lineUp 74 = .ok (.iand, 1) := by decide +kernel
theorem dX10_lineUp_75 : decode cX10_lineUp 75 = .ok (.ifCond .ne 54, 3) := by decide +kernel
theorem dX10_lineUp_78 : decode cX10_lineUp 78 = .ok (.aload_n 0, 1) := by decide +kernel
theorem dX10_lineUp_79 : decode cX10_lineUp 79 = .ok (.iload 4, 2) := by decide +kernel
theorem dX10_lineUp_81 : decode cX10_lineUp 81 = .ok (.iload_n 1, 1) := by decide +kernel
theorem dX10_lineUp_82 : decode cX10_lineUp 82 = .ok (.invokevirtual 48, 3) := by decide +kernel
theorem dX10_lineUp_85 : decode cX10_lineUp 85 = .ok (.istore 5, 2) := by decide +kernel
theorem dX10_lineUp_87 : decode cX10_lineUp 87 = .ok (.aload_n 0, 1) := by decide +kernel
theorem dX10_lineUp_88 : decode cX10_lineUp 88 = .ok (.getfield 52, 3) := by decide +kernel
theorem dX10_lineUp_91 : decode cX10_lineUp 91 = .ok (.aload_n 0, 1) := by decide +kernel
theorem dX10_lineUp_92 : decode cX10_lineUp 92 = .ok (.getfield 9, 3) := by decide +kernel
theorem dX10_lineUp_95 : decode cX10_lineUp 95 = .ok (.getfield 55, 3) := by decide +kernel
theorem dX10_lineUp_98 : decode cX10_lineUp 98 = .ok (.iload 4, 2) := by decide +kernel
theorem dX10_lineUp_100 : decode cX10_lineUp 100 = .ok (.iaload, 1) := by decide +kernel
theorem dX10_lineUp_101 : decode cX10_lineUp 101 = .ok (.if_icmp .lt 28, 3) := by decide +kernel
theorem dX10_lineUp_104 : decode cX10_lineUp 104 = .ok (.aload_n 0, 1) := by decide +kernel
theorem dX10_lineUp_105 : decode cX10_lineUp 105 = .ok (.getfield 19, 3) := by decide +kernel
theorem dX10_lineUp_108 : decode cX10_lineUp 108 = .ok (.iload_n 1, 1) := by decide +kernel
theorem dX10_lineUp_109 : decode cX10_lineUp 109 = .ok (.iload 4, 2) := by decide +kernel
theorem dX10_lineUp_111 : decode cX10_lineUp 111 = .ok (.iastore, 1) := by decide +kernel
theorem dX10_lineUp_112 : decode cX10_lineUp 112 = .ok (.aload_n 0, 1) := by decide +kernel
theorem dX10_lineUp_113 : decode cX10_lineUp 113 = .ok (.iload_n 1, 1) := by decide +kernel
theorem dX10_lineUp_114 : decode cX10_lineUp 114 = .ok (.iconst 1, 1) := by decide +kernel
theorem dX10_lineUp_115 : decode cX10_lineUp 115 = .ok (.iadd, 1) := by decide +kernel
theorem dX10_lineUp_116 : decode cX10_lineUp 116 = .ok (.iload_n 2, 1) := by decide +kernel
theorem dX10_lineUp_117 : decode cX10_lineUp 117 = .ok (.iconst 1, 1) := by decide +kernel
theorem dX10_lineUp_118 : decode cX10_lineUp 118 = .ok (.iload 4, 2) := by decide +kernel
theorem dX10_lineUp_120 : decode cX10_lineUp 120 = .ok (.ishl, 1) := by decide +kernel
theorem dX10_lineUp_121 : decode cX10_lineUp 121 = .ok (.ior, 1) := by decide +kernel
theorem dX10_lineUp_122 : decode cX10_lineUp 122 = .ok (.iload_n 3, 1) := by decide +kernel
theorem dX10_lineUp_123 : decode cX10_lineUp 123 = .ok (.iload 5, 2) := by decide +kernel
theorem dX10_lineUp_125 : decode cX10_lineUp 125 = .ok (.iadd, 1) := by decide +kernel
theorem dX10_lineUp_126 : decode cX10_lineUp 126 = .ok (.invokevirtual 64, 3) := by decide +kernel
theorem dX10_lineUp_129 : decode cX10_lineUp 129 = .ok (.iinc 4 1, 3) := by decide +kernel
theorem dX10_lineUp_132 : decode cX10_lineUp 132 = .ok (.goto (-75), 3) := by decide +kernel
theorem dX10_lineUp_135 : decode cX10_lineUp 135 = .ok (.return_, 1) := by decide +kernel
set_option maxHeartbeats 2000000 in
theorem c10_lineUp_s {G : Gl} {l : Launch} {n : Nat} (ihn : ∀ {l : Launch} {M : Mem} {I : Ins} {t dn sp : Int} {s b ord : Int → Int} {a : AC} (hG : GR M) (h30 : M 30 = b) (hI : SC M I) (hIb : IB I) (ht0 : 0 ≤ t) (htn : t + ((n : Nat) : Int) = iL I) (hd0 : 0 ≤ dn) (hd1 : dn < 32) (hs0 : 0 ≤ sp) (hs1 : sp ≤ t * 162) (hs : ∀ w, 0 ≤ w → w < iW I → M 42 (t * 6 + w) = s w) (hsb : ∀ w, 0 ≤ w → w < iW I → 0 ≤ s w ∧ s w ≤ 1000) (ho : ∀ j, 0 ≤ j → j < t → M 43 j = ord j) (h7 : M 41 7 = a.1) (h8 : M 41 8 = a.2.1) (h4 : ∀ j, 0 ≤ j → j < iL I → M 44 j = a.2.2 j) (ha0 : 0 ≤ a.1) (ha1 : a.1 + 5 ^ (n) ≤ 4000), Ct G LY 57 l (2 + n) m10_lineUp [vR 41, vI t, vI dn, vI sp] M (RV (fun M' => Fr [42, 43, 44] [(41, 3), (41, 7), (41, 8)] M M' ∧ (∀ k, k < t * 6 + 6 → M' 42 k = M 42 k) ∧ (∀ j, 0 ≤ j → j < t → M' 43 j = M 43 j) ∧ M' 41 7 = (luF I b n t dn sp s ord a).1 ∧ M' 41 8 = (luF I b n t dn sp s ord a).2.1 ∧ ∀ j, 0 ≤ j → j < iL I → M' 44 j = (luF I b n t dn sp s ord a).2.2 j))) {M : Mem} {I : Ins} {t dn sp : Int} {s b ord : Int → Int} {a : AC} (hG : GR M) (h30 : M 30 = b) (hI : SC M I) (hIb : IB I) (ht0 : 0 ≤ t) (htn : t + (((n + 1) : Nat) : Int) = iL I) (hd0 : 0 ≤ dn) (hd1 : dn < 32) (hs0 : 0 ≤ sp) (hs1 : sp ≤ t * 162) (hs : ∀ w, 0 ≤ w → w < iW I → M 42 (t * 6 + w) = s w) (hsb : ∀ w, 0 ≤ w → w < iW I → 0 ≤ s w ∧ s w ≤ 1000) (ho : ∀ j, 0 ≤ j → j < t → M 43 j = ord j) (h7 : M 41 7 = a.1) (h8 : M 41 8 = a.2.1) (h4 : ∀ j, 0 ≤ j → j < iL I → M 44 j = a.2.2 j) (ha0 : 0 ≤ a.1) (ha1 : a.1 + 5 ^ ((n + 1)) ≤ 4000) : Ct G LY 57 l (2 + (n + 1)) m10_lineUp [vR 41, vI t, vI dn, vI sp] M (RV (fun M' => Fr [42, 43, 44] [(41, 3), (41, 7), (41, 8)] M M' ∧ (∀ k, k < t * 6 + 6 → M' 42 k = M 42 k) ∧ (∀ j, 0 ≤ j → j < t → M' 43 j = M 43 j) ∧ M' 41 7 = (luF I b (n + 1) t dn sp s ord a).1 ∧ M' 41 8 = (luF I b (n + 1) t dn sp s ord a).2.1 ∧ ∀ j, 0 ≤ j → j < iL I → M' 44 j = (luF I b (n + 1) t dn sp s ord a).2.2 j)) := by
  refine R_start (by decide +kernel) (Nat.le_of_ble_eq_true rfl) (fun C hC hRm hlau => ?_)
  show RZ G LY C (Zn G LY 57 C (RV (fun M' => Fr [42, 43, 44] [(41, 3), (41, 7), (41, 8)] M M' ∧ (∀ k, k < t * 6 + 6 → M' 42 k = M 42 k) ∧ (∀ j, 0 ≤ j → j < t → M' 43 j = M 43 j) ∧ M' 41 7 = (luF I b (n + 1) t dn sp s ord a).1 ∧ M' 41 8 = (luF I b (n + 1) t dn sp s ord a).2.1 ∧ ∀ j, 0 ≤ j → j < iL I → M' 44 j = (luF I b (n + 1) t dn sp s ord a).2.2 j))) 0 0 57 0 [some (vR 41), some (vI t), some (vI dn), some (vI sp), none, none] [] M
  have hLb := hIb.1
  have h11 := hI.1.1
  have hWb := hIb.2.1
  have hb : RK (iW I) (iZ I) b := h30 ▸ hI.2.2.2.2.2.2
  have hp5 : (0 : Int) < 5 ^ n := Int.pow_pos (by decide)
  rw [Int.pow_succ] at ha1
  refine R_iload_1 hC dX10_lineUp_0 ?_
  refine R_aload_0 hC dX10_lineUp_1 ?_
  refine R_getR hC dX10_lineUp_2 fl_10_9 (by decide) rfl (by decide) (by decide) (fi := 0) rfl (r := 24) (gr_41_0 hG) ?_
  refine R_getI hC dX10_lineUp_5 fl_10_45 (by decide) rfl (by decide) (by decide) (fi := 11) rfl ?_
  refine R_icmp_ge hC dX10_lineUp_8 (tgt := 16) (by decide) (fun hb8 => ?_) (fun hb8 => ?_)
  · skip
    omega
  · skip
    refine R_iload_1 hC dX10_lineUp_11 ?_
    refine R_iconst hC dX10_lineUp_12 ⟨by decide, by decide⟩ ?_
    refine R_icmp_lt hC dX10_lineUp_13 (tgt := 54) (by decide) (fun hb13 => ?_) (fun hb13 => ?_)
    · skip
      refine R_iconst hC dX10_lineUp_54 ⟨by decide, by decide⟩ ?_
      refine R_istore_4 hC dX10_lineUp_55 rfl ?_
      have L57 : ∀ (mq : Nat) (x : Int) (c : AC) (M1 : Mem), (0 ≤ x) → (x ≤ iL I) → (GR M1) → (M1 30 = b) → (SC M1 I) → (Fr [42, 43, 44] [(41, 3), (41, 7), (41, 8)] M M1) → (∀ k, k < t * 6 + 6 → M1 42 k = M 42 k) → (∀ j, 0 ≤ j → j < t → M1 43 j = M 43 j) → (fl (fun x a => if dn / 2 ^ x.toNat % 2 = 0 ∧ iN I x ≤ wdw I b x s then luF I b n (t + 1) (dn + 2 ^ x.toNat) (sp + wnn I b x s) (sN I b x s) (up ord t x) a else a) x.toNat a = c) → (M1 41 7 = c.1) → (M1 41 8 = c.2.1) → (∀ j, 0 ≤ j → j < iL I → M1 44 j = c.2.2 j) → (0 ≤ c.1) → (c.1 ≤ a.1 + x * 5 ^ n) → (iL I - x).toNat < mq → RZ G LY C (Zn G LY 57 C (RV (fun M' => Fr [42, 43, 44] [(41, 3), (41, 7), (41, 8)] M M' ∧ (∀ k, k < t * 6 + 6 → M' 42 k = M 42 k) ∧ (∀ j, 0 ≤ j → j < t → M' 43 j = M 43 j) ∧ M' 41 7 = (luF I b (n + 1) t dn sp s ord a).1 ∧ M' 41 8 = (luF I b (n + 1) t dn sp s ord a).2.1 ∧ ∀ j, 0 ≤ j → j < iL I → M' 44 j = (luF I b (n + 1) t dn sp s ord a).2.2 j))) 0 0 57 57 [some (vR 41), some (vI t), some (vI dn), some (vI sp), some (vI x), none] [] M1 := by
        intro mq
        induction mq with
        | zero =>
          intro x c M1 hx0 hx1 hg h30b hSJ hF hr42 hr43 hc hc7 hc8 hc4 hc0 hc1 hm
          exact absurd hm (Nat.not_lt_zero _)
        | succ mq ih57 =>
          intro x c M1 hx0 hx1 hg h30b hSJ hF hr42 hr43 hc hc7 hc8 hc4 hc0 hc1 hm57
          have q11 : M1 24 11 = iL I := hSJ.1.1
          refine R_iload_4 hC dX10_lineUp_57 ?_
          refine R_aload_0 hC dX10_lineUp_59 ?_
          refine R_getR hC dX10_lineUp_60 fl_10_9 (by decide) rfl (by decide) (by decide) (fi := 0) rfl (r := 24) (gr_41_0 hg) ?_
          refine R_getI hC dX10_lineUp_63 fl_10_45 (by decide) rfl (by decide) (by decide) (fi := 11) rfl ?_
          refine R_icmp_ge hC dX10_lineUp_66 (tgt := 135) (by decide) (fun hb66 => ?_) (fun hb66 => ?_)
          · skip
            exact R_return hC dX10_lineUp_135 rfl (ret_V ⟨hF, hr42, hr43, by (rw [hc7, ← hc, show x = iL I by omega]; rfl), by (rw [hc8, ← hc, show x = iL I by omega]; rfl), fun j j0 j1 => by (rw [hc4 j j0 j1, ← hc, show x = iL I by omega]; rfl)⟩)
          · skip
            refine R_iload_2 hC dX10_lineUp_69 ?_
            refine R_iload_4 hC dX10_lineUp_70 ?_
            refine R_ishr hC dX10_lineUp_72 (by omega) (by omega) ?_
            refine R_iconst hC dX10_lineUp_73 ⟨by decide, by decide⟩ ?_
            refine R_iandm hC dX10_lineUp_74 (m := 1) (by decide) (by decide) ?_
            refine R_if_ne hC dX10_lineUp_75 (tgt := 129) (by decide) (fun hb75 => ?_) (fun hb75 => ?_)
            · skip
              refine R_iinc_4 hC dX10_lineUp_129 rfl ⟨by omega, by omega⟩ ?_
              refine R_goto hC dX10_lineUp_132 (tgt := 57) (by decide) ?_
              obtain ⟨cN, hNc, hN7, hN8, hN4, hN0, hN1, hNF, hN42, hN43⟩ : ∃ cN : AC, fl (fun x a => if dn / 2 ^ x.toNat % 2 = 0 ∧ iN I x ≤ wdw I b x s then luF I b n (t + 1) (dn + 2 ^ x.toNat) (sp + wnn I b x s) (sN I b x s) (up ord t x) a else a) (x + 1).toNat a = cN ∧ M1 41 7 = cN.1 ∧ M1 41 8 = cN.2.1 ∧ (∀ j, 0 ≤ j → j < iL I → M1 44 j = cN.2.2 j) ∧ 0 ≤ cN.1 ∧ cN.1 ≤ a.1 + (x + 1) * 5 ^ n ∧ Fr [42, 43, 44] [(41, 3), (41, 7), (41, 8)] M M1 ∧ (∀ k, k < t * 6 + 6 → M1 42 k = M 42 k) ∧ ∀ j, 0 ≤ j → j < t → M1 43 j = M 43 j := by
                have e5 : (x + 1) * 5 ^ n = x * 5 ^ n + 5 ^ n := by rw [Int.add_mul, Int.one_mul]
                first
                  | exact ⟨c, by rw [fl_s hx0 rfl, hc]; exact if_neg (fun q => hb75 (by have := q.1; omega)), hc7, hc8, hc4, hc0, by omega, hF, hr42, hr43⟩
                  | exact ⟨c, by rw [fl_s hx0 rfl, hc]; exact if_neg (fun q => absurd q.2 (Int.not_le.mpr hb101)), ({qb}.1 41 7 (by decide) (by decide)).trans hc7, ({qb}.1 41 8 (by decide) (by decide)).trans hc8, fun j j0 j1 => ({qb}.1 44 j (by decide) (by simp)).trans (hc4 j j0 j1), hc0, by omega, Fr.tt hF ({qb}.1.mo (by decide) (by decide)), fun k hk => ({qb}.2.2.2.2 k (by omega)).trans (hr42 k hk), fun j j0 j1 => ({qb}.1 43 j (by decide) (by simp)).trans (hr43 j j0 j1)⟩
                  | exact ⟨luF I b n (t + 1) (dn + 2 ^ x.toNat) (sp + wnn I b x s) (sN I b x s) (up ord t x) c, by rw [fl_s hx0 rfl, hc]; exact if_pos ⟨by omega, hb101⟩, hqc.2.2.2.1, hqc.2.2.2.2.1, hqc.2.2.2.2.2, by (have := luF_cnt hLb.2 (b := b) n (t + 1) (dn + 2 ^ x.toNat) (sp + wnn I b x s) (sN I b x s) (up ord t x) c; omega), by (have := luF_cnt hLb.2 (b := b) n (t + 1) (dn + 2 ^ x.toNat) (sp + wnn I b x s) (sN I b x s) (up ord t x) c; omega), Fr.tt (Fr.uA (Fr.tt hF ({qb}.1.mo (by decide) (by decide))) (by decide)) (hqc.1.mo (by decide) (by decide)), fun k hk => (hqc.2.1 k (by omega)).trans ((uM_h (by decide)).trans (({qb}.2.2.2.2 k (by omega)).trans (hr42 k hk))), fun j j0 j1 => (hqc.2.2.1 j j0 (by omega)).trans ((uM_k (by omega)).trans (({qb}.1 43 j (by decide) (by simp)).trans (hr43 j j0 j1)))⟩
              exact ih57 _ cN _ (by omega) (by omega) hg h30b hSJ hNF hN42 hN43 hNc hN7 hN8 hN4 hN0 hN1 (by omega)
            · skip
              refine R_aload_0 hC dX10_lineUp_78 ?_
              refine R_iload_4 hC dX10_lineUp_79 ?_
              refine R_iload_1 hC dX10_lineUp_81 ?_
              have bxL : x < iL I := by omega
              have bwn := wnn_bd hIb hb hx0 bxL hsb
              refine R_callVp (as := [vI _, vI _]) hC dX10_lineUp_82 mo_10_withdraw ml_10_48 (by decide) rfl rfl (c10_withdraw (s := s) (b := b) hg h30b hSJ hIb (by omega) (by omega) (by omega) (by omega) (fun w a b => (hr42 _ (by omega)).trans (hs w a b)) hsb) rfl rfl hRm (by omega) (by decide) (Nat.le_of_ble_eq_true rfl) (fun v3 Mc1 hq2 => ?_)
              have hSC4 := SC.fr hSJ hq2.1 (by decide) (by decide)
              refine R_istore_5 hC dX10_lineUp_85 rfl ?_
              refine R_aload_0 hC dX10_lineUp_87 ?_
              refine R_getI hC dX10_lineUp_88 fl_10_52 (by decide) rfl (by decide) (by decide) (fi := 3) rfl ?_
              refine R_aload_0 hC dX10_lineUp_91 ?_
              have hG5 : GR Mc1 := (GR.fr hg hq2.1 (by decide +kernel))
              refine R_getR hC dX10_lineUp_92 fl_10_9 (by decide) rfl (by decide) (by decide) (fi := 0) rfl (r := 24) (gr_41_0 hG5) ?_
              refine R_getR hC dX10_lineUp_95 fl_10_55 (by decide) rfl (by decide) (by decide) (fi := 2) rfl (r := 27) (gr_24_2 hG5) ?_
              refine R_iload_4 hC dX10_lineUp_98 ?_
              refine R_iaload hC dX10_lineUp_100 (by decide) rfl (by omega) (by omega) ?_
              have q27 : (Mc1 27 x) = iN I x := ((SC.fr hSJ hq2.1 (by decide) (by decide)).2.1 x hx0 (by omega)).1
              have q3 : (Mc1 41 3) = wdw I b x s := hq2.2.2.1
              rw [q27, q3]
              refine R_icmp_lt hC dX10_lineUp_101 (tgt := 129) (by decide) (fun hb101 => ?_) (fun hb101 => ?_)
              · skip
                refine R_iinc_4 hC dX10_lineUp_129 rfl ⟨by omega, by omega⟩ ?_
                refine R_goto hC dX10_lineUp_132 (tgt := 57) (by decide) ?_
                obtain ⟨cN, hNc, hN7, hN8, hN4, hN0, hN1, hNF, hN42, hN43⟩ : ∃ cN : AC, fl (fun x a => if dn / 2 ^ x.toNat % 2 = 0 ∧ iN I x ≤ wdw I b x s then luF I b n (t + 1) (dn + 2 ^ x.toNat) (sp + wnn I b x s) (sN I b x s) (up ord t x) a else a) (x + 1).toNat a = cN ∧ Mc1 41 7 = cN.1 ∧ Mc1 41 8 = cN.2.1 ∧ (∀ j, 0 ≤ j → j < iL I → Mc1 44 j = cN.2.2 j) ∧ 0 ≤ cN.1 ∧ cN.1 ≤ a.1 + (x + 1) * 5 ^ n ∧ Fr [42, 43, 44] [(41, 3), (41, 7), (41, 8)] M Mc1 ∧ (∀ k, k < t * 6 + 6 → Mc1 42 k = M 42 k) ∧ ∀ j, 0 ≤ j → j < t → Mc1 43 j = M 43 j := by
                  have e5 : (x + 1) * 5 ^ n = x * 5 ^ n + 5 ^ n := by rw [Int.add_mul, Int.one_mul]
                  first
                    | exact ⟨c, by rw [fl_s hx0 rfl, hc]; exact if_neg (fun q => hb75 (by have := q.1; omega)), hc7, hc8, hc4, hc0, by omega, hF, hr42, hr43⟩
                    | exact ⟨c, by rw [fl_s hx0 rfl, hc]; exact if_neg (fun q => absurd q.2 (Int.not_le.mpr hb101)), (hq2.1 41 7 (by decide) (by decide)).trans hc7, (hq2.1 41 8 (by decide) (by decide)).trans hc8, fun j j0 j1 => (hq2.1 44 j (by decide) (by simp)).trans (hc4 j j0 j1), hc0, by omega, Fr.tt hF (hq2.1.mo (by decide) (by decide)), fun k hk => (hq2.2.2.2.2 k (by omega)).trans (hr42 k hk), fun j j0 j1 => (hq2.1 43 j (by decide) (by simp)).trans (hr43 j j0 j1)⟩
                    | exact ⟨luF I b n (t + 1) (dn + 2 ^ x.toNat) (sp + wnn I b x s) (sN I b x s) (up ord t x) c, by rw [fl_s hx0 rfl, hc]; exact if_pos ⟨by omega, hb101⟩, hqc.2.2.2.1, hqc.2.2.2.2.1, hqc.2.2.2.2.2, by (have := luF_cnt hLb.2 (b := b) n (t + 1) (dn + 2 ^ x.toNat) (sp + wnn I b x s) (sN I b x s) (up ord t x) c; omega), by (have := luF_cnt hLb.2 (b := b) n (t + 1) (dn + 2 ^ x.toNat) (sp + wnn I b x s) (sN I b x s) (up ord t x) c; omega), Fr.tt (Fr.uA (Fr.tt hF (hq2.1.mo (by decide) (by decide))) (by decide)) (hqc.1.mo (by decide) (by decide)), fun k hk => (hqc.2.1 k (by omega)).trans ((uM_h (by decide)).trans ((hq2.2.2.2.2 k (by omega)).trans (hr42 k hk))), fun j j0 j1 => (hqc.2.2.1 j j0 (by omega)).trans ((uM_k (by omega)).trans ((hq2.1 43 j (by decide) (by simp)).trans (hr43 j j0 j1)))⟩
                refine R_weak (subL_c (subL_c (subL_c (subL_c (subL_c (subL_d subL_n)))))) ?_
                have hr6 : Mc1 30 = b := ((hq2.1.row (by decide) (by decide)).trans h30b)
                exact ih57 _ cN _ (by omega) (by omega) hG5 hr6 hSC4 hNF hN42 hN43 hNc hN7 hN8 hN4 hN0 hN1 (by omega)
              · skip
                refine R_aload_0 hC dX10_lineUp_104 ?_
                refine R_getR hC dX10_lineUp_105 fl_10_19 (by decide) rfl (by decide) (by decide) (fi := 2) rfl (r := 43) (gr_41_2 hG5) ?_
                refine R_iload_1 hC dX10_lineUp_108 ?_
                refine R_iload_4 hC dX10_lineUp_109 ?_
                refine R_iastore hC dX10_lineUp_111 (by decide) rfl (by omega) (by omega) ?_
                refine R_aload_0 hC dX10_lineUp_112 ?_
                refine R_iload_1 hC dX10_lineUp_113 ?_
                refine R_iconst hC dX10_lineUp_114 ⟨by decide, by decide⟩ ?_
                refine R_iadd hC dX10_lineUp_115 ⟨by omega, by omega⟩ ?_
                refine R_iload_2 hC dX10_lineUp_116 ?_
                refine R_iconst hC dX10_lineUp_117 ⟨by decide, by decide⟩ ?_
                have hdo := done_or hd0 hd1 hx0 (show x < 5 by omega) (show dn / 2 ^ x.toNat % 2 = 0 by omega)
                have hpx := pw_bd hx0 (show x < 10 by omega)
                refine R_iload_4 hC dX10_lineUp_118 ?_
                refine R_shl1 hC dX10_lineUp_120 (by omega) (by omega) ?_
                refine R_ior hC dX10_lineUp_121 (by omega) (by omega) ?_
                rw [hdo.1]
                refine R_iload_3 hC dX10_lineUp_122 ?_
                refine R_iload_5 hC dX10_lineUp_123 ?_
                refine R_iadd hC dX10_lineUp_125 ⟨by omega, by omega⟩ ?_
                have q85 := hq2.2.1
                rw [q85]
                have e54 : c.1 + 5 ^ n ≤ 4000 := by
                  have : x * 5 ^ n ≤ 4 * 5 ^ n := Int.mul_le_mul_of_nonneg_right (by omega) (by omega)
                  omega
                have hG7 : GR (uM Mc1 43 t x) := (GR.uA hG5 (by decide +kernel) (.inl (by decide)))
                have hr8 : (uM Mc1 43 t x) 30 = b := ((uM_ne (by decide)).trans ((hq2.1.row (by decide) (by decide)).trans h30b))
                refine R_callVv (as := [vI _, vI _, vI _]) hC dX10_lineUp_126 mo_10_lineUp ml_10_64 (by decide) rfl rfl (ihn (s := (sN I b x s)) (b := b) (ord := (up ord t x)) (a := c) hG7 hr8 (SC.u hSC4 (by decide)) hIb (by omega) (by omega) (by omega) (by omega) (by omega) (by omega) (fun w a b => by rw [uM_h (by decide), show (t + 1) * 6 + w = t * 6 + 6 + w by omega]; exact hq2.2.2.2.1 w a b) (sN_bd hIb hb hx0 bxL hsb) (fun j j0 j1 => by (by_cases q : j = t; (rw [q, uM_same, up_same]); rw [uM_k q, up_ne q, hq2.1 43 j (by decide) (by simp)]; exact (hr43 j j0 (by omega)).trans (ho j j0 (by omega)))) ((uM_h (by decide)).trans ((hq2.1 41 7 (by decide) (by decide)).trans hc7)) ((uM_h (by decide)).trans ((hq2.1 41 8 (by decide) (by decide)).trans hc8)) (fun j j0 j1 => (uM_h (by decide)).trans ((hq2.1 44 j (by decide) (by simp)).trans (hc4 j j0 j1))) hc0 e54) rfl rfl hRm (by omega) (by decide) (Nat.le_of_ble_eq_true rfl) (fun Mc9 hq10 => ?_)
                have hSC11 := SC.fr (SC.u hSC4 (by decide)) hq10.1 (by decide) (by decide)
                have hqc := hq10
                refine R_iinc_4 hC dX10_lineUp_129 rfl ⟨by omega, by omega⟩ ?_
                refine R_goto hC dX10_lineUp_132 (tgt := 57) (by decide) ?_
                obtain ⟨cN, hNc, hN7, hN8, hN4, hN0, hN1, hNF, hN42, hN43⟩ : ∃ cN : AC, fl (fun x a => if dn / 2 ^ x.toNat % 2 = 0 ∧ iN I x ≤ wdw I b x s then luF I b n (t + 1) (dn + 2 ^ x.toNat) (sp + wnn I b x s) (sN I b x s) (up ord t x) a else a) (x + 1).toNat a = cN ∧ Mc9 41 7 = cN.1 ∧ Mc9 41 8 = cN.2.1 ∧ (∀ j, 0 ≤ j → j < iL I → Mc9 44 j = cN.2.2 j) ∧ 0 ≤ cN.1 ∧ cN.1 ≤ a.1 + (x + 1) * 5 ^ n ∧ Fr [42, 43, 44] [(41, 3), (41, 7), (41, 8)] M Mc9 ∧ (∀ k, k < t * 6 + 6 → Mc9 42 k = M 42 k) ∧ ∀ j, 0 ≤ j → j < t → Mc9 43 j = M 43 j := by
                  have e5 : (x + 1) * 5 ^ n = x * 5 ^ n + 5 ^ n := by rw [Int.add_mul, Int.one_mul]
                  first
                    | exact ⟨c, by rw [fl_s hx0 rfl, hc]; exact if_neg (fun q => hb75 (by have := q.1; omega)), hc7, hc8, hc4, hc0, by omega, hF, hr42, hr43⟩
                    | exact ⟨c, by rw [fl_s hx0 rfl, hc]; exact if_neg (fun q => absurd q.2 (Int.not_le.mpr hb101)), (hq2.1 41 7 (by decide) (by decide)).trans hc7, (hq2.1 41 8 (by decide) (by decide)).trans hc8, fun j j0 j1 => (hq2.1 44 j (by decide) (by simp)).trans (hc4 j j0 j1), hc0, by omega, Fr.tt hF (hq2.1.mo (by decide) (by decide)), fun k hk => (hq2.2.2.2.2 k (by omega)).trans (hr42 k hk), fun j j0 j1 => (hq2.1 43 j (by decide) (by simp)).trans (hr43 j j0 j1)⟩
                    | exact ⟨luF I b n (t + 1) (dn + 2 ^ x.toNat) (sp + wnn I b x s) (sN I b x s) (up ord t x) c, by rw [fl_s hx0 rfl, hc]; exact if_pos ⟨by omega, hb101⟩, hqc.2.2.2.1, hqc.2.2.2.2.1, hqc.2.2.2.2.2, by (have := luF_cnt hLb.2 (b := b) n (t + 1) (dn + 2 ^ x.toNat) (sp + wnn I b x s) (sN I b x s) (up ord t x) c; omega), by (have := luF_cnt hLb.2 (b := b) n (t + 1) (dn + 2 ^ x.toNat) (sp + wnn I b x s) (sN I b x s) (up ord t x) c; omega), Fr.tt (Fr.uA (Fr.tt hF (hq2.1.mo (by decide) (by decide))) (by decide)) (hqc.1.mo (by decide) (by decide)), fun k hk => (hqc.2.1 k (by omega)).trans ((uM_h (by decide)).trans ((hq2.2.2.2.2 k (by omega)).trans (hr42 k hk))), fun j j0 j1 => (hqc.2.2.1 j j0 (by omega)).trans ((uM_k (by omega)).trans ((hq2.1 43 j (by decide) (by simp)).trans (hr43 j j0 j1)))⟩
                refine R_weak (subL_c (subL_c (subL_c (subL_c (subL_c (subL_d subL_n)))))) ?_
                have hG12 : GR Mc9 := (GR.fr hG7 hq10.1 (by decide +kernel))
                have hr13 : Mc9 30 = b := ((hq10.1.row (by decide) (by decide)).trans hr8)
                exact ih57 _ cN _ (by omega) (by omega) hG12 hr13 hSC11 hNF hN42 hN43 hNc hN7 hN8 hN4 hN0 hN1 (by omega)
      exact L57 _ _ a _ (by omega) (by omega) hG h30 hI Fr.rf (fun _ _ => rfl) (fun _ _ _ => rfl) rfl h7 h8 h4 ha0 (by omega) (Nat.lt_succ_self _)
    · skip
      omega
theorem c10_lineUp {G : Gl} : ∀ (n : Nat) {l : Launch} {M : Mem} {I : Ins} {t dn sp : Int} {s b ord : Int → Int} {a : AC} (hG : GR M) (h30 : M 30 = b) (hI : SC M I) (hIb : IB I) (ht0 : 0 ≤ t) (htn : t + ((n : Nat) : Int) = iL I) (hd0 : 0 ≤ dn) (hd1 : dn < 32) (hs0 : 0 ≤ sp) (hs1 : sp ≤ t * 162) (hs : ∀ w, 0 ≤ w → w < iW I → M 42 (t * 6 + w) = s w) (hsb : ∀ w, 0 ≤ w → w < iW I → 0 ≤ s w ∧ s w ≤ 1000) (ho : ∀ j, 0 ≤ j → j < t → M 43 j = ord j) (h7 : M 41 7 = a.1) (h8 : M 41 8 = a.2.1) (h4 : ∀ j, 0 ≤ j → j < iL I → M 44 j = a.2.2 j) (ha0 : 0 ≤ a.1) (ha1 : a.1 + 5 ^ (n) ≤ 4000), Ct G LY 57 l (2 + n) m10_lineUp [vR 41, vI t, vI dn, vI sp] M (RV (fun M' => Fr [42, 43, 44] [(41, 3), (41, 7), (41, 8)] M M' ∧ (∀ k, k < t * 6 + 6 → M' 42 k = M 42 k) ∧ (∀ j, 0 ≤ j → j < t → M' 43 j = M 43 j) ∧ M' 41 7 = (luF I b n t dn sp s ord a).1 ∧ M' 41 8 = (luF I b n t dn sp s ord a).2.1 ∧ ∀ j, 0 ≤ j → j < iL I → M' 44 j = (luF I b n t dn sp s ord a).2.2 j))
  | 0 => fun hG h30 hI hIb ht0 htn hd0 hd1 hs0 hs1 hs hsb ho h7 h8 h4 ha0 ha1 => c10_lineUp_0 hG h30 hI hIb ht0 htn hd0 hd1 hs0 hs1 hs hsb ho h7 h8 h4 ha0 ha1
  | n + 1 => fun hG h30 hI hIb ht0 htn hd0 hd1 hs0 hs1 hs hsb ho h7 h8 h4 ha0 ha1 => c10_lineUp_s (fun hG h30 hI hIb ht0 htn hd0 hd1 hs0 hs1 hs hsb ho h7 h8 h4 ha0 ha1 => c10_lineUp n hG h30 hI hIb ht0 htn hd0 hd1 hs0 hs1 hs hsb ho h7 h8 h4 ha0 ha1) hG h30 hI hIb ht0 htn hd0 hd1 hs0 hs1 hs hsb ho h7 h8 h4 ha0 ha1

theorem dX10_findOrders_0 : decode cX10_findOrders 0 = .ok (.aload_n 0, 1) := by decide +kernel
theorem dX10_findOrders_1 : decode cX10_findOrders 1 = .ok (.aload_n 1, 1) := by decide +kernel
theorem dX10_findOrders_2 : decode cX10_findOrders 2 = .ok (.invokevirtual 36, 3) := by decide +kernel
theorem dX10_findOrders_5 : decode cX10_findOrders 5 = .ok (.aload_n 0, 1) := by decide +kernel
theorem dX10_findOrders_6 : decode cX10_findOrders 6 = .ok (.iconst 0, 1) := by decide +kernel
theorem dX10_findOrders_7 : decode cX10_findOrders 7 = .ok (.putfield 58, 3) := by decide +kernel
theorem dX10_findOrders_10 : decode cX10_findOrders 10 = .ok (.aload_n 0, 1) := by decide +kernel
theorem dX10_findOrders_11 : decode cX10_findOrders 11 = .ok (.iconst (-1), 1) := by decide +kernel
theorem dX10_findOrders_12 : decode cX10_findOrders 12 = .ok (.putfield 61, 3) := by decide +kernel
theorem dX10_findOrders_15 : decode cX10_findOrders 15 = .ok (.aload_n 0, 1) := by decide +kernel
theorem dX10_findOrders_16 : decode cX10_findOrders 16 = .ok (.iconst 0, 1) := by decide +kernel
theorem dX10_findOrders_17 : decode cX10_findOrders 17 = .ok (.iconst 0, 1) := by decide +kernel
theorem dX10_findOrders_18 : decode cX10_findOrders 18 = .ok (.iconst 0, 1) := by decide +kernel
theorem dX10_findOrders_19 : decode cX10_findOrders 19 = .ok (.invokevirtual 64, 3) := by decide +kernel
theorem dX10_findOrders_22 : decode cX10_findOrders 22 = .ok (.return_, 1) := by decide +kernel
set_option maxHeartbeats 400000 in
theorem c10_findOrders {G : Gl} {l : Launch}  {M : Mem} {d : Int → Int} (hG : GR M) (hD : M 4 = d) (hSP : SP d) : Ct G LY 57 l 8 m10_findOrders [vR 41, vR 3] M (RV (fun M' => Fr [25, 26, 27, 28, 29, 30, 31, 32, 33, 34, 42, 43, 44] [(24, 11), (24, 12), (24, 13), (41, 3), (41, 7), (41, 8)] M M' ∧ ∃ b o e, RK (d 122) (fun w => d (10 + w)) b ∧ M' 41 7 = (luF (insOf d) b (d 121).toNat 0 0 0 (spr d) o (0, -1, e)).1 ∧ M' 41 8 = (luF (insOf d) b (d 121).toNat 0 0 0 (spr d) o (0, -1, e)).2.1 ∧ ∀ j, 0 ≤ j → j < d 121 → M' 44 j = (luF (insOf d) b (d 121).toNat 0 0 0 (spr d) o (0, -1, e)).2.2 j)) := by
  refine R_start (by decide +kernel) (Nat.le_of_ble_eq_true rfl) (fun C hC hRm hlau => ?_)
  show RZ G LY C (Zn G LY 57 C (RV (fun M' => Fr [25, 26, 27, 28, 29, 30, 31, 32, 33, 34, 42, 43, 44] [(24, 11), (24, 12), (24, 13), (41, 3), (41, 7), (41, 8)] M M' ∧ ∃ b o e, RK (d 122) (fun w => d (10 + w)) b ∧ M' 41 7 = (luF (insOf d) b (d 121).toNat 0 0 0 (spr d) o (0, -1, e)).1 ∧ M' 41 8 = (luF (insOf d) b (d 121).toNat 0 0 0 (spr d) o (0, -1, e)).2.1 ∧ ∀ j, 0 ≤ j → j < d 121 → M' 44 j = (luF (insOf d) b (d 121).toNat 0 0 0 (spr d) o (0, -1, e)).2.2 j))) 0 0 57 0 [some (vR 41), some (vR 3)] [] M
  have hLd := hSP.1.1
  refine R_aload_0 hC dX10_findOrders_0 ?_
  refine R_aload_1 hC dX10_findOrders_1 ?_
  refine R_callVv (as := [vR _]) hC dX10_findOrders_2 mo_10_begin ml_10_36 (by decide) rfl rfl (c10_begin  hG hD hSP) rfl rfl hRm (by omega) (by decide) (Nat.le_of_ble_eq_true rfl) (fun Mc1 hq2 => ?_)
  have hSC3 := hq2.2.1
  have hr4 : Mc1 30 = (Mc1 30) := rfl
  have hbK : RK (d 122) (fun w => d (10 + w)) (Mc1 30) := hSC3.2.2.2.2.2.2
  refine R_aload_0 hC dX10_findOrders_5 ?_
  refine R_iconst hC dX10_findOrders_6 ⟨by decide, by decide⟩ ?_
  refine R_putI hC dX10_findOrders_7 fl_10_58 (by decide) rfl (by decide) (by decide) (fi := 7) rfl ?_
  refine R_aload_0 hC dX10_findOrders_10 ?_
  refine R_iconst hC dX10_findOrders_11 ⟨by decide, by decide⟩ ?_
  refine R_putI hC dX10_findOrders_12 fl_10_61 (by decide) rfl (by decide) (by decide) (fi := 8) rfl ?_
  refine R_aload_0 hC dX10_findOrders_15 ?_
  refine R_iconst hC dX10_findOrders_16 ⟨by decide, by decide⟩ ?_
  refine R_iconst hC dX10_findOrders_17 ⟨by decide, by decide⟩ ?_
  refine R_iconst hC dX10_findOrders_18 ⟨by decide, by decide⟩ ?_
  have hG5 : GR (uM (uM Mc1 41 7 0) 41 8 (-1)) := (GR.uF (GR.uF (GR.fr hG hq2.1 (by decide +kernel)) (by decide +kernel) (by decide)) (by decide +kernel) (by decide))
  have hr6 : (uM (uM Mc1 41 7 0) 41 8 (-1)) 30 = (Mc1 30) := ((uM_ne (by decide)).trans ((uM_ne (by decide)).trans hr4))
  refine R_callVv (as := [vI _, vI _, vI _]) hC dX10_findOrders_19 mo_10_lineUp ml_10_64 (by decide) rfl rfl (c10_lineUp (d 121).toNat (s := (spr d)) (a := (0, -1, (uM (uM Mc1 41 7 0) 41 8 (-1)) 44)) (ord := ((uM (uM Mc1 41 7 0) 41 8 (-1)) 43)) hG5 hr6 (SC.u (SC.u hSC3 (by decide)) (by decide)) (SP.I hSP) (by omega) (by (show (0 : Int) + ((d 121).toNat : Int) = d 121; omega)) (by omega) (by omega) (by omega) (by omega) (fun w a b => by rw [uM_h (by decide), uM_h (by decide)]; exact hq2.2.2 w a b) (fun w a b => by (have := (SP.I hSP).2.2.2.1 w a b; exact this.1)) (fun j a b => by omega) ((uM_k (by decide)).trans uM_same) uM_same (fun j a b => rfl) (Int.le_refl _) (by (have z : ∀ n : Nat, n ≤ 5 → (0 : Int) + 5 ^ n ≤ 4000 := by decide); exact z _ (by omega))) rfl rfl hRm (by omega) (by decide) (Nat.le_of_ble_eq_true rfl) (fun Mc7 hq8 => ?_)
  exact R_return hC dX10_findOrders_22 rfl (ret_V ⟨Fr.tt (Fr.uB (Fr.uB (hq2.1.mo (by decide) (by decide)) (by decide)) (by decide)) (hq8.1.mo (by decide) (by decide)), _, _, _, hbK, hq8.2.2.2.1, hq8.2.2.2.2.1, hq8.2.2.2.2.2⟩)
