/-! the model's reader: a clause -/
def ALd (M : Mem) (h : Nat) (row : Int) (d : Int → Int) : Prop := ∀ q, 0 ≤ q → q < 30 → M h q = bP (0 < d (row + q))
def flS (x : Int) : Int := if x = -1 then 0 else 1
theorem ALd.of {M M' : Mem} {h : Nat} {row : Int} {d e : Int → Int} (g : ALd M h row d) (hr : row = 28 ∨ row = 58) (hM : ∀ q, M' h q = M h q) (he : ∀ k, 28 ≤ k → k < 88 → e k = d k) : ALd M' h row e := fun q q0 q1 => by
  rw [hM, g q q0 q1, he (row + q) (by omega) (by omega)]
theorem lb0_o {r d : Int → Int} {n k : Int} {S : RT} (h0 : 0 ≤ d 121) (k0 : 28 ≤ k) (k1 : k < 118) : (lb0 r n d S).1 k = d k := by
  unfold lb0
  by_cases q : d 121 < 5
  · rw [itc_t q]
    show upd1 _ _ _ k = _
    rw [upd1_o (by omega), upd1_o (by omega), upd1_o (by omega)]
  · rw [itc_f q]
theorem wk0_o {r d : Int → Int} {n k : Int} {S : RT} (h0 : 0 ≤ d 122) (k0 : 28 ≤ k) (k1 : k < 118) : (wk0 r n d S).1 k = d k := by
  unfold wk0
  by_cases q : d 122 < 6
  · rw [itc_t q]
    show upd1 _ _ _ k = _
    rw [upd1_o (by omega), upd1_o (by omega), upd1_o (by omega)]
  · rw [itc_f q]
theorem rn_f0 {r : Int → Int} {n a b : Int} {S : RT} (h : (rnR r n a b S).2.2.2.2.1 = 0) : S.2.2.2.1 = 0 := Classical.byContradiction (fun z => by
  rw [rn_bad z] at h
  exact z h)
theorem hdL_b {r d : Int → Int} {n : Int} {S : RT} : 0 ≤ (hdL r n d S).1 ∧ (hdL r n d S).1 ≤ 4 := noR_bd (by decide)
theorem hdW_b {r d : Int → Int} {n b : Int} {S : RT} : 0 ≤ (hdW r n d b S).1 ∧ (hdW r n d b S).1 ≤ 5 := noR_bd (by decide)

theorem dX12_clause1_0 : decode cX12_clause1 0 = .ok (.aload_n 0, 1) := by decide +kernel
theorem dX12_clause1_1 : decode cX12_clause1 1 = .ok (.getfield 219, 3) := by decide +kernel
theorem dX12_clause1_4 : decode cX12_clause1 4 = .ok (.iconst 1, 1) := by decide +kernel
theorem dX12_clause1_5 : decode cX12_clause1 5 = .ok (.if_icmp .ne 10, 3) := by decide +kernel
theorem dX12_clause1_8 : decode cX12_clause1 8 = .ok (.aload_n 0, 1) := by decide +kernel
theorem dX12_clause1_9 : decode cX12_clause1 9 = .ok (.getfield 213, 3) := by decide +kernel
theorem dX12_clause1_12 : decode cX12_clause1 12 = .ok (.goto 4, 3) := by decide +kernel
theorem dX12_clause1_15 : decode cX12_clause1 15 = .ok (.iconst (-1), 1) := by decide +kernel
theorem dX12_clause1_16 : decode cX12_clause1 16 = .ok (.istore_n 1, 1) := by decide +kernel
theorem dX12_clause1_17 : decode cX12_clause1 17 = .ok (.iload_n 1, 1) := by decide +kernel
theorem dX12_clause1_18 : decode cX12_clause1 18 = .ok (.iconst 4, 1) := by decide +kernel
theorem dX12_clause1_19 : decode cX12_clause1 19 = .ok (.if_icmp .ne 10, 3) := by decide +kernel
theorem dX12_clause1_22 : decode cX12_clause1 22 = .ok (.aload_n 0, 1) := by decide +kernel
theorem dX12_clause1_23 : decode cX12_clause1 23 = .ok (.invokevirtual 253, 3) := by decide +kernel
theorem dX12_clause1_26 : decode cX12_clause1 26 = .ok (.goto 116, 3) := by decide +kernel
theorem dX12_clause1_29 : decode cX12_clause1 29 = .ok (.iload_n 1, 1) := by decide +kernel
theorem dX12_clause1_30 : decode cX12_clause1 30 = .ok (.ifCond .ne 10, 3) := by decide +kernel
theorem dX12_clause1_33 : decode cX12_clause1 33 = .ok (.aload_n 0, 1) := by decide +kernel
theorem dX12_clause1_34 : decode cX12_clause1 34 = .ok (.invokevirtual 256, 3) := by decide +kernel
theorem dX12_clause1_37 : decode cX12_clause1 37 = .ok (.goto 105, 3) := by decide +kernel
theorem dX12_clause1_40 : decode cX12_clause1 40 = .ok (.iload_n 1, 1) := by decide +kernel
theorem dX12_clause1_41 : decode cX12_clause1 41 = .ok (.iconst 1, 1) := by decide +kernel
theorem dX12_clause1_42 : decode cX12_clause1 42 = .ok (.if_icmp .ne 10, 3) := by decide +kernel
theorem dX12_clause1_45 : decode cX12_clause1 45 = .ok (.aload_n 0, 1) := by decide +kernel
theorem dX12_clause1_46 : decode cX12_clause1 46 = .ok (.invokevirtual 259, 3) := by decide +kernel
theorem dX12_clause1_49 : decode cX12_clause1 49 = .ok (.goto 93, 3) := by decide +kernel
theorem dX12_clause1_52 : decode cX12_clause1 52 = .ok (.iload_n 1, 1) := by decide +kernel
theorem dX12_clause1_53 : decode cX12_clause1 53 = .ok (.iconst 2, 1) := by decide +kernel
theorem dX12_clause1_54 : decode cX12_clause1 54 = .ok (.if_icmp .ne 30, 3) := by decide +kernel
theorem dX12_clause1_57 : decode cX12_clause1 57 = .ok (.aload_n 0, 1) := by decide +kernel
theorem dX12_clause1_58 : decode cX12_clause1 58 = .ok (.aload_n 0, 1) := by decide +kernel
theorem dX12_clause1_59 : decode cX12_clause1 59 = .ok (.getfield 65, 3) := by decide +kernel
theorem dX12_clause1_62 : decode cX12_clause1 62 = .ok (.invokevirtual 262, 3) := by decide +kernel
theorem dX12_clause1_65 : decode cX12_clause1 65 = .ok (.istore_n 2, 1) := by decide +kernel
theorem dX12_clause1_66 : decode cX12_clause1 66 = .ok (.aload_n 0, 1) := by decide +kernel
theorem dX12_clause1_67 : decode cX12_clause1 67 = .ok (.getfield 59, 3) := by decide +kernel
theorem dX12_clause1_70 : decode cX12_clause1 70 = .ok (.bipush 10, 2) := by decide +kernel
theorem dX12_clause1_72 : decode cX12_clause1 72 = .ok (.iload_n 2, 1) := by decide +kernel
theorem dX12_clause1_73 : decode cX12_clause1 73 = .ok (.iadd, 1) := by decide +kernel
theorem dX12_clause1_74 : decode cX12_clause1 74 = .ok (.aload_n 0, 1) := by decide +kernel
theorem dX12_clause1_75 : decode cX12_clause1 75 = .ok (.iconst 1, 1) := by decide +kernel
theorem dX12_clause1_76 : decode cX12_clause1 76 = .ok (.iconst 3, 1) := by decide +kernel
theorem dX12_clause1_77 : decode cX12_clause1 77 = .ok (.invokevirtual 244, 3) := by decide +kernel
theorem dX12_clause1_80 : decode cX12_clause1 80 = .ok (.iastore, 1) := by decide +kernel
theorem dX12_clause1_81 : decode cX12_clause1 81 = .ok (.goto 61, 3) := by decide +kernel
theorem dX12_clause1_84 : decode cX12_clause1 84 = .ok (.aload_n 0, 1) := by decide +kernel
theorem dX12_clause1_85 : decode cX12_clause1 85 = .ok (.iload_n 1, 1) := by decide +kernel
theorem dX12_clause1_86 : decode cX12_clause1 86 = .ok (.iconst 3, 1) := by decide +kernel
theorem dX12_clause1_87 : decode cX12_clause1 87 = .ok (.if_icmp .ne 7, 3) := by decide +kernel
theorem dX12_clause1_90 : decode cX12_clause1 90 = .ok (.iconst 1, 1) := by decide +kernel
theorem dX12_clause1_91 : decode cX12_clause1 91 = .ok (.goto 4, 3) := by decide +kernel
theorem dX12_clause1_94 : decode cX12_clause1 94 = .ok (.iconst 0, 1) := by decide +kernel
theorem dX12_clause1_95 : decode cX12_clause1 95 = .ok (.iconst 1, 1) := by decide +kernel
theorem dX12_clause1_96 : decode cX12_clause1 96 = .ok (.invokevirtual 231, 3) := by decide +kernel
theorem dX12_clause1_99 : decode cX12_clause1 99 = .ok (.ifCond .eq 43, 3) := by decide +kernel
theorem dX12_clause1_102 : decode cX12_clause1 102 = .ok (.aload_n 0, 1) := by decide +kernel
theorem dX12_clause1_103 : decode cX12_clause1 103 = .ok (.aload_n 0, 1) := by decide +kernel
theorem dX12_clause1_104 : decode cX12_clause1 104 = .ok (.getfield 69, 3) := by decide +kernel
theorem dX12_clause1_107 : decode cX12_clause1 107 = .ok (.invokevirtual 262, 3) := by decide +kernel
theorem dX12_clause1_110 : decode cX12_clause1 110 = .ok (.istore_n 2, 1) := by decide +kernel
theorem dX12_clause1_111 : decode cX12_clause1 111 = .ok (.aload_n 0, 1) := by decide +kernel
theorem dX12_clause1_112 : decode cX12_clause1 112 = .ok (.getfield 59, 3) := by decide +kernel
theorem dX12_clause1_115 : decode cX12_clause1 115 = .ok (.bipush 40, 2) := by decide +kernel
theorem dX12_clause1_117 : decode cX12_clause1 117 = .ok (.iload_n 2, 1) := by decide +kernel
theorem dX12_clause1_118 : decode cX12_clause1 118 = .ok (.iadd, 1) := by decide +kernel
theorem dX12_clause1_119 : decode cX12_clause1 119 = .ok (.aload_n 0, 1) := by decide +kernel
theorem dX12_clause1_120 : decode cX12_clause1 120 = .ok (.iconst 1, 1) := by decide +kernel
theorem dX12_clause1_121 : decode cX12_clause1 121 = .ok (.iconst 3, 1) := by decide +kernel
theorem dX12_clause1_122 : decode cX12_clause1 122 = .ok (.invokevirtual 244, 3) := by decide +kernel
theorem dX12_clause1_125 : decode cX12_clause1 125 = .ok (.iastore, 1) := by decide +kernel
theorem dX12_clause1_126 : decode cX12_clause1 126 = .ok (.aload_n 0, 1) := by decide +kernel
theorem dX12_clause1_127 : decode cX12_clause1 127 = .ok (.getfield 59, 3) := by decide +kernel
theorem dX12_clause1_130 : decode cX12_clause1 130 = .ok (.bipush 70, 2) := by decide +kernel
theorem dX12_clause1_132 : decode cX12_clause1 132 = .ok (.iload_n 2, 1) := by decide +kernel
theorem dX12_clause1_133 : decode cX12_clause1 133 = .ok (.iadd, 1) := by decide +kernel
theorem dX12_clause1_134 : decode cX12_clause1 134 = .ok (.aload_n 0, 1) := by decide +kernel
theorem dX12_clause1_135 : decode cX12_clause1 135 = .ok (.iconst 0, 1) := by decide +kernel
theorem dX12_clause1_136 : decode cX12_clause1 136 = .ok (.bipush 60, 2) := by decide +kernel
theorem dX12_clause1_138 : decode cX12_clause1 138 = .ok (.invokevirtual 244, 3) := by decide +kernel
theorem dX12_clause1_141 : decode cX12_clause1 141 = .ok (.iastore, 1) := by decide +kernel
theorem dX12_clause1_142 : decode cX12_clause1 142 = .ok (.return_, 1) := by decide +kernel
set_option maxHeartbeats 2000000 in
theorem c12_clause1 {G : Gl} {l : Launch}  {M : Mem} {s1 fl : Int} {d : Int → Int} {n : Int} {r : Int → Int} {S : RT} (hG : GR M) (hn : M 57 33 = n) (htp : ∀ k, 0 ≤ k → k < n → M 62 k = r k % 2 ^ 8) (hn0 : 0 ≤ n) (hn1 : n ≤ 700) (hm : MRS M r n S) (hd : TD M d) (hf : S.2.2.2.1 = 0) (hL0 : 0 ≤ d 121) (hL1 : d 121 ≤ 5) (hW0 : 0 ≤ d 122) (hW1 : d 122 ≤ 6) (h75 : ALd M 75 28 d) (h76 : ALd M 76 58 d) (hst : M 57 44 = s1) (hfl : fl = flS s1) : Ct G LY 82 l 5 m12_clause1 [vR 57] M (RV (fun M' => Fr [73, 74, 75, 76] [(57, 31), (57, 32), (57, 34), (57, 35), (57, 36), (57, 37), (57, 17), (57, 42), (57, 43), (57, 44)] M M' ∧ MRS M' r n (cl0 r n (d, fl, S)).2.2 ∧ ((cl0 r n (d, fl, S)).2.2.2.2.2.1 = 0 → TD M' (cl0 r n (d, fl, S)).1 ∧ ALd M' 75 28 (cl0 r n (d, fl, S)).1 ∧ ALd M' 76 58 (cl0 r n (d, fl, S)).1 ∧ (cl0 r n (d, fl, S)).2.1 = flS (M' 57 44)))) := by
  refine R_start (by decide +kernel) (Nat.le_of_ble_eq_true rfl) (fun C hC hRm hlau => ?_)
  show RZ G LY C (Zn G LY 82 C (RV (fun M' => Fr [73, 74, 75, 76] [(57, 31), (57, 32), (57, 34), (57, 35), (57, 36), (57, 37), (57, 17), (57, 42), (57, 43), (57, 44)] M M' ∧ MRS M' r n (cl0 r n (d, fl, S)).2.2 ∧ ((cl0 r n (d, fl, S)).2.2.2.2.2.1 = 0 → TD M' (cl0 r n (d, fl, S)).1 ∧ ALd M' 75 28 (cl0 r n (d, fl, S)).1 ∧ ALd M' 76 58 (cl0 r n (d, fl, S)).1 ∧ (cl0 r n (d, fl, S)).2.1 = flS (M' 57 44))))) 0 0 82 0 [some (vR 57), none, none] [] M
  have clb := cl_by (r := r) (n := n) (d := d) (s := fl) (S := S) hm.2.2
  refine R_aload_0 hC dX12_clause1_0 ?_
  refine R_getIE hC dX12_clause1_1 fl_12_219 (by decide) rfl (by decide) (by decide) (fi := 34) rfl hm.k ?_
  refine R_iconst hC dX12_clause1_4 ⟨by decide, by decide⟩ ?_
  have L16 : ∀ (w : Int), (w = wdC r n S) → RZ G LY C (Zn G LY 82 C (RV (fun M' => Fr [73, 74, 75, 76] [(57, 31), (57, 32), (57, 34), (57, 35), (57, 36), (57, 37), (57, 17), (57, 42), (57, 43), (57, 44)] M M' ∧ MRS M' r n (cl0 r n (d, fl, S)).2.2 ∧ ((cl0 r n (d, fl, S)).2.2.2.2.2.1 = 0 → TD M' (cl0 r n (d, fl, S)).1 ∧ ALd M' 75 28 (cl0 r n (d, fl, S)).1 ∧ ALd M' 76 58 (cl0 r n (d, fl, S)).1 ∧ (cl0 r n (d, fl, S)).2.1 = flS (M' 57 44))))) 0 0 82 16 [some (vR 57), none, none] [vI w] M := by
    intro w hw
    refine R_istore_1 hC dX12_clause1_16 rfl ?_
    refine R_iload_1 hC dX12_clause1_17 ?_
    refine R_iconst hC dX12_clause1_18 ⟨by decide, by decide⟩ ?_
    refine R_icmp_ne hC dX12_clause1_19 (tgt := 29) (by decide) (fun hb19 => ?_) (fun hb19 => ?_)
    · skip
      refine R_iload_1 hC dX12_clause1_29 ?_
      refine R_if_ne hC dX12_clause1_30 (tgt := 40) (by decide) (fun hb30 => ?_) (fun hb30 => ?_)
      · skip
        refine R_iload_1 hC dX12_clause1_40 ?_
        refine R_iconst hC dX12_clause1_41 ⟨by decide, by decide⟩ ?_
        refine R_icmp_ne hC dX12_clause1_42 (tgt := 52) (by decide) (fun hb42 => ?_) (fun hb42 => ?_)
        · skip
          refine R_iload_1 hC dX12_clause1_52 ?_
          refine R_iconst hC dX12_clause1_53 ⟨by decide, by decide⟩ ?_
          refine R_icmp_ne hC dX12_clause1_54 (tgt := 84) (by decide) (fun hb54 => ?_) (fun hb54 => ?_)
          · skip
            refine R_aload_0 hC dX12_clause1_84 ?_
            refine R_iload_1 hC dX12_clause1_85 ?_
            refine R_iconst hC dX12_clause1_86 ⟨by decide, by decide⟩ ?_
            have L95 : ∀ (t : Int), (t = bP (w = 3)) → RZ G LY C (Zn G LY 82 C (RV (fun M' => Fr [73, 74, 75, 76] [(57, 31), (57, 32), (57, 34), (57, 35), (57, 36), (57, 37), (57, 17), (57, 42), (57, 43), (57, 44)] M M' ∧ MRS M' r n (cl0 r n (d, fl, S)).2.2 ∧ ((cl0 r n (d, fl, S)).2.2.2.2.2.1 = 0 → TD M' (cl0 r n (d, fl, S)).1 ∧ ALd M' 75 28 (cl0 r n (d, fl, S)).1 ∧ ALd M' 76 58 (cl0 r n (d, fl, S)).1 ∧ (cl0 r n (d, fl, S)).2.1 = flS (M' 57 44))))) 0 0 82 95 [some (vR 57), some (vI w), none] [vI t, vR 57] M := by
              intro t ht
              refine R_iconst hC dX12_clause1_95 ⟨by decide, by decide⟩ ?_
              refine R_callVp (as := [vI _, vI _]) hC dX12_clause1_96 mo_12_wants ml_12_231 (by decide) rfl rfl (c12_wants  hG) rfl rfl hRm (by decide) (by decide) (Nat.le_of_ble_eq_true rfl) (fun v3 Mc1 hq2 => ?_)
              have hmA : MRS Mc1 r n (itc (w = 3) S (refR 1 S)) := by
                have z := hm.wt hq2.1 hq2.2.1
                by_cases y : w = 3
                · rw [itc_t y]; rw [if_neg (fun e => bP_z (ht.symm.trans e) y)] at z; exact z
                · rw [itc_f y]; rw [if_pos (ht.trans (bP_neg y))] at z; exact z
              have hvv : v3 = bP (w = 3) := by
                rw [hq2.2.2, hmA.f]
                by_cases z : w = 3
                · rw [itc_t z, bP_pos z, bP_pos hf]
                · rw [itc_f z, bP_neg z, bP_neg (rf_ne hf (by decide))]
              have hFa : Fr [73, 74, 75, 76] [(57, 31), (57, 32), (57, 34), (57, 35), (57, 36), (57, 37), (57, 17), (57, 42), (57, 43), (57, 44)] M Mc1 := hq2.1.mo (by simp) (by simp)
              have hdA := hd.fr hq2.1 (by decide)
              refine R_if_eq hC dX12_clause1_99 (tgt := 142) (by decide) (fun hb99 => ?_) (fun hb99 => ?_)
              · skip
                have hn3 := bP_z (hvv.symm.trans hb99)
                have hmB : MRS Mc1 r n (refR 1 S) := by rw [itc_f hn3] at hmA; exact hmA
                have hz : Fr [73, 74, 75, 76] [(57, 31), (57, 32), (57, 34), (57, 35), (57, 36), (57, 37), (57, 17), (57, 42), (57, 43), (57, 44)] M Mc1 ∧ MRS Mc1 r n (cl0 r n (d, fl, S)).2.2 ∧ ((cl0 r n (d, fl, S)).2.2.2.2.2.1 = 0 → TD Mc1 (cl0 r n (d, fl, S)).1 ∧ ALd Mc1 75 28 (cl0 r n (d, fl, S)).1 ∧ ALd Mc1 76 58 (cl0 r n (d, fl, S)).1 ∧ (cl0 r n (d, fl, S)).2.1 = flS (Mc1 57 44)) := by
                  have eX := clb.2.2.2.2.2 ⟨by omega, by omega, by omega, by omega, by omega⟩
                  rw [eX]
                  exact ⟨hFa, hmB, fun z => absurd z (rf_ne hf (by decide))⟩
                exact R_return hC dX12_clause1_142 rfl (ret_V hz)
              · skip
                have hw3 := bP_nz (fun z => hb99 (hvv.trans z))
                have hma : MRS Mc1 r n S := by rw [itc_t hw3] at hmA; exact hmA
                refine R_aload_0 hC dX12_clause1_102 ?_
                refine R_aload_0 hC dX12_clause1_103 ?_
                have hG4 : GR Mc1 := (GR.fr hG hq2.1 (by decide +kernel))
                refine R_getR hC dX12_clause1_104 fl_12_69 (by decide) rfl (by decide) (by decide) (fi := 41) rfl (r := 76) (gr_57_41 hG4) ?_
                refine R_callVp (as := [vR _]) hC dX12_clause1_107 mo_12_cell1 ml_12_262 (by decide) rfl rfl (c12_cell1_76  hG4 ((hFa 57 33 (by decide) (by decide)).trans hn) (fun j p q => (congrFun (hFa.row (by decide) (by decide)) j).trans (htp j p q)) (by omega) (by omega) hma hdA hf (by omega) (by omega) (by omega) (by omega) (fun q q0 q1 => (hq2.1 76 q (by decide) (by simp)).trans (h76 q q0 q1))) rfl rfl hRm (by decide) (by decide) (Nat.le_of_ble_eq_true rfl) (fun v7 Mc5 hq6 => ?_)
                have hF4 : Fr [73, 74, 75, 76] [(57, 31), (57, 32), (57, 34), (57, 35), (57, 36), (57, 37), (57, 17), (57, 42), (57, 43), (57, 44)] M Mc5 := Fr.tt hFa (hq6.1.mo (by simp) (by simp))
                have hm4 := hq6.2.1
                have hd4 := hq6.2.2.1
                have hk4 := hq6.2.2.2.1
                have hv0 := hq6.2.2.2.2.1
                have hv1 := hq6.2.2.2.2.2
                refine R_istore_2 hC dX12_clause1_110 rfl ?_
                refine R_aload_0 hC dX12_clause1_111 ?_
                have hG8 : GR Mc5 := (GR.fr hG4 hq6.1 (by decide +kernel))
                refine R_getR hC dX12_clause1_112 fl_12_59 (by decide) rfl (by decide) (by decide) (fi := 38) rfl (r := 73) (gr_57_38 hG8) ?_
                refine R_bipush hC dX12_clause1_115 (by decide +kernel) ⟨by decide, by decide⟩ ?_
                refine R_iload_2 hC dX12_clause1_117 ?_
                refine R_iadd hC dX12_clause1_118 ⟨by omega, by omega⟩ ?_
                refine R_aload_0 hC dX12_clause1_119 ?_
                refine R_iconst hC dX12_clause1_120 ⟨by decide, by decide⟩ ?_
                refine R_iconst hC dX12_clause1_121 ⟨by decide, by decide⟩ ?_
                refine R_callVp (as := [vI _, vI _]) hC dX12_clause1_122 mo_12_number ml_12_244 (by decide) rfl rfl (c12_number  hG8 ((hF4 57 33 (by decide) (by decide)).trans hn) (fun j p q => (congrFun (hF4.row (by decide) (by decide)) j).trans (htp j p q)) (by omega) (by omega) hm4 (by omega)) rfl rfl hRm (by decide) (by decide) (Nat.le_of_ble_eq_true rfl) (fun v11 Mc9 hq10 => ?_)
                have hF5 : Fr [73, 74, 75, 76] [(57, 31), (57, 32), (57, 34), (57, 35), (57, 36), (57, 37), (57, 17), (57, 42), (57, 43), (57, 44)] M Mc9 := Fr.tt hF4 (hq10.1.mo (by simp) (by simp))
                have hm5 : MRS Mc9 r n (pmM r n d S).2 := hq10.2.1
                have hd5 := hd4.fr hq10.1 (by decide)
                have hv5 : v11 = (pmM r n d S).1 := hq10.2.2
                refine R_iastore hC dX12_clause1_125 (by decide) rfl (by omega) (by omega) ?_
                have hF6 : Fr [73, 74, 75, 76] [(57, 31), (57, 32), (57, 34), (57, 35), (57, 36), (57, 37), (57, 17), (57, 42), (57, 43), (57, 44)] M (uM Mc9 73 (40 + v7) v11) := Fr.uA hF5 (by decide)
                have hm6 : MRS (uM Mc9 73 (40 + v7) v11) r n (pmM r n d S).2 := hm5.u (by decide)
                have hd6 : TD (uM Mc9 73 (40 + v7) v11) (upd1 d (58 + v7) (pmM r n d S).1) := by
                  rw [← hv5]
                  exact hd5.w3 (.inr ⟨by omega, by omega⟩) (by rw [mj4 (by omega) (by omega)]; omega)
                refine R_aload_0 hC dX12_clause1_126 ?_
                have hG12 : GR (uM Mc9 73 (40 + v7) v11) := (GR.uA (GR.fr hG8 hq10.1 (by decide +kernel)) (by decide +kernel) (.inl (by decide)))
                refine R_getR hC dX12_clause1_127 fl_12_59 (by decide) rfl (by decide) (by decide) (fi := 38) rfl (r := 73) (gr_57_38 hG12) ?_
                refine R_bipush hC dX12_clause1_130 (by decide +kernel) ⟨by decide, by decide⟩ ?_
                refine R_iload_2 hC dX12_clause1_132 ?_
                refine R_iadd hC dX12_clause1_133 ⟨by omega, by omega⟩ ?_
                refine R_aload_0 hC dX12_clause1_134 ?_
                refine R_iconst hC dX12_clause1_135 ⟨by decide, by decide⟩ ?_
                refine R_bipush hC dX12_clause1_136 (by decide +kernel) ⟨by decide, by decide⟩ ?_
                refine R_callVp (as := [vI _, vI _]) hC dX12_clause1_138 mo_12_number ml_12_244 (by decide) rfl rfl (c12_number  hG12 ((hF6 57 33 (by decide) (by decide)).trans hn) (fun j p q => (congrFun (hF6.row (by decide) (by decide)) j).trans (htp j p q)) (by omega) (by omega) hm6 (by omega)) rfl rfl hRm (by decide) (by decide) (Nat.le_of_ble_eq_true rfl) (fun v15 Mc13 hq14 => ?_)
                have hF7 : Fr [73, 74, 75, 76] [(57, 31), (57, 32), (57, 34), (57, 35), (57, 36), (57, 37), (57, 17), (57, 42), (57, 43), (57, 44)] M Mc13 := Fr.tt hF6 (hq14.1.mo (by simp) (by simp))
                have hm7 : MRS Mc13 r n (pmY r n d S).2 := hq14.2.1
                have hd7 := hd6.fr hq14.1 (by decide)
                have hv7 : v15 = (pmY r n d S).1 := hq14.2.2
                refine R_iastore hC dX12_clause1_141 (by decide) rfl (by omega) (by omega) ?_
                have hF8 : Fr [73, 74, 75, 76] [(57, 31), (57, 32), (57, 34), (57, 35), (57, 36), (57, 37), (57, 17), (57, 42), (57, 43), (57, 44)] M (uM Mc13 73 (70 + v7) v15) := Fr.uA hF7 (by decide)
                have hm8 : MRS (uM Mc13 73 (70 + v7) v15) r n (pmY r n d S).2 := hm7.u (by decide)
                have hd8 : TD (uM Mc13 73 (70 + v7) v15) (upd1 (upd1 d (58 + v7) (pmM r n d S).1) (88 + v7) (pmY r n d S).1) := by
                  rw [← hv7]
                  exact hd7.w3 (.inr ⟨by omega, by omega⟩) (by rw [mj4 (by omega) (by omega)]; omega)
                have hFo : ∀ a j, a ≠ 73 → a ≠ 76 → (a, j) ∉ ([(57, 31), (57, 32), (57, 34), (57, 35), (57, 36), (57, 37), (57, 17)] : List (Nat × Int)) → (uM Mc13 73 (70 + v7) v15) a j = M a j := fun a j p3 p5 p => (uM_h p3).trans ((hq14.1 a j (by simp) p).trans ((uM_h p3).trans ((hq10.1 a j (by simp) p).trans ((hq6.1 a j (by simp only [List.mem_singleton]; exact p5) p).trans (hq2.1 a j (by simp) (by simp at p ⊢; omega))))))
                have hFe : ∀ q, (uM Mc13 73 (70 + v7) v15) 76 q = (_ : Mem) 76 q := fun q => (uM_h (by decide)).trans ((hq14.1 76 q (by decide) (by simp)).trans ((uM_h (by decide)).trans (hq10.1 76 q (by decide) (by simp))))
                have hz : Fr [73, 74, 75, 76] [(57, 31), (57, 32), (57, 34), (57, 35), (57, 36), (57, 37), (57, 17), (57, 42), (57, 43), (57, 44)] M (uM Mc13 73 (70 + v7) v15) ∧ MRS (uM Mc13 73 (70 + v7) v15) r n (cl0 r n (d, fl, S)).2.2 ∧ ((cl0 r n (d, fl, S)).2.2.2.2.2.1 = 0 → TD (uM Mc13 73 (70 + v7) v15) (cl0 r n (d, fl, S)).1 ∧ ALd (uM Mc13 73 (70 + v7) v15) 75 28 (cl0 r n (d, fl, S)).1 ∧ ALd (uM Mc13 73 (70 + v7) v15) 76 58 (cl0 r n (d, fl, S)).1 ∧ (cl0 r n (d, fl, S)).2.1 = flS ((uM Mc13 73 (70 + v7) v15) 57 44)) := by
                  have eX := clb.2.2.2.1 (hw.symm.trans hw3)
                  rw [eX]
                  refine ⟨hF8, hm8, fun z => ?_⟩
                  have z0 : (pmY r n d S).2.2.2.2.1 = 0 := z
                  have zm : (pmM r n d S).2.2.2.2.1 = 0 := rn_f0 z0
                  have z1 : (hdW r n d 58 S).2.2.2.2.1 = 0 := rn_f0 zm
                  have k1 := hk4 z1
                  have k10 := k1.1
                  have bL := hdL_b (r := r) (n := n) (d := d) (S := S)
                  have bW := hdW_b (r := r) (n := n) (d := d) (b := 58) (S := S)
                  have bC : 1 ≤ (pmM r n d S).1 := (rn_b (r := r) (n := n) (S := (hdW r n d 58 S).2) (show (1 : Int) ≤ 3 by decide)).1
                  have eV : 58 + v7 = 58 + (hdL r n d S).1 * 6 + (hdW r n d 58 S).1 := by omega
                  have eW : 88 + v7 = 88 + (hdL r n d S).1 * 6 + (hdW r n d 58 S).1 := by omega
                  have eT : (pm0 r n d S).1 = upd1 (upd1 d (58 + (hdL r n d S).1 * 6 + (hdW r n d 58 S).1) (pmM r n d S).1) (88 + (hdL r n d S).1 * 6 + (hdW r n d 58 S).1) (pmY r n d S).1 := if_pos z0
                  show TD _ (pm0 r n d S).1 ∧ ALd _ 75 28 (pm0 r n d S).1 ∧ ALd _ 76 58 (pm0 r n d S).1 ∧ fl = _
                  rw [eT, ← eV, ← eW]
                  refine ⟨hd8, fun q q0 q1 => ?_, fun q q0 q1 => ?_, ?_⟩
                  · rw [hFo 75 q (by decide) (by decide) (by simp), upd1_o (by omega), upd1_o (by omega)]
                    exact h75 q q0 q1
                  · have y := h76 q q0 q1
                    have y2 := hq2.1 76 q (by decide) (by simp)
                    rw [hFe q, k1.2 q]
                    by_cases e : q = v7
                    · rw [if_pos e, e, upd1_o (by omega), upd1_e, bP_pos (by omega)]
                    · rw [if_neg e, upd1_o (by omega), upd1_o (by omega), y2]
                      exact y
                  · rw [hFo 57 44 (by decide) (by decide) (by decide), hst]
                    exact hfl
                exact R_return hC dX12_clause1_142 rfl (ret_V hz)
            refine R_icmp_ne hC dX12_clause1_87 (tgt := 94) (by decide) (fun hb87 => ?_) (fun hb87 => ?_)
            · skip
              refine R_iconst hC dX12_clause1_94 ⟨by decide, by decide⟩ ?_
              exact L95 _ (by first | exact (bP_pos (by first | assumption | omega)).symm | exact (bP_neg (by first | assumption | omega)).symm)
            · skip
              refine R_iconst hC dX12_clause1_90 ⟨by decide, by decide⟩ ?_
              refine R_goto hC dX12_clause1_91 (tgt := 95) (by decide) ?_
              exact L95 _ (by first | exact (bP_pos (by first | assumption | omega)).symm | exact (bP_neg (by first | assumption | omega)).symm)
          · skip
            refine R_aload_0 hC dX12_clause1_57 ?_
            refine R_aload_0 hC dX12_clause1_58 ?_
            refine R_getR hC dX12_clause1_59 fl_12_65 (by decide) rfl (by decide) (by decide) (fi := 40) rfl (r := 75) (gr_57_40 hG) ?_
            refine R_callVp (as := [vR _]) hC dX12_clause1_62 mo_12_cell1 ml_12_262 (by decide) rfl rfl (c12_cell1_75  hG hn htp (by omega) (by omega) hm hd hf (by omega) (by omega) (by omega) (by omega) h75) rfl rfl hRm (by decide) (by decide) (Nat.le_of_ble_eq_true rfl) (fun v18 Mc16 hq17 => ?_)
            have hF1 : Fr [73, 74, 75, 76] [(57, 31), (57, 32), (57, 34), (57, 35), (57, 36), (57, 37), (57, 17), (57, 42), (57, 43), (57, 44)] M Mc16 := hq17.1.mo (by simp) (by simp)
            have hm1 := hq17.2.1
            have hd1 := hq17.2.2.1
            have hk1 := hq17.2.2.2.1
            have hv0 := hq17.2.2.2.2.1
            have hv1 := hq17.2.2.2.2.2
            refine R_istore_2 hC dX12_clause1_65 rfl ?_
            refine R_aload_0 hC dX12_clause1_66 ?_
            have hG19 : GR Mc16 := (GR.fr hG hq17.1 (by decide +kernel))
            refine R_getR hC dX12_clause1_67 fl_12_59 (by decide) rfl (by decide) (by decide) (fi := 38) rfl (r := 73) (gr_57_38 hG19) ?_
            refine R_bipush hC dX12_clause1_70 (by decide +kernel) ⟨by decide, by decide⟩ ?_
            refine R_iload_2 hC dX12_clause1_72 ?_
            refine R_iadd hC dX12_clause1_73 ⟨by omega, by omega⟩ ?_
            refine R_aload_0 hC dX12_clause1_74 ?_
            refine R_iconst hC dX12_clause1_75 ⟨by decide, by decide⟩ ?_
            refine R_iconst hC dX12_clause1_76 ⟨by decide, by decide⟩ ?_
            refine R_callVp (as := [vI _, vI _]) hC dX12_clause1_77 mo_12_number ml_12_244 (by decide) rfl rfl (c12_number  hG19 ((hF1 57 33 (by decide) (by decide)).trans hn) (fun j p q => (congrFun (hF1.row (by decide) (by decide)) j).trans (htp j p q)) (by omega) (by omega) hm1 (by omega)) rfl rfl hRm (by decide) (by decide) (Nat.le_of_ble_eq_true rfl) (fun v22 Mc20 hq21 => ?_)
            have hF2 : Fr [73, 74, 75, 76] [(57, 31), (57, 32), (57, 34), (57, 35), (57, 36), (57, 37), (57, 17), (57, 42), (57, 43), (57, 44)] M Mc20 := Fr.tt hF1 (hq21.1.mo (by simp) (by simp))
            have hm2 : MRS Mc20 r n (hdC r n d S).2 := hq21.2.1
            have hd2 := hd1.fr hq21.1 (by decide)
            have hvn : v22 = (hdC r n d S).1 := hq21.2.2
            refine R_iastore hC dX12_clause1_80 (by decide) rfl (by omega) (by omega) ?_
            have hF3 : Fr [73, 74, 75, 76] [(57, 31), (57, 32), (57, 34), (57, 35), (57, 36), (57, 37), (57, 17), (57, 42), (57, 43), (57, 44)] M (uM Mc20 73 (10 + v18) v22) := Fr.uA hF2 (by decide)
            have hm3 : MRS (uM Mc20 73 (10 + v18) v22) r n (hdC r n d S).2 := hm2.u (by decide)
            have hd3 : TD (uM Mc20 73 (10 + v18) v22) (upd1 d (28 + v18) (hdC r n d S).1) := by
              rw [← hvn]
              exact hd2.w3 (.inr ⟨by omega, by omega⟩) (by rw [mj4 (by omega) (by omega)]; omega)
            have hFo : ∀ a j, a ≠ 73 → a ≠ 75 → (a, j) ∉ ([(57, 31), (57, 32), (57, 34), (57, 35), (57, 36), (57, 37), (57, 17)] : List (Nat × Int)) → (uM Mc20 73 (10 + v18) v22) a j = M a j := fun a j p3 p5 p => (uM_h p3).trans ((hq21.1 a j (by simp) p).trans (hq17.1 a j (by simp only [List.mem_singleton]; exact p5) p))
            have hFe : ∀ q, (uM Mc20 73 (10 + v18) v22) 75 q = (_ : Mem) 75 q := fun q => (uM_h (by decide)).trans (hq21.1 75 q (by decide) (by simp))
            have hz : Fr [73, 74, 75, 76] [(57, 31), (57, 32), (57, 34), (57, 35), (57, 36), (57, 37), (57, 17), (57, 42), (57, 43), (57, 44)] M (uM Mc20 73 (10 + v18) v22) ∧ MRS (uM Mc20 73 (10 + v18) v22) r n (cl0 r n (d, fl, S)).2.2 ∧ ((cl0 r n (d, fl, S)).2.2.2.2.2.1 = 0 → TD (uM Mc20 73 (10 + v18) v22) (cl0 r n (d, fl, S)).1 ∧ ALd (uM Mc20 73 (10 + v18) v22) 75 28 (cl0 r n (d, fl, S)).1 ∧ ALd (uM Mc20 73 (10 + v18) v22) 76 58 (cl0 r n (d, fl, S)).1 ∧ (cl0 r n (d, fl, S)).2.1 = flS ((uM Mc20 73 (10 + v18) v22) 57 44)) := by
              have eX := clb.2.2.1 (hw.symm.trans hb54)
              rw [eX]
              refine ⟨hF3, hm3, fun z => ?_⟩
              have z0 : (hdC r n d S).2.2.2.2.1 = 0 := z
              have z1 : (hdW r n d 28 S).2.2.2.2.1 = 0 := rn_f0 z0
              have k1 := hk1 z1
              have k10 := k1.1
              have bL := hdL_b (r := r) (n := n) (d := d) (S := S)
              have bW := hdW_b (r := r) (n := n) (d := d) (b := 28) (S := S)
              have bC : 1 ≤ (hdC r n d S).1 := (rn_b (r := r) (n := n) (S := (hdW r n d 28 S).2) (show (1 : Int) ≤ 3 by decide)).1
              have eV : 28 + v18 = 28 + (hdL r n d S).1 * 6 + (hdW r n d 28 S).1 := by omega
              have eT : (hd0 r n d S).1 = upd1 d (28 + (hdL r n d S).1 * 6 + (hdW r n d 28 S).1) (hdC r n d S).1 := if_pos z0
              show TD _ (hd0 r n d S).1 ∧ ALd _ 75 28 (hd0 r n d S).1 ∧ ALd _ 76 58 (hd0 r n d S).1 ∧ fl = _
              rw [eT, ← eV]
              refine ⟨hd3, fun q q0 q1 => ?_, fun q q0 q1 => ?_, ?_⟩
              · have y := h75 q q0 q1
                rw [hFe q, k1.2 q]
                by_cases e : q = v18
                · rw [if_pos e, e, upd1_e, bP_pos (by omega)]
                · rw [if_neg e, upd1_o (by omega)]
                  exact y
              · rw [hFo 76 q (by decide) (by decide) (by simp), upd1_o (by omega)]
                exact h76 q q0 q1
              · rw [hFo 57 44 (by decide) (by decide) (by decide), hst]
                exact hfl
            refine R_goto hC dX12_clause1_81 (tgt := 142) (by decide) ?_
            exact R_return hC dX12_clause1_142 rfl (ret_V hz)
        · skip
          refine R_aload_0 hC dX12_clause1_45 ?_
          refine R_callVv (as := []) hC dX12_clause1_46 mo_12_work1 ml_12_259 (by decide) rfl rfl (c12_work1  hG hn htp (by omega) (by omega) hm hd hf (by omega) (by omega)) rfl rfl hRm (by decide) (by decide) (Nat.le_of_ble_eq_true rfl) (fun Mc23 hq24 => ?_)
          have hz : Fr [73, 74, 75, 76] [(57, 31), (57, 32), (57, 34), (57, 35), (57, 36), (57, 37), (57, 17), (57, 42), (57, 43), (57, 44)] M Mc23 ∧ MRS Mc23 r n (cl0 r n (d, fl, S)).2.2 ∧ ((cl0 r n (d, fl, S)).2.2.2.2.2.1 = 0 → TD Mc23 (cl0 r n (d, fl, S)).1 ∧ ALd Mc23 75 28 (cl0 r n (d, fl, S)).1 ∧ ALd Mc23 76 58 (cl0 r n (d, fl, S)).1 ∧ (cl0 r n (d, fl, S)).2.1 = flS (Mc23 57 44)) := by
            have eX := clb.2.1 (hw.symm.trans hb42)
            rw [eX]
            refine ⟨hq24.1.mo (by simp) (by simp), hq24.2.1, fun _ => ⟨hq24.2.2, h75.of (.inl rfl) (fun q => hq24.1 75 q (by decide) (by simp)) (fun k a b => wk0_o hW0 a (by omega)), h76.of (.inr rfl) (fun q => hq24.1 76 q (by decide) (by simp)) (fun k a b => wk0_o hW0 a (by omega)), ?_⟩⟩
            rw [show Mc23 57 44 = s1 from (hq24.1 57 44 (by decide) (by decide)).trans hst]
            exact hfl
          refine R_goto hC dX12_clause1_49 (tgt := 142) (by decide) ?_
          exact R_return hC dX12_clause1_142 rfl (ret_V hz)
      · skip
        refine R_aload_0 hC dX12_clause1_33 ?_
        refine R_callVv (as := []) hC dX12_clause1_34 mo_12_library1 ml_12_256 (by decide) rfl rfl (c12_library1  hG hn htp (by omega) (by omega) hm hd hf (by omega) (by omega)) rfl rfl hRm (by decide) (by decide) (Nat.le_of_ble_eq_true rfl) (fun Mc25 hq26 => ?_)
        have hz : Fr [73, 74, 75, 76] [(57, 31), (57, 32), (57, 34), (57, 35), (57, 36), (57, 37), (57, 17), (57, 42), (57, 43), (57, 44)] M Mc25 ∧ MRS Mc25 r n (cl0 r n (d, fl, S)).2.2 ∧ ((cl0 r n (d, fl, S)).2.2.2.2.2.1 = 0 → TD Mc25 (cl0 r n (d, fl, S)).1 ∧ ALd Mc25 75 28 (cl0 r n (d, fl, S)).1 ∧ ALd Mc25 76 58 (cl0 r n (d, fl, S)).1 ∧ (cl0 r n (d, fl, S)).2.1 = flS (Mc25 57 44)) := by
          have eX := clb.1 (hw.symm.trans hb30)
          rw [eX]
          refine ⟨hq26.1.mo (by simp) (by simp), hq26.2.1, fun _ => ⟨hq26.2.2, h75.of (.inl rfl) (fun q => hq26.1 75 q (by decide) (by simp)) (fun k a b => lb0_o hL0 a (by omega)), h76.of (.inr rfl) (fun q => hq26.1 76 q (by decide) (by simp)) (fun k a b => lb0_o hL0 a (by omega)), ?_⟩⟩
          rw [show Mc25 57 44 = s1 from (hq26.1 57 44 (by decide) (by decide)).trans hst]
          exact hfl
        refine R_goto hC dX12_clause1_37 (tgt := 142) (by decide) ?_
        exact R_return hC dX12_clause1_142 rfl (ret_V hz)
    · skip
      refine R_aload_0 hC dX12_clause1_22 ?_
      refine R_callVv (as := []) hC dX12_clause1_23 mo_12_storeTold ml_12_253 (by decide) rfl rfl (c12_storeTold  hG hn htp (by omega) (by omega) hm hd hf hst) rfl rfl hRm (by decide) (by decide) (Nat.le_of_ble_eq_true rfl) (fun Mc27 hq28 => ?_)
      have hz : Fr [73, 74, 75, 76] [(57, 31), (57, 32), (57, 34), (57, 35), (57, 36), (57, 37), (57, 17), (57, 42), (57, 43), (57, 44)] M Mc27 ∧ MRS Mc27 r n (cl0 r n (d, fl, S)).2.2 ∧ ((cl0 r n (d, fl, S)).2.2.2.2.2.1 = 0 → TD Mc27 (cl0 r n (d, fl, S)).1 ∧ ALd Mc27 75 28 (cl0 r n (d, fl, S)).1 ∧ ALd Mc27 76 58 (cl0 r n (d, fl, S)).1 ∧ (cl0 r n (d, fl, S)).2.1 = flS (Mc27 57 44)) := by
        have eX := clb.2.2.2.2.1 (hw.symm.trans hb19)
        rw [eX]
        refine ⟨hq28.1.mo (by simp) (by simp), ?_, fun _ => ?_⟩
        · by_cases z : s1 = -1
          · have y := hq28.2.1
            rw [itc_t z] at y
            show MRS _ r n (if fl = 0 then _ else _)
            rw [if_pos (by rw [hfl]; exact if_pos z)]
            exact y
          · have y := hq28.2.1
            rw [itc_f z] at y
            show MRS _ r n (if fl = 0 then _ else _)
            rw [if_neg (by rw [hfl, flS, if_neg z]; decide)]
            exact y
        · have t := hq28.2.2.1
          have u := hq28.2.2.2
          have b9 := rn_b (r := r) (n := n) (S := nxR r n S) (show (0 : Int) ≤ 20 by decide)
          show TD _ (if fl = 0 then _ else _) ∧ ALd _ 75 28 (if fl = 0 then _ else _) ∧ ALd _ 76 58 (if fl = 0 then _ else _) ∧ (if fl = 0 then _ else _) = _
          by_cases z : s1 = -1
          · rw [itc_t z] at t u
            have ff : fl = 0 := by rw [hfl]; exact if_pos z
            rw [if_pos ff, if_pos ff, u]
            refine ⟨t, h75.of (.inl rfl) (fun q => hq28.1 75 q (by decide) (by simp)) (fun k a b => upd1_o (by omega)), h76.of (.inr rfl) (fun q => hq28.1 76 q (by decide) (by simp)) (fun k a b => upd1_o (by omega)), ?_⟩
            exact (if_neg (by omega)).symm
          · rw [itc_f z] at t u
            have nf : ¬ fl = 0 := by rw [hfl, flS, if_neg z]; decide
            rw [if_neg nf, if_neg nf, u]
            exact ⟨t, h75.of (.inl rfl) (fun q => hq28.1 75 q (by decide) (by simp)) (fun k a b => rfl), h76.of (.inr rfl) (fun q => hq28.1 76 q (by decide) (by simp)) (fun k a b => rfl), hfl⟩
      refine R_goto hC dX12_clause1_26 (tgt := 142) (by decide) ?_
      exact R_return hC dX12_clause1_142 rfl (ret_V hz)
  refine R_icmp_ne hC dX12_clause1_5 (tgt := 15) (by decide) (fun hb5 => ?_) (fun hb5 => ?_)
  · skip
    refine R_iconst hC dX12_clause1_15 ⟨by decide, by decide⟩ ?_
    exact L16 _ (by first | exact (if_pos hb5).symm | exact (if_neg hb5).symm)
  · skip
    refine R_aload_0 hC dX12_clause1_8 ?_
    refine R_getIE hC dX12_clause1_9 fl_12_213 (by decide) rfl (by decide) (by decide) (fi := 36) rfl (hm.2.1.2.trans (if_pos hb5)) ?_
    refine R_goto hC dX12_clause1_12 (tgt := 16) (by decide) ?_
    exact L16 _ (by first | exact (if_pos hb5).symm | exact (if_neg hb5).symm)
