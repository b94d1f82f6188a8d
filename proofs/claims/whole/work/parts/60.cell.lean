/-! the model's reader: a library and a work -/
theorem scnF_all {P : Int → Prop} {n : Int} : ∀ (k : Nat) (a j : Int), a ≤ j → j < scnF P n k a → P j
  | 0, a, j, h, g => absurd g (by show ¬ j < a; omega)
  | k + 1, a, j, h, g => by
    rw [scnF] at g
    by_cases q : P a
    · rw [if_pos q] at g
      by_cases e : j = a
      · rw [e]; exact q
      · exact scnF_all k (a + 1) j (by omega) g
    · rw [if_neg q] at g
      omega
theorem nmF_0 {r : Int → Int} {n s : Int} : ∀ k : Nat, (∀ j, s ≤ j → j < s + k → 48 ≤ byA r n j) → 0 ≤ nmF r n s k
  | 0, _ => Int.le_refl _
  | k + 1, h => by
    have a := nmF_0 k (fun j p q => h j p (by omega))
    have b := h (s + k) (by omega) (by omega)
    rw [nmF]
    omega
theorem vl_nx {r : Int → Int} {n e : Int} : 0 ≤ vlV r n (nxT r n e) := by
  unfold nxT
  generalize scn (fun j => blP (byA r n j)) n e = s
  by_cases h0 : n ≤ s
  · rw [nx_0 h0]; exact Int.le_of_eq (if_neg (by show ¬ (0 : Int) = 2; decide)).symm
  · have h0 : s < n := by omega
    by_cases h1 : ltP (byA r n s)
    · rw [nx_1 h0 h1]; exact Int.le_of_eq (if_neg (by show ¬ (1 : Int) = 2; decide)).symm
    · by_cases h2 : dgP (byA r n s)
      · rw [nx_2 h0 h1 h2]
        obtain ⟨Q, hQ⟩ : ∃ Q, Q = scn (fun j => dgP (byA r n j)) n (s + 1) := ⟨_, rfl⟩
        rw [← hQ]
        show 0 ≤ (if (2 : Int) = 2 then (if Q - s ≤ 2 then nmF r n s (Q - s).toNat else 999) else 0)
        rw [if_pos rfl]
        split
        · refine nmF_0 _ (fun j p q => ?_)
          by_cases z : j = s
          · rw [z]; exact h2.1
          · have y : j < scn (fun j => dgP (byA r n j)) n (s + 1) := by rw [← hQ]; omega
            exact (scnF_all (P := fun j => dgP (byA r n j)) _ (s + 1) j (by omega) y).1
        · decide
      · by_cases h3 : byA r n s = 59
        · rw [nx_3 h0 h1 h2 h3]; exact Int.le_of_eq (if_neg (by show ¬ (3 : Int) = 2; decide)).symm
        · rw [nx_4 h0 h1 h2 h3]; exact Int.le_of_eq (if_neg (by show ¬ (4 : Int) = 2; decide)).symm

theorem dX12_cell1_0 : decode cX12_cell1 0 = .ok (.aload_n 0, 1) := by decide +kernel
theorem dX12_cell1_1 : decode cX12_cell1 1 = .ok (.invokevirtual 238, 3) := by decide +kernel
theorem dX12_cell1_4 : decode cX12_cell1 4 = .ok (.aload_n 0, 1) := by decide +kernel
theorem dX12_cell1_5 : decode cX12_cell1 5 = .ok (.aload_n 0, 1) := by decide +kernel
theorem dX12_cell1_6 : decode cX12_cell1 6 = .ok (.getfield 219, 3) := by decide +kernel
theorem dX12_cell1_9 : decode cX12_cell1 9 = .ok (.iconst 2, 1) := by decide +kernel
theorem dX12_cell1_10 : decode cX12_cell1 10 = .ok (.if_icmp .ne 7, 3) := by decide +kernel
theorem dX12_cell1_13 : decode cX12_cell1 13 = .ok (.iconst 1, 1) := by decide +kernel
theorem dX12_cell1_14 : decode cX12_cell1 14 = .ok (.goto 4, 3) := by decide +kernel
theorem dX12_cell1_17 : decode cX12_cell1 17 = .ok (.iconst 0, 1) := by decide +kernel
theorem dX12_cell1_18 : decode cX12_cell1 18 = .ok (.iconst 1, 1) := by decide +kernel
theorem dX12_cell1_19 : decode cX12_cell1 19 = .ok (.invokevirtual 231, 3) := by decide +kernel
theorem dX12_cell1_22 : decode cX12_cell1 22 = .ok (.ifCond .eq 48, 3) := by decide +kernel
theorem dX12_cell1_25 : decode cX12_cell1 25 = .ok (.aload_n 0, 1) := by decide +kernel
theorem dX12_cell1_26 : decode cX12_cell1 26 = .ok (.aload_n 0, 1) := by decide +kernel
theorem dX12_cell1_27 : decode cX12_cell1 27 = .ok (.getfield 216, 3) := by decide +kernel
theorem dX12_cell1_30 : decode cX12_cell1 30 = .ok (.iconst 5, 1) := by decide +kernel
theorem dX12_cell1_31 : decode cX12_cell1 31 = .ok (.if_icmp .ge 7, 3) := by decide +kernel
theorem dX12_cell1_34 : decode cX12_cell1 34 = .ok (.iconst 1, 1) := by decide +kernel
theorem dX12_cell1_35 : decode cX12_cell1 35 = .ok (.goto 4, 3) := by decide +kernel
theorem dX12_cell1_38 : decode cX12_cell1 38 = .ok (.iconst 0, 1) := by decide +kernel
theorem dX12_cell1_39 : decode cX12_cell1 39 = .ok (.iconst 2, 1) := by decide +kernel
theorem dX12_cell1_40 : decode cX12_cell1 40 = .ok (.invokevirtual 231, 3) := by decide +kernel
theorem dX12_cell1_43 : decode cX12_cell1 43 = .ok (.ifCond .eq 27, 3) := by decide +kernel
theorem dX12_cell1_46 : decode cX12_cell1 46 = .ok (.aload_n 0, 1) := by decide +kernel
theorem dX12_cell1_47 : decode cX12_cell1 47 = .ok (.aload_n 0, 1) := by decide +kernel
theorem dX12_cell1_48 : decode cX12_cell1 48 = .ok (.getfield 216, 3) := by decide +kernel
theorem dX12_cell1_51 : decode cX12_cell1 51 = .ok (.aload_n 0, 1) := by decide +kernel
theorem dX12_cell1_52 : decode cX12_cell1 52 = .ok (.getfield 241, 3) := by decide +kernel
theorem dX12_cell1_55 : decode cX12_cell1 55 = .ok (.if_icmp .ge 7, 3) := by decide +kernel
theorem dX12_cell1_58 : decode cX12_cell1 58 = .ok (.iconst 1, 1) := by decide +kernel
theorem dX12_cell1_59 : decode cX12_cell1 59 = .ok (.goto 4, 3) := by decide +kernel
theorem dX12_cell1_62 : decode cX12_cell1 62 = .ok (.iconst 0, 1) := by decide +kernel
theorem dX12_cell1_63 : decode cX12_cell1 63 = .ok (.iconst 3, 1) := by decide +kernel
theorem dX12_cell1_64 : decode cX12_cell1 64 = .ok (.invokevirtual 231, 3) := by decide +kernel
theorem dX12_cell1_67 : decode cX12_cell1 67 = .ok (.ifCond .ne 5, 3) := by decide +kernel
theorem dX12_cell1_70 : decode cX12_cell1 70 = .ok (.iconst 0, 1) := by decide +kernel
theorem dX12_cell1_71 : decode cX12_cell1 71 = .ok (.ireturn, 1) := by decide +kernel
theorem dX12_cell1_72 : decode cX12_cell1 72 = .ok (.aload_n 0, 1) := by decide +kernel
theorem dX12_cell1_73 : decode cX12_cell1 73 = .ok (.getfield 216, 3) := by decide +kernel
theorem dX12_cell1_76 : decode cX12_cell1 76 = .ok (.istore_n 2, 1) := by decide +kernel
theorem dX12_cell1_77 : decode cX12_cell1 77 = .ok (.aload_n 0, 1) := by decide +kernel
theorem dX12_cell1_78 : decode cX12_cell1 78 = .ok (.invokevirtual 238, 3) := by decide +kernel
theorem dX12_cell1_81 : decode cX12_cell1 81 = .ok (.aload_n 0, 1) := by decide +kernel
theorem dX12_cell1_82 : decode cX12_cell1 82 = .ok (.aload_n 0, 1) := by decide +kernel
theorem dX12_cell1_83 : decode cX12_cell1 83 = .ok (.getfield 219, 3) := by decide +kernel
theorem dX12_cell1_86 : decode cX12_cell1 86 = .ok (.iconst 2, 1) := by decide +kernel
theorem dX12_cell1_87 : decode cX12_cell1 87 = .ok (.if_icmp .ne 7, 3) := by decide +kernel
theorem dX12_cell1_90 : decode cX12_cell1 90 = .ok (.iconst 1, 1) := by decide +kernel
theorem dX12_cell1_91 : decode cX12_cell1 91 = .ok (.goto 4, 3) := by decide +kernel
theorem dX12_cell1_94 : decode cX12_cell1 94 = .ok (.iconst 0, 1) := by decide +kernel
theorem dX12_cell1_95 : decode cX12_cell1 95 = .ok (.iconst 1, 1) := by decide +kernel
theorem dX12_cell1_96 : decode cX12_cell1 96 = .ok (.invokevirtual 231, 3) := by decide +kernel
theorem dX12_cell1_99 : decode cX12_cell1 99 = .ok (.ifCond .eq 75, 3) := by decide +kernel
theorem dX12_cell1_102 : decode cX12_cell1 102 = .ok (.aload_n 0, 1) := by decide +kernel
theorem dX12_cell1_103 : decode cX12_cell1 103 = .ok (.aload_n 0, 1) := by decide +kernel
theorem dX12_cell1_104 : decode cX12_cell1 104 = .ok (.getfield 216, 3) := by decide +kernel
theorem dX12_cell1_107 : decode cX12_cell1 107 = .ok (.bipush 6, 2) := by decide +kernel
theorem dX12_cell1_109 : decode cX12_cell1 109 = .ok (.if_icmp .ge 7, 3) := by decide +kernel
theorem dX12_cell1_112 : decode cX12_cell1 112 = .ok (.iconst 1, 1) := by decide +kernel
theorem dX12_cell1_113 : decode cX12_cell1 113 = .ok (.goto 4, 3) := by decide +kernel
theorem dX12_cell1_116 : decode cX12_cell1 116 = .ok (.iconst 0, 1) := by decide +kernel
theorem dX12_cell1_117 : decode cX12_cell1 117 = .ok (.iconst 2, 1) := by decide +kernel
theorem dX12_cell1_118 : decode cX12_cell1 118 = .ok (.invokevirtual 231, 3) := by decide +kernel
theorem dX12_cell1_121 : decode cX12_cell1 121 = .ok (.ifCond .eq 53, 3) := by decide +kernel
theorem dX12_cell1_124 : decode cX12_cell1 124 = .ok (.aload_n 0, 1) := by decide +kernel
theorem dX12_cell1_125 : decode cX12_cell1 125 = .ok (.aload_n 0, 1) := by decide +kernel
theorem dX12_cell1_126 : decode cX12_cell1 126 = .ok (.getfield 216, 3) := by decide +kernel
theorem dX12_cell1_129 : decode cX12_cell1 129 = .ok (.aload_n 0, 1) := by decide +kernel
theorem dX12_cell1_130 : decode cX12_cell1 130 = .ok (.getfield 247, 3) := by decide +kernel
theorem dX12_cell1_133 : decode cX12_cell1 133 = .ok (.if_icmp .ge 7, 3) := by decide +kernel
theorem dX12_cell1_136 : decode cX12_cell1 136 = .ok (.iconst 1, 1) := by decide +kernel
theorem dX12_cell1_137 : decode cX12_cell1 137 = .ok (.goto 4, 3) := by decide +kernel
theorem dX12_cell1_140 : decode cX12_cell1 140 = .ok (.iconst 0, 1) := by decide +kernel
theorem dX12_cell1_141 : decode cX12_cell1 141 = .ok (.iconst 3, 1) := by decide +kernel
theorem dX12_cell1_142 : decode cX12_cell1 142 = .ok (.invokevirtual 231, 3) := by decide +kernel
theorem dX12_cell1_145 : decode cX12_cell1 145 = .ok (.ifCond .eq 29, 3) := by decide +kernel
theorem dX12_cell1_148 : decode cX12_cell1 148 = .ok (.aload_n 0, 1) := by decide +kernel
theorem dX12_cell1_149 : decode cX12_cell1 149 = .ok (.aload_n 1, 1) := by decide +kernel
theorem dX12_cell1_150 : decode cX12_cell1 150 = .ok (.iload_n 2, 1) := by decide +kernel
theorem dX12_cell1_151 : decode cX12_cell1 151 = .ok (.aload_n 0, 1) := by decide +kernel
theorem dX12_cell1_152 : decode cX12_cell1 152 = .ok (.getfield 216, 3) := by decide +kernel
theorem dX12_cell1_155 : decode cX12_cell1 155 = .ok (.invokestatic 87, 3) := by decide +kernel
theorem dX12_cell1_158 : decode cX12_cell1 158 = .ok (.baload, 1) := by decide +kernel
theorem dX12_cell1_159 : decode cX12_cell1 159 = .ok (.ifCond .ne 7, 3) := by decide +kernel
theorem dX12_cell1_162 : decode cX12_cell1 162 = .ok (.iconst 1, 1) := by decide +kernel
theorem dX12_cell1_163 : decode cX12_cell1 163 = .ok (.goto 4, 3) := by decide +kernel
theorem dX12_cell1_166 : decode cX12_cell1 166 = .ok (.iconst 0, 1) := by decide +kernel
theorem dX12_cell1_167 : decode cX12_cell1 167 = .ok (.iconst 4, 1) := by decide +kernel
theorem dX12_cell1_168 : decode cX12_cell1 168 = .ok (.invokevirtual 231, 3) := by decide +kernel
theorem dX12_cell1_171 : decode cX12_cell1 171 = .ok (.ifCond .ne 5, 3) := by decide +kernel
theorem dX12_cell1_174 : decode cX12_cell1 174 = .ok (.iconst 0, 1) := by decide +kernel
theorem dX12_cell1_175 : decode cX12_cell1 175 = .ok (.ireturn, 1) := by decide +kernel
theorem dX12_cell1_176 : decode cX12_cell1 176 = .ok (.iload_n 2, 1) := by decide +kernel
theorem dX12_cell1_177 : decode cX12_cell1 177 = .ok (.aload_n 0, 1) := by decide +kernel
theorem dX12_cell1_178 : decode cX12_cell1 178 = .ok (.getfield 216, 3) := by decide +kernel
theorem dX12_cell1_181 : decode cX12_cell1 181 = .ok (.invokestatic 87, 3) := by decide +kernel
theorem dX12_cell1_184 : decode cX12_cell1 184 = .ok (.istore_n 3, 1) := by decide +kernel
theorem dX12_cell1_185 : decode cX12_cell1 185 = .ok (.aload_n 1, 1) := by decide +kernel
theorem dX12_cell1_186 : decode cX12_cell1 186 = .ok (.iload_n 3, 1) := by decide +kernel
theorem dX12_cell1_187 : decode cX12_cell1 187 = .ok (.iconst 1, 1) := by decide +kernel
theorem dX12_cell1_188 : decode cX12_cell1 188 = .ok (.bastore, 1) := by decide +kernel
theorem dX12_cell1_189 : decode cX12_cell1 189 = .ok (.aload_n 0, 1) := by decide +kernel
theorem dX12_cell1_190 : decode cX12_cell1 190 = .ok (.invokevirtual 238, 3) := by decide +kernel
theorem dX12_cell1_193 : decode cX12_cell1 193 = .ok (.iload_n 3, 1) := by decide +kernel
theorem dX12_cell1_194 : decode cX12_cell1 194 = .ok (.ireturn, 1) := by decide +kernel
set_option maxHeartbeats 2000000 in
theorem c12_cell1_75 {G : Gl} {l : Launch}  {M : Mem} {d : Int → Int} {n : Int} {r : Int → Int} {S : RT} (hG : GR M) (hn : M 57 33 = n) (htp : ∀ k, 0 ≤ k → k < n → M 62 k = r k % 2 ^ 8) (hn0 : 0 ≤ n) (hn1 : n ≤ 700) (hm : MRS M r n S) (hd : TD M d) (hf : S.2.2.2.1 = 0) (hw0 : 0 ≤ d 122) (hw1 : d 122 ≤ 6) (hL0 : 0 ≤ d 121) (hL1 : d 121 ≤ 5) (hal : ∀ q, 0 ≤ q → q < 30 → M 75 q = bP (0 < d (28 + q))) : Ct G LY 82 l 3 m12_cell1 [vR 57, vR 75] M (RP (fun v M' => Fr [75] [(57, 31), (57, 32), (57, 34), (57, 35), (57, 36), (57, 37), (57, 17)] M M' ∧ MRS M' r n (hdW r n d 28 S).2 ∧ TD M' d ∧ ((hdW r n d 28 S).2.2.2.2.1 = 0 → v = 6 * (hdL r n d S).1 + (hdW r n d 28 S).1 ∧ ∀ q, M' 75 q = if q = v then 1 else M 75 q) ∧ 0 ≤ v ∧ v < 30)) := by
  refine R_start (by decide +kernel) (Nat.le_of_ble_eq_true rfl) (fun C hC hRm hlau => ?_)
  show RZ G LY C (Zn G LY 82 C (RP (fun v M' => Fr [75] [(57, 31), (57, 32), (57, 34), (57, 35), (57, 36), (57, 37), (57, 17)] M M' ∧ MRS M' r n (hdW r n d 28 S).2 ∧ TD M' d ∧ ((hdW r n d 28 S).2.2.2.2.1 = 0 → v = 6 * (hdL r n d S).1 + (hdW r n d 28 S).1 ∧ ∀ q, M' 75 q = if q = v then 1 else M 75 q) ∧ 0 ≤ v ∧ v < 30))) 0 0 82 0 [some (vR 57), some (vR 75), none, none] [] M
  have hg0 := hm.2.2
  have hs0 := hg0.1
  have hs1 := hg0.2.1
  have hs2 := hg0.2.2
  refine R_aload_0 hC dX12_cell1_0 ?_
  refine R_callVv (as := []) hC dX12_cell1_1 mo_12_go ml_12_238 (by decide) rfl rfl (c12_go (e := S.2.2.1) hG hn htp (by omega) (by omega) hm.e (by omega) (by omega)) rfl rfl hRm (by decide) (by decide) (Nat.le_of_ble_eq_true rfl) (fun Mc1 hq2 => ?_)
  have hFg1 : Fr [75] [(57, 31), (57, 32), (57, 34), (57, 35), (57, 36), (57, 37), (57, 17)] M Mc1 := hq2.1.mo (by simp) (by simp)
  have hm1 := hm.go hq2.1 hq2.2
  have hd1 := hd.fr hq2.1 (by decide)
  have hf1 : (nxR r n S).2.2.2.1 = 0 := hf
  have hf2 : (nxR r n (nxR r n S)).2.2.2.1 = 0 := hf
  have hg1 := hm1.2.2
  have hva0 : 0 ≤ (vlS r n (nxR r n S)) := vl_nx
  have hr0 := hg1.1
  have hr1 := hg1.2.1
  have hr2 := hg1.2.2
  refine R_aload_0 hC dX12_cell1_4 ?_
  refine R_aload_0 hC dX12_cell1_5 ?_
  refine R_getIE hC dX12_cell1_6 fl_12_219 (by decide) rfl (by decide) (by decide) (fi := 34) rfl hm1.k ?_
  refine R_iconst hC dX12_cell1_9 ⟨by decide, by decide⟩ ?_
  have L18 : ∀ (t : Int), (t = bP ((nxR r n S).1 = 2)) → RZ G LY C (Zn G LY 82 C (RP (fun v M' => Fr [75] [(57, 31), (57, 32), (57, 34), (57, 35), (57, 36), (57, 37), (57, 17)] M M' ∧ MRS M' r n (hdW r n d 28 S).2 ∧ TD M' d ∧ ((hdW r n d 28 S).2.2.2.2.1 = 0 → v = 6 * (hdL r n d S).1 + (hdW r n d 28 S).1 ∧ ∀ q, M' 75 q = if q = v then 1 else M 75 q) ∧ 0 ≤ v ∧ v < 30))) 0 0 82 18 [some (vR 57), some (vR 75), none, none] [vI t, vR 57] Mc1 := by
    intro t ht
    refine R_iconst hC dX12_cell1_18 ⟨by decide, by decide⟩ ?_
    have hG3 : GR Mc1 := (GR.fr hG hq2.1 (by decide +kernel))
    refine R_callVp (as := [vI _, vI _]) hC dX12_cell1_19 mo_12_wants ml_12_231 (by decide) rfl rfl (c12_wants  hG3) rfl rfl hRm (by decide) (by decide) (Nat.le_of_ble_eq_true rfl) (fun v6 Mc4 hq5 => ?_)
    have hmq : MRS Mc4 r n (itc ((nxR r n S).1 = 2) (nxR r n S) (refR 1 (nxR r n S))) := by
      have z := hm1.wt hq5.1 hq5.2.1
      by_cases y : (nxR r n S).1 = 2
      · rw [itc_t y]; rw [if_neg (fun w => bP_z (ht.symm.trans w) y)] at z; exact z
      · rw [itc_f y]; rw [if_pos (ht.trans (bP_neg y))] at z; exact z
    have hvv : v6 = bP ((nxR r n S).1 = 2) := by
      rw [hq5.2.2, hmq.f]
      by_cases z : (nxR r n S).1 = 2
      · rw [itc_t z, bP_pos z, bP_pos hf1]
      · rw [itc_f z, bP_neg z, bP_neg (rf_ne hf1 (by decide))]
    have hFA : Fr [75] [(57, 31), (57, 32), (57, 34), (57, 35), (57, 36), (57, 37), (57, 17)] M Mc4 := Fr.tt hFg1 (hq5.1.mo (by simp) (by simp))
    have hdA := hd1.fr hq5.1 (by decide)
    refine R_if_eq hC dX12_cell1_22 (tgt := 70) (by decide) (fun hb22 => ?_) (fun hb22 => ?_)
    · skip
      have no9 : ¬ ((nxR r n S).1 = 2) := bP_z (hvv.symm.trans hb22)
      have hmT : MRS Mc4 r n (refR 1 (nxR r n S)) := by rw [itc_f no9] at hmq; exact hmq
      have hfT := rf_ne (S := (nxR r n S)) (v := 1) hf1 (by decide)
      have hWT : hdW r n d 28 S = (0, (refR 1 (nxR r n S))) := by
        have hL : hdL r n d S = (0, (refR 1 (nxR r n S))) := no_1 hf1 no9
        unfold hdW
        rw [hL]
        exact no_bad hfT
      have hF9 := hFA
      refine R_iconst hC dX12_cell1_70 ⟨by decide, by decide⟩ ?_
      exact R_ireturn hC dX12_cell1_71 rfl (ret_P ⟨hF9, by (rw [hWT]; exact hmT), by first | exact hdA | exact hdB | exact hdC, fun z => absurd z (by rw [hWT]; exact hfT), by decide, by decide⟩)
    · skip
      have okA : (nxR r n S).1 = 2 := bP_nz (fun z => hb22 (hvv.trans z))
      have hmA : MRS Mc4 r n (nxR r n S) := by rw [itc_t okA] at hmq; exact hmq
      refine R_aload_0 hC dX12_cell1_25 ?_
      refine R_aload_0 hC dX12_cell1_26 ?_
      refine R_getIE hC dX12_cell1_27 fl_12_216 (by decide) rfl (by decide) (by decide) (fi := 35) rfl hmA.2.1.1 ?_
      refine R_iconst hC dX12_cell1_30 ⟨by decide, by decide⟩ ?_
      have L39 : ∀ (t : Int), (t = bP ((vlS r n (nxR r n S)) < 5)) → RZ G LY C (Zn G LY 82 C (RP (fun v M' => Fr [75] [(57, 31), (57, 32), (57, 34), (57, 35), (57, 36), (57, 37), (57, 17)] M M' ∧ MRS M' r n (hdW r n d 28 S).2 ∧ TD M' d ∧ ((hdW r n d 28 S).2.2.2.2.1 = 0 → v = 6 * (hdL r n d S).1 + (hdW r n d 28 S).1 ∧ ∀ q, M' 75 q = if q = v then 1 else M 75 q) ∧ 0 ≤ v ∧ v < 30))) 0 0 82 39 [some (vR 57), some (vR 75), none, none] [vI t, vR 57] Mc4 := by
        intro t ht
        refine R_iconst hC dX12_cell1_39 ⟨by decide, by decide⟩ ?_
        have hG7 : GR Mc4 := (GR.fr hG3 hq5.1 (by decide +kernel))
        refine R_callVp (as := [vI _, vI _]) hC dX12_cell1_40 mo_12_wants ml_12_231 (by decide) rfl rfl (c12_wants  hG7) rfl rfl hRm (by decide) (by decide) (Nat.le_of_ble_eq_true rfl) (fun v10 Mc8 hq9 => ?_)
        have hmq : MRS Mc8 r n (itc ((vlS r n (nxR r n S)) < 5) (nxR r n S) (refR 2 (nxR r n S))) := by
          have z := hmA.wt hq9.1 hq9.2.1
          by_cases y : (vlS r n (nxR r n S)) < 5
          · rw [itc_t y]; rw [if_neg (fun w => bP_z (ht.symm.trans w) y)] at z; exact z
          · rw [itc_f y]; rw [if_pos (ht.trans (bP_neg y))] at z; exact z
        have hvv : v10 = bP ((vlS r n (nxR r n S)) < 5) := by
          rw [hq9.2.2, hmq.f]
          by_cases z : (vlS r n (nxR r n S)) < 5
          · rw [itc_t z, bP_pos z, bP_pos hf1]
          · rw [itc_f z, bP_neg z, bP_neg (rf_ne hf1 (by decide))]
        have hFB : Fr [75] [(57, 31), (57, 32), (57, 34), (57, 35), (57, 36), (57, 37), (57, 17)] M Mc8 := Fr.tt hFA (hq9.1.mo (by simp) (by simp))
        have hdB := hdA.fr hq9.1 (by decide)
        refine R_if_eq hC dX12_cell1_43 (tgt := 70) (by decide) (fun hb43 => ?_) (fun hb43 => ?_)
        · skip
          have no9 : ¬ ((vlS r n (nxR r n S)) < 5) := bP_z (hvv.symm.trans hb43)
          have hmT : MRS Mc8 r n (refR 2 (nxR r n S)) := by rw [itc_f no9] at hmq; exact hmq
          have hfT := rf_ne (S := (nxR r n S)) (v := 2) hf1 (by decide)
          have hWT : hdW r n d 28 S = (0, (refR 2 (nxR r n S))) := by
            have hL : hdL r n d S = (0, (refR 2 (nxR r n S))) := no_2 hg1 hf1 okA (by decide) (fun z => no9 (by omega))
            unfold hdW
            rw [hL]
            exact no_bad hfT
          have hF9 := hFB
          refine R_iconst hC dX12_cell1_70 ⟨by decide, by decide⟩ ?_
          exact R_ireturn hC dX12_cell1_71 rfl (ret_P ⟨hF9, by (rw [hWT]; exact hmT), by first | exact hdA | exact hdB | exact hdC, fun z => absurd z (by rw [hWT]; exact hfT), by decide, by decide⟩)
        · skip
          have okB : (vlS r n (nxR r n S)) < 5 := bP_nz (fun z => hb43 (hvv.trans z))
          have hmB : MRS Mc8 r n (nxR r n S) := by rw [itc_t okB] at hmq; exact hmq
          refine R_aload_0 hC dX12_cell1_46 ?_
          refine R_aload_0 hC dX12_cell1_47 ?_
          refine R_getIE hC dX12_cell1_48 fl_12_216 (by decide) rfl (by decide) (by decide) (fi := 35) rfl hmB.2.1.1 ?_
          refine R_aload_0 hC dX12_cell1_51 ?_
          refine R_getIE hC dX12_cell1_52 fl_12_241 (by decide) rfl (by decide) (by decide) (fi := 42) rfl hdB.l ?_
          have L63 : ∀ (t : Int), (t = bP ((vlS r n (nxR r n S)) < d 121)) → RZ G LY C (Zn G LY 82 C (RP (fun v M' => Fr [75] [(57, 31), (57, 32), (57, 34), (57, 35), (57, 36), (57, 37), (57, 17)] M M' ∧ MRS M' r n (hdW r n d 28 S).2 ∧ TD M' d ∧ ((hdW r n d 28 S).2.2.2.2.1 = 0 → v = 6 * (hdL r n d S).1 + (hdW r n d 28 S).1 ∧ ∀ q, M' 75 q = if q = v then 1 else M 75 q) ∧ 0 ≤ v ∧ v < 30))) 0 0 82 63 [some (vR 57), some (vR 75), none, none] [vI t, vR 57] Mc8 := by
            intro t ht
            refine R_iconst hC dX12_cell1_63 ⟨by decide, by decide⟩ ?_
            have hG11 : GR Mc8 := (GR.fr hG7 hq9.1 (by decide +kernel))
            refine R_callVp (as := [vI _, vI _]) hC dX12_cell1_64 mo_12_wants ml_12_231 (by decide) rfl rfl (c12_wants  hG11) rfl rfl hRm (by decide) (by decide) (Nat.le_of_ble_eq_true rfl) (fun v14 Mc12 hq13 => ?_)
            have hmq : MRS Mc12 r n (itc ((vlS r n (nxR r n S)) < d 121) (nxR r n S) (refR 3 (nxR r n S))) := by
              have z := hmB.wt hq13.1 hq13.2.1
              by_cases y : (vlS r n (nxR r n S)) < d 121
              · rw [itc_t y]; rw [if_neg (fun w => bP_z (ht.symm.trans w) y)] at z; exact z
              · rw [itc_f y]; rw [if_pos (ht.trans (bP_neg y))] at z; exact z
            have hvv : v14 = bP ((vlS r n (nxR r n S)) < d 121) := by
              rw [hq13.2.2, hmq.f]
              by_cases z : (vlS r n (nxR r n S)) < d 121
              · rw [itc_t z, bP_pos z, bP_pos hf1]
              · rw [itc_f z, bP_neg z, bP_neg (rf_ne hf1 (by decide))]
            have hFC : Fr [75] [(57, 31), (57, 32), (57, 34), (57, 35), (57, 36), (57, 37), (57, 17)] M Mc12 := Fr.tt hFB (hq13.1.mo (by simp) (by simp))
            have hdC := hdB.fr hq13.1 (by decide)
            refine R_if_ne hC dX12_cell1_67 (tgt := 72) (by decide) (fun hb67 => ?_) (fun hb67 => ?_)
            · skip
              have okC : (vlS r n (nxR r n S)) < d 121 := bP_nz (fun z => hb67 (hvv.trans z))
              have hmC : MRS Mc12 r n (nxR r n S) := by rw [itc_t okC] at hmq; exact hmq
              refine R_aload_0 hC dX12_cell1_72 ?_
              refine R_getIE hC dX12_cell1_73 fl_12_216 (by decide) rfl (by decide) (by decide) (fi := 35) rfl hmC.2.1.1 ?_
              refine R_istore_2 hC dX12_cell1_76 rfl ?_
              refine R_aload_0 hC dX12_cell1_77 ?_
              have hG15 : GR Mc12 := (GR.fr hG11 hq13.1 (by decide +kernel))
              refine R_callVv (as := []) hC dX12_cell1_78 mo_12_go ml_12_238 (by decide) rfl rfl (c12_go (e := ((nxR r n S).2.2.1)) hG15 ((hFC 57 33 (by decide) (by decide)).trans hn) (fun j p q => (congrFun (hFC.row (by decide) (by decide)) j).trans (htp j p q)) (by omega) (by omega) hmC.e (by omega) (by omega)) rfl rfl hRm (by decide) (by decide) (Nat.le_of_ble_eq_true rfl) (fun Mc16 hq17 => ?_)
              have hFg2 : Fr [75] [(57, 31), (57, 32), (57, 34), (57, 35), (57, 36), (57, 37), (57, 17)] M Mc16 := Fr.tt hFC (hq17.1.mo (by simp) (by simp))
              have hm2 := hmC.go hq17.1 hq17.2
              have hd2 := hdC.fr hq17.1 (by decide)
              have hg2 := hm2.2.2
              have hvb0 : 0 ≤ (vlS r n (nxR r n (nxR r n S))) := vl_nx
              have hLg : hdL r n d S = ((vlS r n (nxR r n S)), (nxR r n (nxR r n S))) := no_g hg1 hf1 okA (by decide) (by omega) okC (fun z => absurd z.1 (by decide))
              have hr3 := hg2.1
              have hr4 := hg2.2.1
              have hr5 := hg2.2.2
              refine R_aload_0 hC dX12_cell1_81 ?_
              refine R_aload_0 hC dX12_cell1_82 ?_
              refine R_getIE hC dX12_cell1_83 fl_12_219 (by decide) rfl (by decide) (by decide) (fi := 34) rfl hm2.k ?_
              refine R_iconst hC dX12_cell1_86 ⟨by decide, by decide⟩ ?_
              have L95 : ∀ (t : Int), (t = bP ((nxR r n (nxR r n S)).1 = 2)) → RZ G LY C (Zn G LY 82 C (RP (fun v M' => Fr [75] [(57, 31), (57, 32), (57, 34), (57, 35), (57, 36), (57, 37), (57, 17)] M M' ∧ MRS M' r n (hdW r n d 28 S).2 ∧ TD M' d ∧ ((hdW r n d 28 S).2.2.2.2.1 = 0 → v = 6 * (hdL r n d S).1 + (hdW r n d 28 S).1 ∧ ∀ q, M' 75 q = if q = v then 1 else M 75 q) ∧ 0 ≤ v ∧ v < 30))) 0 0 82 95 [some (vR 57), some (vR 75), some (vI (vlS r n (nxR r n S))), none] [vI t, vR 57] Mc16 := by
                intro t ht
                refine R_iconst hC dX12_cell1_95 ⟨by decide, by decide⟩ ?_
                have hG18 : GR Mc16 := (GR.fr hG15 hq17.1 (by decide +kernel))
                refine R_callVp (as := [vI _, vI _]) hC dX12_cell1_96 mo_12_wants ml_12_231 (by decide) rfl rfl (c12_wants  hG18) rfl rfl hRm (by decide) (by decide) (Nat.le_of_ble_eq_true rfl) (fun v21 Mc19 hq20 => ?_)
                have hmq : MRS Mc19 r n (itc ((nxR r n (nxR r n S)).1 = 2) (nxR r n (nxR r n S)) (refR 1 (nxR r n (nxR r n S)))) := by
                  have z := hm2.wt hq20.1 hq20.2.1
                  by_cases y : (nxR r n (nxR r n S)).1 = 2
                  · rw [itc_t y]; rw [if_neg (fun w => bP_z (ht.symm.trans w) y)] at z; exact z
                  · rw [itc_f y]; rw [if_pos (ht.trans (bP_neg y))] at z; exact z
                have hvv : v21 = bP ((nxR r n (nxR r n S)).1 = 2) := by
                  rw [hq20.2.2, hmq.f]
                  by_cases z : (nxR r n (nxR r n S)).1 = 2
                  · rw [itc_t z, bP_pos z, bP_pos hf2]
                  · rw [itc_f z, bP_neg z, bP_neg (rf_ne hf2 (by decide))]
                have hFD : Fr [75] [(57, 31), (57, 32), (57, 34), (57, 35), (57, 36), (57, 37), (57, 17)] M Mc19 := Fr.tt hFg2 (hq20.1.mo (by simp) (by simp))
                have hdD := hd2.fr hq20.1 (by decide)
                refine R_if_eq hC dX12_cell1_99 (tgt := 174) (by decide) (fun hb99 => ?_) (fun hb99 => ?_)
                · skip
                  have no9 : ¬ ((nxR r n (nxR r n S)).1 = 2) := bP_z (hvv.symm.trans hb99)
                  have hmT : MRS Mc19 r n (refR 1 (nxR r n (nxR r n S))) := by rw [itc_f no9] at hmq; exact hmq
                  have hfT := rf_ne (S := (nxR r n (nxR r n S))) (v := 1) hf2 (by decide)
                  have hWT : hdW r n d 28 S = (0, (refR 1 (nxR r n (nxR r n S)))) := by
                    unfold hdW
                    rw [hLg]
                    show noR r n d 6 (d 122) (28 + (vlS r n (nxR r n S)) * 6) (nxR r n (nxR r n S)) = _
                    exact no_1 hf2 no9
                  have hF9 := hFD
                  refine R_iconst hC dX12_cell1_174 ⟨by decide, by decide⟩ ?_
                  exact R_ireturn hC dX12_cell1_175 rfl (ret_P ⟨hF9, by (rw [hWT]; exact hmT), by first | exact hdG | exact hdF | exact hdE | exact hdD, fun z => absurd z (by rw [hWT]; exact hfT), by decide, by decide⟩)
                · skip
                  have okD : (nxR r n (nxR r n S)).1 = 2 := bP_nz (fun z => hb99 (hvv.trans z))
                  have hmD : MRS Mc19 r n (nxR r n (nxR r n S)) := by rw [itc_t okD] at hmq; exact hmq
                  refine R_aload_0 hC dX12_cell1_102 ?_
                  refine R_aload_0 hC dX12_cell1_103 ?_
                  refine R_getIE hC dX12_cell1_104 fl_12_216 (by decide) rfl (by decide) (by decide) (fi := 35) rfl hmD.2.1.1 ?_
                  refine R_bipush hC dX12_cell1_107 (by decide +kernel) ⟨by decide, by decide⟩ ?_
                  have L117 : ∀ (t : Int), (t = bP ((vlS r n (nxR r n (nxR r n S))) < 6)) → RZ G LY C (Zn G LY 82 C (RP (fun v M' => Fr [75] [(57, 31), (57, 32), (57, 34), (57, 35), (57, 36), (57, 37), (57, 17)] M M' ∧ MRS M' r n (hdW r n d 28 S).2 ∧ TD M' d ∧ ((hdW r n d 28 S).2.2.2.2.1 = 0 → v = 6 * (hdL r n d S).1 + (hdW r n d 28 S).1 ∧ ∀ q, M' 75 q = if q = v then 1 else M 75 q) ∧ 0 ≤ v ∧ v < 30))) 0 0 82 117 [some (vR 57), some (vR 75), some (vI (vlS r n (nxR r n S))), none] [vI t, vR 57] Mc19 := by
                    intro t ht
                    refine R_iconst hC dX12_cell1_117 ⟨by decide, by decide⟩ ?_
                    have hG22 : GR Mc19 := (GR.fr hG18 hq20.1 (by decide +kernel))
                    refine R_callVp (as := [vI _, vI _]) hC dX12_cell1_118 mo_12_wants ml_12_231 (by decide) rfl rfl (c12_wants  hG22) rfl rfl hRm (by decide) (by decide) (Nat.le_of_ble_eq_true rfl) (fun v25 Mc23 hq24 => ?_)
                    have hmq : MRS Mc23 r n (itc ((vlS r n (nxR r n (nxR r n S))) < 6) (nxR r n (nxR r n S)) (refR 2 (nxR r n (nxR r n S)))) := by
                      have z := hmD.wt hq24.1 hq24.2.1
                      by_cases y : (vlS r n (nxR r n (nxR r n S))) < 6
                      · rw [itc_t y]; rw [if_neg (fun w => bP_z (ht.symm.trans w) y)] at z; exact z
                      · rw [itc_f y]; rw [if_pos (ht.trans (bP_neg y))] at z; exact z
                    have hvv : v25 = bP ((vlS r n (nxR r n (nxR r n S))) < 6) := by
                      rw [hq24.2.2, hmq.f]
                      by_cases z : (vlS r n (nxR r n (nxR r n S))) < 6
                      · rw [itc_t z, bP_pos z, bP_pos hf2]
                      · rw [itc_f z, bP_neg z, bP_neg (rf_ne hf2 (by decide))]
                    have hFE : Fr [75] [(57, 31), (57, 32), (57, 34), (57, 35), (57, 36), (57, 37), (57, 17)] M Mc23 := Fr.tt hFD (hq24.1.mo (by simp) (by simp))
                    have hdE := hdD.fr hq24.1 (by decide)
                    refine R_if_eq hC dX12_cell1_121 (tgt := 174) (by decide) (fun hb121 => ?_) (fun hb121 => ?_)
                    · skip
                      have no9 : ¬ ((vlS r n (nxR r n (nxR r n S))) < 6) := bP_z (hvv.symm.trans hb121)
                      have hmT : MRS Mc23 r n (refR 2 (nxR r n (nxR r n S))) := by rw [itc_f no9] at hmq; exact hmq
                      have hfT := rf_ne (S := (nxR r n (nxR r n S))) (v := 2) hf2 (by decide)
                      have hWT : hdW r n d 28 S = (0, (refR 2 (nxR r n (nxR r n S)))) := by
                        unfold hdW
                        rw [hLg]
                        show noR r n d 6 (d 122) (28 + (vlS r n (nxR r n S)) * 6) (nxR r n (nxR r n S)) = _
                        exact no_2 hg2 hf2 okD (by decide) (fun z => no9 (by omega))
                      have hF9 := hFE
                      refine R_iconst hC dX12_cell1_174 ⟨by decide, by decide⟩ ?_
                      exact R_ireturn hC dX12_cell1_175 rfl (ret_P ⟨hF9, by (rw [hWT]; exact hmT), by first | exact hdG | exact hdF | exact hdE | exact hdD, fun z => absurd z (by rw [hWT]; exact hfT), by decide, by decide⟩)
                    · skip
                      have okE : (vlS r n (nxR r n (nxR r n S))) < 6 := bP_nz (fun z => hb121 (hvv.trans z))
                      have hmE : MRS Mc23 r n (nxR r n (nxR r n S)) := by rw [itc_t okE] at hmq; exact hmq
                      refine R_aload_0 hC dX12_cell1_124 ?_
                      refine R_aload_0 hC dX12_cell1_125 ?_
                      refine R_getIE hC dX12_cell1_126 fl_12_216 (by decide) rfl (by decide) (by decide) (fi := 35) rfl hmE.2.1.1 ?_
                      refine R_aload_0 hC dX12_cell1_129 ?_
                      refine R_getIE hC dX12_cell1_130 fl_12_247 (by decide) rfl (by decide) (by decide) (fi := 43) rfl hdE.w ?_
                      have L141 : ∀ (t : Int), (t = bP ((vlS r n (nxR r n (nxR r n S))) < d 122)) → RZ G LY C (Zn G LY 82 C (RP (fun v M' => Fr [75] [(57, 31), (57, 32), (57, 34), (57, 35), (57, 36), (57, 37), (57, 17)] M M' ∧ MRS M' r n (hdW r n d 28 S).2 ∧ TD M' d ∧ ((hdW r n d 28 S).2.2.2.2.1 = 0 → v = 6 * (hdL r n d S).1 + (hdW r n d 28 S).1 ∧ ∀ q, M' 75 q = if q = v then 1 else M 75 q) ∧ 0 ≤ v ∧ v < 30))) 0 0 82 141 [some (vR 57), some (vR 75), some (vI (vlS r n (nxR r n S))), none] [vI t, vR 57] Mc23 := by
                        intro t ht
                        refine R_iconst hC dX12_cell1_141 ⟨by decide, by decide⟩ ?_
                        have hG26 : GR Mc23 := (GR.fr hG22 hq24.1 (by decide +kernel))
                        refine R_callVp (as := [vI _, vI _]) hC dX12_cell1_142 mo_12_wants ml_12_231 (by decide) rfl rfl (c12_wants  hG26) rfl rfl hRm (by decide) (by decide) (Nat.le_of_ble_eq_true rfl) (fun v29 Mc27 hq28 => ?_)
                        have hmq : MRS Mc27 r n (itc ((vlS r n (nxR r n (nxR r n S))) < d 122) (nxR r n (nxR r n S)) (refR 3 (nxR r n (nxR r n S)))) := by
                          have z := hmE.wt hq28.1 hq28.2.1
                          by_cases y : (vlS r n (nxR r n (nxR r n S))) < d 122
                          · rw [itc_t y]; rw [if_neg (fun w => bP_z (ht.symm.trans w) y)] at z; exact z
                          · rw [itc_f y]; rw [if_pos (ht.trans (bP_neg y))] at z; exact z
                        have hvv : v29 = bP ((vlS r n (nxR r n (nxR r n S))) < d 122) := by
                          rw [hq28.2.2, hmq.f]
                          by_cases z : (vlS r n (nxR r n (nxR r n S))) < d 122
                          · rw [itc_t z, bP_pos z, bP_pos hf2]
                          · rw [itc_f z, bP_neg z, bP_neg (rf_ne hf2 (by decide))]
                        have hFF : Fr [75] [(57, 31), (57, 32), (57, 34), (57, 35), (57, 36), (57, 37), (57, 17)] M Mc27 := Fr.tt hFE (hq28.1.mo (by simp) (by simp))
                        have hdF := hdE.fr hq28.1 (by decide)
                        refine R_if_eq hC dX12_cell1_145 (tgt := 174) (by decide) (fun hb145 => ?_) (fun hb145 => ?_)
                        · skip
                          have no9 : ¬ ((vlS r n (nxR r n (nxR r n S))) < d 122) := bP_z (hvv.symm.trans hb145)
                          have hmT : MRS Mc27 r n (refR 3 (nxR r n (nxR r n S))) := by rw [itc_f no9] at hmq; exact hmq
                          have hfT := rf_ne (S := (nxR r n (nxR r n S))) (v := 3) hf2 (by decide)
                          have hWT : hdW r n d 28 S = (0, (refR 3 (nxR r n (nxR r n S)))) := by
                            unfold hdW
                            rw [hLg]
                            show noR r n d 6 (d 122) (28 + (vlS r n (nxR r n S)) * 6) (nxR r n (nxR r n S)) = _
                            exact no_3 hg2 hf2 okD (by decide) (by omega) no9
                          have hF9 := hFF
                          refine R_iconst hC dX12_cell1_174 ⟨by decide, by decide⟩ ?_
                          exact R_ireturn hC dX12_cell1_175 rfl (ret_P ⟨hF9, by (rw [hWT]; exact hmT), by first | exact hdG | exact hdF | exact hdE | exact hdD, fun z => absurd z (by rw [hWT]; exact hfT), by decide, by decide⟩)
                        · skip
                          have okF : (vlS r n (nxR r n (nxR r n S))) < d 122 := bP_nz (fun z => hb145 (hvv.trans z))
                          have hmF : MRS Mc27 r n (nxR r n (nxR r n S)) := by rw [itc_t okF] at hmq; exact hmq
                          have hrw9 : ∀ q, Mc27 75 q = M 75 q := fun q => ((hq28.1 75 q (by decide) (by simp)).trans ((hq24.1 75 q (by decide) (by simp)).trans ((hq20.1 75 q (by decide) (by simp)).trans ((hq17.1 75 q (by decide) (by simp)).trans ((hq13.1 75 q (by decide) (by simp)).trans ((hq9.1 75 q (by decide) (by simp)).trans ((hq5.1 75 q (by decide) (by simp)).trans (hq2.1 75 q (by decide) (by simp)))))))))
                          refine R_aload_0 hC dX12_cell1_148 ?_
                          refine R_aload_1 hC dX12_cell1_149 ?_
                          refine R_iload_2 hC dX12_cell1_150 ?_
                          refine R_aload_0 hC dX12_cell1_151 ?_
                          refine R_getIE hC dX12_cell1_152 fl_12_216 (by decide) rfl (by decide) (by decide) (fi := 35) rfl hmF.2.1.1 ?_
                          refine R_callSq (as := [vI _, vI _]) hC dX12_cell1_155 mo_12_cell ml_12_87 (c12_cell  (by omega) (by omega) (by omega) (by omega)) rfl rfl hRm (by decide) (by decide) (Nat.le_of_ble_eq_true rfl) ?_
                          refine R_zaloadE hC dX12_cell1_158 (by decide) rfl (by omega) (by omega) (((hrw9 (6 * (vlS r n (nxR r n S)) + (vlS r n (nxR r n (nxR r n S))))).trans (hal (6 * (vlS r n (nxR r n S)) + (vlS r n (nxR r n (nxR r n S)))) (by omega) (by omega))).trans (congrArg (fun z => bP (0 < d z)) (show 28 + (6 * (vlS r n (nxR r n S)) + (vlS r n (nxR r n (nxR r n S)))) = 28 + (vlS r n (nxR r n S)) * 6 + (vlS r n (nxR r n (nxR r n S))) by omega))) ?_
                          have L167 : ∀ (t : Int), (t = bP (¬ 0 < d (28 + (vlS r n (nxR r n S)) * 6 + (vlS r n (nxR r n (nxR r n S)))))) → RZ G LY C (Zn G LY 82 C (RP (fun v M' => Fr [75] [(57, 31), (57, 32), (57, 34), (57, 35), (57, 36), (57, 37), (57, 17)] M M' ∧ MRS M' r n (hdW r n d 28 S).2 ∧ TD M' d ∧ ((hdW r n d 28 S).2.2.2.2.1 = 0 → v = 6 * (hdL r n d S).1 + (hdW r n d 28 S).1 ∧ ∀ q, M' 75 q = if q = v then 1 else M 75 q) ∧ 0 ≤ v ∧ v < 30))) 0 0 82 167 [some (vR 57), some (vR 75), some (vI (vlS r n (nxR r n S))), none] [vI t, vR 57] Mc27 := by
                            intro t ht
                            refine R_iconst hC dX12_cell1_167 ⟨by decide, by decide⟩ ?_
                            have hG30 : GR Mc27 := (GR.fr hG26 hq28.1 (by decide +kernel))
                            refine R_callVp (as := [vI _, vI _]) hC dX12_cell1_168 mo_12_wants ml_12_231 (by decide) rfl rfl (c12_wants  hG30) rfl rfl hRm (by decide) (by decide) (Nat.le_of_ble_eq_true rfl) (fun v33 Mc31 hq32 => ?_)
                            have hmq : MRS Mc31 r n (itc (¬ 0 < d (28 + (vlS r n (nxR r n S)) * 6 + (vlS r n (nxR r n (nxR r n S))))) (nxR r n (nxR r n S)) (refR 4 (nxR r n (nxR r n S)))) := by
                              have z := hmF.wt hq32.1 hq32.2.1
                              by_cases y : ¬ 0 < d (28 + (vlS r n (nxR r n S)) * 6 + (vlS r n (nxR r n (nxR r n S))))
                              · rw [itc_t y]; rw [if_neg (fun w => bP_z (ht.symm.trans w) y)] at z; exact z
                              · rw [itc_f y]; rw [if_pos (ht.trans (bP_neg y))] at z; exact z
                            have hvv : v33 = bP (¬ 0 < d (28 + (vlS r n (nxR r n S)) * 6 + (vlS r n (nxR r n (nxR r n S))))) := by
                              rw [hq32.2.2, hmq.f]
                              by_cases z : ¬ 0 < d (28 + (vlS r n (nxR r n S)) * 6 + (vlS r n (nxR r n (nxR r n S))))
                              · rw [itc_t z, bP_pos z, bP_pos hf2]
                              · rw [itc_f z, bP_neg z, bP_neg (rf_ne hf2 (by decide))]
                            have hFG : Fr [75] [(57, 31), (57, 32), (57, 34), (57, 35), (57, 36), (57, 37), (57, 17)] M Mc31 := Fr.tt hFF (hq32.1.mo (by simp) (by simp))
                            have hdG := hdF.fr hq32.1 (by decide)
                            refine R_if_ne hC dX12_cell1_171 (tgt := 176) (by decide) (fun hb171 => ?_) (fun hb171 => ?_)
                            · skip
                              have okG : ¬ 0 < d (28 + (vlS r n (nxR r n S)) * 6 + (vlS r n (nxR r n (nxR r n S)))) := bP_nz (fun z => hb171 (hvv.trans z))
                              have hmG : MRS Mc31 r n (nxR r n (nxR r n S)) := by rw [itc_t okG] at hmq; exact hmq
                              have hrow : ∀ q, Mc31 75 q = M 75 q := fun q => (hq32.1 75 q (by decide) (by simp)).trans (hrw9 q)
                              refine R_iload_2 hC dX12_cell1_176 ?_
                              refine R_aload_0 hC dX12_cell1_177 ?_
                              refine R_getIE hC dX12_cell1_178 fl_12_216 (by decide) rfl (by decide) (by decide) (fi := 35) rfl hmG.2.1.1 ?_
                              refine R_callSq (as := [vI _, vI _]) hC dX12_cell1_181 mo_12_cell ml_12_87 (c12_cell  (by omega) (by omega) (by omega) (by omega)) rfl rfl hRm (by decide) (by decide) (Nat.le_of_ble_eq_true rfl) ?_
                              refine R_istore_3 hC dX12_cell1_184 rfl ?_
                              refine R_aload_1 hC dX12_cell1_185 ?_
                              refine R_iload_3 hC dX12_cell1_186 ?_
                              refine R_iconst hC dX12_cell1_187 ⟨by decide, by decide⟩ ?_
                              refine R_zastore hC dX12_cell1_188 (by decide) rfl (by omega) (by omega) (.inr rfl) ?_
                              have hF5 : Fr [75] [(57, 31), (57, 32), (57, 34), (57, 35), (57, 36), (57, 37), (57, 17)] M (uM Mc31 75 (6 * (vlS r n (nxR r n S)) + (vlS r n (nxR r n (nxR r n S)))) 1) := Fr.uA hFG (by decide)
                              have hm5 : MRS (uM Mc31 75 (6 * (vlS r n (nxR r n S)) + (vlS r n (nxR r n (nxR r n S)))) 1) r n (nxR r n (nxR r n S)) := hmG.u (by decide)
                              have hd5 := (hdG.fr (Fr.uA (A := [75]) (B := []) Fr.rf (by decide)) (by decide) : TD (uM Mc31 75 (6 * (vlS r n (nxR r n S)) + (vlS r n (nxR r n (nxR r n S)))) 1) d)
                              refine R_aload_0 hC dX12_cell1_189 ?_
                              have hG34 : GR (uM Mc31 75 (6 * (vlS r n (nxR r n S)) + (vlS r n (nxR r n (nxR r n S)))) 1) := (GR.uA (GR.fr hG30 hq32.1 (by decide +kernel)) (by decide +kernel) (.inl (by decide)))
                              refine R_callVv (as := []) hC dX12_cell1_190 mo_12_go ml_12_238 (by decide) rfl rfl (c12_go (e := ((nxR r n (nxR r n S)).2.2.1)) hG34 ((hF5 57 33 (by decide) (by decide)).trans hn) (fun j p q => (congrFun (hF5.row (by decide) (by decide)) j).trans (htp j p q)) (by omega) (by omega) hm5.e (by omega) (by omega)) rfl rfl hRm (by decide) (by decide) (Nat.le_of_ble_eq_true rfl) (fun Mc35 hq36 => ?_)
                              have hF6 : Fr [75] [(57, 31), (57, 32), (57, 34), (57, 35), (57, 36), (57, 37), (57, 17)] M Mc35 := Fr.tt hF5 (hq36.1.mo (by simp) (by simp))
                              have hm6 := hm5.go hq36.1 hq36.2
                              have hWg : hdW r n d 28 S = ((vlS r n (nxR r n (nxR r n S))), nxR r n (nxR r n (nxR r n S))) := by
                                unfold hdW
                                rw [hLg]
                                show noR r n d 6 (d 122) (28 + (vlS r n (nxR r n S)) * 6) (nxR r n (nxR r n S)) = _
                                exact no_g hg2 hf2 okD (by decide) (by omega) okF (fun z => okG z.2.2)
                              have hT9 : ∀ q, Mc35 75 q = if q = 6 * (vlS r n (nxR r n S)) + (vlS r n (nxR r n (nxR r n S))) then 1 else M 75 q := fun q => by
                                rw [hq36.1 75 q (by decide) (by simp)]
                                by_cases z : q = 6 * (vlS r n (nxR r n S)) + (vlS r n (nxR r n (nxR r n S)))
                                · rw [if_pos z, z]; exact uM_same
                                · rw [if_neg z]; exact (uM_k z).trans (hrow q)
                              refine R_iload_3 hC dX12_cell1_193 ?_
                              exact R_ireturn hC dX12_cell1_194 rfl (ret_P ⟨hF6, by (rw [hWg]; exact hm6), hd5.fr hq36.1 (by decide), fun _ => by (rw [hWg, hLg]; exact ⟨rfl, hT9⟩), by omega, by omega⟩)
                            · skip
                              have no9 : ¬ (¬ 0 < d (28 + (vlS r n (nxR r n S)) * 6 + (vlS r n (nxR r n (nxR r n S))))) := bP_z (hvv.symm.trans hb171)
                              have hmT : MRS Mc31 r n (refR 4 (nxR r n (nxR r n S))) := by rw [itc_f no9] at hmq; exact hmq
                              have hfT := rf_ne (S := (nxR r n (nxR r n S))) (v := 4) hf2 (by decide)
                              have hWT : hdW r n d 28 S = (0, (refR 4 (nxR r n (nxR r n S)))) := by
                                unfold hdW
                                rw [hLg]
                                show noR r n d 6 (d 122) (28 + (vlS r n (nxR r n S)) * 6) (nxR r n (nxR r n S)) = _
                                exact no_4 hg2 hf2 okD (by decide) (by omega) okF (by (refine ⟨by omega, by omega, ?_⟩; exact Classical.byContradiction no9))
                              have hF9 := hFG
                              refine R_iconst hC dX12_cell1_174 ⟨by decide, by decide⟩ ?_
                              exact R_ireturn hC dX12_cell1_175 rfl (ret_P ⟨hF9, by (rw [hWT]; exact hmT), by first | exact hdG | exact hdF | exact hdE | exact hdD, fun z => absurd z (by rw [hWT]; exact hfT), by decide, by decide⟩)
                          refine R_if_ne hC dX12_cell1_159 (tgt := 166) (by decide) (fun hb159 => ?_) (fun hb159 => ?_)
                          · skip
                            replace hb159 := bP_nz hb159
                            refine R_iconst hC dX12_cell1_166 ⟨by decide, by decide⟩ ?_
                            exact L167 _ (by first | exact (bP_pos (by first | assumption | omega)).symm | exact (bP_neg (by first | assumption | omega)).symm)
                          · skip
                            replace hb159 := bP_z hb159
                            refine R_iconst hC dX12_cell1_162 ⟨by decide, by decide⟩ ?_
                            refine R_goto hC dX12_cell1_163 (tgt := 167) (by decide) ?_
                            exact L167 _ (by first | exact (bP_pos (by first | assumption | omega)).symm | exact (bP_neg (by first | assumption | omega)).symm)
                      refine R_icmp_ge hC dX12_cell1_133 (tgt := 140) (by decide) (fun hb133 => ?_) (fun hb133 => ?_)
                      · skip
                        refine R_iconst hC dX12_cell1_140 ⟨by decide, by decide⟩ ?_
                        exact L141 _ (by first | exact (bP_pos (by first | assumption | omega)).symm | exact (bP_neg (by first | assumption | omega)).symm)
                      · skip
                        refine R_iconst hC dX12_cell1_136 ⟨by decide, by decide⟩ ?_
                        refine R_goto hC dX12_cell1_137 (tgt := 141) (by decide) ?_
                        exact L141 _ (by first | exact (bP_pos (by first | assumption | omega)).symm | exact (bP_neg (by first | assumption | omega)).symm)
                  refine R_icmp_ge hC dX12_cell1_109 (tgt := 116) (by decide) (fun hb109 => ?_) (fun hb109 => ?_)
                  · skip
                    refine R_iconst hC dX12_cell1_116 ⟨by decide, by decide⟩ ?_
                    exact L117 _ (by first | exact (bP_pos (by first | assumption | omega)).symm | exact (bP_neg (by first | assumption | omega)).symm)
                  · skip
                    refine R_iconst hC dX12_cell1_112 ⟨by decide, by decide⟩ ?_
                    refine R_goto hC dX12_cell1_113 (tgt := 117) (by decide) ?_
                    exact L117 _ (by first | exact (bP_pos (by first | assumption | omega)).symm | exact (bP_neg (by first | assumption | omega)).symm)
              refine R_icmp_ne hC dX12_cell1_87 (tgt := 94) (by decide) (fun hb87 => ?_) (fun hb87 => ?_)
              · skip
                refine R_iconst hC dX12_cell1_94 ⟨by decide, by decide⟩ ?_
                exact L95 _ (by first | exact (bP_pos (by first | assumption | omega)).symm | exact (bP_neg (by first | assumption | omega)).symm)
              · skip
                refine R_iconst hC dX12_cell1_90 ⟨by decide, by decide⟩ ?_
                refine R_goto hC dX12_cell1_91 (tgt := 95) (by decide) ?_
                exact L95 _ (by first | exact (bP_pos (by first | assumption | omega)).symm | exact (bP_neg (by first | assumption | omega)).symm)
            · skip
              have no9 : ¬ ((vlS r n (nxR r n S)) < d 121) := bP_z (hvv.symm.trans hb67)
              have hmT : MRS Mc12 r n (refR 3 (nxR r n S)) := by rw [itc_f no9] at hmq; exact hmq
              have hfT := rf_ne (S := (nxR r n S)) (v := 3) hf1 (by decide)
              have hWT : hdW r n d 28 S = (0, (refR 3 (nxR r n S))) := by
                have hL : hdL r n d S = (0, (refR 3 (nxR r n S))) := no_3 hg1 hf1 okA (by decide) (by omega) no9
                unfold hdW
                rw [hL]
                exact no_bad hfT
              have hF9 := hFC
              refine R_iconst hC dX12_cell1_70 ⟨by decide, by decide⟩ ?_
              exact R_ireturn hC dX12_cell1_71 rfl (ret_P ⟨hF9, by (rw [hWT]; exact hmT), by first | exact hdA | exact hdB | exact hdC, fun z => absurd z (by rw [hWT]; exact hfT), by decide, by decide⟩)
          refine R_icmp_ge hC dX12_cell1_55 (tgt := 62) (by decide) (fun hb55 => ?_) (fun hb55 => ?_)
          · skip
            refine R_iconst hC dX12_cell1_62 ⟨by decide, by decide⟩ ?_
            exact L63 _ (by first | exact (bP_pos (by first | assumption | omega)).symm | exact (bP_neg (by first | assumption | omega)).symm)
          · skip
            refine R_iconst hC dX12_cell1_58 ⟨by decide, by decide⟩ ?_
            refine R_goto hC dX12_cell1_59 (tgt := 63) (by decide) ?_
            exact L63 _ (by first | exact (bP_pos (by first | assumption | omega)).symm | exact (bP_neg (by first | assumption | omega)).symm)
      refine R_icmp_ge hC dX12_cell1_31 (tgt := 38) (by decide) (fun hb31 => ?_) (fun hb31 => ?_)
      · skip
        refine R_iconst hC dX12_cell1_38 ⟨by decide, by decide⟩ ?_
        exact L39 _ (by first | exact (bP_pos (by first | assumption | omega)).symm | exact (bP_neg (by first | assumption | omega)).symm)
      · skip
        refine R_iconst hC dX12_cell1_34 ⟨by decide, by decide⟩ ?_
        refine R_goto hC dX12_cell1_35 (tgt := 39) (by decide) ?_
        exact L39 _ (by first | exact (bP_pos (by first | assumption | omega)).symm | exact (bP_neg (by first | assumption | omega)).symm)
  refine R_icmp_ne hC dX12_cell1_10 (tgt := 17) (by decide) (fun hb10 => ?_) (fun hb10 => ?_)
  · skip
    refine R_iconst hC dX12_cell1_17 ⟨by decide, by decide⟩ ?_
    exact L18 _ (by first | exact (bP_pos (by first | assumption | omega)).symm | exact (bP_neg (by first | assumption | omega)).symm)
  · skip
    refine R_iconst hC dX12_cell1_13 ⟨by decide, by decide⟩ ?_
    refine R_goto hC dX12_cell1_14 (tgt := 18) (by decide) ?_
    exact L18 _ (by first | exact (bP_pos (by first | assumption | omega)).symm | exact (bP_neg (by first | assumption | omega)).symm)
set_option maxHeartbeats 2000000 in
theorem c12_cell1_76 {G : Gl} {l : Launch}  {M : Mem} {d : Int → Int} {n : Int} {r : Int → Int} {S : RT} (hG : GR M) (hn : M 57 33 = n) (htp : ∀ k, 0 ≤ k → k < n → M 62 k = r k % 2 ^ 8) (hn0 : 0 ≤ n) (hn1 : n ≤ 700) (hm : MRS M r n S) (hd : TD M d) (hf : S.2.2.2.1 = 0) (hw0 : 0 ≤ d 122) (hw1 : d 122 ≤ 6) (hL0 : 0 ≤ d 121) (hL1 : d 121 ≤ 5) (hal : ∀ q, 0 ≤ q → q < 30 → M 76 q = bP (0 < d (58 + q))) : Ct G LY 82 l 3 m12_cell1 [vR 57, vR 76] M (RP (fun v M' => Fr [76] [(57, 31), (57, 32), (57, 34), (57, 35), (57, 36), (57, 37), (57, 17)] M M' ∧ MRS M' r n (hdW r n d 58 S).2 ∧ TD M' d ∧ ((hdW r n d 58 S).2.2.2.2.1 = 0 → v = 6 * (hdL r n d S).1 + (hdW r n d 58 S).1 ∧ ∀ q, M' 76 q = if q = v then 1 else M 76 q) ∧ 0 ≤ v ∧ v < 30)) := by
  refine R_start (by decide +kernel) (Nat.le_of_ble_eq_true rfl) (fun C hC hRm hlau => ?_)
  show RZ G LY C (Zn G LY 82 C (RP (fun v M' => Fr [76] [(57, 31), (57, 32), (57, 34), (57, 35), (57, 36), (57, 37), (57, 17)] M M' ∧ MRS M' r n (hdW r n d 58 S).2 ∧ TD M' d ∧ ((hdW r n d 58 S).2.2.2.2.1 = 0 → v = 6 * (hdL r n d S).1 + (hdW r n d 58 S).1 ∧ ∀ q, M' 76 q = if q = v then 1 else M 76 q) ∧ 0 ≤ v ∧ v < 30))) 0 0 82 0 [some (vR 57), some (vR 76), none, none] [] M
  have hg0 := hm.2.2
  have hs0 := hg0.1
  have hs1 := hg0.2.1
  have hs2 := hg0.2.2
  refine R_aload_0 hC dX12_cell1_0 ?_
  refine R_callVv (as := []) hC dX12_cell1_1 mo_12_go ml_12_238 (by decide) rfl rfl (c12_go (e := S.2.2.1) hG hn htp (by omega) (by omega) hm.e (by omega) (by omega)) rfl rfl hRm (by decide) (by decide) (Nat.le_of_ble_eq_true rfl) (fun Mc1 hq2 => ?_)
  have hFg1 : Fr [76] [(57, 31), (57, 32), (57, 34), (57, 35), (57, 36), (57, 37), (57, 17)] M Mc1 := hq2.1.mo (by simp) (by simp)
  have hm1 := hm.go hq2.1 hq2.2
  have hd1 := hd.fr hq2.1 (by decide)
  have hf1 : (nxR r n S).2.2.2.1 = 0 := hf
  have hf2 : (nxR r n (nxR r n S)).2.2.2.1 = 0 := hf
  have hg1 := hm1.2.2
  have hva0 : 0 ≤ (vlS r n (nxR r n S)) := vl_nx
  have hr0 := hg1.1
  have hr1 := hg1.2.1
  have hr2 := hg1.2.2
  refine R_aload_0 hC dX12_cell1_4 ?_
  refine R_aload_0 hC dX12_cell1_5 ?_
  refine R_getIE hC dX12_cell1_6 fl_12_219 (by decide) rfl (by decide) (by decide) (fi := 34) rfl hm1.k ?_
  refine R_iconst hC dX12_cell1_9 ⟨by decide, by decide⟩ ?_
  have L18 : ∀ (t : Int), (t = bP ((nxR r n S).1 = 2)) → RZ G LY C (Zn G LY 82 C (RP (fun v M' => Fr [76] [(57, 31), (57, 32), (57, 34), (57, 35), (57, 36), (57, 37), (57, 17)] M M' ∧ MRS M' r n (hdW r n d 58 S).2 ∧ TD M' d ∧ ((hdW r n d 58 S).2.2.2.2.1 = 0 → v = 6 * (hdL r n d S).1 + (hdW r n d 58 S).1 ∧ ∀ q, M' 76 q = if q = v then 1 else M 76 q) ∧ 0 ≤ v ∧ v < 30))) 0 0 82 18 [some (vR 57), some (vR 76), none, none] [vI t, vR 57] Mc1 := by
    intro t ht
    refine R_iconst hC dX12_cell1_18 ⟨by decide, by decide⟩ ?_
    have hG3 : GR Mc1 := (GR.fr hG hq2.1 (by decide +kernel))
    refine R_callVp (as := [vI _, vI _]) hC dX12_cell1_19 mo_12_wants ml_12_231 (by decide) rfl rfl (c12_wants  hG3) rfl rfl hRm (by decide) (by decide) (Nat.le_of_ble_eq_true rfl) (fun v6 Mc4 hq5 => ?_)
    have hmq : MRS Mc4 r n (itc ((nxR r n S).1 = 2) (nxR r n S) (refR 1 (nxR r n S))) := by
      have z := hm1.wt hq5.1 hq5.2.1
      by_cases y : (nxR r n S).1 = 2
      · rw [itc_t y]; rw [if_neg (fun w => bP_z (ht.symm.trans w) y)] at z; exact z
      · rw [itc_f y]; rw [if_pos (ht.trans (bP_neg y))] at z; exact z
    have hvv : v6 = bP ((nxR r n S).1 = 2) := by
      rw [hq5.2.2, hmq.f]
      by_cases z : (nxR r n S).1 = 2
      · rw [itc_t z, bP_pos z, bP_pos hf1]
      · rw [itc_f z, bP_neg z, bP_neg (rf_ne hf1 (by decide))]
    have hFA : Fr [76] [(57, 31), (57, 32), (57, 34), (57, 35), (57, 36), (57, 37), (57, 17)] M Mc4 := Fr.tt hFg1 (hq5.1.mo (by simp) (by simp))
    have hdA := hd1.fr hq5.1 (by decide)
    refine R_if_eq hC dX12_cell1_22 (tgt := 70) (by decide) (fun hb22 => ?_) (fun hb22 => ?_)
    · skip
      have no9 : ¬ ((nxR r n S).1 = 2) := bP_z (hvv.symm.trans hb22)
      have hmT : MRS Mc4 r n (refR 1 (nxR r n S)) := by rw [itc_f no9] at hmq; exact hmq
      have hfT := rf_ne (S := (nxR r n S)) (v := 1) hf1 (by decide)
      have hWT : hdW r n d 58 S = (0, (refR 1 (nxR r n S))) := by
        have hL : hdL r n d S = (0, (refR 1 (nxR r n S))) := no_1 hf1 no9
        unfold hdW
        rw [hL]
        exact no_bad hfT
      have hF9 := hFA
      refine R_iconst hC dX12_cell1_70 ⟨by decide, by decide⟩ ?_
      exact R_ireturn hC dX12_cell1_71 rfl (ret_P ⟨hF9, by (rw [hWT]; exact hmT), by first | exact hdA | exact hdB | exact hdC, fun z => absurd z (by rw [hWT]; exact hfT), by decide, by decide⟩)
    · skip
      have okA : (nxR r n S).1 = 2 := bP_nz (fun z => hb22 (hvv.trans z))
      have hmA : MRS Mc4 r n (nxR r n S) := by rw [itc_t okA] at hmq; exact hmq
      refine R_aload_0 hC dX12_cell1_25 ?_
      refine R_aload_0 hC dX12_cell1_26 ?_
      refine R_getIE hC dX12_cell1_27 fl_12_216 (by decide) rfl (by decide) (by decide) (fi := 35) rfl hmA.2.1.1 ?_
      refine R_iconst hC dX12_cell1_30 ⟨by decide, by decide⟩ ?_
      have L39 : ∀ (t : Int), (t = bP ((vlS r n (nxR r n S)) < 5)) → RZ G LY C (Zn G LY 82 C (RP (fun v M' => Fr [76] [(57, 31), (57, 32), (57, 34), (57, 35), (57, 36), (57, 37), (57, 17)] M M' ∧ MRS M' r n (hdW r n d 58 S).2 ∧ TD M' d ∧ ((hdW r n d 58 S).2.2.2.2.1 = 0 → v = 6 * (hdL r n d S).1 + (hdW r n d 58 S).1 ∧ ∀ q, M' 76 q = if q = v then 1 else M 76 q) ∧ 0 ≤ v ∧ v < 30))) 0 0 82 39 [some (vR 57), some (vR 76), none, none] [vI t, vR 57] Mc4 := by
        intro t ht
        refine R_iconst hC dX12_cell1_39 ⟨by decide, by decide⟩ ?_
        have hG7 : GR Mc4 := (GR.fr hG3 hq5.1 (by decide +kernel))
        refine R_callVp (as := [vI _, vI _]) hC dX12_cell1_40 mo_12_wants ml_12_231 (by decide) rfl rfl (c12_wants  hG7) rfl rfl hRm (by decide) (by decide) (Nat.le_of_ble_eq_true rfl) (fun v10 Mc8 hq9 => ?_)
        have hmq : MRS Mc8 r n (itc ((vlS r n (nxR r n S)) < 5) (nxR r n S) (refR 2 (nxR r n S))) := by
          have z := hmA.wt hq9.1 hq9.2.1
          by_cases y : (vlS r n (nxR r n S)) < 5
          · rw [itc_t y]; rw [if_neg (fun w => bP_z (ht.symm.trans w) y)] at z; exact z
          · rw [itc_f y]; rw [if_pos (ht.trans (bP_neg y))] at z; exact z
        have hvv : v10 = bP ((vlS r n (nxR r n S)) < 5) := by
          rw [hq9.2.2, hmq.f]
          by_cases z : (vlS r n (nxR r n S)) < 5
          · rw [itc_t z, bP_pos z, bP_pos hf1]
          · rw [itc_f z, bP_neg z, bP_neg (rf_ne hf1 (by decide))]
        have hFB : Fr [76] [(57, 31), (57, 32), (57, 34), (57, 35), (57, 36), (57, 37), (57, 17)] M Mc8 := Fr.tt hFA (hq9.1.mo (by simp) (by simp))
        have hdB := hdA.fr hq9.1 (by decide)
        refine R_if_eq hC dX12_cell1_43 (tgt := 70) (by decide) (fun hb43 => ?_) (fun hb43 => ?_)
        · skip
          have no9 : ¬ ((vlS r n (nxR r n S)) < 5) := bP_z (hvv.symm.trans hb43)
          have hmT : MRS Mc8 r n (refR 2 (nxR r n S)) := by rw [itc_f no9] at hmq; exact hmq
          have hfT := rf_ne (S := (nxR r n S)) (v := 2) hf1 (by decide)
          have hWT : hdW r n d 58 S = (0, (refR 2 (nxR r n S))) := by
            have hL : hdL r n d S = (0, (refR 2 (nxR r n S))) := no_2 hg1 hf1 okA (by decide) (fun z => no9 (by omega))
            unfold hdW
            rw [hL]
            exact no_bad hfT
          have hF9 := hFB
          refine R_iconst hC dX12_cell1_70 ⟨by decide, by decide⟩ ?_
          exact R_ireturn hC dX12_cell1_71 rfl (ret_P ⟨hF9, by (rw [hWT]; exact hmT), by first | exact hdA | exact hdB | exact hdC, fun z => absurd z (by rw [hWT]; exact hfT), by decide, by decide⟩)
        · skip
          have okB : (vlS r n (nxR r n S)) < 5 := bP_nz (fun z => hb43 (hvv.trans z))
          have hmB : MRS Mc8 r n (nxR r n S) := by rw [itc_t okB] at hmq; exact hmq
          refine R_aload_0 hC dX12_cell1_46 ?_
          refine R_aload_0 hC dX12_cell1_47 ?_
          refine R_getIE hC dX12_cell1_48 fl_12_216 (by decide) rfl (by decide) (by decide) (fi := 35) rfl hmB.2.1.1 ?_
          refine R_aload_0 hC dX12_cell1_51 ?_
          refine R_getIE hC dX12_cell1_52 fl_12_241 (by decide) rfl (by decide) (by decide) (fi := 42) rfl hdB.l ?_
          have L63 : ∀ (t : Int), (t = bP ((vlS r n (nxR r n S)) < d 121)) → RZ G LY C (Zn G LY 82 C (RP (fun v M' => Fr [76] [(57, 31), (57, 32), (57, 34), (57, 35), (57, 36), (57, 37), (57, 17)] M M' ∧ MRS M' r n (hdW r n d 58 S).2 ∧ TD M' d ∧ ((hdW r n d 58 S).2.2.2.2.1 = 0 → v = 6 * (hdL r n d S).1 + (hdW r n d 58 S).1 ∧ ∀ q, M' 76 q = if q = v then 1 else M 76 q) ∧ 0 ≤ v ∧ v < 30))) 0 0 82 63 [some (vR 57), some (vR 76), none, none] [vI t, vR 57] Mc8 := by
            intro t ht
            refine R_iconst hC dX12_cell1_63 ⟨by decide, by decide⟩ ?_
            have hG11 : GR Mc8 := (GR.fr hG7 hq9.1 (by decide +kernel))
            refine R_callVp (as := [vI _, vI _]) hC dX12_cell1_64 mo_12_wants ml_12_231 (by decide) rfl rfl (c12_wants  hG11) rfl rfl hRm (by decide) (by decide) (Nat.le_of_ble_eq_true rfl) (fun v14 Mc12 hq13 => ?_)
            have hmq : MRS Mc12 r n (itc ((vlS r n (nxR r n S)) < d 121) (nxR r n S) (refR 3 (nxR r n S))) := by
              have z := hmB.wt hq13.1 hq13.2.1
              by_cases y : (vlS r n (nxR r n S)) < d 121
              · rw [itc_t y]; rw [if_neg (fun w => bP_z (ht.symm.trans w) y)] at z; exact z
              · rw [itc_f y]; rw [if_pos (ht.trans (bP_neg y))] at z; exact z
            have hvv : v14 = bP ((vlS r n (nxR r n S)) < d 121) := by
              rw [hq13.2.2, hmq.f]
              by_cases z : (vlS r n (nxR r n S)) < d 121
              · rw [itc_t z, bP_pos z, bP_pos hf1]
              · rw [itc_f z, bP_neg z, bP_neg (rf_ne hf1 (by decide))]
            have hFC : Fr [76] [(57, 31), (57, 32), (57, 34), (57, 35), (57, 36), (57, 37), (57, 17)] M Mc12 := Fr.tt hFB (hq13.1.mo (by simp) (by simp))
            have hdC := hdB.fr hq13.1 (by decide)
            refine R_if_ne hC dX12_cell1_67 (tgt := 72) (by decide) (fun hb67 => ?_) (fun hb67 => ?_)
            · skip
              have okC : (vlS r n (nxR r n S)) < d 121 := bP_nz (fun z => hb67 (hvv.trans z))
              have hmC : MRS Mc12 r n (nxR r n S) := by rw [itc_t okC] at hmq; exact hmq
              refine R_aload_0 hC dX12_cell1_72 ?_
              refine R_getIE hC dX12_cell1_73 fl_12_216 (by decide) rfl (by decide) (by decide) (fi := 35) rfl hmC.2.1.1 ?_
              refine R_istore_2 hC dX12_cell1_76 rfl ?_
              refine R_aload_0 hC dX12_cell1_77 ?_
              have hG15 : GR Mc12 := (GR.fr hG11 hq13.1 (by decide +kernel))
              refine R_callVv (as := []) hC dX12_cell1_78 mo_12_go ml_12_238 (by decide) rfl rfl (c12_go (e := ((nxR r n S).2.2.1)) hG15 ((hFC 57 33 (by decide) (by decide)).trans hn) (fun j p q => (congrFun (hFC.row (by decide) (by decide)) j).trans (htp j p q)) (by omega) (by omega) hmC.e (by omega) (by omega)) rfl rfl hRm (by decide) (by decide) (Nat.le_of_ble_eq_true rfl) (fun Mc16 hq17 => ?_)
              have hFg2 : Fr [76] [(57, 31), (57, 32), (57, 34), (57, 35), (57, 36), (57, 37), (57, 17)] M Mc16 := Fr.tt hFC (hq17.1.mo (by simp) (by simp))
              have hm2 := hmC.go hq17.1 hq17.2
              have hd2 := hdC.fr hq17.1 (by decide)
              have hg2 := hm2.2.2
              have hvb0 : 0 ≤ (vlS r n (nxR r n (nxR r n S))) := vl_nx
              have hLg : hdL r n d S = ((vlS r n (nxR r n S)), (nxR r n (nxR r n S))) := no_g hg1 hf1 okA (by decide) (by omega) okC (fun z => absurd z.1 (by decide))
              have hr3 := hg2.1
              have hr4 := hg2.2.1
              have hr5 := hg2.2.2
              refine R_aload_0 hC dX12_cell1_81 ?_
              refine R_aload_0 hC dX12_cell1_82 ?_
              refine R_getIE hC dX12_cell1_83 fl_12_219 (by decide) rfl (by decide) (by decide) (fi := 34) rfl hm2.k ?_
              refine R_iconst hC dX12_cell1_86 ⟨by decide, by decide⟩ ?_
              have L95 : ∀ (t : Int), (t = bP ((nxR r n (nxR r n S)).1 = 2)) → RZ G LY C (Zn G LY 82 C (RP (fun v M' => Fr [76] [(57, 31), (57, 32), (57, 34), (57, 35), (57, 36), (57, 37), (57, 17)] M M' ∧ MRS M' r n (hdW r n d 58 S).2 ∧ TD M' d ∧ ((hdW r n d 58 S).2.2.2.2.1 = 0 → v = 6 * (hdL r n d S).1 + (hdW r n d 58 S).1 ∧ ∀ q, M' 76 q = if q = v then 1 else M 76 q) ∧ 0 ≤ v ∧ v < 30))) 0 0 82 95 [some (vR 57), some (vR 76), some (vI (vlS r n (nxR r n S))), none] [vI t, vR 57] Mc16 := by
                intro t ht
                refine R_iconst hC dX12_cell1_95 ⟨by decide, by decide⟩ ?_
                have hG18 : GR Mc16 := (GR.fr hG15 hq17.1 (by decide +kernel))
                refine R_callVp (as := [vI _, vI _]) hC dX12_cell1_96 mo_12_wants ml_12_231 (by decide) rfl rfl (c12_wants  hG18) rfl rfl hRm (by decide) (by decide) (Nat.le_of_ble_eq_true rfl) (fun v21 Mc19 hq20 => ?_)
                have hmq : MRS Mc19 r n (itc ((nxR r n (nxR r n S)).1 = 2) (nxR r n (nxR r n S)) (refR 1 (nxR r n (nxR r n S)))) := by
                  have z := hm2.wt hq20.1 hq20.2.1
                  by_cases y : (nxR r n (nxR r n S)).1 = 2
                  · rw [itc_t y]; rw [if_neg (fun w => bP_z (ht.symm.trans w) y)] at z; exact z
                  · rw [itc_f y]; rw [if_pos (ht.trans (bP_neg y))] at z; exact z
                have hvv : v21 = bP ((nxR r n (nxR r n S)).1 = 2) := by
                  rw [hq20.2.2, hmq.f]
                  by_cases z : (nxR r n (nxR r n S)).1 = 2
                  · rw [itc_t z, bP_pos z, bP_pos hf2]
                  · rw [itc_f z, bP_neg z, bP_neg (rf_ne hf2 (by decide))]
                have hFD : Fr [76] [(57, 31), (57, 32), (57, 34), (57, 35), (57, 36), (57, 37), (57, 17)] M Mc19 := Fr.tt hFg2 (hq20.1.mo (by simp) (by simp))
                have hdD := hd2.fr hq20.1 (by decide)
                refine R_if_eq hC dX12_cell1_99 (tgt := 174) (by decide) (fun hb99 => ?_) (fun hb99 => ?_)
                · skip
                  have no9 : ¬ ((nxR r n (nxR r n S)).1 = 2) := bP_z (hvv.symm.trans hb99)
                  have hmT : MRS Mc19 r n (refR 1 (nxR r n (nxR r n S))) := by rw [itc_f no9] at hmq; exact hmq
                  have hfT := rf_ne (S := (nxR r n (nxR r n S))) (v := 1) hf2 (by decide)
                  have hWT : hdW r n d 58 S = (0, (refR 1 (nxR r n (nxR r n S)))) := by
                    unfold hdW
                    rw [hLg]
                    show noR r n d 6 (d 122) (58 + (vlS r n (nxR r n S)) * 6) (nxR r n (nxR r n S)) = _
                    exact no_1 hf2 no9
                  have hF9 := hFD
                  refine R_iconst hC dX12_cell1_174 ⟨by decide, by decide⟩ ?_
                  exact R_ireturn hC dX12_cell1_175 rfl (ret_P ⟨hF9, by (rw [hWT]; exact hmT), by first | exact hdG | exact hdF | exact hdE | exact hdD, fun z => absurd z (by rw [hWT]; exact hfT), by decide, by decide⟩)
                · skip
                  have okD : (nxR r n (nxR r n S)).1 = 2 := bP_nz (fun z => hb99 (hvv.trans z))
                  have hmD : MRS Mc19 r n (nxR r n (nxR r n S)) := by rw [itc_t okD] at hmq; exact hmq
                  refine R_aload_0 hC dX12_cell1_102 ?_
                  refine R_aload_0 hC dX12_cell1_103 ?_
                  refine R_getIE hC dX12_cell1_104 fl_12_216 (by decide) rfl (by decide) (by decide) (fi := 35) rfl hmD.2.1.1 ?_
                  refine R_bipush hC dX12_cell1_107 (by decide +kernel) ⟨by decide, by decide⟩ ?_
                  have L117 : ∀ (t : Int), (t = bP ((vlS r n (nxR r n (nxR r n S))) < 6)) → RZ G LY C (Zn G LY 82 C (RP (fun v M' => Fr [76] [(57, 31), (57, 32), (57, 34), (57, 35), (57, 36), (57, 37), (57, 17)] M M' ∧ MRS M' r n (hdW r n d 58 S).2 ∧ TD M' d ∧ ((hdW r n d 58 S).2.2.2.2.1 = 0 → v = 6 * (hdL r n d S).1 + (hdW r n d 58 S).1 ∧ ∀ q, M' 76 q = if q = v then 1 else M 76 q) ∧ 0 ≤ v ∧ v < 30))) 0 0 82 117 [some (vR 57), some (vR 76), some (vI (vlS r n (nxR r n S))), none] [vI t, vR 57] Mc19 := by
                    intro t ht
                    refine R_iconst hC dX12_cell1_117 ⟨by decide, by decide⟩ ?_
                    have hG22 : GR Mc19 := (GR.fr hG18 hq20.1 (by decide +kernel))
                    refine R_callVp (as := [vI _, vI _]) hC dX12_cell1_118 mo_12_wants ml_12_231 (by decide) rfl rfl (c12_wants  hG22) rfl rfl hRm (by decide) (by decide) (Nat.le_of_ble_eq_true rfl) (fun v25 Mc23 hq24 => ?_)
                    have hmq : MRS Mc23 r n (itc ((vlS r n (nxR r n (nxR r n S))) < 6) (nxR r n (nxR r n S)) (refR 2 (nxR r n (nxR r n S)))) := by
                      have z := hmD.wt hq24.1 hq24.2.1
                      by_cases y : (vlS r n (nxR r n (nxR r n S))) < 6
                      · rw [itc_t y]; rw [if_neg (fun w => bP_z (ht.symm.trans w) y)] at z; exact z
                      · rw [itc_f y]; rw [if_pos (ht.trans (bP_neg y))] at z; exact z
                    have hvv : v25 = bP ((vlS r n (nxR r n (nxR r n S))) < 6) := by
                      rw [hq24.2.2, hmq.f]
                      by_cases z : (vlS r n (nxR r n (nxR r n S))) < 6
                      · rw [itc_t z, bP_pos z, bP_pos hf2]
                      · rw [itc_f z, bP_neg z, bP_neg (rf_ne hf2 (by decide))]
                    have hFE : Fr [76] [(57, 31), (57, 32), (57, 34), (57, 35), (57, 36), (57, 37), (57, 17)] M Mc23 := Fr.tt hFD (hq24.1.mo (by simp) (by simp))
                    have hdE := hdD.fr hq24.1 (by decide)
                    refine R_if_eq hC dX12_cell1_121 (tgt := 174) (by decide) (fun hb121 => ?_) (fun hb121 => ?_)
                    · skip
                      have no9 : ¬ ((vlS r n (nxR r n (nxR r n S))) < 6) := bP_z (hvv.symm.trans hb121)
                      have hmT : MRS Mc23 r n (refR 2 (nxR r n (nxR r n S))) := by rw [itc_f no9] at hmq; exact hmq
                      have hfT := rf_ne (S := (nxR r n (nxR r n S))) (v := 2) hf2 (by decide)
                      have hWT : hdW r n d 58 S = (0, (refR 2 (nxR r n (nxR r n S)))) := by
                        unfold hdW
                        rw [hLg]
                        show noR r n d 6 (d 122) (58 + (vlS r n (nxR r n S)) * 6) (nxR r n (nxR r n S)) = _
                        exact no_2 hg2 hf2 okD (by decide) (fun z => no9 (by omega))
                      have hF9 := hFE
                      refine R_iconst hC dX12_cell1_174 ⟨by decide, by decide⟩ ?_
                      exact R_ireturn hC dX12_cell1_175 rfl (ret_P ⟨hF9, by (rw [hWT]; exact hmT), by first | exact hdG | exact hdF | exact hdE | exact hdD, fun z => absurd z (by rw [hWT]; exact hfT), by decide, by decide⟩)
                    · skip
                      have okE : (vlS r n (nxR r n (nxR r n S))) < 6 := bP_nz (fun z => hb121 (hvv.trans z))
                      have hmE : MRS Mc23 r n (nxR r n (nxR r n S)) := by rw [itc_t okE] at hmq; exact hmq
                      refine R_aload_0 hC dX12_cell1_124 ?_
                      refine R_aload_0 hC dX12_cell1_125 ?_
                      refine R_getIE hC dX12_cell1_126 fl_12_216 (by decide) rfl (by decide) (by decide) (fi := 35) rfl hmE.2.1.1 ?_
                      refine R_aload_0 hC dX12_cell1_129 ?_
                      refine R_getIE hC dX12_cell1_130 fl_12_247 (by decide) rfl (by decide) (by decide) (fi := 43) rfl hdE.w ?_
                      have L141 : ∀ (t : Int), (t = bP ((vlS r n (nxR r n (nxR r n S))) < d 122)) → RZ G LY C (Zn G LY 82 C (RP (fun v M' => Fr [76] [(57, 31), (57, 32), (57, 34), (57, 35), (57, 36), (57, 37), (57, 17)] M M' ∧ MRS M' r n (hdW r n d 58 S).2 ∧ TD M' d ∧ ((hdW r n d 58 S).2.2.2.2.1 = 0 → v = 6 * (hdL r n d S).1 + (hdW r n d 58 S).1 ∧ ∀ q, M' 76 q = if q = v then 1 else M 76 q) ∧ 0 ≤ v ∧ v < 30))) 0 0 82 141 [some (vR 57), some (vR 76), some (vI (vlS r n (nxR r n S))), none] [vI t, vR 57] Mc23 := by
                        intro t ht
                        refine R_iconst hC dX12_cell1_141 ⟨by decide, by decide⟩ ?_
                        have hG26 : GR Mc23 := (GR.fr hG22 hq24.1 (by decide +kernel))
                        refine R_callVp (as := [vI _, vI _]) hC dX12_cell1_142 mo_12_wants ml_12_231 (by decide) rfl rfl (c12_wants  hG26) rfl rfl hRm (by decide) (by decide) (Nat.le_of_ble_eq_true rfl) (fun v29 Mc27 hq28 => ?_)
                        have hmq : MRS Mc27 r n (itc ((vlS r n (nxR r n (nxR r n S))) < d 122) (nxR r n (nxR r n S)) (refR 3 (nxR r n (nxR r n S)))) := by
                          have z := hmE.wt hq28.1 hq28.2.1
                          by_cases y : (vlS r n (nxR r n (nxR r n S))) < d 122
                          · rw [itc_t y]; rw [if_neg (fun w => bP_z (ht.symm.trans w) y)] at z; exact z
                          · rw [itc_f y]; rw [if_pos (ht.trans (bP_neg y))] at z; exact z
                        have hvv : v29 = bP ((vlS r n (nxR r n (nxR r n S))) < d 122) := by
                          rw [hq28.2.2, hmq.f]
                          by_cases z : (vlS r n (nxR r n (nxR r n S))) < d 122
                          · rw [itc_t z, bP_pos z, bP_pos hf2]
                          · rw [itc_f z, bP_neg z, bP_neg (rf_ne hf2 (by decide))]
                        have hFF : Fr [76] [(57, 31), (57, 32), (57, 34), (57, 35), (57, 36), (57, 37), (57, 17)] M Mc27 := Fr.tt hFE (hq28.1.mo (by simp) (by simp))
                        have hdF := hdE.fr hq28.1 (by decide)
                        refine R_if_eq hC dX12_cell1_145 (tgt := 174) (by decide) (fun hb145 => ?_) (fun hb145 => ?_)
                        · skip
                          have no9 : ¬ ((vlS r n (nxR r n (nxR r n S))) < d 122) := bP_z (hvv.symm.trans hb145)
                          have hmT : MRS Mc27 r n (refR 3 (nxR r n (nxR r n S))) := by rw [itc_f no9] at hmq; exact hmq
                          have hfT := rf_ne (S := (nxR r n (nxR r n S))) (v := 3) hf2 (by decide)
                          have hWT : hdW r n d 58 S = (0, (refR 3 (nxR r n (nxR r n S)))) := by
                            unfold hdW
                            rw [hLg]
                            show noR r n d 6 (d 122) (58 + (vlS r n (nxR r n S)) * 6) (nxR r n (nxR r n S)) = _
                            exact no_3 hg2 hf2 okD (by decide) (by omega) no9
                          have hF9 := hFF
                          refine R_iconst hC dX12_cell1_174 ⟨by decide, by decide⟩ ?_
                          exact R_ireturn hC dX12_cell1_175 rfl (ret_P ⟨hF9, by (rw [hWT]; exact hmT), by first | exact hdG | exact hdF | exact hdE | exact hdD, fun z => absurd z (by rw [hWT]; exact hfT), by decide, by decide⟩)
                        · skip
                          have okF : (vlS r n (nxR r n (nxR r n S))) < d 122 := bP_nz (fun z => hb145 (hvv.trans z))
                          have hmF : MRS Mc27 r n (nxR r n (nxR r n S)) := by rw [itc_t okF] at hmq; exact hmq
                          have hrw9 : ∀ q, Mc27 76 q = M 76 q := fun q => ((hq28.1 76 q (by decide) (by simp)).trans ((hq24.1 76 q (by decide) (by simp)).trans ((hq20.1 76 q (by decide) (by simp)).trans ((hq17.1 76 q (by decide) (by simp)).trans ((hq13.1 76 q (by decide) (by simp)).trans ((hq9.1 76 q (by decide) (by simp)).trans ((hq5.1 76 q (by decide) (by simp)).trans (hq2.1 76 q (by decide) (by simp)))))))))
                          refine R_aload_0 hC dX12_cell1_148 ?_
                          refine R_aload_1 hC dX12_cell1_149 ?_
                          refine R_iload_2 hC dX12_cell1_150 ?_
                          refine R_aload_0 hC dX12_cell1_151 ?_
                          refine R_getIE hC dX12_cell1_152 fl_12_216 (by decide) rfl (by decide) (by decide) (fi := 35) rfl hmF.2.1.1 ?_
                          refine R_callSq (as := [vI _, vI _]) hC dX12_cell1_155 mo_12_cell ml_12_87 (c12_cell  (by omega) (by omega) (by omega) (by omega)) rfl rfl hRm (by decide) (by decide) (Nat.le_of_ble_eq_true rfl) ?_
                          refine R_zaloadE hC dX12_cell1_158 (by decide) rfl (by omega) (by omega) (((hrw9 (6 * (vlS r n (nxR r n S)) + (vlS r n (nxR r n (nxR r n S))))).trans (hal (6 * (vlS r n (nxR r n S)) + (vlS r n (nxR r n (nxR r n S)))) (by omega) (by omega))).trans (congrArg (fun z => bP (0 < d z)) (show 58 + (6 * (vlS r n (nxR r n S)) + (vlS r n (nxR r n (nxR r n S)))) = 58 + (vlS r n (nxR r n S)) * 6 + (vlS r n (nxR r n (nxR r n S))) by omega))) ?_
                          have L167 : ∀ (t : Int), (t = bP (¬ 0 < d (58 + (vlS r n (nxR r n S)) * 6 + (vlS r n (nxR r n (nxR r n S)))))) → RZ G LY C (Zn G LY 82 C (RP (fun v M' => Fr [76] [(57, 31), (57, 32), (57, 34), (57, 35), (57, 36), (57, 37), (57, 17)] M M' ∧ MRS M' r n (hdW r n d 58 S).2 ∧ TD M' d ∧ ((hdW r n d 58 S).2.2.2.2.1 = 0 → v = 6 * (hdL r n d S).1 + (hdW r n d 58 S).1 ∧ ∀ q, M' 76 q = if q = v then 1 else M 76 q) ∧ 0 ≤ v ∧ v < 30))) 0 0 82 167 [some (vR 57), some (vR 76), some (vI (vlS r n (nxR r n S))), none] [vI t, vR 57] Mc27 := by
                            intro t ht
                            refine R_iconst hC dX12_cell1_167 ⟨by decide, by decide⟩ ?_
                            have hG30 : GR Mc27 := (GR.fr hG26 hq28.1 (by decide +kernel))
                            refine R_callVp (as := [vI _, vI _]) hC dX12_cell1_168 mo_12_wants ml_12_231 (by decide) rfl rfl (c12_wants  hG30) rfl rfl hRm (by decide) (by decide) (Nat.le_of_ble_eq_true rfl) (fun v33 Mc31 hq32 => ?_)
                            have hmq : MRS Mc31 r n (itc (¬ 0 < d (58 + (vlS r n (nxR r n S)) * 6 + (vlS r n (nxR r n (nxR r n S))))) (nxR r n (nxR r n S)) (refR 4 (nxR r n (nxR r n S)))) := by
                              have z := hmF.wt hq32.1 hq32.2.1
                              by_cases y : ¬ 0 < d (58 + (vlS r n (nxR r n S)) * 6 + (vlS r n (nxR r n (nxR r n S))))
                              · rw [itc_t y]; rw [if_neg (fun w => bP_z (ht.symm.trans w) y)] at z; exact z
                              · rw [itc_f y]; rw [if_pos (ht.trans (bP_neg y))] at z; exact z
                            have hvv : v33 = bP (¬ 0 < d (58 + (vlS r n (nxR r n S)) * 6 + (vlS r n (nxR r n (nxR r n S))))) := by
                              rw [hq32.2.2, hmq.f]
                              by_cases z : ¬ 0 < d (58 + (vlS r n (nxR r n S)) * 6 + (vlS r n (nxR r n (nxR r n S))))
                              · rw [itc_t z, bP_pos z, bP_pos hf2]
                              · rw [itc_f z, bP_neg z, bP_neg (rf_ne hf2 (by decide))]
                            have hFG : Fr [76] [(57, 31), (57, 32), (57, 34), (57, 35), (57, 36), (57, 37), (57, 17)] M Mc31 := Fr.tt hFF (hq32.1.mo (by simp) (by simp))
                            have hdG := hdF.fr hq32.1 (by decide)
                            refine R_if_ne hC dX12_cell1_171 (tgt := 176) (by decide) (fun hb171 => ?_) (fun hb171 => ?_)
                            · skip
                              have okG : ¬ 0 < d (58 + (vlS r n (nxR r n S)) * 6 + (vlS r n (nxR r n (nxR r n S)))) := bP_nz (fun z => hb171 (hvv.trans z))
                              have hmG : MRS Mc31 r n (nxR r n (nxR r n S)) := by rw [itc_t okG] at hmq; exact hmq
                              have hrow : ∀ q, Mc31 76 q = M 76 q := fun q => (hq32.1 76 q (by decide) (by simp)).trans (hrw9 q)
                              refine R_iload_2 hC dX12_cell1_176 ?_
                              refine R_aload_0 hC dX12_cell1_177 ?_
                              refine R_getIE hC dX12_cell1_178 fl_12_216 (by decide) rfl (by decide) (by decide) (fi := 35) rfl hmG.2.1.1 ?_
                              refine R_callSq (as := [vI _, vI _]) hC dX12_cell1_181 mo_12_cell ml_12_87 (c12_cell  (by omega) (by omega) (by omega) (by omega)) rfl rfl hRm (by decide) (by decide) (Nat.le_of_ble_eq_true rfl) ?_
                              refine R_istore_3 hC dX12_cell1_184 rfl ?_
                              refine R_aload_1 hC dX12_cell1_185 ?_
                              refine R_iload_3 hC dX12_cell1_186 ?_
                              refine R_iconst hC dX12_cell1_187 ⟨by decide, by decide⟩ ?_
                              refine R_zastore hC dX12_cell1_188 (by decide) rfl (by omega) (by omega) (.inr rfl) ?_
                              have hF5 : Fr [76] [(57, 31), (57, 32), (57, 34), (57, 35), (57, 36), (57, 37), (57, 17)] M (uM Mc31 76 (6 * (vlS r n (nxR r n S)) + (vlS r n (nxR r n (nxR r n S)))) 1) := Fr.uA hFG (by decide)
                              have hm5 : MRS (uM Mc31 76 (6 * (vlS r n (nxR r n S)) + (vlS r n (nxR r n (nxR r n S)))) 1) r n (nxR r n (nxR r n S)) := hmG.u (by decide)
                              have hd5 := (hdG.fr (Fr.uA (A := [76]) (B := []) Fr.rf (by decide)) (by decide) : TD (uM Mc31 76 (6 * (vlS r n (nxR r n S)) + (vlS r n (nxR r n (nxR r n S)))) 1) d)
                              refine R_aload_0 hC dX12_cell1_189 ?_
                              have hG34 : GR (uM Mc31 76 (6 * (vlS r n (nxR r n S)) + (vlS r n (nxR r n (nxR r n S)))) 1) := (GR.uA (GR.fr hG30 hq32.1 (by decide +kernel)) (by decide +kernel) (.inl (by decide)))
                              refine R_callVv (as := []) hC dX12_cell1_190 mo_12_go ml_12_238 (by decide) rfl rfl (c12_go (e := ((nxR r n (nxR r n S)).2.2.1)) hG34 ((hF5 57 33 (by decide) (by decide)).trans hn) (fun j p q => (congrFun (hF5.row (by decide) (by decide)) j).trans (htp j p q)) (by omega) (by omega) hm5.e (by omega) (by omega)) rfl rfl hRm (by decide) (by decide) (Nat.le_of_ble_eq_true rfl) (fun Mc35 hq36 => ?_)
                              have hF6 : Fr [76] [(57, 31), (57, 32), (57, 34), (57, 35), (57, 36), (57, 37), (57, 17)] M Mc35 := Fr.tt hF5 (hq36.1.mo (by simp) (by simp))
                              have hm6 := hm5.go hq36.1 hq36.2
                              have hWg : hdW r n d 58 S = ((vlS r n (nxR r n (nxR r n S))), nxR r n (nxR r n (nxR r n S))) := by
                                unfold hdW
                                rw [hLg]
                                show noR r n d 6 (d 122) (58 + (vlS r n (nxR r n S)) * 6) (nxR r n (nxR r n S)) = _
                                exact no_g hg2 hf2 okD (by decide) (by omega) okF (fun z => okG z.2.2)
                              have hT9 : ∀ q, Mc35 76 q = if q = 6 * (vlS r n (nxR r n S)) + (vlS r n (nxR r n (nxR r n S))) then 1 else M 76 q := fun q => by
                                rw [hq36.1 76 q (by decide) (by simp)]
                                by_cases z : q = 6 * (vlS r n (nxR r n S)) + (vlS r n (nxR r n (nxR r n S)))
                                · rw [if_pos z, z]; exact uM_same
                                · rw [if_neg z]; exact (uM_k z).trans (hrow q)
                              refine R_iload_3 hC dX12_cell1_193 ?_
                              exact R_ireturn hC dX12_cell1_194 rfl (ret_P ⟨hF6, by (rw [hWg]; exact hm6), hd5.fr hq36.1 (by decide), fun _ => by (rw [hWg, hLg]; exact ⟨rfl, hT9⟩), by omega, by omega⟩)
                            · skip
                              have no9 : ¬ (¬ 0 < d (58 + (vlS r n (nxR r n S)) * 6 + (vlS r n (nxR r n (nxR r n S))))) := bP_z (hvv.symm.trans hb171)
                              have hmT : MRS Mc31 r n (refR 4 (nxR r n (nxR r n S))) := by rw [itc_f no9] at hmq; exact hmq
                              have hfT := rf_ne (S := (nxR r n (nxR r n S))) (v := 4) hf2 (by decide)
                              have hWT : hdW r n d 58 S = (0, (refR 4 (nxR r n (nxR r n S)))) := by
                                unfold hdW
                                rw [hLg]
                                show noR r n d 6 (d 122) (58 + (vlS r n (nxR r n S)) * 6) (nxR r n (nxR r n S)) = _
                                exact no_4 hg2 hf2 okD (by decide) (by omega) okF (by (refine ⟨by omega, by omega, ?_⟩; exact Classical.byContradiction no9))
                              have hF9 := hFG
                              refine R_iconst hC dX12_cell1_174 ⟨by decide, by decide⟩ ?_
                              exact R_ireturn hC dX12_cell1_175 rfl (ret_P ⟨hF9, by (rw [hWT]; exact hmT), by first | exact hdG | exact hdF | exact hdE | exact hdD, fun z => absurd z (by rw [hWT]; exact hfT), by decide, by decide⟩)
                          refine R_if_ne hC dX12_cell1_159 (tgt := 166) (by decide) (fun hb159 => ?_) (fun hb159 => ?_)
                          · skip
                            replace hb159 := bP_nz hb159
                            refine R_iconst hC dX12_cell1_166 ⟨by decide, by decide⟩ ?_
                            exact L167 _ (by first | exact (bP_pos (by first | assumption | omega)).symm | exact (bP_neg (by first | assumption | omega)).symm)
                          · skip
                            replace hb159 := bP_z hb159
                            refine R_iconst hC dX12_cell1_162 ⟨by decide, by decide⟩ ?_
                            refine R_goto hC dX12_cell1_163 (tgt := 167) (by decide) ?_
                            exact L167 _ (by first | exact (bP_pos (by first | assumption | omega)).symm | exact (bP_neg (by first | assumption | omega)).symm)
                      refine R_icmp_ge hC dX12_cell1_133 (tgt := 140) (by decide) (fun hb133 => ?_) (fun hb133 => ?_)
                      · skip
                        refine R_iconst hC dX12_cell1_140 ⟨by decide, by decide⟩ ?_
                        exact L141 _ (by first | exact (bP_pos (by first | assumption | omega)).symm | exact (bP_neg (by first | assumption | omega)).symm)
                      · skip
                        refine R_iconst hC dX12_cell1_136 ⟨by decide, by decide⟩ ?_
                        refine R_goto hC dX12_cell1_137 (tgt := 141) (by decide) ?_
                        exact L141 _ (by first | exact (bP_pos (by first | assumption | omega)).symm | exact (bP_neg (by first | assumption | omega)).symm)
                  refine R_icmp_ge hC dX12_cell1_109 (tgt := 116) (by decide) (fun hb109 => ?_) (fun hb109 => ?_)
                  · skip
                    refine R_iconst hC dX12_cell1_116 ⟨by decide, by decide⟩ ?_
                    exact L117 _ (by first | exact (bP_pos (by first | assumption | omega)).symm | exact (bP_neg (by first | assumption | omega)).symm)
                  · skip
                    refine R_iconst hC dX12_cell1_112 ⟨by decide, by decide⟩ ?_
                    refine R_goto hC dX12_cell1_113 (tgt := 117) (by decide) ?_
                    exact L117 _ (by first | exact (bP_pos (by first | assumption | omega)).symm | exact (bP_neg (by first | assumption | omega)).symm)
              refine R_icmp_ne hC dX12_cell1_87 (tgt := 94) (by decide) (fun hb87 => ?_) (fun hb87 => ?_)
              · skip
                refine R_iconst hC dX12_cell1_94 ⟨by decide, by decide⟩ ?_
                exact L95 _ (by first | exact (bP_pos (by first | assumption | omega)).symm | exact (bP_neg (by first | assumption | omega)).symm)
              · skip
                refine R_iconst hC dX12_cell1_90 ⟨by decide, by decide⟩ ?_
                refine R_goto hC dX12_cell1_91 (tgt := 95) (by decide) ?_
                exact L95 _ (by first | exact (bP_pos (by first | assumption | omega)).symm | exact (bP_neg (by first | assumption | omega)).symm)
            · skip
              have no9 : ¬ ((vlS r n (nxR r n S)) < d 121) := bP_z (hvv.symm.trans hb67)
              have hmT : MRS Mc12 r n (refR 3 (nxR r n S)) := by rw [itc_f no9] at hmq; exact hmq
              have hfT := rf_ne (S := (nxR r n S)) (v := 3) hf1 (by decide)
              have hWT : hdW r n d 58 S = (0, (refR 3 (nxR r n S))) := by
                have hL : hdL r n d S = (0, (refR 3 (nxR r n S))) := no_3 hg1 hf1 okA (by decide) (by omega) no9
                unfold hdW
                rw [hL]
                exact no_bad hfT
              have hF9 := hFC
              refine R_iconst hC dX12_cell1_70 ⟨by decide, by decide⟩ ?_
              exact R_ireturn hC dX12_cell1_71 rfl (ret_P ⟨hF9, by (rw [hWT]; exact hmT), by first | exact hdA | exact hdB | exact hdC, fun z => absurd z (by rw [hWT]; exact hfT), by decide, by decide⟩)
          refine R_icmp_ge hC dX12_cell1_55 (tgt := 62) (by decide) (fun hb55 => ?_) (fun hb55 => ?_)
          · skip
            refine R_iconst hC dX12_cell1_62 ⟨by decide, by decide⟩ ?_
            exact L63 _ (by first | exact (bP_pos (by first | assumption | omega)).symm | exact (bP_neg (by first | assumption | omega)).symm)
          · skip
            refine R_iconst hC dX12_cell1_58 ⟨by decide, by decide⟩ ?_
            refine R_goto hC dX12_cell1_59 (tgt := 63) (by decide) ?_
            exact L63 _ (by first | exact (bP_pos (by first | assumption | omega)).symm | exact (bP_neg (by first | assumption | omega)).symm)
      refine R_icmp_ge hC dX12_cell1_31 (tgt := 38) (by decide) (fun hb31 => ?_) (fun hb31 => ?_)
      · skip
        refine R_iconst hC dX12_cell1_38 ⟨by decide, by decide⟩ ?_
        exact L39 _ (by first | exact (bP_pos (by first | assumption | omega)).symm | exact (bP_neg (by first | assumption | omega)).symm)
      · skip
        refine R_iconst hC dX12_cell1_34 ⟨by decide, by decide⟩ ?_
        refine R_goto hC dX12_cell1_35 (tgt := 39) (by decide) ?_
        exact L39 _ (by first | exact (bP_pos (by first | assumption | omega)).symm | exact (bP_neg (by first | assumption | omega)).symm)
  refine R_icmp_ne hC dX12_cell1_10 (tgt := 17) (by decide) (fun hb10 => ?_) (fun hb10 => ?_)
  · skip
    refine R_iconst hC dX12_cell1_17 ⟨by decide, by decide⟩ ?_
    exact L18 _ (by first | exact (bP_pos (by first | assumption | omega)).symm | exact (bP_neg (by first | assumption | omega)).symm)
  · skip
    refine R_iconst hC dX12_cell1_13 ⟨by decide, by decide⟩ ?_
    refine R_goto hC dX12_cell1_14 (tgt := 18) (by decide) ?_
    exact L18 _ (by first | exact (bP_pos (by first | assumption | omega)).symm | exact (bP_neg (by first | assumption | omega)).symm)
