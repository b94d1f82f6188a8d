/-! the desk: the tape, the text -/
theorem bm8 (x : Int) : ((x.bmod 4294967296).bmod 256) % 256 = x % 256 := by
  have e : ∀ (y : Int) (m : Nat), y.bmod m = if y % m < (m + 1) / 2 then y % m else y % m - m := fun _ _ => rfl
  rw [e, e]
  split <;> split <;> omega
theorem bm_b (x : Int) : -128 ≤ x.bmod 256 ∧ x.bmod 256 < 128 := by
  have e : ∀ (y : Int) (m : Nat), y.bmod m = if y % m < (m + 1) / 2 then y % m else y % m - m := fun _ _ => rfl
  rw [e]
  split <;> omega
theorem byt {v s : Int} (hs : s = 24 ∨ s = 16 ∨ s = 8 ∨ s = 0) : ((v % 4294967296 / 2 ^ s.toNat).bmod 4294967296).bmod 256 % 256 = v / 2 ^ s.toNat % 2 ^ 8 := by
  rw [bm8]
  rcases hs with rfl | rfl | rfl | rfl
  · show v % 4294967296 / 2 ^ 24 % 256 = v / 2 ^ 24 % 2 ^ 8
    omega
  · show v % 4294967296 / 2 ^ 16 % 256 = v / 2 ^ 16 % 2 ^ 8
    omega
  · show v % 4294967296 / 2 ^ 8 % 256 = v / 2 ^ 8 % 2 ^ 8
    omega
  · show v % 4294967296 / 2 ^ 0 % 256 = v / 2 ^ 0 % 2 ^ 8
    omega
/-- without a fault there is no place of one -/
def PLC (S : RT) : Prop := S.2.2.2.1 = 0 → S.2.2.2.2 = -1
section PLCS
variable {r : Int → Int} {n : Int} {S : RT}
theorem PLC.nx (h : PLC S) : PLC (nxR r n S) := h
theorem rf_nz {S : RT} {v : Int} (hv : v ≠ 0) : (refR v S).2.2.2.1 ≠ 0 := by
  by_cases h : S.2.2.2.1 = 0
  · unfold refR
    rw [if_pos h]
    exact hv
  · rw [refR_n h]; exact h
theorem PLC.rf {v : Int} (h : PLC S) (hv : v ≠ 0) : PLC (refR v S) := fun z => absurd z (rf_nz hv)
theorem PLC.ck {a b : Int} (h : PLC S) : PLC (ckR r n a b S).2 := by
  unfold ckR
  split
  · split
    · split
      · exact h
      · exact h.rf (by decide)
    · exact h.rf (by decide)
  · exact h
theorem PLC.rn {a b : Int} (h : PLC S) : PLC (rnR r n a b S).2 := by
  unfold rnR
  split
  · exact (PLC.ck h).nx
  · exact PLC.ck h
theorem PLC.sg (h : PLC S) : PLC (sgR r n S) := by
  unfold sgR
  split
  · split
    · exact h.nx
    · exact h.rf (by decide)
  · exact h
theorem PLC.lb {c : Int × RT} (h : PLC c.2) : PLC (lb2 r n c).2 := by
  unfold lb2
  split
  · exact PLC.rn h
  · exact h
theorem PLC.no {d : Int → Int} {o q p : Int} (h : PLC S) : PLC (noR r n d o q p S).2 := by
  show PLC (noC r n _)
  have g1 : PLC (noA q (ckR r n 0 (o - 1) S)) := by
    unfold noA
    split
    · exact (PLC.ck h).rf (by decide)
    · exact PLC.ck h
  have g2 : PLC (noB d p (ckR r n 0 (o - 1) S).1 (noA q (ckR r n 0 (o - 1) S))) := by
    unfold noB
    split
    · exact g1.rf (by decide)
    · exact g1
  unfold noC
  split
  · exact g2.nx
  · exact g2
theorem PLC.cl {X : RX} (h : RG n X.2.2) (g : PLC X.2.2) : PLC (clR r n X).2.2 := by
  obtain ⟨d, s, S⟩ := X
  have g : PLC S := g
  by_cases h0 : wdP r n S 0
  · rw [clc_0 h0]
    show PLC (lbR r n d S).2
    unfold lbR
    by_cases q : d 121 < 5
    · rw [if_pos q]; exact PLC.sg (PLC.lb (PLC.rn g.nx))
    · rw [if_neg q]; exact g.rf (by decide)
  by_cases h1 : wdP r n S 1
  · rw [clc_1 h0 h1]
    show PLC (wkR r n d S).2
    unfold wkR
    by_cases q : d 122 < 6
    · rw [if_pos q]; exact PLC.sg (PLC.rn (PLC.rn g.nx))
    · rw [if_neg q]; exact g.rf (by decide)
  by_cases h2 : wdP r n S 2
  · rw [clc_2 h0 h1 h2]
    exact PLC.sg (PLC.rn (PLC.no (PLC.no g.nx)))
  by_cases h3 : wdP r n S 3
  · rw [clc_3 h0 h1 h2 h3]
    exact PLC.sg (PLC.rn (PLC.rn (PLC.no (PLC.no g.nx))))
  by_cases h4 : wdP r n S 4
  · rw [clc_4 h0 h1 h2 h3 h4]
    show PLC (if s = 0 then _ else _)
    by_cases q : s = 0
    · rw [if_pos q]; exact PLC.sg (PLC.rn g.nx)
    · rw [if_neg q]; exact g.rf (by decide)
  rw [clc_5 h0 h1 h2 h3 h4]
  exact g.rf (by decide)
theorem rdI_plc (hn : 0 ≤ n) : ∀ k : Nat, PLC (rdI r n k).2.2
  | 0 => fun _ => rfl
  | k + 1 => PLC.cl (rdI_ok hn k).1 (rdI_plc hn k)
end PLCS

theorem dX11_putOnTape_0 : decode cX11_putOnTape 0 = .ok (.bipush 24, 2) := by decide +kernel
theorem dX11_putOnTape_2 : decode cX11_putOnTape 2 = .ok (.istore_n 2, 1) := by decide +kernel
theorem dX11_putOnTape_3 : decode cX11_putOnTape 3 = .ok (.iload_n 2, 1) := by decide +kernel
theorem dX11_putOnTape_4 : decode cX11_putOnTape 4 = .ok (.ifCond .lt 42, 3) := by decide +kernel
theorem dX11_putOnTape_7 : decode cX11_putOnTape 7 = .ok (.aload_n 0, 1) := by decide +kernel
theorem dX11_putOnTape_8 : decode cX11_putOnTape 8 = .ok (.getfield 13, 3) := by decide +kernel
theorem dX11_putOnTape_11 : decode cX11_putOnTape 11 = .ok (.sipush 700, 3) := by decide +kernel
theorem dX11_putOnTape_14 : decode cX11_putOnTape 14 = .ok (.if_icmp .ge 32, 3) := by decide +kernel
theorem dX11_putOnTape_17 : decode cX11_putOnTape 17 = .ok (.aload_n 0, 1) := by decide +kernel
theorem dX11_putOnTape_18 : decode cX11_putOnTape 18 = .ok (.getfield 9, 3) := by decide +kernel
theorem dX11_putOnTape_21 : decode cX11_putOnTape 21 = .ok (.aload_n 0, 1) := by decide +kernel
theorem dX11_putOnTape_22 : decode cX11_putOnTape 22 = .ok (.getfield 13, 3) := by decide +kernel
theorem dX11_putOnTape_25 : decode cX11_putOnTape 25 = .ok (.iload_n 1, 1) := by decide +kernel
theorem dX11_putOnTape_26 : decode cX11_putOnTape 26 = .ok (.iload_n 2, 1) := by decide +kernel
theorem dX11_putOnTape_27 : decode cX11_putOnTape 27 = .ok (.iushr, 1) := by decide +kernel
theorem dX11_putOnTape_28 : decode cX11_putOnTape 28 = .ok (.i2b, 1) := by decide +kernel
theorem dX11_putOnTape_29 : decode cX11_putOnTape 29 = .ok (.bastore, 1) := by decide +kernel
theorem dX11_putOnTape_30 : decode cX11_putOnTape 30 = .ok (.aload_n 0, 1) := by decide +kernel
theorem dX11_putOnTape_31 : decode cX11_putOnTape 31 = .ok (.dup, 1) := by decide +kernel
theorem dX11_putOnTape_32 : decode cX11_putOnTape 32 = .ok (.getfield 13, 3) := by decide +kernel
theorem dX11_putOnTape_35 : decode cX11_putOnTape 35 = .ok (.iconst 1, 1) := by decide +kernel
theorem dX11_putOnTape_36 : decode cX11_putOnTape 36 = .ok (.iadd, 1) := by decide +kernel
theorem dX11_putOnTape_37 : decode cX11_putOnTape 37 = .ok (.putfield 13, 3) := by decide +kernel
theorem dX11_putOnTape_40 : decode cX11_putOnTape 40 = .ok (.iinc 2 (-8), 3) := by decide +kernel
theorem dX11_putOnTape_43 : decode cX11_putOnTape 43 = .ok (.goto (-40), 3) := by decide +kernel
theorem dX11_putOnTape_46 : decode cX11_putOnTape 46 = .ok (.return_, 1) := by decide +kernel
set_option maxHeartbeats 400000 in
theorem c11_putOnTape {G : Gl} {l : Launch}  {M : Mem} {t v : Int} (hG : GR M) (ht : M 0 1 = t) (ht0 : 0 ≤ t) (ht1 : t ≤ 696) : Ct G LY 57 l 0 m11_putOnTape [vR 0, vI v] M (RV (fun M' => Fr [1] [(0, 1)] M M' ∧ M' 0 1 = t + 4 ∧ (∀ j, 0 ≤ j → j < 4 → M' 1 (t + j) % 2 ^ 8 = v / 2 ^ (24 - 8 * j).toNat % 2 ^ 8) ∧ (∀ j, (j < t ∨ t + 4 ≤ j) → M' 1 j = M 1 j))) := by
  refine R_start (by decide +kernel) (Nat.le_of_ble_eq_true rfl) (fun C hC hRm hlau => ?_)
  show RZ G LY C (Zn G LY 57 C (RV (fun M' => Fr [1] [(0, 1)] M M' ∧ M' 0 1 = t + 4 ∧ (∀ j, 0 ≤ j → j < 4 → M' 1 (t + j) % 2 ^ 8 = v / 2 ^ (24 - 8 * j).toNat % 2 ^ 8) ∧ (∀ j, (j < t ∨ t + 4 ≤ j) → M' 1 j = M 1 j)))) 0 0 57 0 [some (vR 0), some (vI v), none] [] M
  refine R_bipush hC dX11_putOnTape_0 (by decide +kernel) ⟨by decide, by decide⟩ ?_
  refine R_istore_2 hC dX11_putOnTape_2 rfl ?_
  have L3 : ∀ (mq : Nat) (s : Int) (i : Int) (M2 : Mem), (s = 24 - 8 * i) → (0 ≤ i) → (i ≤ 4) → (GR M2) → (Fr [1] [(0, 1)] M M2) → (M2 0 1 = t + i) → ((∀ j, 0 ≤ j → j < i → M2 1 (t + j) % 2 ^ 8 = v / 2 ^ (24 - 8 * j).toNat % 2 ^ 8) ∧ (∀ j, (j < t ∨ t + 4 ≤ j) → M2 1 j = M 1 j)) → (s + 8).toNat < mq → RZ G LY C (Zn G LY 57 C (RV (fun M' => Fr [1] [(0, 1)] M M' ∧ M' 0 1 = t + 4 ∧ (∀ j, 0 ≤ j → j < 4 → M' 1 (t + j) % 2 ^ 8 = v / 2 ^ (24 - 8 * j).toNat % 2 ^ 8) ∧ (∀ j, (j < t ∨ t + 4 ≤ j) → M' 1 j = M 1 j)))) 0 0 57 3 [some (vR 0), some (vI v), some (vI s)] [] M2 := by
    intro mq
    induction mq with
    | zero =>
      intro s i M2 hs hi0 hi1 hg hF h1 hP hm
      exact absurd hm (Nat.not_lt_zero _)
    | succ mq ih3 =>
      intro s i M2 hs hi0 hi1 hg hF h1 hP hm3
      refine R_iload_2 hC dX11_putOnTape_3 ?_
      refine R_if_lt hC dX11_putOnTape_4 (tgt := 46) (by decide) (fun hb4 => ?_) (fun hb4 => ?_)
      · skip
        exact R_return hC dX11_putOnTape_46 rfl (ret_V ⟨hF, by (rw [h1]; omega), fun j a b => hP.1 j a (by omega), hP.2⟩)
      · skip
        refine R_aload_0 hC dX11_putOnTape_7 ?_
        refine R_getIE hC dX11_putOnTape_8 fl_11_13 (by decide) rfl (by decide) (by decide) (fi := 1) rfl h1 ?_
        refine R_sipush hC dX11_putOnTape_11 (by decide +kernel) ⟨by decide, by decide⟩ ?_
        refine R_icmp_ge hC dX11_putOnTape_14 (tgt := 46) (by decide) (fun hb14 => ?_) (fun hb14 => ?_)
        · skip
          exact R_return hC dX11_putOnTape_46 rfl (ret_V ⟨hF, by (rw [h1]; omega), fun j a b => hP.1 j a (by omega), hP.2⟩)
        · skip
          refine R_aload_0 hC dX11_putOnTape_17 ?_
          refine R_getR hC dX11_putOnTape_18 fl_11_9 (by decide) rfl (by decide) (by decide) (fi := 0) rfl (r := 1) (gr_0_0 hg) ?_
          refine R_aload_0 hC dX11_putOnTape_21 ?_
          refine R_getIE hC dX11_putOnTape_22 fl_11_13 (by decide) rfl (by decide) (by decide) (fi := 1) rfl h1 ?_
          refine R_iload_1 hC dX11_putOnTape_25 ?_
          refine R_iload_2 hC dX11_putOnTape_26 ?_
          refine R_iushr hC dX11_putOnTape_27 (by omega) (by omega) ?_
          refine R_i2b hC dX11_putOnTape_28 ?_
          have hbr : -128 ≤ (((v % 4294967296 / 2 ^ s.toNat).bmod 4294967296).bmod 256) ∧ (((v % 4294967296 / 2 ^ s.toNat).bmod 4294967296).bmod 256) < 128 := bm_b _
          refine R_bastore hC dX11_putOnTape_29 (by decide) rfl (by omega) (by omega) (by omega) ?_
          refine R_aload_0 hC dX11_putOnTape_30 ?_
          refine R_dup hC dX11_putOnTape_31 rfl ?_
          refine R_getIE hC dX11_putOnTape_32 fl_11_13 (by decide) rfl (by decide) (by decide) (fi := 1) rfl ((uM_h (by decide)).trans h1) ?_
          refine R_iconst hC dX11_putOnTape_35 ⟨by decide, by decide⟩ ?_
          refine R_iadd hC dX11_putOnTape_36 ⟨by omega, by omega⟩ ?_
          refine R_putI hC dX11_putOnTape_37 fl_11_13 (by decide) rfl (by decide) (by decide) (fi := 1) rfl ?_
          refine R_iinc_2 hC dX11_putOnTape_40 rfl ⟨by omega, by omega⟩ ?_
          refine R_goto hC dX11_putOnTape_43 (tgt := 3) (by decide) ?_
          have hG1 : GR (uM (uM M2 1 (t + i) (((v % 4294967296 / 2 ^ s.toNat).bmod 4294967296).bmod 256)) 0 1 ((t + i) + 1)) := (GR.uF (GR.uA hg (by decide +kernel) (.inl (by decide))) (by decide +kernel) (by decide))
          exact ih3 _ (i + 1) _ (by omega) (by omega) (by omega) hG1 (Fr.uB (Fr.uA hF (by decide)) (by decide)) (uM_same.trans (by omega)) (⟨fun j a b => by
            by_cases e : j = i
            · rw [e, show ((uM (uM M2 1 (t + i) (((v % 4294967296 / 2 ^ s.toNat).bmod 4294967296).bmod 256)) 0 1 ((t + i) + 1)) 1 (t + i)) = _ from (uM_h (by decide)).trans uM_same]
              rw [show 24 - 8 * i = s by omega]
              exact byt (by omega)
            · rw [show ((uM (uM M2 1 (t + i) (((v % 4294967296 / 2 ^ s.toNat).bmod 4294967296).bmod 256)) 0 1 ((t + i) + 1)) 1 (t + j)) = _ from (uM_h (by decide)).trans (uM_k (by omega))]
              exact hP.1 j a (by omega), fun j p => (uM_h (by decide)).trans ((uM_k (by omega)).trans (hP.2 j p))⟩) (by omega)
  exact L3 _ 24 0 _ (by omega) (by omega) (by omega) hG Fr.rf (by omega) (⟨fun j a b => by omega, fun j _ => rfl⟩) (Nat.lt_succ_self _)
theorem dX11_feed_0 : decode cX11_feed 0 = .ok (.aload_n 0, 1) := by decide +kernel
theorem dX11_feed_1 : decode cX11_feed 1 = .ok (.getfield 13, 3) := by decide +kernel
theorem dX11_feed_4 : decode cX11_feed 4 = .ok (.sipush 680, 3) := by decide +kernel
theorem dX11_feed_7 : decode cX11_feed 7 = .ok (.if_icmp .le 5, 3) := by decide +kernel
theorem dX11_feed_10 : decode cX11_feed 10 = .ok (.iconst (-1), 1) := by decide +kernel
theorem dX11_feed_11 : decode cX11_feed 11 = .ok (.ireturn, 1) := by decide +kernel
theorem dX11_feed_12 : decode cX11_feed 12 = .ok (.aload_n 0, 1) := by decide +kernel
theorem dX11_feed_13 : decode cX11_feed 13 = .ok (.iload_n 1, 1) := by decide +kernel
theorem dX11_feed_14 : decode cX11_feed 14 = .ok (.invokevirtual 104, 3) := by decide +kernel
theorem dX11_feed_17 : decode cX11_feed 17 = .ok (.aload_n 0, 1) := by decide +kernel
theorem dX11_feed_18 : decode cX11_feed 18 = .ok (.iload_n 2, 1) := by decide +kernel
theorem dX11_feed_19 : decode cX11_feed 19 = .ok (.invokevirtual 104, 3) := by decide +kernel
theorem dX11_feed_22 : decode cX11_feed 22 = .ok (.aload_n 0, 1) := by decide +kernel
theorem dX11_feed_23 : decode cX11_feed 23 = .ok (.iload_n 3, 1) := by decide +kernel
theorem dX11_feed_24 : decode cX11_feed 24 = .ok (.invokevirtual 104, 3) := by decide +kernel
theorem dX11_feed_27 : decode cX11_feed 27 = .ok (.aload_n 0, 1) := by decide +kernel
theorem dX11_feed_28 : decode cX11_feed 28 = .ok (.iload 4, 2) := by decide +kernel
theorem dX11_feed_30 : decode cX11_feed 30 = .ok (.invokevirtual 104, 3) := by decide +kernel
theorem dX11_feed_33 : decode cX11_feed 33 = .ok (.aload_n 0, 1) := by decide +kernel
theorem dX11_feed_34 : decode cX11_feed 34 = .ok (.iload 5, 2) := by decide +kernel
theorem dX11_feed_36 : decode cX11_feed 36 = .ok (.invokevirtual 104, 3) := by decide +kernel
theorem dX11_feed_39 : decode cX11_feed 39 = .ok (.aload_n 0, 1) := by decide +kernel
theorem dX11_feed_40 : decode cX11_feed 40 = .ok (.getfield 13, 3) := by decide +kernel
theorem dX11_feed_43 : decode cX11_feed 43 = .ok (.ireturn, 1) := by decide +kernel
set_option maxHeartbeats 400000 in
theorem c11_feed {G : Gl} {l : Launch}  {M : Mem} {a b c d e t : Int} (hG : GR M) (ht : M 0 1 = t) (ht0 : 0 ≤ t) (ht9 : t ≤ 700) : Ct G LY 57 l 1 m11_feed [vR 0, vI a, vI b, vI c, vI d, vI e] M (RP (fun v M' => (680 < t ∧ M' = M ∧ v = -1) ∨ (t ≤ 680 ∧ (Fr [1] [(0, 1)] M M' ∧ M' 0 1 = t + 20 ∧ (∀ j, 0 ≤ j → j < 20 → M' 1 (t + j) % 2 ^ 8 = ((if j < 4 then a else if j < 8 then b else if j < 12 then c else if j < 16 then d else e) / 2 ^ (24 - 8 * (j % 4)).toNat % 2 ^ 8)) ∧ (∀ j, (j < t ∨ t + 20 ≤ j) → M' 1 j = M 1 j)) ∧ v = t + 20))) := by
  refine R_start (by decide +kernel) (Nat.le_of_ble_eq_true rfl) (fun C hC hRm hlau => ?_)
  show RZ G LY C (Zn G LY 57 C (RP (fun v M' => (680 < t ∧ M' = M ∧ v = -1) ∨ (t ≤ 680 ∧ (Fr [1] [(0, 1)] M M' ∧ M' 0 1 = t + 20 ∧ (∀ j, 0 ≤ j → j < 20 → M' 1 (t + j) % 2 ^ 8 = ((if j < 4 then a else if j < 8 then b else if j < 12 then c else if j < 16 then d else e) / 2 ^ (24 - 8 * (j % 4)).toNat % 2 ^ 8)) ∧ (∀ j, (j < t ∨ t + 20 ≤ j) → M' 1 j = M 1 j)) ∧ v = t + 20)))) 0 0 57 0 [some (vR 0), some (vI a), some (vI b), some (vI c), some (vI d), some (vI e)] [] M
  refine R_aload_0 hC dX11_feed_0 ?_
  refine R_getIE hC dX11_feed_1 fl_11_13 (by decide) rfl (by decide) (by decide) (fi := 1) rfl ht ?_
  refine R_sipush hC dX11_feed_4 (by decide +kernel) ⟨by decide, by decide⟩ ?_
  refine R_icmp_le hC dX11_feed_7 (tgt := 12) (by decide) (fun hb7 => ?_) (fun hb7 => ?_)
  · skip
    refine R_aload_0 hC dX11_feed_12 ?_
    refine R_iload_1 hC dX11_feed_13 ?_
    refine R_callVv (as := [vI _]) hC dX11_feed_14 mo_11_putOnTape ml_11_104 (by decide) rfl rfl (c11_putOnTape (t := t) hG ht (by omega) (by omega)) rfl rfl hRm (by decide) (by decide) (Nat.le_of_ble_eq_true rfl) (fun Mc1 hq2 => ?_)
    have hF1 : Fr [1] [(0, 1)] M Mc1 := hq2.1
    have ht1 := hq2.2.1
    have hb1 := hq2.2.2.1
    have ho1 := hq2.2.2.2
    refine R_aload_0 hC dX11_feed_17 ?_
    refine R_iload_2 hC dX11_feed_18 ?_
    have hG3 : GR Mc1 := (GR.fr hG hq2.1 (by decide +kernel))
    refine R_callVv (as := [vI _]) hC dX11_feed_19 mo_11_putOnTape ml_11_104 (by decide) rfl rfl (c11_putOnTape (t := (t + 4)) hG3 ht1 (by omega) (by omega)) rfl rfl hRm (by decide) (by decide) (Nat.le_of_ble_eq_true rfl) (fun Mc4 hq5 => ?_)
    have hF2 : Fr [1] [(0, 1)] M Mc4 := Fr.tt hF1 hq5.1
    have ht2 := hq5.2.1
    have hb2 := hq5.2.2.1
    have ho2 := hq5.2.2.2
    refine R_aload_0 hC dX11_feed_22 ?_
    refine R_iload_3 hC dX11_feed_23 ?_
    have hG6 : GR Mc4 := (GR.fr hG3 hq5.1 (by decide +kernel))
    refine R_callVv (as := [vI _]) hC dX11_feed_24 mo_11_putOnTape ml_11_104 (by decide) rfl rfl (c11_putOnTape (t := (t + 4 + 4)) hG6 ht2 (by omega) (by omega)) rfl rfl hRm (by decide) (by decide) (Nat.le_of_ble_eq_true rfl) (fun Mc7 hq8 => ?_)
    have hF3 : Fr [1] [(0, 1)] M Mc7 := Fr.tt hF2 hq8.1
    have ht3 := hq8.2.1
    have hb3 := hq8.2.2.1
    have ho3 := hq8.2.2.2
    refine R_aload_0 hC dX11_feed_27 ?_
    refine R_iload_4 hC dX11_feed_28 ?_
    have hG9 : GR Mc7 := (GR.fr hG6 hq8.1 (by decide +kernel))
    refine R_callVv (as := [vI _]) hC dX11_feed_30 mo_11_putOnTape ml_11_104 (by decide) rfl rfl (c11_putOnTape (t := (t + 4 + 4 + 4)) hG9 ht3 (by omega) (by omega)) rfl rfl hRm (by decide) (by decide) (Nat.le_of_ble_eq_true rfl) (fun Mc10 hq11 => ?_)
    have hF4 : Fr [1] [(0, 1)] M Mc10 := Fr.tt hF3 hq11.1
    have ht4 := hq11.2.1
    have hb4 := hq11.2.2.1
    have ho4 := hq11.2.2.2
    refine R_aload_0 hC dX11_feed_33 ?_
    refine R_iload_5 hC dX11_feed_34 ?_
    have hG12 : GR Mc10 := (GR.fr hG9 hq11.1 (by decide +kernel))
    refine R_callVv (as := [vI _]) hC dX11_feed_36 mo_11_putOnTape ml_11_104 (by decide) rfl rfl (c11_putOnTape (t := (t + 4 + 4 + 4 + 4)) hG12 ht4 (by omega) (by omega)) rfl rfl hRm (by decide) (by decide) (Nat.le_of_ble_eq_true rfl) (fun Mc13 hq14 => ?_)
    have hF5 : Fr [1] [(0, 1)] M Mc13 := Fr.tt hF4 hq14.1
    have ht5 := hq14.2.1
    have hb5 := hq14.2.2.1
    have ho5 := hq14.2.2.2
    refine R_aload_0 hC dX11_feed_39 ?_
    refine R_getIE hC dX11_feed_40 fl_11_13 (by decide) rfl (by decide) (by decide) (fi := 1) rfl (ht5.trans (show t + 4 + 4 + 4 + 4 + 4 = t + 20 by omega)) ?_
    exact R_ireturn hC dX11_feed_43 rfl (by
        refine ret_P (.inr ⟨by omega, ⟨hF5, by omega, fun j j0 j1 => ?_, fun j p => (ho5 j (by omega)).trans ((ho4 j (by omega)).trans ((ho3 j (by omega)).trans ((ho2 j (by omega)).trans (ho1 j (by omega)))))⟩, by omega⟩)
        by_cases k1 : j < 4
        · rw [if_pos k1, ho5 _ (by omega), ho4 _ (by omega), ho3 _ (by omega), ho2 _ (by omega), hb1 j j0 k1, show j % 4 = j by omega]
        rw [if_neg k1]
        by_cases k2 : j < 8
        · rw [if_pos k2, ho5 _ (by omega), ho4 _ (by omega), ho3 _ (by omega), show t + j = t + 4 + (j - 4) by omega, hb2 (j - 4) (by omega) (by omega), show j % 4 = j - 4 by omega]
        rw [if_neg k2]
        by_cases k3 : j < 12
        · rw [if_pos k3, ho5 _ (by omega), ho4 _ (by omega), show t + j = t + 4 + 4 + (j - 8) by omega, hb3 (j - 8) (by omega) (by omega), show j % 4 = j - 8 by omega]
        rw [if_neg k3]
        by_cases k4 : j < 16
        · rw [if_pos k4, ho5 _ (by omega), show t + j = t + 4 + 4 + 4 + (j - 12) by omega, hb4 (j - 12) (by omega) (by omega), show j % 4 = j - 12 by omega]
        rw [if_neg k4, show t + j = t + 4 + 4 + 4 + 4 + (j - 16) by omega, hb5 (j - 16) (by omega) (by omega), show j % 4 = j - 16 by omega])
  · skip
    refine R_iconst hC dX11_feed_10 ⟨by decide, by decide⟩ ?_
    exact R_ireturn hC dX11_feed_11 rfl (ret_P (.inl ⟨by omega, rfl, rfl⟩))
theorem dX11_desk_0 : decode cX11_desk 0 = .ok (.iload_n 1, 1) := by decide +kernel
theorem dX11_desk_1 : decode cX11_desk 1 = .ok (.ifCond .lt 11, 3) := by decide +kernel
theorem dX11_desk_4 : decode cX11_desk 4 = .ok (.iload_n 1, 1) := by decide +kernel
theorem dX11_desk_5 : decode cX11_desk 5 = .ok (.aload_n 0, 1) := by decide +kernel
theorem dX11_desk_6 : decode cX11_desk 6 = .ok (.getfield 13, 3) := by decide +kernel
theorem dX11_desk_9 : decode cX11_desk 9 = .ok (.if_icmp .le 11, 3) := by decide +kernel
theorem dX11_desk_12 : decode cX11_desk 12 = .ok (.new 108, 3) := by decide +kernel
theorem dX11_desk_15 : decode cX11_desk 15 = .ok (.dup, 1) := by decide +kernel
theorem dX11_desk_16 : decode cX11_desk 16 = .ok (.invokespecial 110, 3) := by decide +kernel
theorem dX11_desk_19 : decode cX11_desk 19 = .ok (.athrow, 1) := by decide +kernel
theorem dX11_desk_20 : decode cX11_desk 20 = .ok (.aload_n 0, 1) := by decide +kernel
theorem dX11_desk_21 : decode cX11_desk 21 = .ok (.iconst 0, 1) := by decide +kernel
theorem dX11_desk_22 : decode cX11_desk 22 = .ok (.putfield 13, 3) := by decide +kernel
theorem dX11_desk_25 : decode cX11_desk 25 = .ok (.aload_n 0, 1) := by decide +kernel
theorem dX11_desk_26 : decode cX11_desk 26 = .ok (.getfield 44, 3) := by decide +kernel
theorem dX11_desk_29 : decode cX11_desk 29 = .ok (.aload_n 0, 1) := by decide +kernel
theorem dX11_desk_30 : decode cX11_desk 30 = .ok (.getfield 9, 3) := by decide +kernel
theorem dX11_desk_33 : decode cX11_desk 33 = .ok (.iload_n 1, 1) := by decide +kernel
theorem dX11_desk_34 : decode cX11_desk 34 = .ok (.aload_n 0, 1) := by decide +kernel
theorem dX11_desk_35 : decode cX11_desk 35 = .ok (.getfield 37, 3) := by decide +kernel
theorem dX11_desk_38 : decode cX11_desk 38 = .ok (.invokevirtual 111, 3) := by decide +kernel
theorem dX11_desk_41 : decode cX11_desk 41 = .ok (.istore_n 2, 1) := by decide +kernel
theorem dX11_desk_42 : decode cX11_desk 42 = .ok (.iload_n 2, 1) := by decide +kernel
theorem dX11_desk_43 : decode cX11_desk 43 = .ok (.ifCond .eq 29, 3) := by decide +kernel
theorem dX11_desk_46 : decode cX11_desk 46 = .ok (.aload_n 0, 1) := by decide +kernel
theorem dX11_desk_47 : decode cX11_desk 47 = .ok (.aload_n 0, 1) := by decide +kernel
theorem dX11_desk_48 : decode cX11_desk 48 = .ok (.getfield 44, 3) := by decide +kernel
theorem dX11_desk_51 : decode cX11_desk 51 = .ok (.getfield 115, 3) := by decide +kernel
theorem dX11_desk_54 : decode cX11_desk 54 = .ok (.putfield 17, 3) := by decide +kernel
theorem dX11_desk_57 : decode cX11_desk 57 = .ok (.aload_n 0, 1) := by decide +kernel
theorem dX11_desk_58 : decode cX11_desk 58 = .ok (.getfield 23, 3) := by decide +kernel
theorem dX11_desk_61 : decode cX11_desk 61 = .ok (.getfield 118, 3) := by decide +kernel
theorem dX11_desk_64 : decode cX11_desk 64 = .ok (.iconst 0, 1) := by decide +kernel
theorem dX11_desk_65 : decode cX11_desk 65 = .ok (.dup2, 1) := by decide +kernel
theorem dX11_desk_66 : decode cX11_desk 66 = .ok (.iaload, 1) := by decide +kernel
theorem dX11_desk_67 : decode cX11_desk 67 = .ok (.iconst 1, 1) := by decide +kernel
theorem dX11_desk_68 : decode cX11_desk 68 = .ok (.iadd, 1) := by decide +kernel
theorem dX11_desk_69 : decode cX11_desk 69 = .ok (.iastore, 1) := by decide +kernel
theorem dX11_desk_70 : decode cX11_desk 70 = .ok (.iload_n 2, 1) := by decide +kernel
theorem dX11_desk_71 : decode cX11_desk 71 = .ok (.ireturn, 1) := by decide +kernel
theorem dX11_desk_72 : decode cX11_desk 72 = .ok (.aload_n 0, 1) := by decide +kernel
theorem dX11_desk_73 : decode cX11_desk 73 = .ok (.iconst (-1), 1) := by decide +kernel
theorem dX11_desk_74 : decode cX11_desk 74 = .ok (.putfield 17, 3) := by decide +kernel
theorem dX11_desk_77 : decode cX11_desk 77 = .ok (.aload_n 0, 1) := by decide +kernel
theorem dX11_desk_78 : decode cX11_desk 78 = .ok (.getfield 23, 3) := by decide +kernel
theorem dX11_desk_81 : decode cX11_desk 81 = .ok (.getfield 122, 3) := by decide +kernel
theorem dX11_desk_84 : decode cX11_desk 84 = .ok (.aload_n 0, 1) := by decide +kernel
theorem dX11_desk_85 : decode cX11_desk 85 = .ok (.getfield 37, 3) := by decide +kernel
theorem dX11_desk_88 : decode cX11_desk 88 = .ok (.invokevirtual 125, 3) := by decide +kernel
theorem dX11_desk_91 : decode cX11_desk 91 = .ok (.aload_n 0, 1) := by decide +kernel
theorem dX11_desk_92 : decode cX11_desk 92 = .ok (.getfield 23, 3) := by decide +kernel
theorem dX11_desk_95 : decode cX11_desk 95 = .ok (.getfield 129, 3) := by decide +kernel
theorem dX11_desk_98 : decode cX11_desk 98 = .ok (.invokevirtual 133, 3) := by decide +kernel
theorem dX11_desk_101 : decode cX11_desk 101 = .ok (.aload_n 0, 1) := by decide +kernel
theorem dX11_desk_102 : decode cX11_desk 102 = .ok (.getfield 23, 3) := by decide +kernel
theorem dX11_desk_105 : decode cX11_desk 105 = .ok (.iconst 0, 1) := by decide +kernel
theorem dX11_desk_106 : decode cX11_desk 106 = .ok (.putfield 138, 3) := by decide +kernel
theorem dX11_desk_109 : decode cX11_desk 109 = .ok (.aload_n 0, 1) := by decide +kernel
theorem dX11_desk_110 : decode cX11_desk 110 = .ok (.iconst 0, 1) := by decide +kernel
theorem dX11_desk_111 : decode cX11_desk 111 = .ok (.putfield 30, 3) := by decide +kernel
theorem dX11_desk_114 : decode cX11_desk 114 = .ok (.aload_n 0, 1) := by decide +kernel
theorem dX11_desk_115 : decode cX11_desk 115 = .ok (.iconst 0, 1) := by decide +kernel
theorem dX11_desk_116 : decode cX11_desk 116 = .ok (.putfield 64, 3) := by decide +kernel
theorem dX11_desk_119 : decode cX11_desk 119 = .ok (.iconst 0, 1) := by decide +kernel
theorem dX11_desk_120 : decode cX11_desk 120 = .ok (.ireturn, 1) := by decide +kernel
set_option maxHeartbeats 2000000 in
theorem c11_desk {G : Gl} {l : Launch} {M : Mem} {d : Int → Int} {m : Int} {t : Int} {r : Int → Int} (hT : (0 ≤ m ∧ m ≤ t)) (hG : GR M) (hD : M 4 = d) (hSP : SP d) (hFP : FP M d) (ht : M 0 1 = t) (ht0 : 0 ≤ t) (ht1 : t ≤ 700) (hr : M 1 = r) (hr0 : 0 ≤ M 10 0) (hr1 : M 10 0 ≤ 1000000000) : Ct G LY 57 l 7 m11_desk [vR 0, vI m] M (fun o M' => ∃ v, o = some (vI v) ∧ (0 ≤ m ∧ m ≤ t) ∧ M' 0 1 = 0 ∧ ∃ k : Nat, rdZ r m k ∧ M' 0 2 = (rdI r m k).2.2.2.2.2.2 ∧ v = (rdI r m k).2.2.2.2.2.1 ∧ (((rdI r m k).2.2.2.2.2.1 ≠ 0 ∧ Fr [10, 21] [(0, 1), (0, 2), (22, 0), (22, 1), (22, 2), (22, 3), (22, 4), (22, 5), (22, 6), (22, 7), (22, 8)] M M' ∧ GR M' ∧ FP M' d ∧ M' 10 0 = M 10 0 + 1 ∧ ∀ j, j ≠ 0 → M' 10 j = M 10 j) ∨ ((rdI r m k).2.2.2.2.2.1 = 0 ∧ Fr [4, 21] [(0, 1), (0, 2), (22, 0), (22, 1), (22, 2), (22, 3), (22, 4), (22, 5), (22, 6), (22, 7), (22, 8), (5, 3), (5, 4), (2, 3), (0, 5), (0, 10)] M M' ∧ GR M' ∧ M' 4 = (rdI r m k).1 ∧ M' 5 3 = 0 ∧ M' 5 4 = 0 ∧ M' 2 3 = 0 ∧ M' 0 5 = 0 ∧ M' 0 10 = 0 ∧ M' 22 0 = 1 ∧ M' 22 2 = 20))) := by
  refine R_start (by decide +kernel) (Nat.le_of_ble_eq_true rfl) (fun C hC hRm hlau => ?_)
  show RZ G LY C (Zn G LY 57 C (fun o M' => ∃ v, o = some (vI v) ∧ (0 ≤ m ∧ m ≤ t) ∧ M' 0 1 = 0 ∧ ∃ k : Nat, rdZ r m k ∧ M' 0 2 = (rdI r m k).2.2.2.2.2.2 ∧ v = (rdI r m k).2.2.2.2.2.1 ∧ (((rdI r m k).2.2.2.2.2.1 ≠ 0 ∧ Fr [10, 21] [(0, 1), (0, 2), (22, 0), (22, 1), (22, 2), (22, 3), (22, 4), (22, 5), (22, 6), (22, 7), (22, 8)] M M' ∧ GR M' ∧ FP M' d ∧ M' 10 0 = M 10 0 + 1 ∧ ∀ j, j ≠ 0 → M' 10 j = M 10 j) ∨ ((rdI r m k).2.2.2.2.2.1 = 0 ∧ Fr [4, 21] [(0, 1), (0, 2), (22, 0), (22, 1), (22, 2), (22, 3), (22, 4), (22, 5), (22, 6), (22, 7), (22, 8), (5, 3), (5, 4), (2, 3), (0, 5), (0, 10)] M M' ∧ GR M' ∧ M' 4 = (rdI r m k).1 ∧ M' 5 3 = 0 ∧ M' 5 4 = 0 ∧ M' 2 3 = 0 ∧ M' 0 5 = 0 ∧ M' 0 10 = 0 ∧ M' 22 0 = 1 ∧ M' 22 2 = 20)))) 0 0 57 0 [some (vR 0), some (vI m), none] [] M
  have hB9 := hSP.B
  have hL0 := hSP.1.1.1
  have hL1 := hSP.1.1.2
  have hW0 := hSP.1.2.1
  have hW1 := hSP.1.2.2
  refine R_iload_1 hC dX11_desk_0 ?_
  refine R_if_lt hC dX11_desk_1 (tgt := 12) (by decide) (fun hb1 => ?_) (fun hb1 => ?_)
  · skip
    exact absurd hT (by omega)
  · skip
    refine R_iload_1 hC dX11_desk_4 ?_
    refine R_aload_0 hC dX11_desk_5 ?_
    refine R_getIE hC dX11_desk_6 fl_11_13 (by decide) rfl (by decide) (by decide) (fi := 1) rfl ht ?_
    refine R_icmp_le hC dX11_desk_9 (tgt := 20) (by decide) (fun hb9 => ?_) (fun hb9 => ?_)
    · skip
      refine R_aload_0 hC dX11_desk_20 ?_
      refine R_iconst hC dX11_desk_21 ⟨by decide, by decide⟩ ?_
      refine R_putI hC dX11_desk_22 fl_11_13 (by decide) rfl (by decide) (by decide) (fi := 1) rfl ?_
      refine R_aload_0 hC dX11_desk_25 ?_
      have hG1 : GR (uM M 0 1 0) := (GR.uF hG (by decide +kernel) (by decide))
      refine R_getR hC dX11_desk_26 fl_11_44 (by decide) rfl (by decide) (by decide) (fi := 7) rfl (r := 22) (gr_0_7 hG1) ?_
      refine R_aload_0 hC dX11_desk_29 ?_
      refine R_getR hC dX11_desk_30 fl_11_9 (by decide) rfl (by decide) (by decide) (fi := 0) rfl (r := 1) (gr_0_0 hG1) ?_
      refine R_iload_1 hC dX11_desk_33 ?_
      refine R_aload_0 hC dX11_desk_34 ?_
      refine R_getR hC dX11_desk_35 fl_11_37 (by decide) rfl (by decide) (by decide) (fi := 6) rfl (r := 20) (gr_0_6 hG1) ?_
      have hr2 : (uM M 0 1 0) 1 = r := ((uM_ne (by decide)).trans hr)
      refine R_callVp (as := [vR _, vI _, vR _]) hC dX11_desk_38 mo_9_read ml_11_111 (by decide) rfl rfl (c9_read  hG1 (by omega) (by omega) hr2) rfl rfl hRm (by decide) (by decide) (Nat.le_of_ble_eq_true rfl) (fun v5 Mc3 hq4 => ?_)
      have hG6 := hq4.2.1
      obtain ⟨k, hz, h21, hRD, hv, hq220, hq222⟩ := hq4.2.2
      have hFr : Fr [10, 21] [(0, 1), (0, 2), (22, 0), (22, 1), (22, 2), (22, 3), (22, 4), (22, 5), (22, 6), (22, 7), (22, 8)] M Mc3 := Fr.tt (Fr.uB Fr.rf (by decide)) (hq4.1.mo (by simp) (by simp))
      have hPr := (hFP.fr (Fr.uB (A := []) (B := [(0, 1)]) Fr.rf (by decide)) (by decide)).fr hq4.1 (by decide)
      have h01 : Mc3 0 1 = 0 := (hq4.1 0 1 (by decide) (by decide)).trans uM_same
      have h100 : Mc3 10 0 = M 10 0 := (hq4.1 10 0 (by decide) (by decide)).trans (uM_h (by decide))
      have hFg : Fr [4, 21] [(0, 1), (0, 2), (22, 0), (22, 1), (22, 2), (22, 3), (22, 4), (22, 5), (22, 6), (22, 7), (22, 8), (5, 3), (5, 4), (2, 3), (0, 5), (0, 10)] M Mc3 := Fr.tt (Fr.uB Fr.rf (by decide)) (hq4.1.mo (by simp) (by simp))
      refine R_istore_2 hC dX11_desk_41 rfl ?_
      refine R_iload_2 hC dX11_desk_42 ?_
      refine R_if_eq hC dX11_desk_43 (tgt := 72) (by decide) (fun hb43 => ?_) (fun hb43 => ?_)
      · skip
        have hv0 : (rdI r m k).2.2.2.2.2.1 = 0 := hv.symm.trans hb43
        refine R_aload_0 hC dX11_desk_72 ?_
        refine R_iconst hC dX11_desk_73 ⟨by decide, by decide⟩ ?_
        refine R_putI hC dX11_desk_74 fl_11_17 (by decide) rfl (by decide) (by decide) (fi := 2) rfl ?_
        refine R_aload_0 hC dX11_desk_77 ?_
        have hG7 : GR (uM Mc3 0 2 (-1)) := (GR.uF hG6 (by decide +kernel) (by decide))
        refine R_getR hC dX11_desk_78 fl_11_23 (by decide) rfl (by decide) (by decide) (fi := 3) rfl (r := 2) (gr_0_3 hG7) ?_
        refine R_getR hC dX11_desk_81 fl_11_122 (by decide) rfl (by decide) (by decide) (fi := 0) rfl (r := 3) (gr_2_0 hG7) ?_
        refine R_aload_0 hC dX11_desk_84 ?_
        refine R_getR hC dX11_desk_85 fl_11_37 (by decide) rfl (by decide) (by decide) (fi := 6) rfl (r := 20) (gr_0_6 hG7) ?_
        have hr8 : (uM Mc3 0 2 (-1)) 21 = ((rdI r m k).1) := ((uM_ne (by decide)).trans (h21))
        refine R_callVv (as := [vR _]) hC dX11_desk_88 mo_8_copyFrom ml_11_125 (by decide) rfl rfl (c8_copyFrom  hG7 sh_3 sh_20 hr8) rfl rfl hRm (by decide) (by decide) (Nat.le_of_ble_eq_true rfl) (fun Mc9 hq10 => ?_)
        have hG11 := hq10.2.1
        have hr12 := hq10.2.2
        have hFs : Fr [4, 21] [(0, 1), (0, 2), (22, 0), (22, 1), (22, 2), (22, 3), (22, 4), (22, 5), (22, 6), (22, 7), (22, 8), (5, 3), (5, 4), (2, 3), (0, 5), (0, 10)] M Mc9 := Fr.tt (Fr.uB hFg (by decide)) (hq10.1.mo (by simp) (by simp))
        refine R_aload_0 hC dX11_desk_91 ?_
        refine R_getR hC dX11_desk_92 fl_11_23 (by decide) rfl (by decide) (by decide) (fi := 3) rfl (r := 2) (gr_0_3 hG11) ?_
        refine R_getR hC dX11_desk_95 fl_11_129 (by decide) rfl (by decide) (by decide) (fi := 1) rfl (r := 5) (gr_2_1 hG11) ?_
        refine R_callVv (as := []) hC dX11_desk_98 mo_0_clear ml_11_133 (by decide) rfl rfl (c0_clear  hG11) rfl rfl hRm (by decide) (by decide) (Nat.le_of_ble_eq_true rfl) (fun Mc13 hq14 => ?_)
        have hFc : Fr [4, 21] [(0, 1), (0, 2), (22, 0), (22, 1), (22, 2), (22, 3), (22, 4), (22, 5), (22, 6), (22, 7), (22, 8), (5, 3), (5, 4), (2, 3), (0, 5), (0, 10)] M Mc13 := Fr.tt hFs (hq14.1.mo (by simp) (by simp))
        refine R_aload_0 hC dX11_desk_101 ?_
        have hG15 : GR Mc13 := (GR.fr hG11 hq14.1 (by decide +kernel))
        refine R_getR hC dX11_desk_102 fl_11_23 (by decide) rfl (by decide) (by decide) (fi := 3) rfl (r := 2) (gr_0_3 hG15) ?_
        refine R_iconst hC dX11_desk_105 ⟨by decide, by decide⟩ ?_
        refine R_putI hC dX11_desk_106 fl_11_138 (by decide) rfl (by decide) (by decide) (fi := 3) rfl ?_
        refine R_aload_0 hC dX11_desk_109 ?_
        refine R_iconst hC dX11_desk_110 ⟨by decide, by decide⟩ ?_
        refine R_putZ hC dX11_desk_111 fl_11_30 (by decide) rfl (by decide) (by decide) (.inl rfl) (fi := 5) rfl ?_
        refine R_aload_0 hC dX11_desk_114 ?_
        refine R_iconst hC dX11_desk_115 ⟨by decide, by decide⟩ ?_
        refine R_putZ hC dX11_desk_116 fl_11_64 (by decide) rfl (by decide) (by decide) (.inl rfl) (fi := 10) rfl ?_
        refine R_iconst hC dX11_desk_119 ⟨by decide, by decide⟩ ?_
        have hG16 : GR (uM (uM (uM Mc13 2 3 0) 0 5 0) 0 10 0) := (GR.uF (GR.uF (GR.uF hG15 (by decide +kernel) (by decide)) (by decide +kernel) (by decide)) (by decide +kernel) (by decide))
        have hr17 : (uM (uM (uM Mc13 2 3 0) 0 5 0) 0 10 0) 4 = ((rdI r m k).1) := ((uM_ne (by decide)).trans ((uM_ne (by decide)).trans ((uM_ne (by decide)).trans ((hq14.1.row (by decide) (by decide)).trans hr12))))
        exact R_ireturn hC dX11_desk_120 rfl (⟨_, rfl, by omega, ((uM_k (by decide)).trans ((uM_k (by decide)).trans (uM_h (by decide)))).trans ((hq14.1 0 1 (by decide) (by decide)).trans ((hq10.1 0 1 (by decide) (by decide)).trans ((uM_k (by decide)).trans h01))), k, hz, ((uM_k (by decide)).trans ((uM_k (by decide)).trans (uM_h (by decide)))).trans ((hq14.1 0 2 (by decide) (by decide)).trans ((hq10.1 0 2 (by decide) (by decide)).trans (uM_same.trans (rdI_plc (by omega) k hv0).symm))), hv0.symm, .inr ⟨hv0, Fr.uB (Fr.uB (Fr.uB hFc (by decide)) (by decide)) (by decide), hG16, hr17, ((uM_h (by decide)).trans ((uM_h (by decide)).trans (uM_h (by decide)))).trans hq14.2.1, ((uM_h (by decide)).trans ((uM_h (by decide)).trans (uM_h (by decide)))).trans hq14.2.2, ((uM_h (by decide)).trans ((uM_h (by decide)).trans uM_same)), ((uM_k (by decide)).trans uM_same), uM_same, ((uM_h (by decide)).trans ((uM_h (by decide)).trans (uM_h (by decide)))).trans ((hq14.1 22 0 (by decide) (by decide)).trans ((hq10.1 22 0 (by decide) (by decide)).trans ((uM_h (by decide)).trans hq220))), ((uM_h (by decide)).trans ((uM_h (by decide)).trans (uM_h (by decide)))).trans ((hq14.1 22 2 (by decide) (by decide)).trans ((hq10.1 22 2 (by decide) (by decide)).trans ((uM_h (by decide)).trans hq222)))⟩⟩)
      · skip
        have hvn : (rdI r m k).2.2.2.2.2.1 ≠ 0 := fun z => hb43 (hv.trans z)
        refine R_aload_0 hC dX11_desk_46 ?_
        refine R_aload_0 hC dX11_desk_47 ?_
        refine R_getR hC dX11_desk_48 fl_11_44 (by decide) rfl (by decide) (by decide) (fi := 7) rfl (r := 22) (gr_0_7 hG6) ?_
        refine R_getIE hC dX11_desk_51 fl_11_115 (by decide) rfl (by decide) (by decide) (fi := 8) rfl (congrArg (fun z : RT => z.2.2.2.2) hRD) ?_
        refine R_putI hC dX11_desk_54 fl_11_17 (by decide) rfl (by decide) (by decide) (fi := 2) rfl ?_
        refine R_aload_0 hC dX11_desk_57 ?_
        have hG18 : GR (uM Mc3 0 2 ((rdI r m k).2.2.2.2.2.2)) := (GR.uF hG6 (by decide +kernel) (by decide))
        refine R_getR hC dX11_desk_58 fl_11_23 (by decide) rfl (by decide) (by decide) (fi := 3) rfl (r := 2) (gr_0_3 hG18) ?_
        refine R_getR hC dX11_desk_61 fl_11_118 (by decide) rfl (by decide) (by decide) (fi := 4) rfl (r := 10) (gr_2_4 hG18) ?_
        refine R_iconst hC dX11_desk_64 ⟨by decide, by decide⟩ ?_
        refine R_dup2 hC dX11_desk_65 rfl rfl ?_
        refine R_ialoadE hC dX11_desk_66 (by decide) rfl (by omega) (by omega) (uM_h (by decide)) ?_
        refine R_iconst hC dX11_desk_67 ⟨by decide, by decide⟩ ?_
        refine R_iadd hC dX11_desk_68 ⟨by omega, by omega⟩ ?_
        refine R_iastore hC dX11_desk_69 (by decide) rfl (by omega) (by omega) ?_
        refine R_iload_2 hC dX11_desk_70 ?_
        have hG19 : GR (uM (uM Mc3 0 2 ((rdI r m k).2.2.2.2.2.2)) 10 0 ((Mc3 10 0) + 1)) := (GR.uA hG18 (by decide +kernel) (.inl (by decide)))
        exact R_ireturn hC dX11_desk_71 rfl (⟨_, rfl, by omega, (uM_h (by decide)).trans ((uM_k (by decide)).trans h01), k, hz, (uM_h (by decide)).trans uM_same, hv, .inl ⟨hvn, Fr.uA (Fr.uB hFr (by decide)) (by decide), hG19, (hPr.fr (Fr.uB (A := [10]) (B := [(0, 2)]) Fr.rf (by decide)) (by decide)).fr (Fr.uA (A := [10]) (B := []) Fr.rf (by decide)) (by decide), uM_same.trans (congrArg (· + 1) h100), fun j e => (uM_k e).trans ((uM_h (by decide)).trans ((hq4.1 10 j (by decide) (by simp)).trans (uM_h (by decide))))⟩⟩)
    · skip
      exact absurd hT (by omega)
