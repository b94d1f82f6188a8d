/-! the model's reader: its state as the class's tuple -/
def MRD (M : Mem) : RT := (M 57 34, M 57 32, M 57 31, M 57 37, M 57 17)
def vlS (r : Int → Int) (n : Int) (S : RT) : Int := vlV r n (S.1, S.2.1, S.2.2.1)
def MRS (M : Mem) (r : Int → Int) (n : Int) (S : RT) : Prop := MRD M = S ∧ (M 57 35 = vlS r n S ∧ M 57 36 = wdV r n (S.1, S.2.1, S.2.2.1)) ∧ RG n S
section MRSS
variable {M M' : Mem} {r : Int → Int} {n a b : Int} {S : RT}
theorem MRS.k (h : MRS M r n S) : M 57 34 = S.1 := congrArg (fun X : RT => X.1) h.1
theorem MRS.s (h : MRS M r n S) : M 57 32 = S.2.1 := congrArg (fun X : RT => X.2.1) h.1
theorem MRS.e (h : MRS M r n S) : M 57 31 = S.2.2.1 := congrArg (fun X : RT => X.2.2.1) h.1
theorem MRS.f (h : MRS M r n S) : M 57 37 = S.2.2.2.1 := congrArg (fun X : RT => X.2.2.2.1) h.1
theorem MRS.p (h : MRS M r n S) : M 57 17 = S.2.2.2.2 := congrArg (fun X : RT => X.2.2.2.2) h.1
theorem rf_3 {v : Int} : (refR v S).1 = S.1 ∧ (refR v S).2.1 = S.2.1 ∧ (refR v S).2.2.1 = S.2.2.1 := by
  unfold refR
  split
  · exact ⟨rfl, rfl, rfl⟩
  · exact ⟨rfl, rfl, rfl⟩
theorem rf_v {v : Int} : vlS r n (refR v S) = vlS r n S := by
  unfold vlS
  rw [rf_3.1, rf_3.2.1, rf_3.2.2]
theorem MRS.go (h : MRS M r n S) (hF : Fr [] [(57, 31), (57, 32), (57, 34), (57, 35), (57, 36)] M M') (g : M' 57 34 = (nxT r n S.2.2.1).1 ∧ M' 57 32 = (nxT r n S.2.2.1).2.1 ∧ M' 57 31 = (nxT r n S.2.2.1).2.2 ∧ M' 57 35 = vlV r n (nxT r n S.2.2.1) ∧ M' 57 36 = wdV r n (nxT r n S.2.2.1)) : MRS M' r n (nxR r n S) := by
  refine ⟨?_, ⟨g.2.2.2.1, g.2.2.2.2⟩, h.2.2.nx⟩
  unfold MRD nxR
  rw [g.1, g.2.1, g.2.2.1, hF 57 37 (by decide) (by decide), hF 57 17 (by decide) (by decide), h.f, h.p]
theorem MRS.fr {A : List Nat} {B : List (Nat × Int)} (h : MRS M r n S) (hF : Fr A B M M') (e : (!A.contains 57 && B.all (fun q => !(q.1 == 57 && (q.2 == 31 || q.2 == 32 || q.2 == 34 || q.2 == 35 || q.2 == 36 || q.2 == 37 || q.2 == 17)))) = true) : MRS M' r n S := by
  simp only [Bool.and_eq_true, Bool.not_eq_true'] at e
  have nA : 57 ∉ A := fun z => by rw [List.contains_iff_mem.mpr z] at e; cases e.1
  have nB : ∀ (j : Int), (!((57 : Nat) == 57 && (j == 31 || j == 32 || j == 34 || j == 35 || j == 36 || j == 37 || j == 17))) = false → (57, j) ∉ B := fun j q z => by
    have := List.all_eq_true.mp e.2 _ z
    rw [q] at this
    cases this
  have k : ∀ j : Int, (!((57 : Nat) == 57 && (j == 31 || j == 32 || j == 34 || j == 35 || j == 36 || j == 37 || j == 17))) = false → M' 57 j = M 57 j := fun j q => hF 57 j nA (nB j q)
  refine ⟨?_, ⟨?_, ?_⟩, h.2.2⟩
  · rw [← h.1]
    unfold MRD
    rw [k 34 rfl, k 32 rfl, k 31 rfl, k 37 rfl, k 17 rfl]
  · rw [k 35 rfl]; exact h.2.1.1
  · rw [k 36 rfl]; exact h.2.1.2
theorem MRS.wt {t q : Int} (h : MRS M r n S) (hF : Fr [] [(57, 37), (57, 17)] M M') (g : MRD M' = if t = 0 then refR q (MRD M) else MRD M) : MRS M' r n (if t = 0 then refR q S else S) := by
  rw [h.1] at g
  refine ⟨g, ?_⟩
  rw [hF 57 35 (by decide) (by decide), hF 57 36 (by decide) (by decide)]
  by_cases z : t = 0
  · rw [if_pos z]
    exact ⟨⟨h.2.1.1.trans rf_v.symm, by rw [rf_3.1, rf_3.2.1, rf_3.2.2]; exact h.2.1.2⟩, h.2.2.rf⟩
  · rw [if_neg z]
    exact h.2
theorem vl_n (h : RG n S) (k : S.1 = 2) : (S.2.2.1 - S.2.1 ≤ 2 → vlS r n S = numV r n S) ∧ (¬ S.2.2.1 - S.2.1 ≤ 2 → vlS r n S = 999) := by
  have h1 := h.2.1
  unfold vlS vlV numV
  rw [if_pos k]
  refine ⟨fun q => ?_, fun q => if_neg q⟩
  rw [if_pos q, show min S.2.2.1 (S.2.1 + 2) = S.2.2.1 by omega]
theorem rn_bad (h : S.2.2.2.1 ≠ 0) : rnR r n a b S = (a, S) := by
  have e : ckR r n a b S = (a, S) := if_neg h
  unfold rnR
  rw [e]
  exact if_neg h
theorem rn_k (h : S.2.2.2.1 = 0) (k : S.1 ≠ 2) : rnR r n a b S = (a, refR 1 S) := by
  have e : ckR r n a b S = (a, refR 1 S) := (if_pos h).trans (if_neg k)
  unfold rnR
  rw [e]
  refine if_neg ?_
  show (refR 1 S).2.2.2.1 ≠ 0
  unfold refR
  rw [if_pos h]
  show (1 : Int) ≠ 0
  decide
theorem rn_r (hg : RG n S) (h : S.2.2.2.1 = 0) (k : S.1 = 2) (hb : b < 999) (w : ¬ (a ≤ vlS r n S ∧ vlS r n S ≤ b)) : rnR r n a b S = (a, refR 2 S) := by
  have v := vl_n (r := r) hg k
  have e : ckR r n a b S = (a, refR 2 S) := (if_pos h).trans ((if_pos k).trans (if_neg (fun z => w (by rw [v.1 z.1]; exact z.2))))
  unfold rnR
  rw [e]
  refine if_neg ?_
  show (refR 2 S).2.2.2.1 ≠ 0
  unfold refR
  rw [if_pos h]
  show (2 : Int) ≠ 0
  decide
theorem rn_g (hg : RG n S) (h : S.2.2.2.1 = 0) (k : S.1 = 2) (hb : b < 999) (w : a ≤ vlS r n S ∧ vlS r n S ≤ b) : rnR r n a b S = (vlS r n S, nxR r n S) := by
  have v := vl_n (r := r) hg k
  have l : S.2.2.1 - S.2.1 ≤ 2 := Classical.byContradiction (fun z => by have := v.2 z; omega)
  have e : ckR r n a b S = (vlS r n S, S) := (if_pos h).trans ((if_pos k).trans ((if_pos ⟨l, by rw [← v.1 l]; exact w⟩).trans (by rw [v.1 l])))
  unfold rnR
  rw [e]
  exact if_pos h
theorem rf_ne {v : Int} (h : S.2.2.2.1 = 0) (hv : v ≠ 0) : (refR v S).2.2.2.1 ≠ 0 := by
  unfold refR
  rw [if_pos h]
  exact hv
end MRSS

theorem dX12_wants_0 : decode cX12_wants 0 = .ok (.aload_n 0, 1) := by decide +kernel
theorem dX12_wants_1 : decode cX12_wants 1 = .ok (.getfield 228, 3) := by decide +kernel
theorem dX12_wants_4 : decode cX12_wants 4 = .ok (.ifCond .ne 20, 3) := by decide +kernel
theorem dX12_wants_7 : decode cX12_wants 7 = .ok (.iload_n 1, 1) := by decide +kernel
theorem dX12_wants_8 : decode cX12_wants 8 = .ok (.ifCond .ne 16, 3) := by decide +kernel
theorem dX12_wants_11 : decode cX12_wants 11 = .ok (.aload_n 0, 1) := by decide +kernel
theorem dX12_wants_12 : decode cX12_wants 12 = .ok (.iload_n 2, 1) := by decide +kernel
theorem dX12_wants_13 : decode cX12_wants 13 = .ok (.putfield 228, 3) := by decide +kernel
theorem dX12_wants_16 : decode cX12_wants 16 = .ok (.aload_n 0, 1) := by decide +kernel
theorem dX12_wants_17 : decode cX12_wants 17 = .ok (.aload_n 0, 1) := by decide +kernel
theorem dX12_wants_18 : decode cX12_wants 18 = .ok (.getfield 210, 3) := by decide +kernel
theorem dX12_wants_21 : decode cX12_wants 21 = .ok (.putfield 25, 3) := by decide +kernel
theorem dX12_wants_24 : decode cX12_wants 24 = .ok (.aload_n 0, 1) := by decide +kernel
theorem dX12_wants_25 : decode cX12_wants 25 = .ok (.getfield 228, 3) := by decide +kernel
theorem dX12_wants_28 : decode cX12_wants 28 = .ok (.ifCond .ne 7, 3) := by decide +kernel
theorem dX12_wants_31 : decode cX12_wants 31 = .ok (.iconst 1, 1) := by decide +kernel
theorem dX12_wants_32 : decode cX12_wants 32 = .ok (.goto 4, 3) := by decide +kernel
theorem dX12_wants_35 : decode cX12_wants 35 = .ok (.iconst 0, 1) := by decide +kernel
theorem dX12_wants_36 : decode cX12_wants 36 = .ok (.ireturn, 1) := by decide +kernel
set_option maxHeartbeats 400000 in
theorem c12_wants {G : Gl} {l : Launch}  {M : Mem} {t q : Int} (hG : GR M) : Ct G LY 82 l 0 m12_wants [vR 57, vI t, vI q] M (RP (fun v M' => Fr [] [(57, 37), (57, 17)] M M' ∧ MRD M' = (if t = 0 then refR q (MRD M) else MRD M) ∧ v = bP (M' 57 37 = 0))) := by
  refine R_start (by decide +kernel) (Nat.le_of_ble_eq_true rfl) (fun C hC hRm hlau => ?_)
  show RZ G LY C (Zn G LY 82 C (RP (fun v M' => Fr [] [(57, 37), (57, 17)] M M' ∧ MRD M' = (if t = 0 then refR q (MRD M) else MRD M) ∧ v = bP (M' 57 37 = 0)))) 0 0 82 0 [some (vR 57), some (vI t), some (vI q)] [] M
  refine R_aload_0 hC dX12_wants_0 ?_
  refine R_getI hC dX12_wants_1 fl_12_228 (by decide) rfl (by decide) (by decide) (fi := 37) rfl ?_
  have L24 : ∀  (M1 : Mem), (GR M1) → (Fr [] [(57, 37), (57, 17)] M M1) → (MRD M1 = (if t = 0 then refR q (MRD M) else MRD M)) → RZ G LY C (Zn G LY 82 C (RP (fun v M' => Fr [] [(57, 37), (57, 17)] M M' ∧ MRD M' = (if t = 0 then refR q (MRD M) else MRD M) ∧ v = bP (M' 57 37 = 0)))) 0 0 82 24 [some (vR 57), some (vI t), some (vI q)] [] M1 := by
    intro M1 hg hF hm
    refine R_aload_0 hC dX12_wants_24 ?_
    refine R_getI hC dX12_wants_25 fl_12_228 (by decide) rfl (by decide) (by decide) (fi := 37) rfl ?_
    refine R_if_ne hC dX12_wants_28 (tgt := 35) (by decide) (fun hb28 => ?_) (fun hb28 => ?_)
    · skip
      refine R_iconst hC dX12_wants_35 ⟨by decide, by decide⟩ ?_
      exact R_zreturn hC dX12_wants_36 rfl (.inl rfl) (ret_P ⟨hF, hm, by first | exact (bP_pos hb28).symm | exact (bP_neg hb28).symm⟩)
    · skip
      refine R_iconst hC dX12_wants_31 ⟨by decide, by decide⟩ ?_
      refine R_goto hC dX12_wants_32 (tgt := 36) (by decide) ?_
      exact R_zreturn hC dX12_wants_36 rfl (.inr rfl) (ret_P ⟨hF, hm, by first | exact (bP_pos hb28).symm | exact (bP_neg hb28).symm⟩)
  refine R_if_ne hC dX12_wants_4 (tgt := 24) (by decide) (fun hb4 => ?_) (fun hb4 => ?_)
  · skip
    exact L24 _ hG (by (repeat (first | (refine Fr.uB ?_ (by decide)))); exact Fr.rf) (by first | (rw [if_neg hb8]) | (rw [if_pos hb8]; exact (if_neg (show ¬ (MRD M).2.2.2.1 = 0 from hb4)).symm) | (by_cases z : t = 0 <;> first | (rw [if_pos z]; exact (if_neg (show ¬ (MRD M).2.2.2.1 = 0 from hb4)).symm) | (rw [if_neg z])) | (rw [if_pos hb8]; exact (if_pos (show (MRD M).2.2.2.1 = 0 from hb4)).symm))
  · skip
    refine R_iload_1 hC dX12_wants_7 ?_
    refine R_if_ne hC dX12_wants_8 (tgt := 24) (by decide) (fun hb8 => ?_) (fun hb8 => ?_)
    · skip
      exact L24 _ hG (by (repeat (first | (refine Fr.uB ?_ (by decide)))); exact Fr.rf) (by first | (rw [if_neg hb8]) | (rw [if_pos hb8]; exact (if_neg (show ¬ (MRD M).2.2.2.1 = 0 from hb4)).symm) | (by_cases z : t = 0 <;> first | (rw [if_pos z]; exact (if_neg (show ¬ (MRD M).2.2.2.1 = 0 from hb4)).symm) | (rw [if_neg z])) | (rw [if_pos hb8]; exact (if_pos (show (MRD M).2.2.2.1 = 0 from hb4)).symm))
    · skip
      refine R_aload_0 hC dX12_wants_11 ?_
      refine R_iload_2 hC dX12_wants_12 ?_
      refine R_putI hC dX12_wants_13 fl_12_228 (by decide) rfl (by decide) (by decide) (fi := 37) rfl ?_
      refine R_aload_0 hC dX12_wants_16 ?_
      refine R_aload_0 hC dX12_wants_17 ?_
      refine R_getIE hC dX12_wants_18 fl_12_210 (by decide) rfl (by decide) (by decide) (fi := 32) rfl (uM_k (by decide)) ?_
      refine R_putI hC dX12_wants_21 fl_12_25 (by decide) rfl (by decide) (by decide) (fi := 17) rfl ?_
      have hG1 : GR (uM (uM M 57 37 q) 57 17 (M 57 32)) := (GR.uF (GR.uF hG (by decide +kernel) (by decide)) (by decide +kernel) (by decide))
      exact L24 _ hG1 (by (repeat (first | (refine Fr.uB ?_ (by decide)))); exact Fr.rf) (by first | (rw [if_neg hb8]) | (rw [if_pos hb8]; exact (if_neg (show ¬ (MRD M).2.2.2.1 = 0 from hb4)).symm) | (by_cases z : t = 0 <;> first | (rw [if_pos z]; exact (if_neg (show ¬ (MRD M).2.2.2.1 = 0 from hb4)).symm) | (rw [if_neg z])) | (rw [if_pos hb8]; exact (if_pos (show (MRD M).2.2.2.1 = 0 from hb4)).symm))
theorem dX12_number_0 : decode cX12_number 0 = .ok (.aload_n 0, 1) := by decide +kernel
theorem dX12_number_1 : decode cX12_number 1 = .ok (.getfield 228, 3) := by decide +kernel
theorem dX12_number_4 : decode cX12_number 4 = .ok (.ifCond .ne 41, 3) := by decide +kernel
theorem dX12_number_7 : decode cX12_number 7 = .ok (.aload_n 0, 1) := by decide +kernel
theorem dX12_number_8 : decode cX12_number 8 = .ok (.aload_n 0, 1) := by decide +kernel
theorem dX12_number_9 : decode cX12_number 9 = .ok (.getfield 219, 3) := by decide +kernel
theorem dX12_number_12 : decode cX12_number 12 = .ok (.iconst 2, 1) := by decide +kernel
theorem dX12_number_13 : decode cX12_number 13 = .ok (.if_icmp .ne 7, 3) := by decide +kernel
theorem dX12_number_16 : decode cX12_number 16 = .ok (.iconst 1, 1) := by decide +kernel
theorem dX12_number_17 : decode cX12_number 17 = .ok (.goto 4, 3) := by decide +kernel
theorem dX12_number_20 : decode cX12_number 20 = .ok (.iconst 0, 1) := by decide +kernel
theorem dX12_number_21 : decode cX12_number 21 = .ok (.iconst 1, 1) := by decide +kernel
theorem dX12_number_22 : decode cX12_number 22 = .ok (.invokevirtual 231, 3) := by decide +kernel
theorem dX12_number_25 : decode cX12_number 25 = .ok (.ifCond .eq 20, 3) := by decide +kernel
theorem dX12_number_28 : decode cX12_number 28 = .ok (.aload_n 0, 1) := by decide +kernel
theorem dX12_number_29 : decode cX12_number 29 = .ok (.aload_n 0, 1) := by decide +kernel
theorem dX12_number_30 : decode cX12_number 30 = .ok (.getfield 216, 3) := by decide +kernel
theorem dX12_number_33 : decode cX12_number 33 = .ok (.iload_n 1, 1) := by decide +kernel
theorem dX12_number_34 : decode cX12_number 34 = .ok (.iload_n 2, 1) := by decide +kernel
theorem dX12_number_35 : decode cX12_number 35 = .ok (.invokestatic 235, 3) := by decide +kernel
theorem dX12_number_38 : decode cX12_number 38 = .ok (.iconst 2, 1) := by decide +kernel
theorem dX12_number_39 : decode cX12_number 39 = .ok (.invokevirtual 231, 3) := by decide +kernel
theorem dX12_number_42 : decode cX12_number 42 = .ok (.ifCond .ne 5, 3) := by decide +kernel
theorem dX12_number_45 : decode cX12_number 45 = .ok (.iload_n 1, 1) := by decide +kernel
theorem dX12_number_46 : decode cX12_number 46 = .ok (.ireturn, 1) := by decide +kernel
theorem dX12_number_47 : decode cX12_number 47 = .ok (.aload_n 0, 1) := by decide +kernel
theorem dX12_number_48 : decode cX12_number 48 = .ok (.getfield 216, 3) := by decide +kernel
theorem dX12_number_51 : decode cX12_number 51 = .ok (.istore_n 3, 1) := by decide +kernel
theorem dX12_number_52 : decode cX12_number 52 = .ok (.aload_n 0, 1) := by decide +kernel
theorem dX12_number_53 : decode cX12_number 53 = .ok (.invokevirtual 238, 3) := by decide +kernel
theorem dX12_number_56 : decode cX12_number 56 = .ok (.iload_n 3, 1) := by decide +kernel
theorem dX12_number_57 : decode cX12_number 57 = .ok (.ireturn, 1) := by decide +kernel
set_option maxHeartbeats 1000000 in
theorem c12_number {G : Gl} {l : Launch}  {M : Mem} {a b : Int} {n : Int} {r : Int → Int} {S : RT} (hG : GR M) (hn : M 57 33 = n) (htp : ∀ k, 0 ≤ k → k < n → M 62 k = r k % 2 ^ 8) (hn0 : 0 ≤ n) (hn1 : n ≤ 700) (hm : MRS M r n S) (hb9 : b < 999) : Ct G LY 82 l 3 m12_number [vR 57, vI a, vI b] M (RP (fun v M' => Fr [] [(57, 31), (57, 32), (57, 34), (57, 35), (57, 36), (57, 37), (57, 17)] M M' ∧ MRS M' r n (rnR r n a b S).2 ∧ v = (rnR r n a b S).1)) := by
  refine R_start (by decide +kernel) (Nat.le_of_ble_eq_true rfl) (fun C hC hRm hlau => ?_)
  show RZ G LY C (Zn G LY 82 C (RP (fun v M' => Fr [] [(57, 31), (57, 32), (57, 34), (57, 35), (57, 36), (57, 37), (57, 17)] M M' ∧ MRS M' r n (rnR r n a b S).2 ∧ v = (rnR r n a b S).1))) 0 0 82 0 [some (vR 57), some (vI a), some (vI b), none] [] M
  have hg0 := hm.2.2
  refine R_aload_0 hC dX12_number_0 ?_
  refine R_getIE hC dX12_number_1 fl_12_228 (by decide) rfl (by decide) (by decide) (fi := 37) rfl hm.f ?_
  refine R_if_ne hC dX12_number_4 (tgt := 45) (by decide) (fun hb4 => ?_) (fun hb4 => ?_)
  · skip
    have hz : Fr [] [(57, 31), (57, 32), (57, 34), (57, 35), (57, 36), (57, 37), (57, 17)] M M ∧ MRS M r n (rnR r n a b S).2 ∧ a = (rnR r n a b S).1 := by (rw [rn_bad hb4]; exact ⟨Fr.rf, hm, rfl⟩)
    refine R_iload_1 hC dX12_number_45 ?_
    exact R_ireturn hC dX12_number_46 rfl (ret_P hz)
  · skip
    refine R_aload_0 hC dX12_number_7 ?_
    refine R_aload_0 hC dX12_number_8 ?_
    refine R_getIE hC dX12_number_9 fl_12_219 (by decide) rfl (by decide) (by decide) (fi := 34) rfl hm.k ?_
    refine R_iconst hC dX12_number_12 ⟨by decide, by decide⟩ ?_
    refine R_icmp_ne hC dX12_number_13 (tgt := 20) (by decide) (fun hb13 => ?_) (fun hb13 => ?_)
    · skip
      refine R_iconst hC dX12_number_20 ⟨by decide, by decide⟩ ?_
      refine R_iconst hC dX12_number_21 ⟨by decide, by decide⟩ ?_
      refine R_callVp (as := [vI _, vI _]) hC dX12_number_22 mo_12_wants ml_12_231 (by decide) rfl rfl (c12_wants  hG) rfl rfl hRm (by decide) (by decide) (Nat.le_of_ble_eq_true rfl) (fun v3 Mc1 hq2 => ?_)
      have hFa : Fr [] [(57, 31), (57, 32), (57, 34), (57, 35), (57, 36), (57, 37), (57, 17)] M Mc1 := hq2.1.mo (by simp) (by simp)
      have hmA := hm.wt hq2.1 hq2.2.1
      have hva := hq2.2.2.trans (by rw [hmA.f])
      refine R_if_eq hC dX12_number_25 (tgt := 45) (by decide) (fun hb25 => ?_) (fun hb25 => ?_)
      · skip
        have hz : Fr [] [(57, 31), (57, 32), (57, 34), (57, 35), (57, 36), (57, 37), (57, 17)] M Mc1 ∧ MRS Mc1 r n (rnR r n a b S).2 ∧ a = (rnR r n a b S).1 := by
          by_cases k2 : S.1 = 2
          · exact absurd (hva.trans (bP_pos (by first | exact hb4 | (exfalso; exact absurd k2 hb13)))) (by rw [hb25]; decide)
          · rw [rn_k hb4 k2]
            refine ⟨hFa, ?_, rfl⟩
            first | exact hmA | exact absurd hb13 k2
        refine R_iload_1 hC dX12_number_45 ?_
        exact R_ireturn hC dX12_number_46 rfl (ret_P hz)
      · skip
        have hk2 : S.1 = 2 := by
          first
            | exact hb13
            | exact absurd (hva.trans (bP_neg (fun z => rf_ne (S := S) (v := 1) hb4 (by decide) z))) hb25
        have hma : MRS Mc1 r n S := by first | exact hmA | exact absurd hk2 hb13
        refine R_aload_0 hC dX12_number_28 ?_
        refine R_aload_0 hC dX12_number_29 ?_
        refine R_getIE hC dX12_number_30 fl_12_216 (by decide) rfl (by decide) (by decide) (fi := 35) rfl hma.2.1.1 ?_
        refine R_iload_1 hC dX12_number_33 ?_
        refine R_iload_2 hC dX12_number_34 ?_
        refine R_callSq (as := [vI _, vI _, vI _]) hC dX12_number_35 mo_12_within ml_12_235 (c12_within  ) rfl rfl hRm (by decide) (by decide) (Nat.le_of_ble_eq_true rfl) ?_
        refine R_iconst hC dX12_number_38 ⟨by decide, by decide⟩ ?_
        have hG4 : GR Mc1 := (GR.fr hG hq2.1 (by decide +kernel))
        refine R_callVp (as := [vI _, vI _]) hC dX12_number_39 mo_12_wants ml_12_231 (by decide) rfl rfl (c12_wants  hG4) rfl rfl hRm (by decide) (by decide) (Nat.le_of_ble_eq_true rfl) (fun v7 Mc5 hq6 => ?_)
        have hFb : Fr [] [(57, 31), (57, 32), (57, 34), (57, 35), (57, 36), (57, 37), (57, 17)] M Mc5 := Fr.tt hFa (hq6.1.mo (by simp) (by simp))
        have hmB := hma.wt hq6.1 hq6.2.1
        have hvb := hq6.2.2.trans (by rw [hmB.f])
        refine R_if_ne hC dX12_number_42 (tgt := 47) (by decide) (fun hb42 => ?_) (fun hb42 => ?_)
        · skip
          have hw2 : a ≤ vlS r n S ∧ vlS r n S ≤ b := Classical.byContradiction (fun w2 => by
            rw [if_pos (bP_neg w2)] at hvb
            exact hb42 (hvb.trans (bP_neg (fun y => rf_ne (S := S) (v := 2) hb4 (by decide) y))))
          have hmb : MRS Mc5 r n S := by
            rw [if_neg (show ¬ bP (a ≤ vlS r n S ∧ vlS r n S ≤ b) = 0 from fun z => bP_z z hw2)] at hmB
            exact hmB
          refine R_aload_0 hC dX12_number_47 ?_
          refine R_getIE hC dX12_number_48 fl_12_216 (by decide) rfl (by decide) (by decide) (fi := 35) rfl hmb.2.1.1 ?_
          refine R_istore_3 hC dX12_number_51 rfl ?_
          refine R_aload_0 hC dX12_number_52 ?_
          have hrg := hmb.2.2
          have hrg1 := hrg.1
          have hrg2 := hrg.2.1
          have hrg3 := hrg.2.2
          have hG8 : GR Mc5 := (GR.fr hG4 hq6.1 (by decide +kernel))
          refine R_callVv (as := []) hC dX12_number_53 mo_12_go ml_12_238 (by decide) rfl rfl (c12_go (e := S.2.2.1) hG8 ((hFb 57 33 (by decide) (by decide)).trans hn) (fun j p q => (congrFun (hFb.row (by decide) (by decide)) j).trans (htp j p q)) (by omega) (by omega) hmb.e (by omega) (by omega)) rfl rfl hRm (by decide) (by decide) (Nat.le_of_ble_eq_true rfl) (fun Mc9 hq10 => ?_)
          have hFg : Fr [] [(57, 31), (57, 32), (57, 34), (57, 35), (57, 36), (57, 37), (57, 17)] M Mc9 := Fr.tt hFb (hq10.1.mo (by simp) (by simp))
          have hmg := hmb.go hq10.1 hq10.2
          refine R_iload_3 hC dX12_number_56 ?_
          exact R_ireturn hC dX12_number_57 rfl (ret_P (by rw [rn_g hg0 hb4 hk2 hb9 hw2]; exact ⟨hFg, hmg, rfl⟩))
        · skip
          have hz : Fr [] [(57, 31), (57, 32), (57, 34), (57, 35), (57, 36), (57, 37), (57, 17)] M Mc5 ∧ MRS Mc5 r n (rnR r n a b S).2 ∧ a = (rnR r n a b S).1 := by
            by_cases w2 : a ≤ vlS r n S ∧ vlS r n S ≤ b
            · exact absurd (hvb.trans (bP_pos (by rw [if_neg (show ¬ bP (a ≤ vlS r n S ∧ vlS r n S ≤ b) = 0 from fun z => bP_z z w2)]; exact hb4))) (by rw [hb42]; decide)
            · rw [rn_r hg0 hb4 hk2 hb9 w2]
              rw [if_pos (bP_neg w2)] at hmB
              exact ⟨hFb, hmB, rfl⟩
          refine R_iload_1 hC dX12_number_45 ?_
          exact R_ireturn hC dX12_number_46 rfl (ret_P hz)
    · skip
      refine R_iconst hC dX12_number_16 ⟨by decide, by decide⟩ ?_
      refine R_goto hC dX12_number_17 (tgt := 21) (by decide) ?_
      refine R_iconst hC dX12_number_21 ⟨by decide, by decide⟩ ?_
      refine R_callVp (as := [vI _, vI _]) hC dX12_number_22 mo_12_wants ml_12_231 (by decide) rfl rfl (c12_wants  hG) rfl rfl hRm (by decide) (by decide) (Nat.le_of_ble_eq_true rfl) (fun v13 Mc11 hq12 => ?_)
      have hFa : Fr [] [(57, 31), (57, 32), (57, 34), (57, 35), (57, 36), (57, 37), (57, 17)] M Mc11 := hq12.1.mo (by simp) (by simp)
      have hmA := hm.wt hq12.1 hq12.2.1
      have hva := hq12.2.2.trans (by rw [hmA.f])
      refine R_if_eq hC dX12_number_25 (tgt := 45) (by decide) (fun hb25 => ?_) (fun hb25 => ?_)
      · skip
        have hz : Fr [] [(57, 31), (57, 32), (57, 34), (57, 35), (57, 36), (57, 37), (57, 17)] M Mc11 ∧ MRS Mc11 r n (rnR r n a b S).2 ∧ a = (rnR r n a b S).1 := by
          by_cases k2 : S.1 = 2
          · exact absurd (hva.trans (bP_pos (by first | exact hb4 | (exfalso; exact absurd k2 hb13)))) (by rw [hb25]; decide)
          · rw [rn_k hb4 k2]
            refine ⟨hFa, ?_, rfl⟩
            first | exact hmA | exact absurd hb13 k2
        refine R_iload_1 hC dX12_number_45 ?_
        exact R_ireturn hC dX12_number_46 rfl (ret_P hz)
      · skip
        have hk2 : S.1 = 2 := by
          first
            | exact hb13
            | exact absurd (hva.trans (bP_neg (fun z => rf_ne (S := S) (v := 1) hb4 (by decide) z))) hb25
        have hma : MRS Mc11 r n S := by first | exact hmA | exact absurd hk2 hb13
        refine R_aload_0 hC dX12_number_28 ?_
        refine R_aload_0 hC dX12_number_29 ?_
        refine R_getIE hC dX12_number_30 fl_12_216 (by decide) rfl (by decide) (by decide) (fi := 35) rfl hma.2.1.1 ?_
        refine R_iload_1 hC dX12_number_33 ?_
        refine R_iload_2 hC dX12_number_34 ?_
        refine R_callSq (as := [vI _, vI _, vI _]) hC dX12_number_35 mo_12_within ml_12_235 (c12_within  ) rfl rfl hRm (by decide) (by decide) (Nat.le_of_ble_eq_true rfl) ?_
        refine R_iconst hC dX12_number_38 ⟨by decide, by decide⟩ ?_
        have hG14 : GR Mc11 := (GR.fr hG hq12.1 (by decide +kernel))
        refine R_callVp (as := [vI _, vI _]) hC dX12_number_39 mo_12_wants ml_12_231 (by decide) rfl rfl (c12_wants  hG14) rfl rfl hRm (by decide) (by decide) (Nat.le_of_ble_eq_true rfl) (fun v17 Mc15 hq16 => ?_)
        have hFb : Fr [] [(57, 31), (57, 32), (57, 34), (57, 35), (57, 36), (57, 37), (57, 17)] M Mc15 := Fr.tt hFa (hq16.1.mo (by simp) (by simp))
        have hmB := hma.wt hq16.1 hq16.2.1
        have hvb := hq16.2.2.trans (by rw [hmB.f])
        refine R_if_ne hC dX12_number_42 (tgt := 47) (by decide) (fun hb42 => ?_) (fun hb42 => ?_)
        · skip
          have hw2 : a ≤ vlS r n S ∧ vlS r n S ≤ b := Classical.byContradiction (fun w2 => by
            rw [if_pos (bP_neg w2)] at hvb
            exact hb42 (hvb.trans (bP_neg (fun y => rf_ne (S := S) (v := 2) hb4 (by decide) y))))
          have hmb : MRS Mc15 r n S := by
            rw [if_neg (show ¬ bP (a ≤ vlS r n S ∧ vlS r n S ≤ b) = 0 from fun z => bP_z z hw2)] at hmB
            exact hmB
          refine R_aload_0 hC dX12_number_47 ?_
          refine R_getIE hC dX12_number_48 fl_12_216 (by decide) rfl (by decide) (by decide) (fi := 35) rfl hmb.2.1.1 ?_
          refine R_istore_3 hC dX12_number_51 rfl ?_
          refine R_aload_0 hC dX12_number_52 ?_
          have hrg := hmb.2.2
          have hrg1 := hrg.1
          have hrg2 := hrg.2.1
          have hrg3 := hrg.2.2
          have hG18 : GR Mc15 := (GR.fr hG14 hq16.1 (by decide +kernel))
          refine R_callVv (as := []) hC dX12_number_53 mo_12_go ml_12_238 (by decide) rfl rfl (c12_go (e := S.2.2.1) hG18 ((hFb 57 33 (by decide) (by decide)).trans hn) (fun j p q => (congrFun (hFb.row (by decide) (by decide)) j).trans (htp j p q)) (by omega) (by omega) hmb.e (by omega) (by omega)) rfl rfl hRm (by decide) (by decide) (Nat.le_of_ble_eq_true rfl) (fun Mc19 hq20 => ?_)
          have hFg : Fr [] [(57, 31), (57, 32), (57, 34), (57, 35), (57, 36), (57, 37), (57, 17)] M Mc19 := Fr.tt hFb (hq20.1.mo (by simp) (by simp))
          have hmg := hmb.go hq20.1 hq20.2
          refine R_iload_3 hC dX12_number_56 ?_
          exact R_ireturn hC dX12_number_57 rfl (ret_P (by rw [rn_g hg0 hb4 hk2 hb9 hw2]; exact ⟨hFg, hmg, rfl⟩))
        · skip
          have hz : Fr [] [(57, 31), (57, 32), (57, 34), (57, 35), (57, 36), (57, 37), (57, 17)] M Mc15 ∧ MRS Mc15 r n (rnR r n a b S).2 ∧ a = (rnR r n a b S).1 := by
            by_cases w2 : a ≤ vlS r n S ∧ vlS r n S ≤ b
            · exact absurd (hvb.trans (bP_pos (by rw [if_neg (show ¬ bP (a ≤ vlS r n S ∧ vlS r n S ≤ b) = 0 from fun z => bP_z z w2)]; exact hb4))) (by rw [hb42]; decide)
            · rw [rn_r hg0 hb4 hk2 hb9 w2]
              rw [if_pos (bP_neg w2)] at hmB
              exact ⟨hFb, hmB, rfl⟩
          refine R_iload_1 hC dX12_number_45 ?_
          exact R_ireturn hC dX12_number_46 rfl (ret_P hz)
