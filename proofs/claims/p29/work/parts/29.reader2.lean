/-! TextReader: its state as one tuple: kind, start, end, fault, place -/
abbrev RT : Type := Int × Int × Int × Int × Int
def RD (M : Mem) : RT := (M 22 4, M 22 5, M 22 6, M 22 7, M 22 8)
def refR (v : Int) (S : RT) : RT := if S.2.2.2.1 = 0 then (S.1, S.2.1, S.2.2.1, v, S.2.1) else S
noncomputable def nxR (r : Int → Int) (n : Int) (S : RT) : RT := ((nxT r n S.2.2.1).1, (nxT r n S.2.2.1).2.1, (nxT r n S.2.2.1).2.2, S.2.2.2.1, S.2.2.2.2)
noncomputable def sgR (r : Int → Int) (n : Int) (S : RT) : RT := if S.2.2.2.1 = 0 then (if S.1 = 3 then nxR r n S else refR 1 S) else S
/-- start and end lie in the text -/
def RG (n : Int) (S : RT) : Prop := 0 ≤ S.2.1 ∧ S.2.1 ≤ S.2.2.1 ∧ S.2.2.1 ≤ n
theorem scn_bd {P : Int → Prop} {n : Int} : ∀ (k : Nat) (a : Int), a + k ≤ n → a ≤ scnF P n k a ∧ scnF P n k a ≤ n
  | 0, a, h => ⟨Int.le_refl _, by show a ≤ n; omega⟩
  | k + 1, a, h => by
    have := scn_bd (P := P) (n := n) k (a + 1) (by omega)
    rw [scnF]
    by_cases q : P a
    · rw [if_pos q]; omega
    · rw [if_neg q]; omega
theorem scn_b {P : Int → Prop} {n a : Int} (h : a ≤ n) : a ≤ scn P n a ∧ scn P n a ≤ n := scn_bd _ _ (by omega)
theorem nxW_bd {r : Int → Int} {n s : Int} (h1 : s ≤ n) : (nxW r n s).2.1 = s ∧ s ≤ (nxW r n s).2.2 ∧ (nxW r n s).2.2 ≤ n := by
  by_cases a : n ≤ s
  · rw [nx_0 a]; exact ⟨rfl, Int.le_refl _, h1⟩
  · have a1 : s < n := by omega
    by_cases b : ltP (byA r n s)
    · rw [nx_1 a1 b]
      have := scn_b (P := fun j => ltP (byA r n j)) (n := n) (a := s + 1) (by omega)
      exact ⟨rfl, by show s ≤ scn _ _ _; omega, this.2⟩
    · by_cases c : dgP (byA r n s)
      · rw [nx_2 a1 b c]
        have := scn_b (P := fun j => dgP (byA r n j)) (n := n) (a := s + 1) (by omega)
        exact ⟨rfl, by show s ≤ scn _ _ _; omega, this.2⟩
      · by_cases e : byA r n s = 59
        · rw [nx_3 a1 b c e]; exact ⟨rfl, by show s ≤ s + 1; omega, by show s + 1 ≤ n; omega⟩
        · rw [nx_4 a1 b c e]; exact ⟨rfl, by show s ≤ s + 1; omega, by show s + 1 ≤ n; omega⟩
theorem RG.nx {r : Int → Int} {n : Int} {S : RT} (h : RG n S) : RG n (nxR r n S) := by
  obtain ⟨h0, h1, h2⟩ := h
  have a := scn_b (P := fun j => blP (byA r n j)) h2
  have b := nxW_bd (r := r) a.2
  refine ⟨?_, ?_, b.2.2⟩
  · show 0 ≤ (nxW r n _).2.1
    rw [b.1]; omega
  · show (nxW r n _).2.1 ≤ (nxW r n _).2.2
    rw [b.1]; exact b.2.1
theorem RG.rf {n v : Int} {S : RT} (h : RG n S) : RG n (refR v S) := by
  unfold refR
  split
  · exact h
  · exact h
def R5 : List (Nat × Int) := [(22, 4), (22, 5), (22, 6), (22, 7), (22, 8)]
theorem RD_nx {r : Int → Int} {n : Int} {M M' : Mem} (h : Fr [] [(22, 4), (22, 5), (22, 6)] M M' ∧ M' 22 4 = (nxT r n (M 22 6)).1 ∧ M' 22 5 = (nxT r n (M 22 6)).2.1 ∧ M' 22 6 = (nxT r n (M 22 6)).2.2) : RD M' = nxR r n (RD M) := by
  obtain ⟨hF, h4, h5, h6⟩ := h
  unfold RD nxR
  rw [h4, h5, h6, hF 22 7 (by decide) (by decide), hF 22 8 (by decide) (by decide)]
theorem RD_rf {v : Int} {M M' : Mem} (h : Fr [] [(22, 7), (22, 8)] M M' ∧ M' 22 7 = (if M 22 7 = 0 then v else M 22 7) ∧ M' 22 8 = (if M 22 7 = 0 then M 22 5 else M 22 8)) : RD M' = refR v (RD M) := by
  obtain ⟨hF, h7, h8⟩ := h
  unfold RD refR
  rw [h7, h8, hF 22 4 (by decide) (by decide), hF 22 5 (by decide) (by decide), hF 22 6 (by decide) (by decide)]
  simp only
  by_cases q : M 22 7 = 0
  · rw [if_pos q, if_pos q, if_pos q]
  · rw [if_neg q, if_neg q, if_neg q]
/-- the number from s on -/
def nmF (r : Int → Int) (n s : Int) : Nat → Int
  | 0 => 0
  | k + 1 => 10 * nmF r n s k + byA r n (s + k) - 48
theorem nmF_s {r : Int → Int} {n s a b : Int} (h : s ≤ a) (hb : b = a + 1) : nmF r n s (b - s).toNat = 10 * nmF r n s (a - s).toNat + byA r n a - 48 := by
  subst hb
  rw [show (a + 1 - s).toNat = (a - s).toNat + 1 by omega, nmF, show s + ((a - s).toNat : Int) = a by omega]
theorem byA_bd {r : Int → Int} {n a : Int} : -1 ≤ byA r n a ∧ byA r n a ≤ 255 := by
  unfold byA
  split <;> omega
def numV (r : Int → Int) (n : Int) (S : RT) : Int := nmF r n S.2.1 (min S.2.2.1 (S.2.1 + 2) - S.2.1).toNat
def ckR (r : Int → Int) (n a b : Int) (S : RT) : Int × RT :=
  if S.2.2.2.1 = 0 then (if S.1 = 2 then (if S.2.2.1 - S.2.1 ≤ 2 ∧ a ≤ numV r n S ∧ numV r n S ≤ b then (numV r n S, S) else (a, refR 2 S)) else (a, refR 1 S)) else (a, S)
noncomputable def rnR (r : Int → Int) (n a b : Int) (S : RT) : Int × RT := if (ckR r n a b S).2.2.2.2.1 = 0 then ((ckR r n a b S).1, nxR r n (ckR r n a b S).2) else ckR r n a b S
theorem RG.ck {r : Int → Int} {n a b : Int} {S : RT} (h : RG n S) : RG n (ckR r n a b S).2 := by
  unfold ckR
  split
  · split
    · split
      · exact h
      · exact h.rf
    · exact h.rf
  · exact h

theorem dX9_readSign_0 : decode cX9_readSign 0 = .ok (.aload_n 0, 1) := by decide +kernel
theorem dX9_readSign_1 : decode cX9_readSign 1 = .ok (.getfield 41, 3) := by decide +kernel
theorem dX9_readSign_4 : decode cX9_readSign 4 = .ok (.ifCond .eq 4, 3) := by decide +kernel
theorem dX9_readSign_7 : decode cX9_readSign 7 = .ok (.return_, 1) := by decide +kernel
theorem dX9_readSign_8 : decode cX9_readSign 8 = .ok (.aload_n 0, 1) := by decide +kernel
theorem dX9_readSign_9 : decode cX9_readSign 9 = .ok (.getfield 50, 3) := by decide +kernel
theorem dX9_readSign_12 : decode cX9_readSign 12 = .ok (.iconst 3, 1) := by decide +kernel
theorem dX9_readSign_13 : decode cX9_readSign 13 = .ok (.if_icmp .eq 9, 3) := by decide +kernel
theorem dX9_readSign_16 : decode cX9_readSign 16 = .ok (.aload_n 0, 1) := by decide +kernel
theorem dX9_readSign_17 : decode cX9_readSign 17 = .ok (.iconst 1, 1) := by decide +kernel
theorem dX9_readSign_18 : decode cX9_readSign 18 = .ok (.invokevirtual 108, 3) := by decide +kernel
theorem dX9_readSign_21 : decode cX9_readSign 21 = .ok (.return_, 1) := by decide +kernel
theorem dX9_readSign_22 : decode cX9_readSign 22 = .ok (.aload_n 0, 1) := by decide +kernel
theorem dX9_readSign_23 : decode cX9_readSign 23 = .ok (.invokevirtual 47, 3) := by decide +kernel
theorem dX9_readSign_26 : decode cX9_readSign 26 = .ok (.return_, 1) := by decide +kernel
set_option maxHeartbeats 400000 in
theorem c9_readSign {G : Gl} {l : Launch}  {M : Mem} {n : Int} {r : Int → Int} (hG : GR M) (hTx : M 22 0 = 1) (hN : M 22 1 = n) (hn0 : 0 ≤ n) (hn1 : n ≤ 700) (hr : M 1 = r) (hRg : RG n (RD M)) : Ct G LY 57 l 2 m9_readSign [vR 22] M (RV (fun M' => Fr [] [(22, 4), (22, 5), (22, 6), (22, 7), (22, 8)] M M' ∧ RD M' = sgR r n (RD M))) := by
  refine R_start (by decide +kernel) (Nat.le_of_ble_eq_true rfl) (fun C hC hRm hlau => ?_)
  show RZ G LY C (Zn G LY 57 C (RV (fun M' => Fr [] [(22, 4), (22, 5), (22, 6), (22, 7), (22, 8)] M M' ∧ RD M' = sgR r n (RD M)))) 0 0 57 0 [some (vR 22)] [] M
  refine R_aload_0 hC dX9_readSign_0 ?_
  refine R_getI hC dX9_readSign_1 fl_9_41 (by decide) rfl (by decide) (by decide) (fi := 7) rfl ?_
  refine R_if_eq hC dX9_readSign_4 (tgt := 8) (by decide) (fun hb4 => ?_) (fun hb4 => ?_)
  · skip
    refine R_aload_0 hC dX9_readSign_8 ?_
    refine R_getI hC dX9_readSign_9 fl_9_50 (by decide) rfl (by decide) (by decide) (fi := 4) rfl ?_
    refine R_iconst hC dX9_readSign_12 ⟨by decide, by decide⟩ ?_
    refine R_icmp_eq hC dX9_readSign_13 (tgt := 22) (by decide) (fun hb13 => ?_) (fun hb13 => ?_)
    · skip
      refine R_aload_0 hC dX9_readSign_22 ?_
      refine R_callVv (as := []) hC dX9_readSign_23 mo_9_next ml_9_47 (by decide) rfl rfl (c9_next  hG hTx hN (by omega) (by omega) hr (by (have z := hRg.1; have y := hRg.2.1; show 0 ≤ (RD M).2.2.1; omega)) hRg.2.2) rfl rfl hRm (by decide) (by decide) (Nat.le_of_ble_eq_true rfl) (fun Mc1 hq2 => ?_)
      exact R_return hC dX9_readSign_26 rfl (ret_V ⟨hq2.1.mo (by decide) (by decide), (RD_nx hq2).trans (((if_pos hb4).trans (if_pos hb13)).symm)⟩)
    · skip
      refine R_aload_0 hC dX9_readSign_16 ?_
      refine R_iconst hC dX9_readSign_17 ⟨by decide, by decide⟩ ?_
      refine R_callVv (as := [vI _]) hC dX9_readSign_18 mo_9_refuse ml_9_108 (by decide) rfl rfl (c9_refuse  hG) rfl rfl hRm (by decide) (by decide) (Nat.le_of_ble_eq_true rfl) (fun Mc3 hq4 => ?_)
      exact R_return hC dX9_readSign_21 rfl (ret_V ⟨hq4.1.mo (by decide) (by decide), (RD_rf hq4).trans (((if_pos hb4).trans (if_neg hb13)).symm)⟩)
  · skip
    exact R_return hC dX9_readSign_7 rfl (ret_V ⟨Fr.rf, (if_neg hb4).symm⟩)
theorem dX9_checkNumber_0 : decode cX9_checkNumber 0 = .ok (.aload_n 0, 1) := by decide +kernel
theorem dX9_checkNumber_1 : decode cX9_checkNumber 1 = .ok (.getfield 41, 3) := by decide +kernel
theorem dX9_checkNumber_4 : decode cX9_checkNumber 4 = .ok (.ifCond .eq 5, 3) := by decide +kernel
theorem dX9_checkNumber_7 : decode cX9_checkNumber 7 = .ok (.iload_n 1, 1) := by decide +kernel
theorem dX9_checkNumber_8 : decode cX9_checkNumber 8 = .ok (.ireturn, 1) := by decide +kernel
theorem dX9_checkNumber_9 : decode cX9_checkNumber 9 = .ok (.aload_n 0, 1) := by decide +kernel
theorem dX9_checkNumber_10 : decode cX9_checkNumber 10 = .ok (.getfield 50, 3) := by decide +kernel
theorem dX9_checkNumber_13 : decode cX9_checkNumber 13 = .ok (.iconst 2, 1) := by decide +kernel
theorem dX9_checkNumber_14 : decode cX9_checkNumber 14 = .ok (.if_icmp .eq 10, 3) := by decide +kernel
theorem dX9_checkNumber_17 : decode cX9_checkNumber 17 = .ok (.aload_n 0, 1) := by decide +kernel
theorem dX9_checkNumber_18 : decode cX9_checkNumber 18 = .ok (.iconst 1, 1) := by decide +kernel
theorem dX9_checkNumber_19 : decode cX9_checkNumber 19 = .ok (.invokevirtual 108, 3) := by decide +kernel
theorem dX9_checkNumber_22 : decode cX9_checkNumber 22 = .ok (.iload_n 1, 1) := by decide +kernel
theorem dX9_checkNumber_23 : decode cX9_checkNumber 23 = .ok (.ireturn, 1) := by decide +kernel
theorem dX9_checkNumber_24 : decode cX9_checkNumber 24 = .ok (.iconst 0, 1) := by decide +kernel
theorem dX9_checkNumber_25 : decode cX9_checkNumber 25 = .ok (.istore_n 3, 1) := by decide +kernel
theorem dX9_checkNumber_26 : decode cX9_checkNumber 26 = .ok (.aload_n 0, 1) := by decide +kernel
theorem dX9_checkNumber_27 : decode cX9_checkNumber 27 = .ok (.getfield 56, 3) := by decide +kernel
theorem dX9_checkNumber_30 : decode cX9_checkNumber 30 = .ok (.istore 4, 2) := by decide +kernel
theorem dX9_checkNumber_32 : decode cX9_checkNumber 32 = .ok (.iload 4, 2) := by decide +kernel
theorem dX9_checkNumber_34 : decode cX9_checkNumber 34 = .ok (.aload_n 0, 1) := by decide +kernel
theorem dX9_checkNumber_35 : decode cX9_checkNumber 35 = .ok (.getfield 44, 3) := by decide +kernel
theorem dX9_checkNumber_38 : decode cX9_checkNumber 38 = .ok (.if_icmp .ge 35, 3) := by decide +kernel
theorem dX9_checkNumber_41 : decode cX9_checkNumber 41 = .ok (.iload 4, 2) := by decide +kernel
theorem dX9_checkNumber_43 : decode cX9_checkNumber 43 = .ok (.aload_n 0, 1) := by decide +kernel
theorem dX9_checkNumber_44 : decode cX9_checkNumber 44 = .ok (.getfield 56, 3) := by decide +kernel
theorem dX9_checkNumber_47 : decode cX9_checkNumber 47 = .ok (.iconst 2, 1) := by decide +kernel
theorem dX9_checkNumber_48 : decode cX9_checkNumber 48 = .ok (.iadd, 1) := by decide +kernel
theorem dX9_checkNumber_49 : decode cX9_checkNumber 49 = .ok (.if_icmp .ge 24, 3) := by decide +kernel
theorem dX9_checkNumber_52 : decode cX9_checkNumber 52 = .ok (.bipush 10, 2) := by decide +kernel
theorem dX9_checkNumber_54 : decode cX9_checkNumber 54 = .ok (.iload_n 3, 1) := by decide +kernel
theorem dX9_checkNumber_55 : decode cX9_checkNumber 55 = .ok (.imul, 1) := by decide +kernel
theorem dX9_checkNumber_56 : decode cX9_checkNumber 56 = .ok (.aload_n 0, 1) := by decide +kernel
theorem dX9_checkNumber_57 : decode cX9_checkNumber 57 = .ok (.iload 4, 2) := by decide +kernel
theorem dX9_checkNumber_59 : decode cX9_checkNumber 59 = .ok (.invokevirtual 59, 3) := by decide +kernel
theorem dX9_checkNumber_62 : decode cX9_checkNumber 62 = .ok (.iadd, 1) := by decide +kernel
theorem dX9_checkNumber_63 : decode cX9_checkNumber 63 = .ok (.bipush 48, 2) := by decide +kernel
theorem dX9_checkNumber_65 : decode cX9_checkNumber 65 = .ok (.isub, 1) := by decide +kernel
theorem dX9_checkNumber_66 : decode cX9_checkNumber 66 = .ok (.istore_n 3, 1) := by decide +kernel
theorem dX9_checkNumber_67 : decode cX9_checkNumber 67 = .ok (.iinc 4 1, 3) := by decide +kernel
theorem dX9_checkNumber_70 : decode cX9_checkNumber 70 = .ok (.goto (-38), 3) := by decide +kernel
theorem dX9_checkNumber_73 : decode cX9_checkNumber 73 = .ok (.aload_n 0, 1) := by decide +kernel
theorem dX9_checkNumber_74 : decode cX9_checkNumber 74 = .ok (.getfield 44, 3) := by decide +kernel
theorem dX9_checkNumber_77 : decode cX9_checkNumber 77 = .ok (.aload_n 0, 1) := by decide +kernel
theorem dX9_checkNumber_78 : decode cX9_checkNumber 78 = .ok (.getfield 56, 3) := by decide +kernel
theorem dX9_checkNumber_81 : decode cX9_checkNumber 81 = .ok (.isub, 1) := by decide +kernel
theorem dX9_checkNumber_82 : decode cX9_checkNumber 82 = .ok (.iconst 2, 1) := by decide +kernel
theorem dX9_checkNumber_83 : decode cX9_checkNumber 83 = .ok (.if_icmp .gt 13, 3) := by decide +kernel
theorem dX9_checkNumber_86 : decode cX9_checkNumber 86 = .ok (.iload_n 3, 1) := by decide +kernel
theorem dX9_checkNumber_87 : decode cX9_checkNumber 87 = .ok (.iload_n 1, 1) := by decide +kernel
theorem dX9_checkNumber_88 : decode cX9_checkNumber 88 = .ok (.if_icmp .lt 8, 3) := by decide +kernel
theorem dX9_checkNumber_91 : decode cX9_checkNumber 91 = .ok (.iload_n 3, 1) := by decide +kernel
theorem dX9_checkNumber_92 : decode cX9_checkNumber 92 = .ok (.iload_n 2, 1) := by decide +kernel
theorem dX9_checkNumber_93 : decode cX9_checkNumber 93 = .ok (.if_icmp .le 10, 3) := by decide +kernel
theorem dX9_checkNumber_96 : decode cX9_checkNumber 96 = .ok (.aload_n 0, 1) := by decide +kernel
theorem dX9_checkNumber_97 : decode cX9_checkNumber 97 = .ok (.iconst 2, 1) := by decide +kernel
theorem dX9_checkNumber_98 : decode cX9_checkNumber 98 = .ok (.invokevirtual 108, 3) := by decide +kernel
theorem dX9_checkNumber_101 : decode cX9_checkNumber 101 = .ok (.iload_n 1, 1) := by decide +kernel
theorem dX9_checkNumber_102 : decode cX9_checkNumber 102 = .ok (.ireturn, 1) := by decide +kernel
theorem dX9_checkNumber_103 : decode cX9_checkNumber 103 = .ok (.iload_n 3, 1) := by decide +kernel
theorem dX9_checkNumber_104 : decode cX9_checkNumber 104 = .ok (.ireturn, 1) := by decide +kernel
set_option maxHeartbeats 1000000 in
theorem c9_checkNumber {G : Gl} {l : Launch}  {M : Mem} {n a b : Int} {r : Int → Int} (hG : GR M) (hTx : M 22 0 = 1) (hN : M 22 1 = n) (hn0 : 0 ≤ n) (hn1 : n ≤ 700) (hr : M 1 = r) (hRg : RG n (RD M)) : Ct G LY 57 l 1 m9_checkNumber [vR 22, vI a, vI b] M (RP (fun v M' => Fr [] [(22, 4), (22, 5), (22, 6), (22, 7), (22, 8)] M M' ∧ v = (ckR r n a b (RD M)).1 ∧ RD M' = (ckR r n a b (RD M)).2)) := by
  refine R_start (by decide +kernel) (Nat.le_of_ble_eq_true rfl) (fun C hC hRm hlau => ?_)
  show RZ G LY C (Zn G LY 57 C (RP (fun v M' => Fr [] [(22, 4), (22, 5), (22, 6), (22, 7), (22, 8)] M M' ∧ v = (ckR r n a b (RD M)).1 ∧ RD M' = (ckR r n a b (RD M)).2))) 0 0 57 0 [some (vR 22), some (vI a), some (vI b), none, none] [] M
  have hse : 0 ≤ M 22 5 ∧ M 22 5 ≤ M 22 6 ∧ M 22 6 ≤ n := hRg
  refine R_aload_0 hC dX9_checkNumber_0 ?_
  refine R_getI hC dX9_checkNumber_1 fl_9_41 (by decide) rfl (by decide) (by decide) (fi := 7) rfl ?_
  refine R_if_eq hC dX9_checkNumber_4 (tgt := 9) (by decide) (fun hb4 => ?_) (fun hb4 => ?_)
  · skip
    refine R_aload_0 hC dX9_checkNumber_9 ?_
    refine R_getI hC dX9_checkNumber_10 fl_9_50 (by decide) rfl (by decide) (by decide) (fi := 4) rfl ?_
    refine R_iconst hC dX9_checkNumber_13 ⟨by decide, by decide⟩ ?_
    refine R_icmp_eq hC dX9_checkNumber_14 (tgt := 24) (by decide) (fun hb14 => ?_) (fun hb14 => ?_)
    · skip
      refine R_iconst hC dX9_checkNumber_24 ⟨by decide, by decide⟩ ?_
      refine R_istore_3 hC dX9_checkNumber_25 rfl ?_
      refine R_aload_0 hC dX9_checkNumber_26 ?_
      refine R_getI hC dX9_checkNumber_27 fl_9_56 (by decide) rfl (by decide) (by decide) (fi := 5) rfl ?_
      refine R_istore_4 hC dX9_checkNumber_30 rfl ?_
      have L32 : ∀ (mq : Nat) (m : Int) (k : Int), (M 22 5 ≤ k) → (k ≤ M 22 6) → (k ≤ M 22 5 + 2) → (m = nmF r n (M 22 5) (k - M 22 5).toNat) → ((k = M 22 5 ∧ m = 0) ∨ (k = M 22 5 + 1 ∧ -49 ≤ m ∧ m ≤ 207) ∨ (k = M 22 5 + 2 ∧ -539 ≤ m ∧ m ≤ 2277)) → (M 22 5 + 2 - k).toNat < mq → RZ G LY C (Zn G LY 57 C (RP (fun v M' => Fr [] [(22, 4), (22, 5), (22, 6), (22, 7), (22, 8)] M M' ∧ v = (ckR r n a b (RD M)).1 ∧ RD M' = (ckR r n a b (RD M)).2))) 0 0 57 32 [some (vR 22), some (vI a), some (vI b), some (vI m), some (vI k)] [] M := by
        intro mq
        induction mq with
        | zero =>
          intro m k hk0 hk1 hk2 hm hmb hm
          exact absurd hm (Nat.not_lt_zero _)
        | succ mq ih32 =>
          intro m k hk0 hk1 hk2 hm hmb hm32
          refine R_iload_4 hC dX9_checkNumber_32 ?_
          refine R_aload_0 hC dX9_checkNumber_34 ?_
          refine R_getI hC dX9_checkNumber_35 fl_9_44 (by decide) rfl (by decide) (by decide) (fi := 6) rfl ?_
          refine R_icmp_ge hC dX9_checkNumber_38 (tgt := 73) (by decide) (fun hb38 => ?_) (fun hb38 => ?_)
          · skip
            have hnv : m = numV r n (RD M) := by
              have hat : k = min (M 22 6) (M 22 5 + 2) := by omega
              rw [hm, hat]
              rfl
            refine R_aload_0 hC dX9_checkNumber_73 ?_
            refine R_getI hC dX9_checkNumber_74 fl_9_44 (by decide) rfl (by decide) (by decide) (fi := 6) rfl ?_
            refine R_aload_0 hC dX9_checkNumber_77 ?_
            refine R_getI hC dX9_checkNumber_78 fl_9_56 (by decide) rfl (by decide) (by decide) (fi := 5) rfl ?_
            refine R_isub hC dX9_checkNumber_81 ⟨by omega, by omega⟩ ?_
            refine R_iconst hC dX9_checkNumber_82 ⟨by decide, by decide⟩ ?_
            refine R_icmp_gt hC dX9_checkNumber_83 (tgt := 96) (by decide) (fun hb83 => ?_) (fun hb83 => ?_)
            · skip
              refine R_aload_0 hC dX9_checkNumber_96 ?_
              refine R_iconst hC dX9_checkNumber_97 ⟨by decide, by decide⟩ ?_
              refine R_callVv (as := [vI _]) hC dX9_checkNumber_98 mo_9_refuse ml_9_108 (by decide) rfl rfl (c9_refuse  hG) rfl rfl hRm (by decide) (by decide) (Nat.le_of_ble_eq_true rfl) (fun Mc1 hq2 => ?_)
              refine R_iload_1 hC dX9_checkNumber_101 ?_
              exact R_ireturn hC dX9_checkNumber_102 rfl (ret_P (by
                have e : (ckR r n a b (RD M)) = (a, refR 2 (RD M)) := (if_pos hb4).trans ((if_pos hb14).trans (if_neg (fun z => by
                  have z1 : M 22 6 - M 22 5 ≤ 2 := z.1
                  have z2 := z.2
                  rw [← hnv] at z2
                  omega)))
                rw [e]
                exact ⟨hq2.1.mo (by decide) (by decide), rfl, RD_rf hq2⟩))
            · skip
              refine R_iload_3 hC dX9_checkNumber_86 ?_
              refine R_iload_1 hC dX9_checkNumber_87 ?_
              refine R_icmp_lt hC dX9_checkNumber_88 (tgt := 96) (by decide) (fun hb88 => ?_) (fun hb88 => ?_)
              · skip
                refine R_aload_0 hC dX9_checkNumber_96 ?_
                refine R_iconst hC dX9_checkNumber_97 ⟨by decide, by decide⟩ ?_
                refine R_callVv (as := [vI _]) hC dX9_checkNumber_98 mo_9_refuse ml_9_108 (by decide) rfl rfl (c9_refuse  hG) rfl rfl hRm (by decide) (by decide) (Nat.le_of_ble_eq_true rfl) (fun Mc3 hq4 => ?_)
                refine R_iload_1 hC dX9_checkNumber_101 ?_
                exact R_ireturn hC dX9_checkNumber_102 rfl (ret_P (by
                  have e : (ckR r n a b (RD M)) = (a, refR 2 (RD M)) := (if_pos hb4).trans ((if_pos hb14).trans (if_neg (fun z => by
                    have z1 : M 22 6 - M 22 5 ≤ 2 := z.1
                    have z2 := z.2
                    rw [← hnv] at z2
                    omega)))
                  rw [e]
                  exact ⟨hq4.1.mo (by decide) (by decide), rfl, RD_rf hq4⟩))
              · skip
                refine R_iload_3 hC dX9_checkNumber_91 ?_
                refine R_iload_2 hC dX9_checkNumber_92 ?_
                refine R_icmp_le hC dX9_checkNumber_93 (tgt := 103) (by decide) (fun hb93 => ?_) (fun hb93 => ?_)
                · skip
                  refine R_iload_3 hC dX9_checkNumber_103 ?_
                  exact R_ireturn hC dX9_checkNumber_104 rfl (ret_P (by
                    have e : (ckR r n a b (RD M)) = (m, RD M) := (if_pos hb4).trans ((if_pos hb14).trans ((if_pos ⟨by show M 22 6 - M 22 5 ≤ 2; omega, by rw [← hnv]; omega, by rw [← hnv]; omega⟩).trans (by rw [hnv])))
                    rw [e]
                    exact ⟨Fr.rf, rfl, rfl⟩))
                · skip
                  refine R_aload_0 hC dX9_checkNumber_96 ?_
                  refine R_iconst hC dX9_checkNumber_97 ⟨by decide, by decide⟩ ?_
                  refine R_callVv (as := [vI _]) hC dX9_checkNumber_98 mo_9_refuse ml_9_108 (by decide) rfl rfl (c9_refuse  hG) rfl rfl hRm (by decide) (by decide) (Nat.le_of_ble_eq_true rfl) (fun Mc5 hq6 => ?_)
                  refine R_iload_1 hC dX9_checkNumber_101 ?_
                  exact R_ireturn hC dX9_checkNumber_102 rfl (ret_P (by
                    have e : (ckR r n a b (RD M)) = (a, refR 2 (RD M)) := (if_pos hb4).trans ((if_pos hb14).trans (if_neg (fun z => by
                      have z1 : M 22 6 - M 22 5 ≤ 2 := z.1
                      have z2 := z.2
                      rw [← hnv] at z2
                      omega)))
                    rw [e]
                    exact ⟨hq6.1.mo (by decide) (by decide), rfl, RD_rf hq6⟩))
          · skip
            refine R_iload_4 hC dX9_checkNumber_41 ?_
            refine R_aload_0 hC dX9_checkNumber_43 ?_
            refine R_getI hC dX9_checkNumber_44 fl_9_56 (by decide) rfl (by decide) (by decide) (fi := 5) rfl ?_
            refine R_iconst hC dX9_checkNumber_47 ⟨by decide, by decide⟩ ?_
            refine R_iadd hC dX9_checkNumber_48 ⟨by omega, by omega⟩ ?_
            refine R_icmp_ge hC dX9_checkNumber_49 (tgt := 73) (by decide) (fun hb49 => ?_) (fun hb49 => ?_)
            · skip
              have hnv : m = numV r n (RD M) := by
                have hat : k = min (M 22 6) (M 22 5 + 2) := by omega
                rw [hm, hat]
                rfl
              refine R_aload_0 hC dX9_checkNumber_73 ?_
              refine R_getI hC dX9_checkNumber_74 fl_9_44 (by decide) rfl (by decide) (by decide) (fi := 6) rfl ?_
              refine R_aload_0 hC dX9_checkNumber_77 ?_
              refine R_getI hC dX9_checkNumber_78 fl_9_56 (by decide) rfl (by decide) (by decide) (fi := 5) rfl ?_
              refine R_isub hC dX9_checkNumber_81 ⟨by omega, by omega⟩ ?_
              refine R_iconst hC dX9_checkNumber_82 ⟨by decide, by decide⟩ ?_
              refine R_icmp_gt hC dX9_checkNumber_83 (tgt := 96) (by decide) (fun hb83 => ?_) (fun hb83 => ?_)
              · skip
                refine R_aload_0 hC dX9_checkNumber_96 ?_
                refine R_iconst hC dX9_checkNumber_97 ⟨by decide, by decide⟩ ?_
                refine R_callVv (as := [vI _]) hC dX9_checkNumber_98 mo_9_refuse ml_9_108 (by decide) rfl rfl (c9_refuse  hG) rfl rfl hRm (by decide) (by decide) (Nat.le_of_ble_eq_true rfl) (fun Mc7 hq8 => ?_)
                refine R_iload_1 hC dX9_checkNumber_101 ?_
                exact R_ireturn hC dX9_checkNumber_102 rfl (ret_P (by
                  have e : (ckR r n a b (RD M)) = (a, refR 2 (RD M)) := (if_pos hb4).trans ((if_pos hb14).trans (if_neg (fun z => by
                    have z1 : M 22 6 - M 22 5 ≤ 2 := z.1
                    have z2 := z.2
                    rw [← hnv] at z2
                    omega)))
                  rw [e]
                  exact ⟨hq8.1.mo (by decide) (by decide), rfl, RD_rf hq8⟩))
              · skip
                refine R_iload_3 hC dX9_checkNumber_86 ?_
                refine R_iload_1 hC dX9_checkNumber_87 ?_
                refine R_icmp_lt hC dX9_checkNumber_88 (tgt := 96) (by decide) (fun hb88 => ?_) (fun hb88 => ?_)
                · skip
                  refine R_aload_0 hC dX9_checkNumber_96 ?_
                  refine R_iconst hC dX9_checkNumber_97 ⟨by decide, by decide⟩ ?_
                  refine R_callVv (as := [vI _]) hC dX9_checkNumber_98 mo_9_refuse ml_9_108 (by decide) rfl rfl (c9_refuse  hG) rfl rfl hRm (by decide) (by decide) (Nat.le_of_ble_eq_true rfl) (fun Mc9 hq10 => ?_)
                  refine R_iload_1 hC dX9_checkNumber_101 ?_
                  exact R_ireturn hC dX9_checkNumber_102 rfl (ret_P (by
                    have e : (ckR r n a b (RD M)) = (a, refR 2 (RD M)) := (if_pos hb4).trans ((if_pos hb14).trans (if_neg (fun z => by
                      have z1 : M 22 6 - M 22 5 ≤ 2 := z.1
                      have z2 := z.2
                      rw [← hnv] at z2
                      omega)))
                    rw [e]
                    exact ⟨hq10.1.mo (by decide) (by decide), rfl, RD_rf hq10⟩))
                · skip
                  refine R_iload_3 hC dX9_checkNumber_91 ?_
                  refine R_iload_2 hC dX9_checkNumber_92 ?_
                  refine R_icmp_le hC dX9_checkNumber_93 (tgt := 103) (by decide) (fun hb93 => ?_) (fun hb93 => ?_)
                  · skip
                    refine R_iload_3 hC dX9_checkNumber_103 ?_
                    exact R_ireturn hC dX9_checkNumber_104 rfl (ret_P (by
                      have e : (ckR r n a b (RD M)) = (m, RD M) := (if_pos hb4).trans ((if_pos hb14).trans ((if_pos ⟨by show M 22 6 - M 22 5 ≤ 2; omega, by rw [← hnv]; omega, by rw [← hnv]; omega⟩).trans (by rw [hnv])))
                      rw [e]
                      exact ⟨Fr.rf, rfl, rfl⟩))
                  · skip
                    refine R_aload_0 hC dX9_checkNumber_96 ?_
                    refine R_iconst hC dX9_checkNumber_97 ⟨by decide, by decide⟩ ?_
                    refine R_callVv (as := [vI _]) hC dX9_checkNumber_98 mo_9_refuse ml_9_108 (by decide) rfl rfl (c9_refuse  hG) rfl rfl hRm (by decide) (by decide) (Nat.le_of_ble_eq_true rfl) (fun Mc11 hq12 => ?_)
                    refine R_iload_1 hC dX9_checkNumber_101 ?_
                    exact R_ireturn hC dX9_checkNumber_102 rfl (ret_P (by
                      have e : (ckR r n a b (RD M)) = (a, refR 2 (RD M)) := (if_pos hb4).trans ((if_pos hb14).trans (if_neg (fun z => by
                        have z1 : M 22 6 - M 22 5 ≤ 2 := z.1
                        have z2 := z.2
                        rw [← hnv] at z2
                        omega)))
                      rw [e]
                      exact ⟨hq12.1.mo (by decide) (by decide), rfl, RD_rf hq12⟩))
            · skip
              refine R_bipush hC dX9_checkNumber_52 (by decide +kernel) ⟨by decide, by decide⟩ ?_
              refine R_iload_3 hC dX9_checkNumber_54 ?_
              refine R_imul hC dX9_checkNumber_55 ⟨by omega, by omega⟩ ?_
              refine R_aload_0 hC dX9_checkNumber_56 ?_
              refine R_iload_4 hC dX9_checkNumber_57 ?_
              refine R_callVq (as := [vI _]) hC dX9_checkNumber_59 mo_9_byteAt ml_9_59 (by decide) rfl rfl (c9_byteAt  hG hTx hN (by omega) (by omega) hr) rfl rfl hRm (by decide) (by decide) (Nat.le_of_ble_eq_true rfl) ?_
              have y := byA_bd (r := r) (n := n) (a := k)
              refine R_iadd hC dX9_checkNumber_62 ⟨by omega, by omega⟩ ?_
              refine R_bipush hC dX9_checkNumber_63 (by decide +kernel) ⟨by decide, by decide⟩ ?_
              refine R_isub hC dX9_checkNumber_65 ⟨by omega, by omega⟩ ?_
              refine R_istore_3 hC dX9_checkNumber_66 rfl ?_
              refine R_iinc_4 hC dX9_checkNumber_67 rfl ⟨by omega, by omega⟩ ?_
              refine R_goto hC dX9_checkNumber_70 (tgt := 32) (by decide) ?_
              exact ih32 _ _ (by omega) (by omega) (by omega) (by (rw [nmF_s hk0 rfl, ← hm])) (by (have y := byA_bd (r := r) (n := n) (a := k); omega)) (by omega)
      exact L32 _ _ _ (by omega) (by omega) (by omega) (by (rw [Int.sub_self]; rfl)) (by omega) (Nat.lt_succ_self _)
    · skip
      refine R_aload_0 hC dX9_checkNumber_17 ?_
      refine R_iconst hC dX9_checkNumber_18 ⟨by decide, by decide⟩ ?_
      refine R_callVv (as := [vI _]) hC dX9_checkNumber_19 mo_9_refuse ml_9_108 (by decide) rfl rfl (c9_refuse  hG) rfl rfl hRm (by decide) (by decide) (Nat.le_of_ble_eq_true rfl) (fun Mc13 hq14 => ?_)
      refine R_iload_1 hC dX9_checkNumber_22 ?_
      exact R_ireturn hC dX9_checkNumber_23 rfl (ret_P ⟨hq14.1.mo (by decide) (by decide), congrArg Prod.fst (show (ckR r n a b (RD M)) = (a, refR 1 (RD M)) from (if_pos hb4).trans (if_neg hb14)).symm, (RD_rf hq14).trans (congrArg Prod.snd (show (ckR r n a b (RD M)) = (a, refR 1 (RD M)) from (if_pos hb4).trans (if_neg hb14)).symm)⟩)
  · skip
    refine R_iload_1 hC dX9_checkNumber_7 ?_
    exact R_ireturn hC dX9_checkNumber_8 rfl (ret_P ⟨Fr.rf, congrArg Prod.fst (show (ckR r n a b (RD M)) = (a, RD M) from if_neg hb4).symm, congrArg Prod.snd (show (ckR r n a b (RD M)) = (a, RD M) from if_neg hb4).symm⟩)
theorem dX9_readNumber_0 : decode cX9_readNumber 0 = .ok (.aload_n 0, 1) := by decide +kernel
theorem dX9_readNumber_1 : decode cX9_readNumber 1 = .ok (.iload_n 1, 1) := by decide +kernel
theorem dX9_readNumber_2 : decode cX9_readNumber 2 = .ok (.iload_n 2, 1) := by decide +kernel
theorem dX9_readNumber_3 : decode cX9_readNumber 3 = .ok (.invokevirtual 139, 3) := by decide +kernel
theorem dX9_readNumber_6 : decode cX9_readNumber 6 = .ok (.istore_n 3, 1) := by decide +kernel
theorem dX9_readNumber_7 : decode cX9_readNumber 7 = .ok (.aload_n 0, 1) := by decide +kernel
theorem dX9_readNumber_8 : decode cX9_readNumber 8 = .ok (.getfield 41, 3) := by decide +kernel
theorem dX9_readNumber_11 : decode cX9_readNumber 11 = .ok (.ifCond .ne 7, 3) := by decide +kernel
theorem dX9_readNumber_14 : decode cX9_readNumber 14 = .ok (.aload_n 0, 1) := by decide +kernel
theorem dX9_readNumber_15 : decode cX9_readNumber 15 = .ok (.invokevirtual 47, 3) := by decide +kernel
theorem dX9_readNumber_18 : decode cX9_readNumber 18 = .ok (.iload_n 3, 1) := by decide +kernel
theorem dX9_readNumber_19 : decode cX9_readNumber 19 = .ok (.ireturn, 1) := by decide +kernel
set_option maxHeartbeats 400000 in
theorem c9_readNumber {G : Gl} {l : Launch}  {M : Mem} {n a b : Int} {r : Int → Int} (hG : GR M) (hTx : M 22 0 = 1) (hN : M 22 1 = n) (hn0 : 0 ≤ n) (hn1 : n ≤ 700) (hr : M 1 = r) (hRg : RG n (RD M)) : Ct G LY 57 l 2 m9_readNumber [vR 22, vI a, vI b] M (RP (fun v M' => Fr [] [(22, 4), (22, 5), (22, 6), (22, 7), (22, 8)] M M' ∧ v = (rnR r n a b (RD M)).1 ∧ RD M' = (rnR r n a b (RD M)).2)) := by
  refine R_start (by decide +kernel) (Nat.le_of_ble_eq_true rfl) (fun C hC hRm hlau => ?_)
  show RZ G LY C (Zn G LY 57 C (RP (fun v M' => Fr [] [(22, 4), (22, 5), (22, 6), (22, 7), (22, 8)] M M' ∧ v = (rnR r n a b (RD M)).1 ∧ RD M' = (rnR r n a b (RD M)).2))) 0 0 57 0 [some (vR 22), some (vI a), some (vI b), none] [] M
  refine R_aload_0 hC dX9_readNumber_0 ?_
  refine R_iload_1 hC dX9_readNumber_1 ?_
  refine R_iload_2 hC dX9_readNumber_2 ?_
  refine R_callVp (as := [vI _, vI _]) hC dX9_readNumber_3 mo_9_checkNumber ml_9_139 (by decide) rfl rfl (c9_checkNumber  hG hTx hN (by omega) (by omega) hr hRg) rfl rfl hRm (by decide) (by decide) (Nat.le_of_ble_eq_true rfl) (fun v3 Mc1 hq2 => ?_)
  have hRg1 : RG n (RD Mc1) := by (rw [hq2.2.2]; exact hRg.ck)
  refine R_istore_3 hC dX9_readNumber_6 rfl ?_
  refine R_aload_0 hC dX9_readNumber_7 ?_
  refine R_getI hC dX9_readNumber_8 fl_9_41 (by decide) rfl (by decide) (by decide) (fi := 7) rfl ?_
  refine R_if_ne hC dX9_readNumber_11 (tgt := 18) (by decide) (fun hb11 => ?_) (fun hb11 => ?_)
  · skip
    have e : (rnR r n a b (RD M)) = (ckR r n a b (RD M)) := if_neg (fun z => hb11 (by (rw [← hq2.2.2] at z; exact z)))
    refine R_iload_3 hC dX9_readNumber_18 ?_
    exact R_ireturn hC dX9_readNumber_19 rfl (ret_P ⟨by first | exact hq2.1 | exact Fr.tt hq2.1 ({qb}.1.mo (by decide) (by decide)), by (rw [e]; exact hq2.2.1), by (rw [e]; first | exact hq2.2.2 | exact (RD_nx {qb}).trans (by rw [hq2.2.2]))⟩)
  · skip
    have e : (rnR r n a b (RD M)) = ((ckR r n a b (RD M)).1, nxR r n (ckR r n a b (RD M)).2) := if_pos (by (rw [← hq2.2.2]; exact hb11))
    refine R_aload_0 hC dX9_readNumber_14 ?_
    have hG4 : GR Mc1 := (GR.fr hG hq2.1 (by decide +kernel))
    have hr5 : Mc1 1 = r := ((hq2.1.row (by decide) (by decide)).trans hr)
    refine R_callVv (as := []) hC dX9_readNumber_15 mo_9_next ml_9_47 (by decide) rfl rfl (c9_next  hG4 ((hq2.1 22 0 (by decide) (by decide)).trans hTx) ((hq2.1 22 1 (by decide) (by decide)).trans hN) (by omega) (by omega) hr5 (Int.le_trans hRg1.1 hRg1.2.1) hRg1.2.2) rfl rfl hRm (by decide) (by decide) (Nat.le_of_ble_eq_true rfl) (fun Mc6 hq7 => ?_)
    refine R_iload_3 hC dX9_readNumber_18 ?_
    exact R_ireturn hC dX9_readNumber_19 rfl (ret_P ⟨by first | exact hq2.1 | exact Fr.tt hq2.1 (hq7.1.mo (by decide) (by decide)), by (rw [e]; exact hq2.2.1), by (rw [e]; first | exact hq2.2.2 | exact (RD_nx hq7).trans (by rw [hq2.2.2]))⟩)
