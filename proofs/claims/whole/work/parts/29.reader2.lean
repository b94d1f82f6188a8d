/-! TextReader: its state as one tuple: kind, start, end, fault, place -/
abbrev RT : Type := Int × Int × Int × Int × Int
def RD (M : Mem) : RT := (M 22 4, M 22 5, M 22 6, M 22 7, M 22 8)
def refR (v : Int) (S : RT) : RT := if S.2.2.2.1 = 0 then (S.1, S.2.1, S.2.2.1, v, S.2.1) else S
noncomputable def nxR (r : Int → Int) (n : Int) (S : RT) : RT := ((nxT r n S.2.2.1).1, (nxT r n S.2.2.1).2.1, (nxT r n S.2.2.1).2.2, S.2.2.2.1, S.2.2.2.2)
noncomputable def sgR (r : Int → Int) (n : Int) (S : RT) : RT := if S.2.2.2.1 = 0 then (if S.1 = 3 then nxR r n S else refR 1 S) else S
/-- start and end lie in the text -/
def RG (n : Int) (S : RT) : Prop := 0 ≤ S.2.1 ∧ S.2.1 ≤ S.2.2.1 ∧ S.2.2.1 ≤ n
theorem scn_bd {P : Int → Prop} {n : Int} : ∀ (k : Nat) (a : Int), a + k ≤ n → a ≤ scnF P n k a ∧ scnF P n k a ≤ n
  | 0, a, h => ⟨Int.le_refl _, by show a ≤ n; omega⟩
  | k + 1, a, h => by
    have := scn_bd (P := P) (n := n) k (a + 1) (by omega)
    rw [scnF]
    by_cases q : P a
    · rw [if_pos q]; omega
    · rw [if_neg q]; omega
theorem scn_b {P : Int → Prop} {n a : Int} (h : a ≤ n) : a ≤ scn P n a ∧ scn P n a ≤ n := scn_bd _ _ (by omega)
theorem nxW_bd {r : Int → Int} {n s : Int} (h1 : s ≤ n) : (nxW r n s).2.1 = s ∧ s ≤ (nxW r n s).2.2 ∧ (nxW r n s).2.2 ≤ n := by
  by_cases a : n ≤ s
  · rw [nx_0 a]; exact ⟨rfl, Int.le_refl _, h1⟩
  · have a1 : s < n := by omega
    by_cases b : ltP (byA r n s)
    · rw [nx_1 a1 b]
      have := scn_b (P := fun j => ltP (byA r n j)) (n := n) (a := s + 1) (by omega)
      exact ⟨rfl, by show s ≤ scn _ _ _; omega, this.2⟩
    · by_cases c : dgP (byA r n s)
      · rw [nx_2 a1 b c]
        have := scn_b (P := fun j => dgP (byA r n j)) (n := n) (a := s + 1) (by omega)
        exact ⟨rfl, by show s ≤ scn _ _ _; omega, this.2⟩
      · by_cases e : byA r n s = 59
        · rw [nx_3 a1 b c e]; exact ⟨rfl, by show s ≤ s + 1; omega, by show s + 1 ≤ n; omega⟩
        · rw [nx_4 a1 b c e]; exact ⟨rfl, by show s ≤ s + 1; omega, by show s + 1 ≤ n; omega⟩
theorem RG.nx {r : Int → Int} {n : Int} {S : RT} (h : RG n S) : RG n (nxR r n S) := by
  obtain ⟨h0, h1, h2⟩ := h
  have a := scn_b (P := fun j => blP (byA r n j)) h2
  have b := nxW_bd (r := r) a.2
  refine ⟨?_, ?_, b.2.2⟩
  · show 0 ≤ (nxW r n _).2.1
    rw [b.1]; omega
  · show (nxW r n _).2.1 ≤ (nxW r n _).2.2
    rw [b.1]; exact b.2.1
theorem RG.rf {n v : Int} {S : RT} (h : RG n S) : RG n (refR v S) := by
  unfold refR
  split
  · exact h
  · exact h
def R5 : List (Nat × Int) := [(22, 4), (22, 5), (22, 6), (22, 7), (22, 8)]
theorem RD_nx {r : Int → Int} {n : Int} {M M' : Mem} (h : Fr [] [(22, 4), (22, 5), (22, 6)] M M' ∧ M' 22 4 = (nxT r n (M 22 6)).1 ∧ M' 22 5 = (nxT r n (M 22 6)).2.1 ∧ M' 22 6 = (nxT r n (M 22 6)).2.2) : RD M' = nxR r n (RD M) := by
  obtain ⟨hF, h4, h5, h6⟩ := h
  unfold RD nxR
  rw [h4, h5, h6, hF 22 7 (by decide) (by decide), hF 22 8 (by decide) (by decide)]
theorem RD_rf {v : Int} {M M' : Mem} (h : Fr [] [(22, 7), (22, 8)] M M' ∧ M' 22 7 = (if M 22 7 = 0 then v else M 22 7) ∧ M' 22 8 = (if M 22 7 = 0 then M 22 5 else M 22 8)) : RD M' = refR v (RD M) := by
  obtain ⟨hF, h7, h8⟩ := h
  unfold RD refR
  rw [h7, h8, hF 22 4 (by decide) (by decide), hF 22 5 (by decide) (by decide), hF 22 6 (by decide) (by decide)]
  simp only
  by_cases q : M 22 7 = 0
  · rw [if_pos q, if_pos q, if_pos q]
  · rw [if_neg q, if_neg q, if_neg q]
/-- the number from s on -/
def nmF (r : Int → Int) (n s : Int) : Nat → Int
  | 0 => 0
  | k + 1 => 10 * nmF r n s k + byA r n (s + k) - 48
theorem nmF_s {r : Int → Int} {n s a b : Int} (h : s ≤ a) (hb : b = a + 1) : nmF r n s (b - s).toNat = 10 * nmF r n s (a - s).toNat + byA r n a - 48 := by
  subst hb
  rw [show (a + 1 - s).toNat = (a - s).toNat + 1 by omega, nmF, show s + ((a - s).toNat : Int) = a by omega]
theorem byA_bd {r : Int → Int} {n a : Int} : -1 ≤ byA r n a ∧ byA r n a ≤ 255 := by
  unfold byA
  split <;> omega
def numV (r : Int → Int) (n : Int) (S : RT) : Int := nmF r n S.2.1 (min S.2.2.1 (S.2.1 + 2) - S.2.1).toNat
def ckR (r : Int → Int) (n a b : Int) (S : RT) : Int × RT :=
  if S.2.2.2.1 = 0 then (if S.1 = 2 then (if S.2.2.1 - S.2.1 ≤ 2 ∧ a ≤ numV r n S ∧ numV r n S ≤ b then (numV r n S, S) else (a, refR 2 S)) else (a, refR 1 S)) else (a, S)
noncomputable def rnR (r : Int → Int) (n a b : Int) (S : RT) : Int × RT := if (ckR r n a b S).2.2.2.2.1 = 0 then ((ckR r n a b S).1, nxR r n (ckR r n a b S).2) else ckR r n a b S
theorem RG.ck {r : Int → Int} {n a b : Int} {S : RT} (h : RG n S) : RG n (ckR r n a b S).2 := by
  unfold ckR
  split
  · split
    · split
      · exact h
      · exact h.rf
    · exact h.rf
  · exact h

theorem dX9_readSign_0 : decode cX9_readSign 0 = .ok (.aload_n 0, 1) := by decide +kernel
theorem dX9_readSign_1 : decode cX9_readSign 1 = .ok (.getfield 41, 3) := by decide +kernel
theorem dX9_readSign_4 : decode cX9_readSign 4 = .ok (.ifCond .eq 4, 3) := by decide +kernel
theorem dX9_readSign_7 : decode cX9_readSign 7 = .ok (.return_, 1) := by decide +kernel
theorem dX9_readSign_8 : decode cX9_readSign 8 = .ok (.aload_n 0, 1) := by decide +kernel
theorem dX9_readSign_9 : decode cX9_readSign 9 = .ok (.getfield 50, 3) := by decide +kernel
theorem dX9_readSign_12 : decode cX9_readSign 12 = .ok (.iconst 3, 1) := by decide +kernel
theorem dX9_readSign_13 : decode cX9_readSign 13 = .ok (.if_icmp .eq 9, 3) := by decide +kernel
theorem dX9_readSign_16 : decode cX9_readSign 16 = .ok (.aload_n 0, 1) := by decide +kernel
theorem dX9_readSign_17 : decode cX9_readSign 17 = .ok (.iconst 1, 1) := by decide +kernel
theorem dX9_readSign_18 : decode cX9_readSign 18 = .ok (.invokevirtual 108, 3) := by decide +kernel
theorem dX9_readSign_21 : decode cX9_readSign 21 = .ok (.return_, 1) := by decide +kernel
theorem dX9_readSign_22 : decode cX9_readSign 22 = .ok (.aload_n 0, 1) := by decide +kernel
theorem dX9_readSign_23 : decode cX9_readSign 23 = .ok (.invokevirtual 47, 3) := by decide +kernel
theorem dX9_readSign_26 : decode cX9_readSign 26 = .ok (.return_, 1) := by decide +kernel
set_option maxHeartbeats 400000 in
theorem c9_readSign {G : Gl} {l : Launch}  {M : Mem} {n : Int} {r : Int → Int} (hG : GR M) (hTx : M 22 0 = 1) (hN : M 22 1 = n) (hn0 : 0 ≤ n) (hn1 : n ≤ 700) (hr : M 1 = r) (hRg : RG n (RD M)) : Ct G LY 82 l 2 m9_readSign [vR 22] M (RV (fun M' => Fr [] [(22, 4), (22, 5), (22, 6), (22, 7), (22, 8)] M M' ∧ RD M' = sgR r n (RD M))) := by
  refine R_start (by decide +kernel) (Nat.le_of_ble_eq_true rfl) (fun C hC hRm hlau => ?_)
  show RZ G LY C (Zn G LY 82 C (RV (fun M' => Fr [] [(22, 4), (22, 5), (22, 6), (22, 7), (22, 8)] M M' ∧ RD M' = sgR r n (RD M)))) 0 0 82 0 [some (vR 22)] [] M
  refine R_aload_0 hC dX9_readSign_0 ?_
  refine R_getI hC dX9_readSign_1 fl_9_41 (by decide) rfl (by decide) (by decide) (fi := 7) rfl ?_
  refine R_if_eq hC dX9_readSign_4 (tgt := 8) (by decide) (fun hb4 => ?_) (fun hb4 => ?_)
  · skip
    refine R_aload_0 hC dX9_readSign_8 ?_
    refine R_getI hC dX9_readSign_9 fl_9_50 (by decide) rfl (by decide) (by decide) (fi := 4) rfl ?_
    refine R_iconst hC dX9_readSign_12 ⟨by decide, by decide⟩ ?_
    refine R_icmp_eq hC dX9_readSign_13 (tgt := 22) (by decide) (fun hb13 => ?_) (fun hb13 => ?_)
    · skip
      refine R_aload_0 hC dX9_readSign_22 ?_
      refine R_callVv (as := []) hC dX9_readSign_23 mo_9_next ml_9_47 (by decide) rfl rfl (c9_next  hG hTx hN (by omega) (by omega) hr (by (have z := hRg.1; have y := hRg.2.1; show 0 ≤ (RD M).2.2.1; omega)) hRg.2.2) rfl rfl hRm (by decide) (by decide) (Nat.le_of_ble_eq_true rfl) (fun Mc1 hq2 => ?_)
      exact R_return hC dX9_readSign_26 rfl (ret_V ⟨hq2.1.mo (by decide) (by decide), (RD_nx hq2).trans (((if_pos hb4).trans (if_pos hb13)).symm)⟩)
    · skip
      refine R_aload_0 hC dX9_readSign_16 ?_
      refine R_iconst hC dX9_readSign_17 ⟨by decide, by decide⟩ ?_
      refine R_callVv (as := [vI _]) hC dX9_readSign_18 mo_9_refuse ml_9_108 (by decide) rfl rfl (c9_refuse  hG) rfl rfl hRm (by decide) (by decide) (Nat.le_of_ble_eq_true rfl) (fun Mc3 hq4 => ?_)
      exact R_return hC dX9_readSign_21 rfl (ret_V ⟨hq4.1.mo (by decide) (by decide), (RD_rf hq4).trans (((if_pos hb4).trans (if_neg hb13)).symm)⟩)
  · skip
    exact R_return hC dX9_readSign_7 rfl (ret_V ⟨Fr.rf, (if_neg hb4).symm⟩)
