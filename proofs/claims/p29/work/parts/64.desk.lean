/-! the desk itself: the plan that is fresh, the parts of its questions -/
def PLN (M : Mem) (d : Int → Int) : Prop := M 36 2 = bP (planI (insOf d)) ∧ (∀ q, 0 ≤ q → q < 30 → M 37 q = plT (insOf d) q) ∧ M 36 3 = plC (insOf d)
def FP (M : Mem) (d : Int → Int) : Prop := M 0 10 ≠ 0 → PLN M d
section PLNS
variable {M M' : Mem} {d : Int → Int}
def plnOK (A : List Nat) (B : List (Nat × Int)) : Bool := !A.contains 36 && !A.contains 37 && !A.contains 0 && B.all (fun q => !(q.1 == 37) && !(q.1 == 36 && (q.2 == 2 || q.2 == 3)) && !(q.1 == 0 && q.2 == 10))
theorem pln_k {A : List Nat} {B : List (Nat × Int)} (hF : Fr A B M M') (e : plnOK A B = true) : M' 36 2 = M 36 2 ∧ M' 36 3 = M 36 3 ∧ (∀ q, M' 37 q = M 37 q) ∧ M' 0 10 = M 0 10 := by
  unfold plnOK at e
  simp only [Bool.and_eq_true, Bool.not_eq_true'] at e
  obtain ⟨⟨⟨e6, e7⟩, e0⟩, eB⟩ := e
  have nA : ∀ k : Nat, A.contains k = false → k ∉ A := fun k q z => by rw [List.contains_iff_mem.mpr z] at q; cases q
  have nB : ∀ (a : Nat) (j : Int), (!(a == 37) && !(a == 36 && (j == 2 || j == 3)) && !(a == 0 && j == 10)) = false → (a, j) ∉ B := fun a j q z => by
    have := List.all_eq_true.mp eB _ z
    rw [q] at this
    cases this
  exact ⟨hF 36 2 (nA _ e6) (nB _ _ rfl), hF 36 3 (nA _ e6) (nB _ _ rfl), fun q => hF 37 q (nA _ e7) (nB _ _ rfl), hF 0 10 (nA _ e0) (nB _ _ rfl)⟩
theorem PLN.fr {A : List Nat} {B : List (Nat × Int)} (h : PLN M d) (hF : Fr A B M M') (e : plnOK A B = true) : PLN M' d := by
  have k := pln_k hF e
  exact ⟨k.1.trans h.1, fun q a b => (k.2.2.1 q).trans (h.2.1 q a b), k.2.1.trans h.2.2⟩
theorem FP.fr {A : List Nat} {B : List (Nat × Int)} (h : FP M d) (hF : Fr A B M M') (e : plnOK A B = true) : FP M' d := fun z => by
  have k := pln_k hF e
  exact (h (k.2.2.2 ▸ z)).fr hF e
theorem PLN.u (h : PLN M d) {j v : Int} : PLN (uM M 0 j v) d := ⟨(uM_h (by decide)).trans h.1, fun q a b => (uM_h (by decide)).trans (h.2.1 q a b), (uM_h (by decide)).trans h.2.2⟩
theorem PLN.t (h : PLN M d) (hS : SP d) : ∀ q, 0 ≤ q → q < 30 → 0 ≤ M 37 q ∧ M 37 q ≤ 3 := fun q a b => by
  rw [h.2.1 q a b]
  exact plT_3 (SP.I hS) a
theorem PLN.p (h : PLN M d) : (M 36 2 = 0 → ¬ planI (insOf d)) ∧ (M 36 2 ≠ 0 → planI (insOf d)) := by
  rw [h.1]
  exact ⟨fun z => bP_z z, fun z => bP_nz z⟩
theorem SP.z9 (h : SP d) : ∀ w, 0 ≤ w → w < 6 → 0 ≤ d (10 + w) ∧ d (10 + w) ≤ 9 := fun w a b => (h.2.2.1 w a b).1
theorem chgs_c {T U : Int → Int} (hT : ∀ q, 0 ≤ q → q < 30 → T q = U q) (hL : d 121 ≤ 5) (hW : d 122 ≤ 6) : chgs T d = chgs U d := by
  refine sm_congr _ (fun b b0 b1 => sm_congr _ (fun a a0 a1 => ?_))
  have m : ∀ x y w : Int, 0 ≤ x → x < 5 → 0 ≤ y → y < 5 → 0 ≤ w → w < 6 → mvP T d x y w = mvP U d x y w := fun x y w x0 x1 y0 y1 w0 w1 => by
    unfold mvP
    rw [hT (x * 6 + w) (by omega) (by omega), hT (y * 6 + w) (by omega) (by omega)]
  unfold chg
  have e1 := sm_congr (d 122).toNat (f := fun w => bP (mvP T d a b w)) (g := fun w => bP (mvP U d a b w)) (fun w w0 w1 => by
    show bP (mvP T d a b w) = bP (mvP U d a b w)
    rw [m a b w (by omega) (by omega) (by omega) (by omega) (by omega) (by omega)])
  have e2 := sm_congr (d 122).toNat (f := fun w => bP (mvP T d b a w)) (g := fun w => bP (mvP U d b a w)) (fun w w0 w1 => by
    show bP (mvP T d b a w) = bP (mvP U d b a w)
    rw [m b a w (by omega) (by omega) (by omega) (by omega) (by omega) (by omega)])
  have e3 := sm_congr (d 122).toNat (f := fun w => bP (mvP T d a b w ∧ mvP T d b a w)) (g := fun w => bP (mvP U d a b w ∧ mvP U d b a w)) (fun w w0 w1 => by
    show bP (mvP T d a b w ∧ mvP T d b a w) = bP (mvP U d a b w ∧ mvP U d b a w)
    rw [m a b w (by omega) (by omega) (by omega) (by omega) (by omega) (by omega), m b a w (by omega) (by omega) (by omega) (by omega) (by omega) (by omega)])
  rw [e1, e2, e3]
theorem pk_c {T U : Int → Int} : ∀ n : Nat, (∀ q : Int, 0 ≤ q → q < n → T q = U q) → pkF T n = pkF U n
  | 0, _ => rfl
  | n + 1, h => by
    unfold pkF
    rw [pk_c n (fun q a b => h q a (by omega)), h n (by omega) (by omega)]
end PLNS

theorem dX11_refuseAct_0 : decode cX11_refuseAct 0 = .ok (.aload_n 0, 1) := by decide +kernel
theorem dX11_refuseAct_1 : decode cX11_refuseAct 1 = .ok (.getfield 23, 3) := by decide +kernel
theorem dX11_refuseAct_4 : decode cX11_refuseAct 4 = .ok (.getfield 118, 3) := by decide +kernel
theorem dX11_refuseAct_7 : decode cX11_refuseAct 7 = .ok (.iconst 1, 1) := by decide +kernel
theorem dX11_refuseAct_8 : decode cX11_refuseAct 8 = .ok (.dup2, 1) := by decide +kernel
theorem dX11_refuseAct_9 : decode cX11_refuseAct 9 = .ok (.iaload, 1) := by decide +kernel
theorem dX11_refuseAct_10 : decode cX11_refuseAct 10 = .ok (.iconst 1, 1) := by decide +kernel
theorem dX11_refuseAct_11 : decode cX11_refuseAct 11 = .ok (.iadd, 1) := by decide +kernel
theorem dX11_refuseAct_12 : decode cX11_refuseAct 12 = .ok (.iastore, 1) := by decide +kernel
theorem dX11_refuseAct_13 : decode cX11_refuseAct 13 = .ok (.iconst (-1), 1) := by decide +kernel
theorem dX11_refuseAct_14 : decode cX11_refuseAct 14 = .ok (.ireturn, 1) := by decide +kernel
set_option maxHeartbeats 400000 in
theorem c11_refuseAct {G : Gl} {l : Launch}  {M : Mem} (hG : GR M) (hr0 : 0 ≤ M 10 1) (hr1 : M 10 1 ≤ 1000000000) : Ct G LY 57 l 0 m11_refuseAct [vR 0] M (RP (fun v M' => Fr [10] [] M M' ∧ M' = uM M 10 1 (M 10 1 + 1) ∧ v = -1)) := by
  refine R_start (by decide +kernel) (Nat.le_of_ble_eq_true rfl) (fun C hC hRm hlau => ?_)
  show RZ G LY C (Zn G LY 57 C (RP (fun v M' => Fr [10] [] M M' ∧ M' = uM M 10 1 (M 10 1 + 1) ∧ v = -1))) 0 0 57 0 [some (vR 0)] [] M
  refine R_aload_0 hC dX11_refuseAct_0 ?_
  refine R_getR hC dX11_refuseAct_1 fl_11_23 (by decide) rfl (by decide) (by decide) (fi := 3) rfl (r := 2) (gr_0_3 hG) ?_
  refine R_getR hC dX11_refuseAct_4 fl_11_118 (by decide) rfl (by decide) (by decide) (fi := 4) rfl (r := 10) (gr_2_4 hG) ?_
  refine R_iconst hC dX11_refuseAct_7 ⟨by decide, by decide⟩ ?_
  refine R_dup2 hC dX11_refuseAct_8 rfl rfl ?_
  refine R_iaload hC dX11_refuseAct_9 (by decide) rfl (by omega) (by omega) ?_
  refine R_iconst hC dX11_refuseAct_10 ⟨by decide, by decide⟩ ?_
  refine R_iadd hC dX11_refuseAct_11 ⟨by omega, by omega⟩ ?_
  refine R_iastore hC dX11_refuseAct_12 (by decide) rfl (by omega) (by omega) ?_
  refine R_iconst hC dX11_refuseAct_13 ⟨by decide, by decide⟩ ?_
  exact R_ireturn hC dX11_refuseAct_14 rfl (ret_P ⟨Fr.uA Fr.rf (by decide), rfl, rfl⟩)
theorem dX11_refreshPlan_0 : decode cX11_refreshPlan 0 = .ok (.aload_n 0, 1) := by decide +kernel
theorem dX11_refreshPlan_1 : decode cX11_refreshPlan 1 = .ok (.getfield 64, 3) := by decide +kernel
theorem dX11_refreshPlan_4 : decode cX11_refreshPlan 4 = .ok (.ifCond .ne 22, 3) := by decide +kernel
theorem dX11_refreshPlan_7 : decode cX11_refreshPlan 7 = .ok (.aload_n 0, 1) := by decide +kernel
theorem dX11_refreshPlan_8 : decode cX11_refreshPlan 8 = .ok (.getfield 60, 3) := by decide +kernel
theorem dX11_refreshPlan_11 : decode cX11_refreshPlan 11 = .ok (.aload_n 0, 1) := by decide +kernel
theorem dX11_refreshPlan_12 : decode cX11_refreshPlan 12 = .ok (.getfield 23, 3) := by decide +kernel
theorem dX11_refreshPlan_15 : decode cX11_refreshPlan 15 = .ok (.getfield 122, 3) := by decide +kernel
theorem dX11_refreshPlan_18 : decode cX11_refreshPlan 18 = .ok (.invokevirtual 426, 3) := by decide +kernel
theorem dX11_refreshPlan_21 : decode cX11_refreshPlan 21 = .ok (.aload_n 0, 1) := by decide +kernel
theorem dX11_refreshPlan_22 : decode cX11_refreshPlan 22 = .ok (.iconst 1, 1) := by decide +kernel
theorem dX11_refreshPlan_23 : decode cX11_refreshPlan 23 = .ok (.putfield 64, 3) := by decide +kernel
theorem dX11_refreshPlan_26 : decode cX11_refreshPlan 26 = .ok (.return_, 1) := by decide +kernel
set_option maxHeartbeats 400000 in
theorem c11_refreshPlan {G : Gl} {l : Launch}  {M : Mem} {d : Int → Int} (hG : GR M) (hD : M 4 = d) (hSP : SP d) (hFP : FP M d) : Ct G LY 57 l 4 m11_refreshPlan [vR 0] M (RV (fun M' => Fr [25, 26, 27, 28, 29, 30, 31, 32, 33, 34, 35, 37] [(24, 11), (24, 12), (24, 13), (36, 2), (36, 3), (0, 10)] M M' ∧ PLN M' d ∧ FP M' d)) := by
  refine R_start (by decide +kernel) (Nat.le_of_ble_eq_true rfl) (fun C hC hRm hlau => ?_)
  show RZ G LY C (Zn G LY 57 C (RV (fun M' => Fr [25, 26, 27, 28, 29, 30, 31, 32, 33, 34, 35, 37] [(24, 11), (24, 12), (24, 13), (36, 2), (36, 3), (0, 10)] M M' ∧ PLN M' d ∧ FP M' d))) 0 0 57 0 [some (vR 0)] [] M
  have hB9 := hSP.B
  have hL0 := hSP.1.1.1
  have hL1 := hSP.1.1.2
  have hW0 := hSP.1.2.1
  have hW1 := hSP.1.2.2
  refine R_aload_0 hC dX11_refreshPlan_0 ?_
  refine R_getI hC dX11_refreshPlan_1 fl_11_64 (by decide) rfl (by decide) (by decide) (fi := 10) rfl ?_
  refine R_if_ne hC dX11_refreshPlan_4 (tgt := 26) (by decide) (fun hb4 => ?_) (fun hb4 => ?_)
  · skip
    have hz : Fr [25, 26, 27, 28, 29, 30, 31, 32, 33, 34, 35, 37] [(24, 11), (24, 12), (24, 13), (36, 2), (36, 3), (0, 10)] M M ∧ PLN M d := ⟨Fr.rf, hFP hb4⟩
    exact R_return hC dX11_refreshPlan_26 rfl (ret_V ⟨hz.1, hz.2, fun _ => hz.2⟩)
  · skip
    refine R_aload_0 hC dX11_refreshPlan_7 ?_
    refine R_getR hC dX11_refreshPlan_8 fl_11_60 (by decide) rfl (by decide) (by decide) (fi := 9) rfl (r := 36) (gr_0_9 hG) ?_
    refine R_aload_0 hC dX11_refreshPlan_11 ?_
    refine R_getR hC dX11_refreshPlan_12 fl_11_23 (by decide) rfl (by decide) (by decide) (fi := 3) rfl (r := 2) (gr_0_3 hG) ?_
    refine R_getR hC dX11_refreshPlan_15 fl_11_122 (by decide) rfl (by decide) (by decide) (fi := 0) rfl (r := 3) (gr_2_0 hG) ?_
    refine R_callVv (as := [vR _]) hC dX11_refreshPlan_18 mo_5_make ml_11_426 (by decide) rfl rfl (c5_make  hG ph_36 sh_3 hD hSP.B (SP.I hSP)) rfl rfl hRm (by decide) (by decide) (Nat.le_of_ble_eq_true rfl) (fun Mc1 hq2 => ?_)
    have hFm : Fr [25, 26, 27, 28, 29, 30, 31, 32, 33, 34, 35, 37] [(24, 11), (24, 12), (24, 13), (36, 2), (36, 3), (0, 10)] M Mc1 := hq2.1.mo (by simp) (by simp)
    have hpm : PLN Mc1 d := hq2.2
    refine R_aload_0 hC dX11_refreshPlan_21 ?_
    refine R_iconst hC dX11_refreshPlan_22 ⟨by decide, by decide⟩ ?_
    refine R_putZ hC dX11_refreshPlan_23 fl_11_64 (by decide) rfl (by decide) (by decide) (.inr rfl) (fi := 10) rfl ?_
    have hz : Fr [25, 26, 27, 28, 29, 30, 31, 32, 33, 34, 35, 37] [(24, 11), (24, 12), (24, 13), (36, 2), (36, 3), (0, 10)] M (uM Mc1 0 10 1) ∧ PLN (uM Mc1 0 10 1) d := ⟨Fr.uB hFm (by decide), hpm.u⟩
    exact R_return hC dX11_refreshPlan_26 rfl (ret_V ⟨hz.1, hz.2, fun _ => hz.2⟩)
theorem dX11_countInStock_0 : decode cX11_countInStock 0 = .ok (.aload_n 0, 1) := by decide +kernel
theorem dX11_countInStock_1 : decode cX11_countInStock 1 = .ok (.getfield 23, 3) := by decide +kernel
theorem dX11_countInStock_4 : decode cX11_countInStock 4 = .ok (.getfield 122, 3) := by decide +kernel
theorem dX11_countInStock_7 : decode cX11_countInStock 7 = .ok (.astore_n 2, 1) := by decide +kernel
theorem dX11_countInStock_8 : decode cX11_countInStock 8 = .ok (.iload_n 1, 1) := by decide +kernel
theorem dX11_countInStock_9 : decode cX11_countInStock 9 = .ok (.tableswitch 168 0 25 #[119, 124, 129, 137, 142, 168, 168, 168, 168, 168, 168, 168, 168, 168, 168, 150, 155, 168, 168, 168, 168, 168, 168, 168, 168, 160], 119) := by decide +kernel
theorem dX11_countInStock_128 : decode cX11_countInStock 128 = .ok (.aload_n 2, 1) := by decide +kernel
theorem dX11_countInStock_129 : decode cX11_countInStock 129 = .ok (.invokevirtual 185, 3) := by decide +kernel
theorem dX11_countInStock_132 : decode cX11_countInStock 132 = .ok (.ireturn, 1) := by decide +kernel
theorem dX11_countInStock_133 : decode cX11_countInStock 133 = .ok (.aload_n 2, 1) := by decide +kernel
theorem dX11_countInStock_134 : decode cX11_countInStock 134 = .ok (.invokevirtual 189, 3) := by decide +kernel
theorem dX11_countInStock_137 : decode cX11_countInStock 137 = .ok (.ireturn, 1) := by decide +kernel
theorem dX11_countInStock_138 : decode cX11_countInStock 138 = .ok (.aload_n 2, 1) := by decide +kernel
theorem dX11_countInStock_139 : decode cX11_countInStock 139 = .ok (.getfield 192, 3) := by decide +kernel
theorem dX11_countInStock_142 : decode cX11_countInStock 142 = .ok (.bipush 118, 2) := by decide +kernel
theorem dX11_countInStock_144 : decode cX11_countInStock 144 = .ok (.iaload, 1) := by decide +kernel
theorem dX11_countInStock_145 : decode cX11_countInStock 145 = .ok (.ireturn, 1) := by decide +kernel
theorem dX11_countInStock_146 : decode cX11_countInStock 146 = .ok (.aload_n 2, 1) := by decide +kernel
theorem dX11_countInStock_147 : decode cX11_countInStock 147 = .ok (.invokevirtual 195, 3) := by decide +kernel
theorem dX11_countInStock_150 : decode cX11_countInStock 150 = .ok (.ireturn, 1) := by decide +kernel
theorem dX11_countInStock_151 : decode cX11_countInStock 151 = .ok (.aload_n 2, 1) := by decide +kernel
theorem dX11_countInStock_152 : decode cX11_countInStock 152 = .ok (.getfield 192, 3) := by decide +kernel
theorem dX11_countInStock_155 : decode cX11_countInStock 155 = .ok (.bipush 119, 2) := by decide +kernel
theorem dX11_countInStock_157 : decode cX11_countInStock 157 = .ok (.iaload, 1) := by decide +kernel
theorem dX11_countInStock_158 : decode cX11_countInStock 158 = .ok (.ireturn, 1) := by decide +kernel
theorem dX11_countInStock_159 : decode cX11_countInStock 159 = .ok (.aload_n 2, 1) := by decide +kernel
theorem dX11_countInStock_160 : decode cX11_countInStock 160 = .ok (.invokevirtual 198, 3) := by decide +kernel
theorem dX11_countInStock_163 : decode cX11_countInStock 163 = .ok (.ireturn, 1) := by decide +kernel
theorem dX11_countInStock_164 : decode cX11_countInStock 164 = .ok (.aload_n 2, 1) := by decide +kernel
theorem dX11_countInStock_165 : decode cX11_countInStock 165 = .ok (.invokevirtual 201, 3) := by decide +kernel
theorem dX11_countInStock_168 : decode cX11_countInStock 168 = .ok (.ireturn, 1) := by decide +kernel
theorem dX11_countInStock_169 : decode cX11_countInStock 169 = .ok (.aload_n 2, 1) := by decide +kernel
theorem dX11_countInStock_170 : decode cX11_countInStock 170 = .ok (.getfield 192, 3) := by decide +kernel
theorem dX11_countInStock_173 : decode cX11_countInStock 173 = .ok (.bipush 120, 2) := by decide +kernel
theorem dX11_countInStock_175 : decode cX11_countInStock 175 = .ok (.iaload, 1) := by decide +kernel
theorem dX11_countInStock_176 : decode cX11_countInStock 176 = .ok (.ireturn, 1) := by decide +kernel
theorem dX11_countInStock_177 : decode cX11_countInStock 177 = .ok (.aload_n 2, 1) := by decide +kernel
theorem dX11_countInStock_178 : decode cX11_countInStock 178 = .ok (.invokevirtual 204, 3) := by decide +kernel
theorem dX11_countInStock_181 : decode cX11_countInStock 181 = .ok (.ireturn, 1) := by decide +kernel
set_option maxHeartbeats 400000 in
theorem c11_countInStock {G : Gl} {l : Launch}  {M : Mem} {d : Int → Int} {w : Int} (hG : GR M) (hD : M 4 = d) (hSP : SP d) (hwS : w = 0 ∨ w = 1 ∨ w = 2 ∨ w = 3 ∨ w = 4 ∨ w = 15 ∨ w = 16 ∨ w = 25 ∨ w = 26) : Ct G LY 57 l 3 m11_countInStock [vR 0, vI w] M (RP (fun v M' => Fr [] [] M M' ∧ (w = 0 → v = d 121) ∧ (w = 1 → v = d 122) ∧ (w = 2 → v = d 118) ∧ (w = 3 → v = heldAll d) ∧ (w = 4 → v = d 119) ∧ (w = 15 → v = bits (d 122).toNat (fun k => allOf d k = 1)) ∧ (w = 16 → v = bits (d 122).toNat (fun k => 0 < shrt d k)) ∧ (w = 25 → v = d 120) ∧ (w = 26 → v = stor d))) := by
  refine R_start (by decide +kernel) (Nat.le_of_ble_eq_true rfl) (fun C hC hRm hlau => ?_)
  show RZ G LY C (Zn G LY 57 C (RP (fun v M' => Fr [] [] M M' ∧ (w = 0 → v = d 121) ∧ (w = 1 → v = d 122) ∧ (w = 2 → v = d 118) ∧ (w = 3 → v = heldAll d) ∧ (w = 4 → v = d 119) ∧ (w = 15 → v = bits (d 122).toNat (fun k => allOf d k = 1)) ∧ (w = 16 → v = bits (d 122).toNat (fun k => 0 < shrt d k)) ∧ (w = 25 → v = d 120) ∧ (w = 26 → v = stor d)))) 0 0 57 0 [some (vR 0), some (vI w), none] [] M
  have hB9 := hSP.B
  have hL0 := hSP.1.1.1
  have hL1 := hSP.1.1.2
  have hW0 := hSP.1.2.1
  have hW1 := hSP.1.2.2
  refine R_aload_0 hC dX11_countInStock_0 ?_
  refine R_getR hC dX11_countInStock_1 fl_11_23 (by decide) rfl (by decide) (by decide) (fi := 3) rfl (r := 2) (gr_0_3 hG) ?_
  refine R_getR hC dX11_countInStock_4 fl_11_122 (by decide) rfl (by decide) (by decide) (fi := 0) rfl (r := 3) (gr_2_0 hG) ?_
  refine R_astore_2 hC dX11_countInStock_7 rfl ?_
  refine R_iload_1 hC dX11_countInStock_8 ?_
  by_cases hsw : w < 0 ∨ 25 < w
  · skip
    refine R_tableOut hC dX11_countInStock_9 hsw (tgt := 177) (by decide) ?_
    refine R_aload_2 hC dX11_countInStock_177 ?_
    refine R_callVq (as := []) hC dX11_countInStock_178 mo_8_copiesStored ml_11_204 (by decide) rfl rfl (c8_copiesStored_d  hD hG sh_3 hSP.B) rfl rfl hRm (by decide) (by decide) (Nat.le_of_ble_eq_true rfl) ?_
    have e178_1 := stor_bd hSP.B
    exact R_ireturn hC dX11_countInStock_181 rfl (ret_P ⟨Fr.rf, by
        refine ⟨?_, ?_, ?_, ?_, ?_, ?_, ?_, ?_, ?_⟩ <;> intro h <;> first | exact absurd h (by decide) | (exfalso; omega) | exact rfl⟩)
  have hsw2 : w = 0 ∨ w = 1 ∨ w = 2 ∨ w = 3 ∨ w = 4 ∨ w = 5 ∨ w = 6 ∨ w = 7 ∨ w = 8 ∨ w = 9 ∨ w = 10 ∨ w = 11 ∨ w = 12 ∨ w = 13 ∨ w = 14 ∨ w = 15 ∨ w = 16 ∨ w = 17 ∨ w = 18 ∨ w = 19 ∨ w = 20 ∨ w = 21 ∨ w = 22 ∨ w = 23 ∨ w = 24 ∨ w = 25 := by omega
  rcases hsw2 with hsw2 | hsw2 | hsw2 | hsw2 | hsw2 | hsw2 | hsw2 | hsw2 | hsw2 | hsw2 | hsw2 | hsw2 | hsw2 | hsw2 | hsw2 | hsw2 | hsw2 | hsw2 | hsw2 | hsw2 | hsw2 | hsw2 | hsw2 | hsw2 | hsw2 | hsw2
  · skip
    subst hsw2
    refine R_tableIn hC dX11_countInStock_9 (off := 119) (by omega) (by omega) rfl (tgt := 128) (by decide) ?_
    refine R_aload_2 hC dX11_countInStock_128 ?_
    refine R_callVq (as := []) hC dX11_countInStock_129 mo_8_libraries ml_11_185 (by decide) rfl rfl (c8_libraries_d  hD hG sh_3) rfl rfl hRm (by decide) (by decide) (Nat.le_of_ble_eq_true rfl) ?_
    exact R_ireturn hC dX11_countInStock_132 rfl (ret_P ⟨Fr.rf, by
        refine ⟨?_, ?_, ?_, ?_, ?_, ?_, ?_, ?_, ?_⟩ <;> intro h <;> first | exact absurd h (by decide) | (exfalso; omega) | exact rfl⟩)
  · skip
    subst hsw2
    refine R_tableIn hC dX11_countInStock_9 (off := 124) (by omega) (by omega) rfl (tgt := 133) (by decide) ?_
    refine R_aload_2 hC dX11_countInStock_133 ?_
    refine R_callVq (as := []) hC dX11_countInStock_134 mo_8_works ml_11_189 (by decide) rfl rfl (c8_works_d  hD hG sh_3) rfl rfl hRm (by decide) (by decide) (Nat.le_of_ble_eq_true rfl) ?_
    exact R_ireturn hC dX11_countInStock_137 rfl (ret_P ⟨Fr.rf, by
        refine ⟨?_, ?_, ?_, ?_, ?_, ?_, ?_, ?_, ?_⟩ <;> intro h <;> first | exact absurd h (by decide) | (exfalso; omega) | exact rfl⟩)
  · skip
    subst hsw2
    refine R_tableIn hC dX11_countInStock_9 (off := 129) (by omega) (by omega) rfl (tgt := 138) (by decide) ?_
    refine R_aload_2 hC dX11_countInStock_138 ?_
    refine R_getR hC dX11_countInStock_139 fl_11_192 (by decide) rfl (by decide) (by decide) (fi := 0) rfl (r := 4) (gr_3_0 hG) ?_
    refine R_bipush hC dX11_countInStock_142 (by decide +kernel) ⟨by decide, by decide⟩ ?_
    refine R_ialoadE hC dX11_countInStock_144 (by decide) rfl (by omega) (by omega) (congrFun hD _) ?_
    exact R_ireturn hC dX11_countInStock_145 rfl (ret_P ⟨Fr.rf, by
        refine ⟨?_, ?_, ?_, ?_, ?_, ?_, ?_, ?_, ?_⟩ <;> intro h <;> first | exact absurd h (by decide) | (exfalso; omega) | exact rfl⟩)
  · skip
    subst hsw2
    refine R_tableIn hC dX11_countInStock_9 (off := 137) (by omega) (by omega) rfl (tgt := 146) (by decide) ?_
    refine R_aload_2 hC dX11_countInStock_146 ?_
    refine R_callVq (as := []) hC dX11_countInStock_147 mo_8_copiesHeld ml_11_195 (by decide) rfl rfl (c8_copiesHeld_d  hD hG sh_3 hSP.B) rfl rfl hRm (by decide) (by decide) (Nat.le_of_ble_eq_true rfl) ?_
    have e147_2 := heldAll_bd hSP.B
    exact R_ireturn hC dX11_countInStock_150 rfl (ret_P ⟨Fr.rf, by
        refine ⟨?_, ?_, ?_, ?_, ?_, ?_, ?_, ?_, ?_⟩ <;> intro h <;> first | exact absurd h (by decide) | (exfalso; omega) | exact rfl⟩)
  · skip
    subst hsw2
    refine R_tableIn hC dX11_countInStock_9 (off := 142) (by omega) (by omega) rfl (tgt := 151) (by decide) ?_
    refine R_aload_2 hC dX11_countInStock_151 ?_
    refine R_getR hC dX11_countInStock_152 fl_11_192 (by decide) rfl (by decide) (by decide) (fi := 0) rfl (r := 4) (gr_3_0 hG) ?_
    refine R_bipush hC dX11_countInStock_155 (by decide +kernel) ⟨by decide, by decide⟩ ?_
    refine R_ialoadE hC dX11_countInStock_157 (by decide) rfl (by omega) (by omega) (congrFun hD _) ?_
    exact R_ireturn hC dX11_countInStock_158 rfl (ret_P ⟨Fr.rf, by
        refine ⟨?_, ?_, ?_, ?_, ?_, ?_, ?_, ?_, ?_⟩ <;> intro h <;> first | exact absurd h (by decide) | (exfalso; omega) | exact rfl⟩)
  · skip
    subst hsw2
    refine R_tableIn hC dX11_countInStock_9 (off := 168) (by omega) (by omega) rfl (tgt := 177) (by decide) ?_
    refine R_aload_2 hC dX11_countInStock_177 ?_
    refine R_callVq (as := []) hC dX11_countInStock_178 mo_8_copiesStored ml_11_204 (by decide) rfl rfl (c8_copiesStored_d  hD hG sh_3 hSP.B) rfl rfl hRm (by decide) (by decide) (Nat.le_of_ble_eq_true rfl) ?_
    have e178_3 := stor_bd hSP.B
    exact R_ireturn hC dX11_countInStock_181 rfl (ret_P ⟨Fr.rf, by
        refine ⟨?_, ?_, ?_, ?_, ?_, ?_, ?_, ?_, ?_⟩ <;> intro h <;> first | exact absurd h (by decide) | (exfalso; omega) | exact rfl⟩)
  · skip
    subst hsw2
    refine R_tableIn hC dX11_countInStock_9 (off := 168) (by omega) (by omega) rfl (tgt := 177) (by decide) ?_
    refine R_aload_2 hC dX11_countInStock_177 ?_
    refine R_callVq (as := []) hC dX11_countInStock_178 mo_8_copiesStored ml_11_204 (by decide) rfl rfl (c8_copiesStored_d  hD hG sh_3 hSP.B) rfl rfl hRm (by decide) (by decide) (Nat.le_of_ble_eq_true rfl) ?_
    have e178_4 := stor_bd hSP.B
    exact R_ireturn hC dX11_countInStock_181 rfl (ret_P ⟨Fr.rf, by
        refine ⟨?_, ?_, ?_, ?_, ?_, ?_, ?_, ?_, ?_⟩ <;> intro h <;> first | exact absurd h (by decide) | (exfalso; omega) | exact rfl⟩)
  · skip
    subst hsw2
    refine R_tableIn hC dX11_countInStock_9 (off := 168) (by omega) (by omega) rfl (tgt := 177) (by decide) ?_
    refine R_aload_2 hC dX11_countInStock_177 ?_
    refine R_callVq (as := []) hC dX11_countInStock_178 mo_8_copiesStored ml_11_204 (by decide) rfl rfl (c8_copiesStored_d  hD hG sh_3 hSP.B) rfl rfl hRm (by decide) (by decide) (Nat.le_of_ble_eq_true rfl) ?_
    have e178_5 := stor_bd hSP.B
    exact R_ireturn hC dX11_countInStock_181 rfl (ret_P ⟨Fr.rf, by
        refine ⟨?_, ?_, ?_, ?_, ?_, ?_, ?_, ?_, ?_⟩ <;> intro h <;> first | exact absurd h (by decide) | (exfalso; omega) | exact rfl⟩)
  · skip
    subst hsw2
    refine R_tableIn hC dX11_countInStock_9 (off := 168) (by omega) (by omega) rfl (tgt := 177) (by decide) ?_
    refine R_aload_2 hC dX11_countInStock_177 ?_
    refine R_callVq (as := []) hC dX11_countInStock_178 mo_8_copiesStored ml_11_204 (by decide) rfl rfl (c8_copiesStored_d  hD hG sh_3 hSP.B) rfl rfl hRm (by decide) (by decide) (Nat.le_of_ble_eq_true rfl) ?_
    have e178_6 := stor_bd hSP.B
    exact R_ireturn hC dX11_countInStock_181 rfl (ret_P ⟨Fr.rf, by
        refine ⟨?_, ?_, ?_, ?_, ?_, ?_, ?_, ?_, ?_⟩ <;> intro h <;> first | exact absurd h (by decide) | (exfalso; omega) | exact rfl⟩)
  · skip
    subst hsw2
    refine R_tableIn hC dX11_countInStock_9 (off := 168) (by omega) (by omega) rfl (tgt := 177) (by decide) ?_
    refine R_aload_2 hC dX11_countInStock_177 ?_
    refine R_callVq (as := []) hC dX11_countInStock_178 mo_8_copiesStored ml_11_204 (by decide) rfl rfl (c8_copiesStored_d  hD hG sh_3 hSP.B) rfl rfl hRm (by decide) (by decide) (Nat.le_of_ble_eq_true rfl) ?_
    have e178_7 := stor_bd hSP.B
    exact R_ireturn hC dX11_countInStock_181 rfl (ret_P ⟨Fr.rf, by
        refine ⟨?_, ?_, ?_, ?_, ?_, ?_, ?_, ?_, ?_⟩ <;> intro h <;> first | exact absurd h (by decide) | (exfalso; omega) | exact rfl⟩)
  · skip
    subst hsw2
    refine R_tableIn hC dX11_countInStock_9 (off := 168) (by omega) (by omega) rfl (tgt := 177) (by decide) ?_
    refine R_aload_2 hC dX11_countInStock_177 ?_
    refine R_callVq (as := []) hC dX11_countInStock_178 mo_8_copiesStored ml_11_204 (by decide) rfl rfl (c8_copiesStored_d  hD hG sh_3 hSP.B) rfl rfl hRm (by decide) (by decide) (Nat.le_of_ble_eq_true rfl) ?_
    have e178_8 := stor_bd hSP.B
    exact R_ireturn hC dX11_countInStock_181 rfl (ret_P ⟨Fr.rf, by
        refine ⟨?_, ?_, ?_, ?_, ?_, ?_, ?_, ?_, ?_⟩ <;> intro h <;> first | exact absurd h (by decide) | (exfalso; omega) | exact rfl⟩)
  · skip
    subst hsw2
    refine R_tableIn hC dX11_countInStock_9 (off := 168) (by omega) (by omega) rfl (tgt := 177) (by decide) ?_
    refine R_aload_2 hC dX11_countInStock_177 ?_
    refine R_callVq (as := []) hC dX11_countInStock_178 mo_8_copiesStored ml_11_204 (by decide) rfl rfl (c8_copiesStored_d  hD hG sh_3 hSP.B) rfl rfl hRm (by decide) (by decide) (Nat.le_of_ble_eq_true rfl) ?_
    have e178_9 := stor_bd hSP.B
    exact R_ireturn hC dX11_countInStock_181 rfl (ret_P ⟨Fr.rf, by
        refine ⟨?_, ?_, ?_, ?_, ?_, ?_, ?_, ?_, ?_⟩ <;> intro h <;> first | exact absurd h (by decide) | (exfalso; omega) | exact rfl⟩)
  · skip
    subst hsw2
    refine R_tableIn hC dX11_countInStock_9 (off := 168) (by omega) (by omega) rfl (tgt := 177) (by decide) ?_
    refine R_aload_2 hC dX11_countInStock_177 ?_
    refine R_callVq (as := []) hC dX11_countInStock_178 mo_8_copiesStored ml_11_204 (by decide) rfl rfl (c8_copiesStored_d  hD hG sh_3 hSP.B) rfl rfl hRm (by decide) (by decide) (Nat.le_of_ble_eq_true rfl) ?_
    have e178_10 := stor_bd hSP.B
    exact R_ireturn hC dX11_countInStock_181 rfl (ret_P ⟨Fr.rf, by
        refine ⟨?_, ?_, ?_, ?_, ?_, ?_, ?_, ?_, ?_⟩ <;> intro h <;> first | exact absurd h (by decide) | (exfalso; omega) | exact rfl⟩)
  · skip
    subst hsw2
    refine R_tableIn hC dX11_countInStock_9 (off := 168) (by omega) (by omega) rfl (tgt := 177) (by decide) ?_
    refine R_aload_2 hC dX11_countInStock_177 ?_
    refine R_callVq (as := []) hC dX11_countInStock_178 mo_8_copiesStored ml_11_204 (by decide) rfl rfl (c8_copiesStored_d  hD hG sh_3 hSP.B) rfl rfl hRm (by decide) (by decide) (Nat.le_of_ble_eq_true rfl) ?_
    have e178_11 := stor_bd hSP.B
    exact R_ireturn hC dX11_countInStock_181 rfl (ret_P ⟨Fr.rf, by
        refine ⟨?_, ?_, ?_, ?_, ?_, ?_, ?_, ?_, ?_⟩ <;> intro h <;> first | exact absurd h (by decide) | (exfalso; omega) | exact rfl⟩)
  · skip
    subst hsw2
    refine R_tableIn hC dX11_countInStock_9 (off := 168) (by omega) (by omega) rfl (tgt := 177) (by decide) ?_
    refine R_aload_2 hC dX11_countInStock_177 ?_
    refine R_callVq (as := []) hC dX11_countInStock_178 mo_8_copiesStored ml_11_204 (by decide) rfl rfl (c8_copiesStored_d  hD hG sh_3 hSP.B) rfl rfl hRm (by decide) (by decide) (Nat.le_of_ble_eq_true rfl) ?_
    have e178_12 := stor_bd hSP.B
    exact R_ireturn hC dX11_countInStock_181 rfl (ret_P ⟨Fr.rf, by
        refine ⟨?_, ?_, ?_, ?_, ?_, ?_, ?_, ?_, ?_⟩ <;> intro h <;> first | exact absurd h (by decide) | (exfalso; omega) | exact rfl⟩)
  · skip
    subst hsw2
    refine R_tableIn hC dX11_countInStock_9 (off := 150) (by omega) (by omega) rfl (tgt := 159) (by decide) ?_
    refine R_aload_2 hC dX11_countInStock_159 ?_
    refine R_callVq (as := []) hC dX11_countInStock_160 mo_8_lastWorks ml_11_198 (by decide) rfl rfl (c8_lastWorks_d  hD hG sh_3 hSP.B) rfl rfl hRm (by decide) (by decide) (Nat.le_of_ble_eq_true rfl) ?_
    exact R_ireturn hC dX11_countInStock_163 rfl (ret_P ⟨Fr.rf, by
        refine ⟨?_, ?_, ?_, ?_, ?_, ?_, ?_, ?_, ?_⟩ <;> intro h <;> first | exact absurd h (by decide) | (exfalso; omega) | exact rfl⟩)
  · skip
    subst hsw2
    refine R_tableIn hC dX11_countInStock_9 (off := 155) (by omega) (by omega) rfl (tgt := 164) (by decide) ?_
    refine R_aload_2 hC dX11_countInStock_164 ?_
    refine R_callVq (as := []) hC dX11_countInStock_165 mo_8_shortWorks ml_11_201 (by decide) rfl rfl (c8_shortWorks_d  hD hG sh_3 hSP.B) rfl rfl hRm (by decide) (by decide) (Nat.le_of_ble_eq_true rfl) ?_
    exact R_ireturn hC dX11_countInStock_168 rfl (ret_P ⟨Fr.rf, by
        refine ⟨?_, ?_, ?_, ?_, ?_, ?_, ?_, ?_, ?_⟩ <;> intro h <;> first | exact absurd h (by decide) | (exfalso; omega) | exact rfl⟩)
  · skip
    subst hsw2
    refine R_tableIn hC dX11_countInStock_9 (off := 168) (by omega) (by omega) rfl (tgt := 177) (by decide) ?_
    refine R_aload_2 hC dX11_countInStock_177 ?_
    refine R_callVq (as := []) hC dX11_countInStock_178 mo_8_copiesStored ml_11_204 (by decide) rfl rfl (c8_copiesStored_d  hD hG sh_3 hSP.B) rfl rfl hRm (by decide) (by decide) (Nat.le_of_ble_eq_true rfl) ?_
    have e178_13 := stor_bd hSP.B
    exact R_ireturn hC dX11_countInStock_181 rfl (ret_P ⟨Fr.rf, by
        refine ⟨?_, ?_, ?_, ?_, ?_, ?_, ?_, ?_, ?_⟩ <;> intro h <;> first | exact absurd h (by decide) | (exfalso; omega) | exact rfl⟩)
  · skip
    subst hsw2
    refine R_tableIn hC dX11_countInStock_9 (off := 168) (by omega) (by omega) rfl (tgt := 177) (by decide) ?_
    refine R_aload_2 hC dX11_countInStock_177 ?_
    refine R_callVq (as := []) hC dX11_countInStock_178 mo_8_copiesStored ml_11_204 (by decide) rfl rfl (c8_copiesStored_d  hD hG sh_3 hSP.B) rfl rfl hRm (by decide) (by decide) (Nat.le_of_ble_eq_true rfl) ?_
    have e178_14 := stor_bd hSP.B
    exact R_ireturn hC dX11_countInStock_181 rfl (ret_P ⟨Fr.rf, by
        refine ⟨?_, ?_, ?_, ?_, ?_, ?_, ?_, ?_, ?_⟩ <;> intro h <;> first | exact absurd h (by decide) | (exfalso; omega) | exact rfl⟩)
  · skip
    subst hsw2
    refine R_tableIn hC dX11_countInStock_9 (off := 168) (by omega) (by omega) rfl (tgt := 177) (by decide) ?_
    refine R_aload_2 hC dX11_countInStock_177 ?_
    refine R_callVq (as := []) hC dX11_countInStock_178 mo_8_copiesStored ml_11_204 (by decide) rfl rfl (c8_copiesStored_d  hD hG sh_3 hSP.B) rfl rfl hRm (by decide) (by decide) (Nat.le_of_ble_eq_true rfl) ?_
    have e178_15 := stor_bd hSP.B
    exact R_ireturn hC dX11_countInStock_181 rfl (ret_P ⟨Fr.rf, by
        refine ⟨?_, ?_, ?_, ?_, ?_, ?_, ?_, ?_, ?_⟩ <;> intro h <;> first | exact absurd h (by decide) | (exfalso; omega) | exact rfl⟩)
  · skip
    subst hsw2
    refine R_tableIn hC dX11_countInStock_9 (off := 168) (by omega) (by omega) rfl (tgt := 177) (by decide) ?_
    refine R_aload_2 hC dX11_countInStock_177 ?_
    refine R_callVq (as := []) hC dX11_countInStock_178 mo_8_copiesStored ml_11_204 (by decide) rfl rfl (c8_copiesStored_d  hD hG sh_3 hSP.B) rfl rfl hRm (by decide) (by decide) (Nat.le_of_ble_eq_true rfl) ?_
    have e178_16 := stor_bd hSP.B
    exact R_ireturn hC dX11_countInStock_181 rfl (ret_P ⟨Fr.rf, by
        refine ⟨?_, ?_, ?_, ?_, ?_, ?_, ?_, ?_, ?_⟩ <;> intro h <;> first | exact absurd h (by decide) | (exfalso; omega) | exact rfl⟩)
  · skip
    subst hsw2
    refine R_tableIn hC dX11_countInStock_9 (off := 168) (by omega) (by omega) rfl (tgt := 177) (by decide) ?_
    refine R_aload_2 hC dX11_countInStock_177 ?_
    refine R_callVq (as := []) hC dX11_countInStock_178 mo_8_copiesStored ml_11_204 (by decide) rfl rfl (c8_copiesStored_d  hD hG sh_3 hSP.B) rfl rfl hRm (by decide) (by decide) (Nat.le_of_ble_eq_true rfl) ?_
    have e178_17 := stor_bd hSP.B
    exact R_ireturn hC dX11_countInStock_181 rfl (ret_P ⟨Fr.rf, by
        refine ⟨?_, ?_, ?_, ?_, ?_, ?_, ?_, ?_, ?_⟩ <;> intro h <;> first | exact absurd h (by decide) | (exfalso; omega) | exact rfl⟩)
  · skip
    subst hsw2
    refine R_tableIn hC dX11_countInStock_9 (off := 168) (by omega) (by omega) rfl (tgt := 177) (by decide) ?_
    refine R_aload_2 hC dX11_countInStock_177 ?_
    refine R_callVq (as := []) hC dX11_countInStock_178 mo_8_copiesStored ml_11_204 (by decide) rfl rfl (c8_copiesStored_d  hD hG sh_3 hSP.B) rfl rfl hRm (by decide) (by decide) (Nat.le_of_ble_eq_true rfl) ?_
    have e178_18 := stor_bd hSP.B
    exact R_ireturn hC dX11_countInStock_181 rfl (ret_P ⟨Fr.rf, by
        refine ⟨?_, ?_, ?_, ?_, ?_, ?_, ?_, ?_, ?_⟩ <;> intro h <;> first | exact absurd h (by decide) | (exfalso; omega) | exact rfl⟩)
  · skip
    subst hsw2
    refine R_tableIn hC dX11_countInStock_9 (off := 168) (by omega) (by omega) rfl (tgt := 177) (by decide) ?_
    refine R_aload_2 hC dX11_countInStock_177 ?_
    refine R_callVq (as := []) hC dX11_countInStock_178 mo_8_copiesStored ml_11_204 (by decide) rfl rfl (c8_copiesStored_d  hD hG sh_3 hSP.B) rfl rfl hRm (by decide) (by decide) (Nat.le_of_ble_eq_true rfl) ?_
    have e178_19 := stor_bd hSP.B
    exact R_ireturn hC dX11_countInStock_181 rfl (ret_P ⟨Fr.rf, by
        refine ⟨?_, ?_, ?_, ?_, ?_, ?_, ?_, ?_, ?_⟩ <;> intro h <;> first | exact absurd h (by decide) | (exfalso; omega) | exact rfl⟩)
  · skip
    subst hsw2
    refine R_tableIn hC dX11_countInStock_9 (off := 168) (by omega) (by omega) rfl (tgt := 177) (by decide) ?_
    refine R_aload_2 hC dX11_countInStock_177 ?_
    refine R_callVq (as := []) hC dX11_countInStock_178 mo_8_copiesStored ml_11_204 (by decide) rfl rfl (c8_copiesStored_d  hD hG sh_3 hSP.B) rfl rfl hRm (by decide) (by decide) (Nat.le_of_ble_eq_true rfl) ?_
    have e178_20 := stor_bd hSP.B
    exact R_ireturn hC dX11_countInStock_181 rfl (ret_P ⟨Fr.rf, by
        refine ⟨?_, ?_, ?_, ?_, ?_, ?_, ?_, ?_, ?_⟩ <;> intro h <;> first | exact absurd h (by decide) | (exfalso; omega) | exact rfl⟩)
  · skip
    subst hsw2
    refine R_tableIn hC dX11_countInStock_9 (off := 160) (by omega) (by omega) rfl (tgt := 169) (by decide) ?_
    refine R_aload_2 hC dX11_countInStock_169 ?_
    refine R_getR hC dX11_countInStock_170 fl_11_192 (by decide) rfl (by decide) (by decide) (fi := 0) rfl (r := 4) (gr_3_0 hG) ?_
    refine R_bipush hC dX11_countInStock_173 (by decide +kernel) ⟨by decide, by decide⟩ ?_
    refine R_ialoadE hC dX11_countInStock_175 (by decide) rfl (by omega) (by omega) (congrFun hD _) ?_
    exact R_ireturn hC dX11_countInStock_176 rfl (ret_P ⟨Fr.rf, by
        refine ⟨?_, ?_, ?_, ?_, ?_, ?_, ?_, ?_, ?_⟩ <;> intro h <;> first | exact absurd h (by decide) | (exfalso; omega) | exact rfl⟩)
theorem dX11_countOfPlan_0 : decode cX11_countOfPlan 0 = .ok (.iload_n 1, 1) := by decide +kernel
theorem dX11_countOfPlan_1 : decode cX11_countOfPlan 1 = .ok (.bipush 8, 2) := by decide +kernel
theorem dX11_countOfPlan_3 : decode cX11_countOfPlan 3 = .ok (.if_icmp .ne 22, 3) := by decide +kernel
theorem dX11_countOfPlan_6 : decode cX11_countOfPlan 6 = .ok (.aload_n 0, 1) := by decide +kernel
theorem dX11_countOfPlan_7 : decode cX11_countOfPlan 7 = .ok (.invokevirtual 207, 3) := by decide +kernel
theorem dX11_countOfPlan_10 : decode cX11_countOfPlan 10 = .ok (.aload_n 0, 1) := by decide +kernel
theorem dX11_countOfPlan_11 : decode cX11_countOfPlan 11 = .ok (.getfield 60, 3) := by decide +kernel
theorem dX11_countOfPlan_14 : decode cX11_countOfPlan 14 = .ok (.aload_n 0, 1) := by decide +kernel
theorem dX11_countOfPlan_15 : decode cX11_countOfPlan 15 = .ok (.getfield 23, 3) := by decide +kernel
theorem dX11_countOfPlan_18 : decode cX11_countOfPlan 18 = .ok (.getfield 122, 3) := by decide +kernel
theorem dX11_countOfPlan_21 : decode cX11_countOfPlan 21 = .ok (.invokevirtual 210, 3) := by decide +kernel
theorem dX11_countOfPlan_24 : decode cX11_countOfPlan 24 = .ok (.ireturn, 1) := by decide +kernel
theorem dX11_countOfPlan_25 : decode cX11_countOfPlan 25 = .ok (.aload_n 0, 1) := by decide +kernel
theorem dX11_countOfPlan_26 : decode cX11_countOfPlan 26 = .ok (.getfield 51, 3) := by decide +kernel
theorem dX11_countOfPlan_29 : decode cX11_countOfPlan 29 = .ok (.aload_n 0, 1) := by decide +kernel
theorem dX11_countOfPlan_30 : decode cX11_countOfPlan 30 = .ok (.getfield 23, 3) := by decide +kernel
theorem dX11_countOfPlan_33 : decode cX11_countOfPlan 33 = .ok (.getfield 122, 3) := by decide +kernel
theorem dX11_countOfPlan_36 : decode cX11_countOfPlan 36 = .ok (.invokevirtual 213, 3) := by decide +kernel
theorem dX11_countOfPlan_39 : decode cX11_countOfPlan 39 = .ok (.aload_n 0, 1) := by decide +kernel
theorem dX11_countOfPlan_40 : decode cX11_countOfPlan 40 = .ok (.getfield 51, 3) := by decide +kernel
theorem dX11_countOfPlan_43 : decode cX11_countOfPlan 43 = .ok (.iconst 0, 1) := by decide +kernel
theorem dX11_countOfPlan_44 : decode cX11_countOfPlan 44 = .ok (.invokevirtual 216, 3) := by decide +kernel
theorem dX11_countOfPlan_47 : decode cX11_countOfPlan 47 = .ok (.istore_n 2, 1) := by decide +kernel
theorem dX11_countOfPlan_48 : decode cX11_countOfPlan 48 = .ok (.iload_n 1, 1) := by decide +kernel
theorem dX11_countOfPlan_49 : decode cX11_countOfPlan 49 = .ok (.lookupswitch 40 #[(5, 27), (6, 38)], 27) := by decide +kernel
theorem dX11_countOfPlan_76 : decode cX11_countOfPlan 76 = .ok (.iload_n 2, 1) := by decide +kernel
theorem dX11_countOfPlan_77 : decode cX11_countOfPlan 77 = .ok (.iconst (-1), 1) := by decide +kernel
theorem dX11_countOfPlan_78 : decode cX11_countOfPlan 78 = .ok (.if_icmp .ne 7, 3) := by decide +kernel
theorem dX11_countOfPlan_81 : decode cX11_countOfPlan 81 = .ok (.iconst 0, 1) := by decide +kernel
theorem dX11_countOfPlan_82 : decode cX11_countOfPlan 82 = .ok (.goto 4, 3) := by decide +kernel
theorem dX11_countOfPlan_85 : decode cX11_countOfPlan 85 = .ok (.iconst 1, 1) := by decide +kernel
theorem dX11_countOfPlan_86 : decode cX11_countOfPlan 86 = .ok (.ireturn, 1) := by decide +kernel
theorem dX11_countOfPlan_87 : decode cX11_countOfPlan 87 = .ok (.iload_n 2, 1) := by decide +kernel
theorem dX11_countOfPlan_88 : decode cX11_countOfPlan 88 = .ok (.ireturn, 1) := by decide +kernel
theorem dX11_countOfPlan_89 : decode cX11_countOfPlan 89 = .ok (.iload_n 2, 1) := by decide +kernel
theorem dX11_countOfPlan_90 : decode cX11_countOfPlan 90 = .ok (.iconst (-1), 1) := by decide +kernel
theorem dX11_countOfPlan_91 : decode cX11_countOfPlan 91 = .ok (.if_icmp .ne 7, 3) := by decide +kernel
theorem dX11_countOfPlan_94 : decode cX11_countOfPlan 94 = .ok (.iconst (-1), 1) := by decide +kernel
theorem dX11_countOfPlan_95 : decode cX11_countOfPlan 95 = .ok (.goto 10, 3) := by decide +kernel
theorem dX11_countOfPlan_98 : decode cX11_countOfPlan 98 = .ok (.aload_n 0, 1) := by decide +kernel
theorem dX11_countOfPlan_99 : decode cX11_countOfPlan 99 = .ok (.getfield 51, 3) := by decide +kernel
theorem dX11_countOfPlan_102 : decode cX11_countOfPlan 102 = .ok (.invokevirtual 219, 3) := by decide +kernel
theorem dX11_countOfPlan_105 : decode cX11_countOfPlan 105 = .ok (.ireturn, 1) := by decide +kernel
set_option maxHeartbeats 400000 in
theorem c11_countOfPlan {G : Gl} {l : Launch}  {M : Mem} {d : Int → Int} {w : Int} (hG : GR M) (hD : M 4 = d) (hSP : SP d) (hFP : FP M d) (hwS : w = 5 ∨ w = 6 ∨ w = 7 ∨ w = 8) : Ct G LY 57 l 5 m11_countOfPlan [vR 0, vI w] M (RP (fun v M' => Fr [25, 26, 27, 28, 29, 30, 31, 32, 33, 34, 35, 37] [(24, 11), (24, 12), (24, 13), (36, 2), (36, 3), (0, 10)] M M' ∧ FP M' d ∧ (w = 5 → v = bP (planI (insOf d))) ∧ (w = 6 → v = SPC (insOf d)) ∧ (w = 7 → v = if SPC (insOf d) = -1 then -1 else if iW (insOf d) = 0 then 0 else MC (insOf d) 1) ∧ (w = 8 → v = itc (planI (insOf d)) (chgs (plT (insOf d)) d) (-1)))) := by
  refine R_start (by decide +kernel) (Nat.le_of_ble_eq_true rfl) (fun C hC hRm hlau => ?_)
  show RZ G LY C (Zn G LY 57 C (RP (fun v M' => Fr [25, 26, 27, 28, 29, 30, 31, 32, 33, 34, 35, 37] [(24, 11), (24, 12), (24, 13), (36, 2), (36, 3), (0, 10)] M M' ∧ FP M' d ∧ (w = 5 → v = bP (planI (insOf d))) ∧ (w = 6 → v = SPC (insOf d)) ∧ (w = 7 → v = if SPC (insOf d) = -1 then -1 else if iW (insOf d) = 0 then 0 else MC (insOf d) 1) ∧ (w = 8 → v = itc (planI (insOf d)) (chgs (plT (insOf d)) d) (-1))))) 0 0 57 0 [some (vR 0), some (vI w), none] [] M
  have hB9 := hSP.B
  have hL0 := hSP.1.1.1
  have hL1 := hSP.1.1.2
  have hW0 := hSP.1.2.1
  have hW1 := hSP.1.2.2
  refine R_iload_1 hC dX11_countOfPlan_0 ?_
  refine R_bipush hC dX11_countOfPlan_1 (by decide +kernel) ⟨by decide, by decide⟩ ?_
  refine R_icmp_ne hC dX11_countOfPlan_3 (tgt := 25) (by decide) (fun hb3 => ?_) (fun hb3 => ?_)
  · skip
    refine R_aload_0 hC dX11_countOfPlan_25 ?_
    refine R_getR hC dX11_countOfPlan_26 fl_11_51 (by decide) rfl (by decide) (by decide) (fi := 8) rfl (r := 24) (gr_0_8 hG) ?_
    refine R_aload_0 hC dX11_countOfPlan_29 ?_
    refine R_getR hC dX11_countOfPlan_30 fl_11_23 (by decide) rfl (by decide) (by decide) (fi := 3) rfl (r := 2) (gr_0_3 hG) ?_
    refine R_getR hC dX11_countOfPlan_33 fl_11_122 (by decide) rfl (by decide) (by decide) (fi := 0) rfl (r := 3) (gr_2_0 hG) ?_
    refine R_callVv (as := [vR _]) hC dX11_countOfPlan_36 mo_6_load ml_11_213 (by decide) rfl rfl (c6_load  hG sh_3 hD hSP.B) rfl rfl hRm (by decide) (by decide) (Nat.le_of_ble_eq_true rfl) (fun Mc1 hq2 => ?_)
    have hSC3 := hq2.2
    have hFl : Fr [25, 26, 27, 28, 29, 30, 31, 32, 33, 34, 35, 37] [(24, 11), (24, 12), (24, 13), (36, 2), (36, 3), (0, 10)] M Mc1 := hq2.1.mo (by simp) (by simp)
    have hPl := hFP.fr hq2.1 (by decide +kernel)
    refine R_aload_0 hC dX11_countOfPlan_39 ?_
    have hG4 : GR Mc1 := (GR.fr hG hq2.1 (by decide +kernel))
    refine R_getR hC dX11_countOfPlan_40 fl_11_51 (by decide) rfl (by decide) (by decide) (fi := 8) rfl (r := 24) (gr_0_8 hG4) ?_
    refine R_iconst hC dX11_countOfPlan_43 ⟨by decide, by decide⟩ ?_
    refine R_callVp (as := [vI _]) hC dX11_countOfPlan_44 mo_6_space ml_11_216 (by decide) rfl rfl (c6_space  hG4 hSC3 (SP.I hSP) (by omega) hL0 (fun y a b => by omega)) rfl rfl hRm (by decide) (by decide) (Nat.le_of_ble_eq_true rfl) (fun v7 Mc5 hq6 => ?_)
    have hSC8 := SC.fr hSC3 hq6.1 (by decide) (by decide)
    have hFs : Fr [25, 26, 27, 28, 29, 30, 31, 32, 33, 34, 35, 37] [(24, 11), (24, 12), (24, 13), (36, 2), (36, 3), (0, 10)] M Mc5 := Fr.tt hFl (hq6.1.mo (by simp) (by simp))
    have hPs := hPl.fr hq6.1 (by decide +kernel)
    have hsp := SPC_n (SP.I hSP)
    refine R_istore_2 hC dX11_countOfPlan_47 rfl ?_
    refine R_iload_1 hC dX11_countOfPlan_48 ?_
    by_cases hsw5 : w = 5
    · skip
      refine R_lookup hC dX11_countOfPlan_49 (by decide) (off := 27) (by rw [hsw5]; rfl) (tgt := 76) (by decide) ?_
      refine R_iload_2 hC dX11_countOfPlan_76 ?_
      refine R_iconst hC dX11_countOfPlan_77 ⟨by decide, by decide⟩ ?_
      refine R_icmp_ne hC dX11_countOfPlan_78 (tgt := 85) (by decide) (fun hb78 => ?_) (fun hb78 => ?_)
      · skip
        refine R_iconst hC dX11_countOfPlan_85 ⟨by decide, by decide⟩ ?_
        exact R_ireturn hC dX11_countOfPlan_86 rfl (ret_P ⟨hFs, hPs, by
            refine ⟨?_, ?_, ?_, ?_⟩ <;> intro h <;> first | exact absurd h (by decide) | (exfalso; omega) | exact (bP_neg (hsp.mp (hq6.2.1.symm.trans hb78))).symm | exact (bP_pos (Classical.byContradiction (fun z => hb78 (hq6.2.1.trans (hsp.mpr z))))).symm⟩)
      · skip
        refine R_iconst hC dX11_countOfPlan_81 ⟨by decide, by decide⟩ ?_
        refine R_goto hC dX11_countOfPlan_82 (tgt := 86) (by decide) ?_
        exact R_ireturn hC dX11_countOfPlan_86 rfl (ret_P ⟨hFs, hPs, by
            refine ⟨?_, ?_, ?_, ?_⟩ <;> intro h <;> first | exact absurd h (by decide) | (exfalso; omega) | exact (bP_neg (hsp.mp (hq6.2.1.symm.trans hb78))).symm | exact (bP_pos (Classical.byContradiction (fun z => hb78 (hq6.2.1.trans (hsp.mpr z))))).symm⟩)
    by_cases hsw6 : w = 6
    · skip
      refine R_lookup hC dX11_countOfPlan_49 (by decide) (off := 38) (by rw [hsw6]; rfl) (tgt := 87) (by decide) ?_
      refine R_iload_2 hC dX11_countOfPlan_87 ?_
      exact R_ireturn hC dX11_countOfPlan_88 rfl (ret_P ⟨hFs, hPs, by
          refine ⟨?_, ?_, ?_, ?_⟩ <;> intro h <;> first | exact absurd h (by decide) | (exfalso; omega) | exact hq6.2.1⟩)
    refine R_lookup hC dX11_countOfPlan_49 (by decide) (off := 40) (by simp [Op.lookupswitch.offset]; rw [if_neg (Ne.symm hsw5), if_neg (Ne.symm hsw6)]) (tgt := 89) (by decide) ?_
    refine R_iload_2 hC dX11_countOfPlan_89 ?_
    refine R_iconst hC dX11_countOfPlan_90 ⟨by decide, by decide⟩ ?_
    refine R_icmp_ne hC dX11_countOfPlan_91 (tgt := 98) (by decide) (fun hb91 => ?_) (fun hb91 => ?_)
    · skip
      refine R_aload_0 hC dX11_countOfPlan_98 ?_
      have hG9 : GR Mc5 := (GR.fr hG4 hq6.1 (by decide +kernel))
      refine R_getR hC dX11_countOfPlan_99 fl_11_51 (by decide) rfl (by decide) (by decide) (fi := 8) rfl (r := 24) (gr_0_8 hG9) ?_
      refine R_callVq (as := []) hC dX11_countOfPlan_102 mo_6_copiesOfPlan ml_11_219 (by decide) rfl rfl (c6_copiesOfPlan  hG9 hSC8 (SP.I hSP) (fun h => hq6.2.2 (Classical.byContradiction (fun z => hb91 (hq6.2.1.trans (hsp.mpr z)))) h)) rfl rfl hRm (by decide) (by decide) (Nat.le_of_ble_eq_true rfl) ?_
      exact R_ireturn hC dX11_countOfPlan_105 rfl (ret_P ⟨hFs, hPs, by
          refine ⟨?_, ?_, ?_, ?_⟩ <;> intro h <;> first | exact absurd h (by decide) | (exfalso; omega) | exact (if_pos (hq6.2.1.symm.trans hb91)).symm | exact (if_neg (fun z => hb91 (hq6.2.1.trans z))).symm⟩)
    · skip
      refine R_iconst hC dX11_countOfPlan_94 ⟨by decide, by decide⟩ ?_
      refine R_goto hC dX11_countOfPlan_95 (tgt := 105) (by decide) ?_
      exact R_ireturn hC dX11_countOfPlan_105 rfl (ret_P ⟨hFs, hPs, by
          refine ⟨?_, ?_, ?_, ?_⟩ <;> intro h <;> first | exact absurd h (by decide) | (exfalso; omega) | exact (if_pos (hq6.2.1.symm.trans hb91)).symm | exact (if_neg (fun z => hb91 (hq6.2.1.trans z))).symm⟩)
  · skip
    refine R_aload_0 hC dX11_countOfPlan_6 ?_
    refine R_callVv (as := []) hC dX11_countOfPlan_7 mo_11_refreshPlan ml_11_207 (by decide) rfl rfl (c11_refreshPlan  hG hD hSP hFP) rfl rfl hRm (by decide) (by decide) (Nat.le_of_ble_eq_true rfl) (fun Mc10 hq11 => ?_)
    have hFp : Fr [25, 26, 27, 28, 29, 30, 31, 32, 33, 34, 35, 37] [(24, 11), (24, 12), (24, 13), (36, 2), (36, 3), (0, 10)] M Mc10 := hq11.1.mo (by simp) (by simp)
    refine R_aload_0 hC dX11_countOfPlan_10 ?_
    have hG12 : GR Mc10 := (GR.fr hG hq11.1 (by decide +kernel))
    refine R_getR hC dX11_countOfPlan_11 fl_11_60 (by decide) rfl (by decide) (by decide) (fi := 9) rfl (r := 36) (gr_0_9 hG12) ?_
    refine R_aload_0 hC dX11_countOfPlan_14 ?_
    refine R_getR hC dX11_countOfPlan_15 fl_11_23 (by decide) rfl (by decide) (by decide) (fi := 3) rfl (r := 2) (gr_0_3 hG12) ?_
    refine R_getR hC dX11_countOfPlan_18 fl_11_122 (by decide) rfl (by decide) (by decide) (fi := 0) rfl (r := 3) (gr_2_0 hG12) ?_
    have hr13 : Mc10 4 = d := ((hq11.1.row (by decide) (by decide)).trans hD)
    refine R_callVq (as := [vR _]) hC dX11_countOfPlan_21 mo_5_changes ml_11_210 (by decide) rfl rfl (c5_changes  hG12 ph_36 sh_3 hr13 hSP.B) rfl rfl hRm (by decide) (by decide) (Nat.le_of_ble_eq_true rfl) ?_
    exact R_ireturn hC dX11_countOfPlan_24 rfl (ret_P ⟨hFp, hq11.2.2, by
        refine ⟨?_, ?_, ?_, ?_⟩ <;> intro h <;> first | exact absurd h (by decide) | (exfalso; omega) | exact (by
          by_cases y : planI (insOf d)
          · rw [itc_t y, if_neg (fun z => (hq11.2.1.p).1 z y)]; exact chgs_c (hq11.2.1.2.1) hL1 hW1
          · rw [itc_f y, if_pos (Classical.byContradiction (fun z => y ((hq11.2.1.p).2 z)))])⟩)
theorem dX11_countOfShortage_0 : decode cX11_countOfShortage 0 = .ok (.aload_n 0, 1) := by decide +kernel
theorem dX11_countOfShortage_1 : decode cX11_countOfShortage 1 = .ok (.getfield 51, 3) := by decide +kernel
theorem dX11_countOfShortage_4 : decode cX11_countOfShortage 4 = .ok (.aload_n 0, 1) := by decide +kernel
theorem dX11_countOfShortage_5 : decode cX11_countOfShortage 5 = .ok (.getfield 23, 3) := by decide +kernel
theorem dX11_countOfShortage_8 : decode cX11_countOfShortage 8 = .ok (.getfield 122, 3) := by decide +kernel
theorem dX11_countOfShortage_11 : decode cX11_countOfShortage 11 = .ok (.invokevirtual 213, 3) := by decide +kernel
theorem dX11_countOfShortage_14 : decode cX11_countOfShortage 14 = .ok (.aload_n 0, 1) := by decide +kernel
theorem dX11_countOfShortage_15 : decode cX11_countOfShortage 15 = .ok (.getfield 51, 3) := by decide +kernel
theorem dX11_countOfShortage_18 : decode cX11_countOfShortage 18 = .ok (.invokevirtual 222, 3) := by decide +kernel
theorem dX11_countOfShortage_21 : decode cX11_countOfShortage 21 = .ok (.istore_n 2, 1) := by decide +kernel
theorem dX11_countOfShortage_22 : decode cX11_countOfShortage 22 = .ok (.iload_n 1, 1) := by decide +kernel
theorem dX11_countOfShortage_23 : decode cX11_countOfShortage 23 = .ok (.lookupswitch 36 #[(9, 25), (10, 34)], 25) := by decide +kernel
theorem dX11_countOfShortage_48 : decode cX11_countOfShortage 48 = .ok (.aload_n 0, 1) := by decide +kernel
theorem dX11_countOfShortage_49 : decode cX11_countOfShortage 49 = .ok (.getfield 51, 3) := by decide +kernel
theorem dX11_countOfShortage_52 : decode cX11_countOfShortage 52 = .ok (.iload_n 2, 1) := by decide +kernel
theorem dX11_countOfShortage_53 : decode cX11_countOfShortage 53 = .ok (.invokevirtual 225, 3) := by decide +kernel
theorem dX11_countOfShortage_56 : decode cX11_countOfShortage 56 = .ok (.ireturn, 1) := by decide +kernel
theorem dX11_countOfShortage_57 : decode cX11_countOfShortage 57 = .ok (.iload_n 2, 1) := by decide +kernel
theorem dX11_countOfShortage_58 : decode cX11_countOfShortage 58 = .ok (.ireturn, 1) := by decide +kernel
theorem dX11_countOfShortage_59 : decode cX11_countOfShortage 59 = .ok (.aload_n 0, 1) := by decide +kernel
theorem dX11_countOfShortage_60 : decode cX11_countOfShortage 60 = .ok (.getfield 51, 3) := by decide +kernel
theorem dX11_countOfShortage_63 : decode cX11_countOfShortage 63 = .ok (.iload_n 2, 1) := by decide +kernel
theorem dX11_countOfShortage_64 : decode cX11_countOfShortage 64 = .ok (.invokevirtual 228, 3) := by decide +kernel
theorem dX11_countOfShortage_67 : decode cX11_countOfShortage 67 = .ok (.ireturn, 1) := by decide +kernel
set_option maxHeartbeats 400000 in
theorem c11_countOfShortage {G : Gl} {l : Launch}  {M : Mem} {d : Int → Int} {w : Int} (hG : GR M) (hD : M 4 = d) (hSP : SP d) (hFP : FP M d) (hwS : w = 9 ∨ w = 10 ∨ w = 11) : Ct G LY 57 l 3 m11_countOfShortage [vR 0, vI w] M (RP (fun v M' => Fr [25, 26, 27, 28, 29, 30, 31, 32, 33, 34, 35, 37] [(24, 11), (24, 12), (24, 13), (36, 2), (36, 3), (0, 10)] M M' ∧ FP M' d ∧ (w = 9 → v = lackI (insOf d) (worst (insOf d))) ∧ (w = 10 → v = worst (insOf d)) ∧ (w = 11 → v = bits (d 122).toNat (fun w => spr d w < ss (fun x => offr d x w) (worst (insOf d)))))) := by
  refine R_start (by decide +kernel) (Nat.le_of_ble_eq_true rfl) (fun C hC hRm hlau => ?_)
  show RZ G LY C (Zn G LY 57 C (RP (fun v M' => Fr [25, 26, 27, 28, 29, 30, 31, 32, 33, 34, 35, 37] [(24, 11), (24, 12), (24, 13), (36, 2), (36, 3), (0, 10)] M M' ∧ FP M' d ∧ (w = 9 → v = lackI (insOf d) (worst (insOf d))) ∧ (w = 10 → v = worst (insOf d)) ∧ (w = 11 → v = bits (d 122).toNat (fun w => spr d w < ss (fun x => offr d x w) (worst (insOf d))))))) 0 0 57 0 [some (vR 0), some (vI w), none] [] M
  have hB9 := hSP.B
  have hL0 := hSP.1.1.1
  have hL1 := hSP.1.1.2
  have hW0 := hSP.1.2.1
  have hW1 := hSP.1.2.2
  refine R_aload_0 hC dX11_countOfShortage_0 ?_
  refine R_getR hC dX11_countOfShortage_1 fl_11_51 (by decide) rfl (by decide) (by decide) (fi := 8) rfl (r := 24) (gr_0_8 hG) ?_
  refine R_aload_0 hC dX11_countOfShortage_4 ?_
  refine R_getR hC dX11_countOfShortage_5 fl_11_23 (by decide) rfl (by decide) (by decide) (fi := 3) rfl (r := 2) (gr_0_3 hG) ?_
  refine R_getR hC dX11_countOfShortage_8 fl_11_122 (by decide) rfl (by decide) (by decide) (fi := 0) rfl (r := 3) (gr_2_0 hG) ?_
  refine R_callVv (as := [vR _]) hC dX11_countOfShortage_11 mo_6_load ml_11_213 (by decide) rfl rfl (c6_load  hG sh_3 hD hSP.B) rfl rfl hRm (by decide) (by decide) (Nat.le_of_ble_eq_true rfl) (fun Mc1 hq2 => ?_)
  have hSC3 := hq2.2
  have hFl : Fr [25, 26, 27, 28, 29, 30, 31, 32, 33, 34, 35, 37] [(24, 11), (24, 12), (24, 13), (36, 2), (36, 3), (0, 10)] M Mc1 := hq2.1.mo (by simp) (by simp)
  have hPl := hFP.fr hq2.1 (by decide +kernel)
  have hwb := (SP.I hSP).wb
  refine R_aload_0 hC dX11_countOfShortage_14 ?_
  have hG4 : GR Mc1 := (GR.fr hG hq2.1 (by decide +kernel))
  refine R_getR hC dX11_countOfShortage_15 fl_11_51 (by decide) rfl (by decide) (by decide) (fi := 8) rfl (r := 24) (gr_0_8 hG4) ?_
  refine R_callVq (as := []) hC dX11_countOfShortage_18 mo_6_worstSet ml_11_222 (by decide) rfl rfl (c6_worstSet  hG4 hSC3 (SP.I hSP)) rfl rfl hRm (by decide) (by decide) (Nat.le_of_ble_eq_true rfl) ?_
  have e18_5 := IB.wb (SP.I hSP)
  refine R_istore_2 hC dX11_countOfShortage_21 rfl ?_
  refine R_iload_1 hC dX11_countOfShortage_22 ?_
  by_cases hsw9 : w = 9
  · skip
    refine R_lookup hC dX11_countOfShortage_23 (by decide) (off := 25) (by rw [hsw9]; rfl) (tgt := 48) (by decide) ?_
    refine R_aload_0 hC dX11_countOfShortage_48 ?_
    refine R_getR hC dX11_countOfShortage_49 fl_11_51 (by decide) rfl (by decide) (by decide) (fi := 8) rfl (r := 24) (gr_0_8 hG4) ?_
    refine R_iload_2 hC dX11_countOfShortage_52 ?_
    refine R_callVq (as := [vI _]) hC dX11_countOfShortage_53 mo_6_lackOf ml_11_225 (by decide) rfl rfl (c6_lackOf  hG4 hSC3 (SP.I hSP) hwb.1 hwb.2) rfl rfl hRm (by decide) (by decide) (Nat.le_of_ble_eq_true rfl) ?_
    have e53_6 := IB.lk (t := (worst (insOf d))) (SP.I hSP) hwb.1 hwb.2
    exact R_ireturn hC dX11_countOfShortage_56 rfl (ret_P ⟨hFl, hPl, by
        refine ⟨?_, ?_, ?_⟩ <;> intro h <;> first | exact absurd h (by decide) | (exfalso; omega) | exact rfl⟩)
  by_cases hsw10 : w = 10
  · skip
    refine R_lookup hC dX11_countOfShortage_23 (by decide) (off := 34) (by rw [hsw10]; rfl) (tgt := 57) (by decide) ?_
    refine R_iload_2 hC dX11_countOfShortage_57 ?_
    exact R_ireturn hC dX11_countOfShortage_58 rfl (ret_P ⟨hFl, hPl, by
        refine ⟨?_, ?_, ?_⟩ <;> intro h <;> first | exact absurd h (by decide) | (exfalso; omega) | exact rfl⟩)
  refine R_lookup hC dX11_countOfShortage_23 (by decide) (off := 36) (by simp [Op.lookupswitch.offset]; rw [if_neg (Ne.symm hsw9), if_neg (Ne.symm hsw10)]) (tgt := 59) (by decide) ?_
  refine R_aload_0 hC dX11_countOfShortage_59 ?_
  refine R_getR hC dX11_countOfShortage_60 fl_11_51 (by decide) rfl (by decide) (by decide) (fi := 8) rfl (r := 24) (gr_0_8 hG4) ?_
  refine R_iload_2 hC dX11_countOfShortage_63 ?_
  refine R_callVq (as := [vI _]) hC dX11_countOfShortage_64 mo_6_scarceWorks ml_11_228 (by decide) rfl rfl (c6_scarceWorks  hG4 hSC3 (SP.I hSP) hwb.1 hwb.2) rfl rfl hRm (by decide) (by decide) (Nat.le_of_ble_eq_true rfl) ?_
  exact R_ireturn hC dX11_countOfShortage_67 rfl (ret_P ⟨hFl, hPl, by
      refine ⟨?_, ?_, ?_⟩ <;> intro h <;> first | exact absurd h (by decide) | (exfalso; omega) | exact rfl⟩)
theorem dX11_countOfDesk_0 : decode cX11_countOfDesk 0 = .ok (.iload_n 1, 1) := by decide +kernel
theorem dX11_countOfDesk_1 : decode cX11_countOfDesk 1 = .ok (.tableswitch 79 17 21 #[35, 46, 54, 59, 69], 35) := by decide +kernel
theorem dX11_countOfDesk_36 : decode cX11_countOfDesk 36 = .ok (.aload_n 0, 1) := by decide +kernel
theorem dX11_countOfDesk_37 : decode cX11_countOfDesk 37 = .ok (.getfield 23, 3) := by decide +kernel
theorem dX11_countOfDesk_40 : decode cX11_countOfDesk 40 = .ok (.getfield 129, 3) := by decide +kernel
theorem dX11_countOfDesk_43 : decode cX11_countOfDesk 43 = .ok (.getfield 231, 3) := by decide +kernel
theorem dX11_countOfDesk_46 : decode cX11_countOfDesk 46 = .ok (.ireturn, 1) := by decide +kernel
theorem dX11_countOfDesk_47 : decode cX11_countOfDesk 47 = .ok (.aload_n 0, 1) := by decide +kernel
theorem dX11_countOfDesk_48 : decode cX11_countOfDesk 48 = .ok (.getfield 23, 3) := by decide +kernel
theorem dX11_countOfDesk_51 : decode cX11_countOfDesk 51 = .ok (.getfield 138, 3) := by decide +kernel
theorem dX11_countOfDesk_54 : decode cX11_countOfDesk 54 = .ok (.ireturn, 1) := by decide +kernel
theorem dX11_countOfDesk_55 : decode cX11_countOfDesk 55 = .ok (.aload_n 0, 1) := by decide +kernel
theorem dX11_countOfDesk_56 : decode cX11_countOfDesk 56 = .ok (.getfield 13, 3) := by decide +kernel
theorem dX11_countOfDesk_59 : decode cX11_countOfDesk 59 = .ok (.ireturn, 1) := by decide +kernel
theorem dX11_countOfDesk_60 : decode cX11_countOfDesk 60 = .ok (.aload_n 0, 1) := by decide +kernel
theorem dX11_countOfDesk_61 : decode cX11_countOfDesk 61 = .ok (.getfield 23, 3) := by decide +kernel
theorem dX11_countOfDesk_64 : decode cX11_countOfDesk 64 = .ok (.getfield 118, 3) := by decide +kernel
theorem dX11_countOfDesk_67 : decode cX11_countOfDesk 67 = .ok (.iconst 0, 1) := by decide +kernel
theorem dX11_countOfDesk_68 : decode cX11_countOfDesk 68 = .ok (.iaload, 1) := by decide +kernel
theorem dX11_countOfDesk_69 : decode cX11_countOfDesk 69 = .ok (.ireturn, 1) := by decide +kernel
theorem dX11_countOfDesk_70 : decode cX11_countOfDesk 70 = .ok (.aload_n 0, 1) := by decide +kernel
theorem dX11_countOfDesk_71 : decode cX11_countOfDesk 71 = .ok (.getfield 23, 3) := by decide +kernel
theorem dX11_countOfDesk_74 : decode cX11_countOfDesk 74 = .ok (.getfield 118, 3) := by decide +kernel
theorem dX11_countOfDesk_77 : decode cX11_countOfDesk 77 = .ok (.iconst 1, 1) := by decide +kernel
theorem dX11_countOfDesk_78 : decode cX11_countOfDesk 78 = .ok (.iaload, 1) := by decide +kernel
theorem dX11_countOfDesk_79 : decode cX11_countOfDesk 79 = .ok (.ireturn, 1) := by decide +kernel
theorem dX11_countOfDesk_80 : decode cX11_countOfDesk 80 = .ok (.aload_n 0, 1) := by decide +kernel
theorem dX11_countOfDesk_81 : decode cX11_countOfDesk 81 = .ok (.getfield 23, 3) := by decide +kernel
theorem dX11_countOfDesk_84 : decode cX11_countOfDesk 84 = .ok (.getfield 118, 3) := by decide +kernel
theorem dX11_countOfDesk_87 : decode cX11_countOfDesk 87 = .ok (.iconst 2, 1) := by decide +kernel
theorem dX11_countOfDesk_88 : decode cX11_countOfDesk 88 = .ok (.iaload, 1) := by decide +kernel
theorem dX11_countOfDesk_89 : decode cX11_countOfDesk 89 = .ok (.ireturn, 1) := by decide +kernel
set_option maxHeartbeats 400000 in
theorem c11_countOfDesk {G : Gl} {l : Launch}  {M : Mem} {d : Int → Int} {w : Int} (hG : GR M) (hD : M 4 = d) (hSP : SP d) (hwS : 17 ≤ w ∧ w ≤ 22) : Ct G LY 57 l 0 m11_countOfDesk [vR 0, vI w] M (RP (fun v M' => Fr [] [] M M' ∧ (w = 17 → v = M 5 4) ∧ (w = 18 → v = M 2 3) ∧ (w = 19 → v = M 0 1) ∧ (w = 20 → v = M 10 0) ∧ (w = 21 → v = M 10 1) ∧ (w = 22 → v = M 10 2))) := by
  refine R_start (by decide +kernel) (Nat.le_of_ble_eq_true rfl) (fun C hC hRm hlau => ?_)
  show RZ G LY C (Zn G LY 57 C (RP (fun v M' => Fr [] [] M M' ∧ (w = 17 → v = M 5 4) ∧ (w = 18 → v = M 2 3) ∧ (w = 19 → v = M 0 1) ∧ (w = 20 → v = M 10 0) ∧ (w = 21 → v = M 10 1) ∧ (w = 22 → v = M 10 2)))) 0 0 57 0 [some (vR 0), some (vI w)] [] M
  have hB9 := hSP.B
  have hL0 := hSP.1.1.1
  have hL1 := hSP.1.1.2
  have hW0 := hSP.1.2.1
  have hW1 := hSP.1.2.2
  refine R_iload_1 hC dX11_countOfDesk_0 ?_
  by_cases hsw : w < 17 ∨ 21 < w
  · skip
    refine R_tableOut hC dX11_countOfDesk_1 hsw (tgt := 80) (by decide) ?_
    refine R_aload_0 hC dX11_countOfDesk_80 ?_
    refine R_getR hC dX11_countOfDesk_81 fl_11_23 (by decide) rfl (by decide) (by decide) (fi := 3) rfl (r := 2) (gr_0_3 hG) ?_
    refine R_getR hC dX11_countOfDesk_84 fl_11_118 (by decide) rfl (by decide) (by decide) (fi := 4) rfl (r := 10) (gr_2_4 hG) ?_
    refine R_iconst hC dX11_countOfDesk_87 ⟨by decide, by decide⟩ ?_
    refine R_iaload hC dX11_countOfDesk_88 (by decide) rfl (by omega) (by omega) ?_
    exact R_ireturn hC dX11_countOfDesk_89 rfl (ret_P ⟨Fr.rf, by
        refine ⟨?_, ?_, ?_, ?_, ?_, ?_⟩ <;> intro h <;> first | exact absurd h (by decide) | (exfalso; omega) | exact rfl⟩)
  have hsw2 : w = 17 ∨ w = 18 ∨ w = 19 ∨ w = 20 ∨ w = 21 := by omega
  rcases hsw2 with hsw2 | hsw2 | hsw2 | hsw2 | hsw2
  · skip
    subst hsw2
    refine R_tableIn hC dX11_countOfDesk_1 (off := 35) (by omega) (by omega) rfl (tgt := 36) (by decide) ?_
    refine R_aload_0 hC dX11_countOfDesk_36 ?_
    refine R_getR hC dX11_countOfDesk_37 fl_11_23 (by decide) rfl (by decide) (by decide) (fi := 3) rfl (r := 2) (gr_0_3 hG) ?_
    refine R_getR hC dX11_countOfDesk_40 fl_11_129 (by decide) rfl (by decide) (by decide) (fi := 1) rfl (r := 5) (gr_2_1 hG) ?_
    refine R_getI hC dX11_countOfDesk_43 fl_11_231 (by decide) rfl (by decide) (by decide) (fi := 4) rfl ?_
    exact R_ireturn hC dX11_countOfDesk_46 rfl (ret_P ⟨Fr.rf, by
        refine ⟨?_, ?_, ?_, ?_, ?_, ?_⟩ <;> intro h <;> first | exact absurd h (by decide) | (exfalso; omega) | exact rfl⟩)
  · skip
    subst hsw2
    refine R_tableIn hC dX11_countOfDesk_1 (off := 46) (by omega) (by omega) rfl (tgt := 47) (by decide) ?_
    refine R_aload_0 hC dX11_countOfDesk_47 ?_
    refine R_getR hC dX11_countOfDesk_48 fl_11_23 (by decide) rfl (by decide) (by decide) (fi := 3) rfl (r := 2) (gr_0_3 hG) ?_
    refine R_getI hC dX11_countOfDesk_51 fl_11_138 (by decide) rfl (by decide) (by decide) (fi := 3) rfl ?_
    exact R_ireturn hC dX11_countOfDesk_54 rfl (ret_P ⟨Fr.rf, by
        refine ⟨?_, ?_, ?_, ?_, ?_, ?_⟩ <;> intro h <;> first | exact absurd h (by decide) | (exfalso; omega) | exact rfl⟩)
  · skip
    subst hsw2
    refine R_tableIn hC dX11_countOfDesk_1 (off := 54) (by omega) (by omega) rfl (tgt := 55) (by decide) ?_
    refine R_aload_0 hC dX11_countOfDesk_55 ?_
    refine R_getI hC dX11_countOfDesk_56 fl_11_13 (by decide) rfl (by decide) (by decide) (fi := 1) rfl ?_
    exact R_ireturn hC dX11_countOfDesk_59 rfl (ret_P ⟨Fr.rf, by
        refine ⟨?_, ?_, ?_, ?_, ?_, ?_⟩ <;> intro h <;> first | exact absurd h (by decide) | (exfalso; omega) | exact rfl⟩)
  · skip
    subst hsw2
    refine R_tableIn hC dX11_countOfDesk_1 (off := 59) (by omega) (by omega) rfl (tgt := 60) (by decide) ?_
    refine R_aload_0 hC dX11_countOfDesk_60 ?_
    refine R_getR hC dX11_countOfDesk_61 fl_11_23 (by decide) rfl (by decide) (by decide) (fi := 3) rfl (r := 2) (gr_0_3 hG) ?_
    refine R_getR hC dX11_countOfDesk_64 fl_11_118 (by decide) rfl (by decide) (by decide) (fi := 4) rfl (r := 10) (gr_2_4 hG) ?_
    refine R_iconst hC dX11_countOfDesk_67 ⟨by decide, by decide⟩ ?_
    refine R_iaload hC dX11_countOfDesk_68 (by decide) rfl (by omega) (by omega) ?_
    exact R_ireturn hC dX11_countOfDesk_69 rfl (ret_P ⟨Fr.rf, by
        refine ⟨?_, ?_, ?_, ?_, ?_, ?_⟩ <;> intro h <;> first | exact absurd h (by decide) | (exfalso; omega) | exact rfl⟩)
  · skip
    subst hsw2
    refine R_tableIn hC dX11_countOfDesk_1 (off := 69) (by omega) (by omega) rfl (tgt := 70) (by decide) ?_
    refine R_aload_0 hC dX11_countOfDesk_70 ?_
    refine R_getR hC dX11_countOfDesk_71 fl_11_23 (by decide) rfl (by decide) (by decide) (fi := 3) rfl (r := 2) (gr_0_3 hG) ?_
    refine R_getR hC dX11_countOfDesk_74 fl_11_118 (by decide) rfl (by decide) (by decide) (fi := 4) rfl (r := 10) (gr_2_4 hG) ?_
    refine R_iconst hC dX11_countOfDesk_77 ⟨by decide, by decide⟩ ?_
    refine R_iaload hC dX11_countOfDesk_78 (by decide) rfl (by omega) (by omega) ?_
    exact R_ireturn hC dX11_countOfDesk_79 rfl (ret_P ⟨Fr.rf, by
        refine ⟨?_, ?_, ?_, ?_, ?_, ?_⟩ <;> intro h <;> first | exact absurd h (by decide) | (exfalso; omega) | exact rfl⟩)
theorem dX11_act_0 : decode cX11_act 0 = .ok (.aload_n 0, 1) := by decide +kernel
theorem dX11_act_1 : decode cX11_act 1 = .ok (.getfield 23, 3) := by decide +kernel
theorem dX11_act_4 : decode cX11_act 4 = .ok (.getfield 122, 3) := by decide +kernel
theorem dX11_act_7 : decode cX11_act 7 = .ok (.getfield 192, 3) := by decide +kernel
theorem dX11_act_10 : decode cX11_act 10 = .ok (.astore 5, 2) := by decide +kernel
theorem dX11_act_12 : decode cX11_act 12 = .ok (.iload_n 1, 1) := by decide +kernel
theorem dX11_act_13 : decode cX11_act 13 = .ok (.ifCond .lt 15, 3) := by decide +kernel
theorem dX11_act_16 : decode cX11_act 16 = .ok (.iload_n 1, 1) := by decide +kernel
theorem dX11_act_17 : decode cX11_act 17 = .ok (.bipush 123, 2) := by decide +kernel
theorem dX11_act_19 : decode cX11_act 19 = .ok (.if_icmp .ge 9, 3) := by decide +kernel
theorem dX11_act_22 : decode cX11_act 22 = .ok (.iload_n 3, 1) := by decide +kernel
theorem dX11_act_23 : decode cX11_act 23 = .ok (.bipush 123, 2) := by decide +kernel
theorem dX11_act_25 : decode cX11_act 25 = .ok (.if_icmp .lt 4, 3) := by decide +kernel
theorem dX11_act_28 : decode cX11_act 28 = .ok (.return_, 1) := by decide +kernel
theorem dX11_act_29 : decode cX11_act 29 = .ok (.aload_n 0, 1) := by decide +kernel
theorem dX11_act_30 : decode cX11_act 30 = .ok (.getfield 23, 3) := by decide +kernel
theorem dX11_act_33 : decode cX11_act 33 = .ok (.getfield 129, 3) := by decide +kernel
theorem dX11_act_36 : decode cX11_act 36 = .ok (.iload_n 1, 1) := by decide +kernel
theorem dX11_act_37 : decode cX11_act 37 = .ok (.aload 5, 2) := by decide +kernel
theorem dX11_act_39 : decode cX11_act 39 = .ok (.iload_n 1, 1) := by decide +kernel
theorem dX11_act_40 : decode cX11_act 40 = .ok (.iaload, 1) := by decide +kernel
theorem dX11_act_41 : decode cX11_act 41 = .ok (.iload_n 3, 1) := by decide +kernel
theorem dX11_act_42 : decode cX11_act 42 = .ok (.iload_n 3, 1) := by decide +kernel
theorem dX11_act_43 : decode cX11_act 43 = .ok (.ifCond .ge 7, 3) := by decide +kernel
theorem dX11_act_46 : decode cX11_act 46 = .ok (.iconst 0, 1) := by decide +kernel
theorem dX11_act_47 : decode cX11_act 47 = .ok (.goto 7, 3) := by decide +kernel
theorem dX11_act_50 : decode cX11_act 50 = .ok (.aload 5, 2) := by decide +kernel
theorem dX11_act_52 : decode cX11_act 52 = .ok (.iload_n 3, 1) := by decide +kernel
theorem dX11_act_53 : decode cX11_act 53 = .ok (.iaload, 1) := by decide +kernel
theorem dX11_act_54 : decode cX11_act 54 = .ok (.lconst 0, 1) := by decide +kernel
theorem dX11_act_55 : decode cX11_act 55 = .ok (.invokevirtual 381, 3) := by decide +kernel
theorem dX11_act_58 : decode cX11_act 58 = .ok (.aload 5, 2) := by decide +kernel
theorem dX11_act_60 : decode cX11_act 60 = .ok (.iload_n 1, 1) := by decide +kernel
theorem dX11_act_61 : decode cX11_act 61 = .ok (.iload_n 2, 1) := by decide +kernel
theorem dX11_act_62 : decode cX11_act 62 = .ok (.iastore, 1) := by decide +kernel
theorem dX11_act_63 : decode cX11_act 63 = .ok (.iload_n 3, 1) := by decide +kernel
theorem dX11_act_64 : decode cX11_act 64 = .ok (.ifCond .lt 9, 3) := by decide +kernel
theorem dX11_act_67 : decode cX11_act 67 = .ok (.aload 5, 2) := by decide +kernel
theorem dX11_act_69 : decode cX11_act 69 = .ok (.iload_n 3, 1) := by decide +kernel
theorem dX11_act_70 : decode cX11_act 70 = .ok (.iload 4, 2) := by decide +kernel
theorem dX11_act_72 : decode cX11_act 72 = .ok (.iastore, 1) := by decide +kernel
theorem dX11_act_73 : decode cX11_act 73 = .ok (.aload_n 0, 1) := by decide +kernel
theorem dX11_act_74 : decode cX11_act 74 = .ok (.iconst 0, 1) := by decide +kernel
theorem dX11_act_75 : decode cX11_act 75 = .ok (.putfield 64, 3) := by decide +kernel
theorem dX11_act_78 : decode cX11_act 78 = .ok (.return_, 1) := by decide +kernel
set_option maxHeartbeats 400000 in
theorem c11_act {G : Gl} {l : Launch}  {M : Mem} {d : Int → Int} {p v s u : Int} {f n : Int} (hG : GR M) (hD : M 4 = d) (hSP : SP d) (hf : M 5 3 = f) (hf0 : 0 ≤ f) (hf1 : f < 40) (hn : M 5 4 = n) (hn0 : 0 ≤ n) (hn1 : n ≤ 40) (hp0 : 0 ≤ p) (hp1 : p < 123) (hs1 : s < 123) : Ct G LY 57 l 2 m11_act [vR 0, vI p, vI v, vI s, vI u] M (RV (fun M' => Fr [4, 6, 7, 8] [(5, 3), (5, 4), (0, 10)] M M' ∧ GR M' ∧ M' 0 10 = 0 ∧ M' 4 = (if s < 0 then upd1 d p v else upd1 (upd1 d p v) s u) ∧ M' 5 3 = nfF f n ∧ M' 5 4 = nnF n + 1 ∧ M' 6 = upd1 (upd1 (M 6) (2 * (slt (nfF f n) (nnF n))) p) (2 * (slt (nfF f n) (nnF n)) + 1) s ∧ M' 7 = upd1 (upd1 (M 7) (2 * (slt (nfF f n) (nnF n))) (d p)) (2 * (slt (nfF f n) (nnF n)) + 1) (if s < 0 then 0 else d s) ∧ M' 8 = upd1 (M 8) (slt (nfF f n) (nnF n)) 0)) := by
  refine R_start (by decide +kernel) (Nat.le_of_ble_eq_true rfl) (fun C hC hRm hlau => ?_)
  show RZ G LY C (Zn G LY 57 C (RV (fun M' => Fr [4, 6, 7, 8] [(5, 3), (5, 4), (0, 10)] M M' ∧ GR M' ∧ M' 0 10 = 0 ∧ M' 4 = (if s < 0 then upd1 d p v else upd1 (upd1 d p v) s u) ∧ M' 5 3 = nfF f n ∧ M' 5 4 = nnF n + 1 ∧ M' 6 = upd1 (upd1 (M 6) (2 * (slt (nfF f n) (nnF n))) p) (2 * (slt (nfF f n) (nnF n)) + 1) s ∧ M' 7 = upd1 (upd1 (M 7) (2 * (slt (nfF f n) (nnF n))) (d p)) (2 * (slt (nfF f n) (nnF n)) + 1) (if s < 0 then 0 else d s) ∧ M' 8 = upd1 (M 8) (slt (nfF f n) (nnF n)) 0))) 0 0 57 0 [some (vR 0), some (vI p), some (vI v), some (vI s), some (vI u), none] [] M
  have hB9 := hSP.B
  have hL0 := hSP.1.1.1
  have hL1 := hSP.1.1.2
  have hW0 := hSP.1.2.1
  have hW1 := hSP.1.2.2
  refine R_aload_0 hC dX11_act_0 ?_
  refine R_getR hC dX11_act_1 fl_11_23 (by decide) rfl (by decide) (by decide) (fi := 3) rfl (r := 2) (gr_0_3 hG) ?_
  refine R_getR hC dX11_act_4 fl_11_122 (by decide) rfl (by decide) (by decide) (fi := 0) rfl (r := 3) (gr_2_0 hG) ?_
  refine R_getR hC dX11_act_7 fl_11_192 (by decide) rfl (by decide) (by decide) (fi := 0) rfl (r := 4) (gr_3_0 hG) ?_
  refine R_astore_5 hC dX11_act_10 rfl ?_
  refine R_iload_1 hC dX11_act_12 ?_
  refine R_if_lt hC dX11_act_13 (tgt := 28) (by decide) (fun hb13 => ?_) (fun hb13 => ?_)
  · skip
    exact R_return hC dX11_act_28 rfl (ret_V (by exfalso; omega))
  · skip
    refine R_iload_1 hC dX11_act_16 ?_
    refine R_bipush hC dX11_act_17 (by decide +kernel) ⟨by decide, by decide⟩ ?_
    refine R_icmp_ge hC dX11_act_19 (tgt := 28) (by decide) (fun hb19 => ?_) (fun hb19 => ?_)
    · skip
      exact R_return hC dX11_act_28 rfl (ret_V (by exfalso; omega))
    · skip
      refine R_iload_3 hC dX11_act_22 ?_
      refine R_bipush hC dX11_act_23 (by decide +kernel) ⟨by decide, by decide⟩ ?_
      refine R_icmp_lt hC dX11_act_25 (tgt := 29) (by decide) (fun hb25 => ?_) (fun hb25 => ?_)
      · skip
        refine R_aload_0 hC dX11_act_29 ?_
        refine R_getR hC dX11_act_30 fl_11_23 (by decide) rfl (by decide) (by decide) (fi := 3) rfl (r := 2) (gr_0_3 hG) ?_
        refine R_getR hC dX11_act_33 fl_11_129 (by decide) rfl (by decide) (by decide) (fi := 1) rfl (r := 5) (gr_2_1 hG) ?_
        refine R_iload_1 hC dX11_act_36 ?_
        refine R_aload_5 hC dX11_act_37 ?_
        refine R_iload_1 hC dX11_act_39 ?_
        refine R_ialoadE hC dX11_act_40 (by decide) rfl (by omega) (by omega) (congrFun hD _) ?_
        refine R_iload_3 hC dX11_act_41 ?_
        refine R_iload_3 hC dX11_act_42 ?_
        have L54 : ∀ (t : Int), (t = (if s < 0 then 0 else d s)) → RZ G LY C (Zn G LY 57 C (RV (fun M' => Fr [4, 6, 7, 8] [(5, 3), (5, 4), (0, 10)] M M' ∧ GR M' ∧ M' 0 10 = 0 ∧ M' 4 = (if s < 0 then upd1 d p v else upd1 (upd1 d p v) s u) ∧ M' 5 3 = nfF f n ∧ M' 5 4 = nnF n + 1 ∧ M' 6 = upd1 (upd1 (M 6) (2 * (slt (nfF f n) (nnF n))) p) (2 * (slt (nfF f n) (nnF n)) + 1) s ∧ M' 7 = upd1 (upd1 (M 7) (2 * (slt (nfF f n) (nnF n))) (d p)) (2 * (slt (nfF f n) (nnF n)) + 1) (if s < 0 then 0 else d s) ∧ M' 8 = upd1 (M 8) (slt (nfF f n) (nnF n)) 0))) 0 0 57 54 [some (vR 0), some (vI p), some (vI v), some (vI s), some (vI u), some (vR 4)] [vI t, vI s, vI (d p), vI p, vR 5] M := by
          intro t ht
          refine R_lconst hC dX11_act_54 ?_
          refine R_callVv (as := [vI _, vI _, vI _, vI _, vL _]) hC dX11_act_55 mo_0_add ml_11_381 (by decide) rfl rfl (c0_add  hG hf (by omega) (by omega) hn (by omega) (by omega)) rfl rfl hRm (by decide) (by decide) (Nat.le_of_ble_eq_true rfl) (fun Mc1 hq2 => ?_)
          have h6 := hq2.2.2.2.1
          have h7 := hq2.2.2.2.2.1
          have h8 := hq2.2.2.2.2.2
          rw [ht] at h7
          have hr3 : Mc1 4 = d := ((hq2.1.row (by decide) (by decide)).trans hD)
          have hw4x := hr3
          have hFa : Fr [4, 6, 7, 8] [(5, 3), (5, 4), (0, 10)] M Mc1 := hq2.1.mo (by simp) (by simp)
          refine R_aload_5 hC dX11_act_58 ?_
          refine R_iload_1 hC dX11_act_60 ?_
          refine R_iload_2 hC dX11_act_61 ?_
          refine R_iastore hC dX11_act_62 (by decide) rfl (by omega) (by omega) ?_
          have hr4 : (uM Mc1 4 p v) 4 = (upd1 d p v) := uM_row.trans (by rw [hw4x]; rfl)
          have hw4y := hr4
          refine R_iload_3 hC dX11_act_63 ?_
          refine R_if_lt hC dX11_act_64 (tgt := 73) (by decide) (fun hb64 => ?_) (fun hb64 => ?_)
          · skip
            refine R_aload_0 hC dX11_act_73 ?_
            refine R_iconst hC dX11_act_74 ⟨by decide, by decide⟩ ?_
            refine R_putZ hC dX11_act_75 fl_11_64 (by decide) rfl (by decide) (by decide) (.inl rfl) (fi := 10) rfl ?_
            have hG5 : GR (uM (uM Mc1 4 p v) 0 10 0) := (GR.uF (GR.uA (GR.fr hG hq2.1 (by decide +kernel)) (by decide +kernel) (.inr ⟨by omega, by omega⟩)) (by decide +kernel) (by decide))
            have hr6 : (uM (uM Mc1 4 p v) 0 10 0) 4 = (upd1 d p v) := ((uM_ne (by decide)).trans hr4)
            exact R_return hC dX11_act_78 rfl (ret_V ⟨Fr.uB (by first | exact Fr.uA hFa (by decide) | exact Fr.uA (Fr.uA hFa (by decide)) (by decide)) (by decide), hG5, uM_same, hr6.trans (by first | exact (if_pos hb64).symm | exact (if_neg (by omega)).symm), ((uM_h (by decide)).trans (uM_h (by decide))).trans hq2.2.1, ((uM_h (by decide)).trans (uM_h (by decide))).trans hq2.2.2.1, (funext fun j => ((uM_h (by decide)).trans (uM_h (by decide)))).trans h6, (funext fun j => ((uM_h (by decide)).trans (uM_h (by decide)))).trans h7, (funext fun j => ((uM_h (by decide)).trans (uM_h (by decide)))).trans h8⟩)
          · skip
            refine R_aload_5 hC dX11_act_67 ?_
            refine R_iload_3 hC dX11_act_69 ?_
            refine R_iload_4 hC dX11_act_70 ?_
            refine R_iastore hC dX11_act_72 (by decide) rfl (by omega) (by omega) ?_
            have hr7 : (uM (uM Mc1 4 p v) 4 s u) 4 = (upd1 (upd1 d p v) s u) := uM_row.trans (by rw [hw4y]; rfl)
            refine R_aload_0 hC dX11_act_73 ?_
            refine R_iconst hC dX11_act_74 ⟨by decide, by decide⟩ ?_
            refine R_putZ hC dX11_act_75 fl_11_64 (by decide) rfl (by decide) (by decide) (.inl rfl) (fi := 10) rfl ?_
            have hG8 : GR (uM (uM (uM Mc1 4 p v) 4 s u) 0 10 0) := (GR.uF (GR.uA (GR.uA (GR.fr hG hq2.1 (by decide +kernel)) (by decide +kernel) (.inr ⟨by omega, by omega⟩)) (by decide +kernel) (.inr ⟨by omega, by omega⟩)) (by decide +kernel) (by decide))
            have hr9 : (uM (uM (uM Mc1 4 p v) 4 s u) 0 10 0) 4 = (upd1 (upd1 d p v) s u) := ((uM_ne (by decide)).trans hr7)
            exact R_return hC dX11_act_78 rfl (ret_V ⟨Fr.uB (by first | exact Fr.uA hFa (by decide) | exact Fr.uA (Fr.uA hFa (by decide)) (by decide)) (by decide), hG8, uM_same, hr9.trans (by first | exact (if_pos hb64).symm | exact (if_neg (by omega)).symm), ((uM_h (by decide)).trans ((uM_h (by decide)).trans (uM_h (by decide)))).trans hq2.2.1, ((uM_h (by decide)).trans ((uM_h (by decide)).trans (uM_h (by decide)))).trans hq2.2.2.1, (funext fun j => ((uM_h (by decide)).trans ((uM_h (by decide)).trans (uM_h (by decide))))).trans h6, (funext fun j => ((uM_h (by decide)).trans ((uM_h (by decide)).trans (uM_h (by decide))))).trans h7, (funext fun j => ((uM_h (by decide)).trans ((uM_h (by decide)).trans (uM_h (by decide))))).trans h8⟩)
        refine R_if_ge hC dX11_act_43 (tgt := 50) (by decide) (fun hb43 => ?_) (fun hb43 => ?_)
        · skip
          refine R_aload_5 hC dX11_act_50 ?_
          refine R_iload_3 hC dX11_act_52 ?_
          refine R_ialoadE hC dX11_act_53 (by decide) rfl (by omega) (by omega) (congrFun hD _) ?_
          exact L54 _ (by first | exact (if_pos (by omega)).symm | exact (if_neg (by omega)).symm)
        · skip
          refine R_iconst hC dX11_act_46 ⟨by decide, by decide⟩ ?_
          refine R_goto hC dX11_act_47 (tgt := 54) (by decide) ?_
          exact L54 _ (by first | exact (if_pos (by omega)).symm | exact (if_neg (by omega)).symm)
      · skip
        exact R_return hC dX11_act_28 rfl (ret_V (by exfalso; omega))
