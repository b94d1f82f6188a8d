/-! the model's acts: what it keeps of the past -/
def slq (f i : Int) : Int := 228 + 114 * ((f + i) % 40)
def RNG (M : Mem) (n f : Int) (s : Int → Int → Int) : Prop := ((0 ≤ n ∧ n ≤ 40) ∧ 0 ≤ f ∧ f < 40) ∧ (M 57 7 = n ∧ M 57 8 = f) ∧ ∀ i, 0 ≤ i → i < n → RW M (slq f i) (s i)
def kpN (n : Int) : Int := if n = 40 then 40 else n + 1
def kpF (n f : Int) : Int := if n = 40 then (f + 1) % 40 else f
def kpS (n : Int) (s : Int → Int → Int) (c : Int → Int) : Int → Int → Int := fun i => if i = (if n = 40 then 39 else n) then c else if n = 40 then s (i + 1) else s i
/-- what lies behind the acts -/
def HI (M M' : Mem) : Prop := ∀ j : Int, 4788 ≤ j → M' 58 j = M 58 j
theorem HI.tr {M M1 M2 : Mem} (h : HI M M1) (g : HI M1 M2) : HI M M2 := fun j q => (g j q).trans (h j q)
theorem HI.u {M M1 : Mem} (h : HI M M1) {i v : Int} (e : i < 4788) : HI M (uM M1 58 i v) := fun j q => (uM_k (by omega)).trans (h j q)
theorem HI.h {M M1 : Mem} (h : HI M M1) {a : Nat} {i v : Int} (e : a ≠ 58) : HI M (uM M1 a i v) := fun j q => (uM_h (Ne.symm e)).trans (h j q)
theorem HI.rf {M : Mem} : HI M M := fun _ _ => rfl
theorem slq_b (f i : Int) : 228 ≤ slq f i ∧ slq f i + 114 ≤ 4788 := by unfold slq; omega
section RNGS
variable {M M' : Mem} {n f : Int} {s : Int → Int → Int} {c : Int → Int}
def rnOK (A : List Nat) (B : List (Nat × Int)) : Bool := troOK A B && B.all (fun q => !(q.1 == 57 && (q.2 == 7 || q.2 == 8)))
theorem RNG.of {A : List Nat} {B : List (Nat × Int)} (h : RNG M n f s) (hF : Fr A B M M') (ht : ∀ j : Int, 228 ≤ j → j < 4788 → M' 58 j = M 58 j) (e : rnOK A B = true) : RNG M' n f s := by
  unfold rnOK troOK at e
  simp only [Bool.and_eq_true, Bool.not_eq_true'] at e
  obtain ⟨⟨⟨e7, e9⟩, eB⟩, eC⟩ := e
  have nA : ∀ k : Nat, A.contains k = false → k ∉ A := fun k q z => by rw [List.contains_iff_mem.mpr z] at q; cases q
  have nB : ∀ (a : Nat) (j : Int), (!(a == 59) && !(a == 57 && (j == 5 || j == 6 || j == 14))) = false → (a, j) ∉ B := fun a j q z => by
    have := List.all_eq_true.mp eB _ z
    rw [q] at this
    cases this
  have nC : ∀ (a : Nat) (j : Int), (!(a == 57 && (j == 7 || j == 8))) = false → (a, j) ∉ B := fun a j q z => by
    have := List.all_eq_true.mp eC _ z
    rw [q] at this
    cases this
  refine ⟨h.1, ⟨(hF 57 7 (nA _ e7) (nC _ _ rfl)).trans h.2.1.1, (hF 57 8 (nA _ e7) (nC _ _ rfl)).trans h.2.1.2⟩, fun i i0 i1 => ?_⟩
  have b := slq_b f i
  exact ms_fr (fun j _ j1 => ht j (by omega) (by omega)) (fun j => hF 59 j (nA _ e9) (nB _ _ rfl)) (hF 57 14 (nA _ e7) (nB _ _ rfl)) (hF 57 5 (nA _ e7) (nB _ _ rfl)) (hF 57 6 (nA _ e7) (nB _ _ rfl)) (h.2.2 i i0 i1)
theorem RNG.u4 (h : RNG M n f s) {v : Int} : RNG (uM M 57 4 v) n f s := h.of (A := []) (B := [(57, 4)]) (Fr.uB Fr.rf (by decide)) (fun _ _ _ => uM_h (by decide)) (by decide)
theorem RNG.u8 (h : RNG M n f s) {i v : Int} (e : i < 228) : RNG (uM M 58 i v) n f s := h.of (A := [58]) (B := []) (Fr.uA Fr.rf (by decide)) (fun _ _ _ => uM_k (by omega)) (by decide)
theorem kp_ok {M1 : Mem} {n1 f1 : Int} (hK : RW M 0 c) (h : RNG M n f s) (hF : Fr [] [(57, 7), (57, 8)] M M1) (hn : M1 57 7 = n1) (hf : M1 57 8 = f1) (e : (n = 40 ∧ n1 = 39 ∧ f1 = (f + 1) % 40) ∨ (n ≠ 40 ∧ n1 = n ∧ f1 = f)) : Fr [58] [(57, 7), (57, 8)] M (uM (cpM M1 58 (slq f1 n1) 58 0 114) 57 7 (n1 + 1)) ∧ HI M (uM (cpM M1 58 (slq f1 n1) 58 0 114) 57 7 (n1 + 1)) ∧ RW (uM (cpM M1 58 (slq f1 n1) 58 0 114) 57 7 (n1 + 1)) 0 c ∧ RNG (uM (cpM M1 58 (slq f1 n1) 58 0 114) 57 7 (n1 + 1)) (kpN n) (kpF n f) (kpS n s c) := by
  have b1 := slq_b f1 n1
  have h58 : ∀ j, M1 58 j = M 58 j := fun j => hF 58 j (by simp) (by simp)
  have cpo : ∀ a j, ¬ (a = 58 ∧ slq f1 n1 ≤ j ∧ j < slq f1 n1 + 114) → cpM M1 58 (slq f1 n1) 58 0 114 a j = M1 a j := fun a j q => if_neg q
  have hbd := h.1
  have K1 : RW M1 0 c := ms_fr (fun j _ _ => h58 j) (fun j => hF 59 j (by simp) (by simp)) (hF 57 14 (by simp) (by simp)) (hF 57 5 (by simp) (by simp)) (hF 57 6 (by simp) (by simp)) hK
  refine ⟨fun a j p q => ?_, fun j q => ?_, ?_, ⟨?_, ⟨?_, ?_⟩, fun i i0 i1 => ?_⟩⟩
  · have n7 : ¬ (a = 57 ∧ j = 7) := fun z => q (by rw [z.1, z.2]; simp)
    have e1 : uM (cpM M1 58 (slq f1 n1) 58 0 114) 57 7 (n1 + 1) a j = cpM M1 58 (slq f1 n1) 58 0 114 a j := if_neg n7
    rw [e1, cpo a j (fun z => p (by rw [z.1]; simp))]
    exact hF a j (by simp) (fun z => q z)
  · rw [show uM (cpM M1 58 (slq f1 n1) 58 0 114) 57 7 (n1 + 1) 58 j = cpM M1 58 (slq f1 n1) 58 0 114 58 j from uM_h (by decide), cpo 58 j (by omega)]
    exact h58 j
  · exact (RW.cpo K1 (.inr (by omega))).uf (by decide)
  · unfold kpN kpF
    split
    · have := Int.emod_nonneg (f + 1) (show (40 : Int) ≠ 0 by decide); have := Int.emod_lt_of_pos (f + 1) (show (0 : Int) < 40 by decide); omega
    · omega
  · rw [uM_same]
    unfold kpN
    split <;> omega
  · rw [show uM (cpM M1 58 (slq f1 n1) 58 0 114) 57 7 (n1 + 1) 57 8 = cpM M1 58 (slq f1 n1) 58 0 114 57 8 from uM_k (by decide), cpo 57 8 (fun z => by cases z.1), hf]
    unfold kpF
    split <;> omega
  · have ef : kpF n f = f1 := by
      unfold kpF
      split <;> omega
    have en : kpN n = n1 + 1 := by
      unfold kpN
      split <;> omega
    have e9 : (if n = 40 then 39 else n) = n1 := by split <;> omega
    rw [ef]
    rw [en] at i1
    refine RW.uf ?_ (by decide)
    unfold kpS
    rw [e9]
    by_cases q : i = n1
    · rw [if_pos q, q]
      exact RW.cp K1 _
    · rw [if_neg q]
      refine RW.cpo ?_ (by unfold slq; omega)
      have z : RW M (slq f1 i) (if n = 40 then s (i + 1) else s i) := by
        by_cases y : n = 40
        · rw [if_pos y, show slq f1 i = slq f (i + 1) by unfold slq; omega]
          exact h.2.2 (i + 1) (by omega) (by omega)
        · rw [if_neg y, show slq f1 i = slq f i by unfold slq; omega]
          exact h.2.2 i i0 (by omega)
      exact ms_fr (fun j _ _ => h58 j) (fun j => hF 59 j (by simp) (by simp)) (hF 57 14 (by simp) (by simp)) (hF 57 5 (by simp) (by simp)) (hF 57 6 (by simp) (by simp)) (by
        have e : (if n = 40 then s (i + 1) else s i) = (if n = 40 then s (i + 1) else s i) := rfl
        exact z)
theorem RW.rm {b k i : Int} (h : RW M b c) (k0 : (0 ≤ k ∧ k < 10) ∨ (16 ≤ k ∧ k < 120)) (e : i = b + mj k) : M 58 i = c k := by
  by_cases q1 : k < 10
  · exact h.r1 (by omega) q1 (by rw [e, mj1 q1])
  by_cases q2 : k < 22
  · exact h.r2 (by omega) q2 (by rw [e, mj2 (by omega) q2]; omega)
  by_cases q3 : k < 28
  · exact h.r3 (by omega) q3 (by rw [e, mj3 (by omega) q3]; omega)
  by_cases q4 : k < 118
  · exact h.r4 (by omega) q4 (by rw [e, mj4 (by omega) q4]; omega)
  · exact h.r5 (by omega) (by omega) (by rw [e, mj5 (by omega)]; omega)
theorem mj_b {k : Int} (k0 : (0 ≤ k ∧ k < 10) ∨ (16 ≤ k ∧ k < 120)) : 0 ≤ mj k ∧ mj k < 114 := by
  unfold mj
  split
  · omega
  split
  · omega
  split
  · omega
  split <;> omega
end RNGS

theorem dX12_keptAt_0 : decode cX12_keptAt 0 = .ok (.sipush 228, 3) := by decide +kernel
theorem dX12_keptAt_3 : decode cX12_keptAt 3 = .ok (.bipush 114, 2) := by decide +kernel
theorem dX12_keptAt_5 : decode cX12_keptAt 5 = .ok (.iload_n 0, 1) := by decide +kernel
theorem dX12_keptAt_6 : decode cX12_keptAt 6 = .ok (.iload_n 1, 1) := by decide +kernel
theorem dX12_keptAt_7 : decode cX12_keptAt 7 = .ok (.iadd, 1) := by decide +kernel
theorem dX12_keptAt_8 : decode cX12_keptAt 8 = .ok (.bipush 40, 2) := by decide +kernel
theorem dX12_keptAt_10 : decode cX12_keptAt 10 = .ok (.irem, 1) := by decide +kernel
theorem dX12_keptAt_11 : decode cX12_keptAt 11 = .ok (.imul, 1) := by decide +kernel
theorem dX12_keptAt_12 : decode cX12_keptAt 12 = .ok (.iadd, 1) := by decide +kernel
theorem dX12_keptAt_13 : decode cX12_keptAt 13 = .ok (.ireturn, 1) := by decide +kernel
set_option maxHeartbeats 400000 in
theorem c12_keptAt {G : Gl} {l : Launch}  {M : Mem} {p q : Int} (hp0 : 0 ≤ p) (hp1 : p ≤ 100) (hq0 : 0 ≤ q) (hq1 : q ≤ 100) : Ct G LY 82 l 0 m12_keptAt [vI p, vI q] M (Ret (vI (slq p q)) M) := by
  refine R_start (by decide +kernel) (Nat.le_of_ble_eq_true rfl) (fun C hC hRm hlau => ?_)
  show RZ G LY C (Zn G LY 82 C (Ret (vI (slq p q)) M)) 0 0 82 0 [some (vI p), some (vI q)] [] M
  refine R_sipush hC dX12_keptAt_0 (by decide +kernel) ⟨by decide, by decide⟩ ?_
  refine R_bipush hC dX12_keptAt_3 (by decide +kernel) ⟨by decide, by decide⟩ ?_
  refine R_iload_0 hC dX12_keptAt_5 ?_
  refine R_iload_1 hC dX12_keptAt_6 ?_
  refine R_iadd hC dX12_keptAt_7 ⟨by omega, by omega⟩ ?_
  refine R_bipush hC dX12_keptAt_8 (by decide +kernel) ⟨by decide, by decide⟩ ?_
  refine R_irem hC dX12_keptAt_10 (by omega) (by omega) ?_
  refine R_imul hC dX12_keptAt_11 ⟨by omega, by omega⟩ ?_
  refine R_iadd hC dX12_keptAt_12 ⟨by omega, by omega⟩ ?_
  exact R_ireturn hC dX12_keptAt_13 rfl (ret_I (by unfold slq; rfl))
theorem dX12_refuses_0 : decode cX12_refuses 0 = .ok (.aload_n 0, 1) := by decide +kernel
theorem dX12_refuses_1 : decode cX12_refuses 1 = .ok (.getfield 19, 3) := by decide +kernel
theorem dX12_refuses_4 : decode cX12_refuses 4 = .ok (.iload_n 1, 1) := by decide +kernel
theorem dX12_refuses_5 : decode cX12_refuses 5 = .ok (.dup2, 1) := by decide +kernel
theorem dX12_refuses_6 : decode cX12_refuses 6 = .ok (.iaload, 1) := by decide +kernel
theorem dX12_refuses_7 : decode cX12_refuses 7 = .ok (.iconst 1, 1) := by decide +kernel
theorem dX12_refuses_8 : decode cX12_refuses 8 = .ok (.iadd, 1) := by decide +kernel
theorem dX12_refuses_9 : decode cX12_refuses 9 = .ok (.iastore, 1) := by decide +kernel
theorem dX12_refuses_10 : decode cX12_refuses 10 = .ok (.iconst (-1), 1) := by decide +kernel
theorem dX12_refuses_11 : decode cX12_refuses 11 = .ok (.ireturn, 1) := by decide +kernel
set_option maxHeartbeats 400000 in
theorem c12_refuses {G : Gl} {l : Launch}  {M : Mem} {k : Int} (hG : GR M) (hk0 : 0 ≤ k) (hk1 : k ≤ 2) (hr0 : 0 ≤ M 61 k) (hr1 : M 61 k ≤ 1000000000) : Ct G LY 82 l 0 m12_refuses [vR 57, vI k] M (RP (fun v M' => Fr [61] [] M M' ∧ M' = uM M 61 k (M 61 k + 1) ∧ v = -1)) := by
  refine R_start (by decide +kernel) (Nat.le_of_ble_eq_true rfl) (fun C hC hRm hlau => ?_)
  show RZ G LY C (Zn G LY 82 C (RP (fun v M' => Fr [61] [] M M' ∧ M' = uM M 61 k (M 61 k + 1) ∧ v = -1))) 0 0 82 0 [some (vR 57), some (vI k)] [] M
  refine R_aload_0 hC dX12_refuses_0 ?_
  refine R_getR hC dX12_refuses_1 fl_12_19 (by decide) rfl (by decide) (by decide) (fi := 3) rfl (r := 61) (gr_57_3 hG) ?_
  refine R_iload_1 hC dX12_refuses_4 ?_
  refine R_dup2 hC dX12_refuses_5 rfl rfl ?_
  refine R_iaload hC dX12_refuses_6 (by decide) rfl (by omega) (by omega) ?_
  refine R_iconst hC dX12_refuses_7 ⟨by decide, by decide⟩ ?_
  refine R_iadd hC dX12_refuses_8 ⟨by omega, by omega⟩ ?_
  refine R_iastore hC dX12_refuses_9 (by decide) rfl (by omega) (by omega) ?_
  refine R_iconst hC dX12_refuses_10 ⟨by decide, by decide⟩ ?_
  exact R_ireturn hC dX12_refuses_11 rfl (ret_P ⟨Fr.uA Fr.rf (by decide), rfl, rfl⟩)
theorem dX12_keeps_0 : decode cX12_keeps 0 = .ok (.aload_n 0, 1) := by decide +kernel
theorem dX12_keeps_1 : decode cX12_keeps 1 = .ok (.getfield 287, 3) := by decide +kernel
theorem dX12_keeps_4 : decode cX12_keeps 4 = .ok (.bipush 40, 2) := by decide +kernel
theorem dX12_keeps_6 : decode cX12_keeps 6 = .ok (.if_icmp .ne 26, 3) := by decide +kernel
theorem dX12_keeps_9 : decode cX12_keeps 9 = .ok (.aload_n 0, 1) := by decide +kernel
theorem dX12_keeps_10 : decode cX12_keeps 10 = .ok (.aload_n 0, 1) := by decide +kernel
theorem dX12_keeps_11 : decode cX12_keeps 11 = .ok (.getfield 284, 3) := by decide +kernel
theorem dX12_keeps_14 : decode cX12_keeps 14 = .ok (.iconst 1, 1) := by decide +kernel
theorem dX12_keeps_15 : decode cX12_keeps 15 = .ok (.iadd, 1) := by decide +kernel
theorem dX12_keeps_16 : decode cX12_keeps 16 = .ok (.bipush 40, 2) := by decide +kernel
theorem dX12_keeps_18 : decode cX12_keeps 18 = .ok (.irem, 1) := by decide +kernel
theorem dX12_keeps_19 : decode cX12_keeps 19 = .ok (.putfield 284, 3) := by decide +kernel
theorem dX12_keeps_22 : decode cX12_keeps 22 = .ok (.aload_n 0, 1) := by decide +kernel
theorem dX12_keeps_23 : decode cX12_keeps 23 = .ok (.dup, 1) := by decide +kernel
theorem dX12_keeps_24 : decode cX12_keeps 24 = .ok (.getfield 287, 3) := by decide +kernel
theorem dX12_keeps_27 : decode cX12_keeps 27 = .ok (.iconst 1, 1) := by decide +kernel
theorem dX12_keeps_28 : decode cX12_keeps 28 = .ok (.isub, 1) := by decide +kernel
theorem dX12_keeps_29 : decode cX12_keeps 29 = .ok (.putfield 287, 3) := by decide +kernel
theorem dX12_keeps_32 : decode cX12_keeps 32 = .ok (.aload_n 0, 1) := by decide +kernel
theorem dX12_keeps_33 : decode cX12_keeps 33 = .ok (.iconst 0, 1) := by decide +kernel
theorem dX12_keeps_34 : decode cX12_keeps 34 = .ok (.aload_n 0, 1) := by decide +kernel
theorem dX12_keeps_35 : decode cX12_keeps 35 = .ok (.getfield 284, 3) := by decide +kernel
theorem dX12_keeps_38 : decode cX12_keeps 38 = .ok (.aload_n 0, 1) := by decide +kernel
theorem dX12_keeps_39 : decode cX12_keeps 39 = .ok (.getfield 287, 3) := by decide +kernel
theorem dX12_keeps_42 : decode cX12_keeps 42 = .ok (.invokestatic 409, 3) := by decide +kernel
theorem dX12_keeps_45 : decode cX12_keeps 45 = .ok (.bipush 114, 2) := by decide +kernel
theorem dX12_keeps_47 : decode cX12_keeps 47 = .ok (.invokevirtual 290, 3) := by decide +kernel
theorem dX12_keeps_50 : decode cX12_keeps 50 = .ok (.aload_n 0, 1) := by decide +kernel
theorem dX12_keeps_51 : decode cX12_keeps 51 = .ok (.dup, 1) := by decide +kernel
theorem dX12_keeps_52 : decode cX12_keeps 52 = .ok (.getfield 287, 3) := by decide +kernel
theorem dX12_keeps_55 : decode cX12_keeps 55 = .ok (.iconst 1, 1) := by decide +kernel
theorem dX12_keeps_56 : decode cX12_keeps 56 = .ok (.iadd, 1) := by decide +kernel
theorem dX12_keeps_57 : decode cX12_keeps 57 = .ok (.putfield 287, 3) := by decide +kernel
theorem dX12_keeps_60 : decode cX12_keeps 60 = .ok (.return_, 1) := by decide +kernel
set_option maxHeartbeats 1000000 in
theorem c12_keeps {G : Gl} {l : Launch}  {M : Mem} {c : Int → Int} {rn rf : Int} {rs : Int → Int → Int} (hG : GR M) (hK : RW M 0 c) (hR : RNG M rn rf rs) : Ct G LY 82 l 1 m12_keeps [vR 57] M (RV (fun M' => Fr [58] [(57, 7), (57, 8)] M M' ∧ HI M M' ∧ RW M' 0 c ∧ RNG M' (kpN rn) (kpF rn rf) (kpS rn rs c))) := by
  refine R_start (by decide +kernel) (Nat.le_of_ble_eq_true rfl) (fun C hC hRm hlau => ?_)
  show RZ G LY C (Zn G LY 82 C (RV (fun M' => Fr [58] [(57, 7), (57, 8)] M M' ∧ HI M M' ∧ RW M' 0 c ∧ RNG M' (kpN rn) (kpF rn rf) (kpS rn rs c)))) 0 0 82 0 [some (vR 57)] [] M
  have hb1 := hR.1
  have h7 := hR.2.1.1
  have h8 := hR.2.1.2
  refine R_aload_0 hC dX12_keeps_0 ?_
  refine R_getIE hC dX12_keeps_1 fl_12_287 (by decide) rfl (by decide) (by decide) (fi := 7) rfl h7 ?_
  refine R_bipush hC dX12_keeps_4 (by decide +kernel) ⟨by decide, by decide⟩ ?_
  have L32 : ∀ (n1 : Int) (f1 : Int) (M1 : Mem), (GR M1) → (RW M1 0 c) → (Fr [] [(57, 7), (57, 8)] M M1) → (M1 57 7 = n1) → (M1 57 8 = f1) → ((rn = 40 ∧ n1 = 39 ∧ f1 = (rf + 1) % 40) ∨ (rn ≠ 40 ∧ n1 = rn ∧ f1 = rf)) → RZ G LY C (Zn G LY 82 C (RV (fun M' => Fr [58] [(57, 7), (57, 8)] M M' ∧ HI M M' ∧ RW M' 0 c ∧ RNG M' (kpN rn) (kpF rn rf) (kpS rn rs c)))) 0 0 82 32 [some (vR 57)] [] M1 := by
    intro n1 f1 M1 hg hk1 hF hn hf he
    have bs := slq_b f1 n1
    have bf := Int.emod_nonneg (rf + 1) (show (40 : Int) ≠ 0 by decide)
    have bg := Int.emod_lt_of_pos (rf + 1) (show (0 : Int) < 40 by decide)
    refine R_aload_0 hC dX12_keeps_32 ?_
    refine R_iconst hC dX12_keeps_33 ⟨by decide, by decide⟩ ?_
    refine R_aload_0 hC dX12_keeps_34 ?_
    refine R_getIE hC dX12_keeps_35 fl_12_284 (by decide) rfl (by decide) (by decide) (fi := 8) rfl hf ?_
    refine R_aload_0 hC dX12_keeps_38 ?_
    refine R_getIE hC dX12_keeps_39 fl_12_287 (by decide) rfl (by decide) (by decide) (fi := 7) rfl hn ?_
    refine R_callSq (as := [vI _, vI _]) hC dX12_keeps_42 mo_12_keptAt ml_12_409 (c12_keptAt  (by omega) (by omega) (by omega) (by omega)) rfl rfl hRm (by decide) (by decide) (Nat.le_of_ble_eq_true rfl) ?_
    refine R_bipush hC dX12_keeps_45 (by decide +kernel) ⟨by decide, by decide⟩ ?_
    refine R_callVv (as := [vI _, vI _, vI _]) hC dX12_keeps_47 mo_12_copies ml_12_290 (by decide) rfl rfl (c12_copies  hg (by omega) (by omega) (by omega) (by omega) (by omega) (by omega)) rfl rfl hRm (by decide) (by decide) (Nat.le_of_ble_eq_true rfl) (fun Mc1 hq2 => ?_)
    have hq52 : Mc1 57 7 = n1 := by (rw [hq2]; exact (if_neg (fun q => by cases q.1)).trans hn)
    have hz := kp_ok hK hR hF hn hf he
    rw [← hq2] at hz
    refine R_aload_0 hC dX12_keeps_50 ?_
    refine R_dup hC dX12_keeps_51 rfl ?_
    refine R_getIE hC dX12_keeps_52 fl_12_287 (by decide) rfl (by decide) (by decide) (fi := 7) rfl hq52 ?_
    refine R_iconst hC dX12_keeps_55 ⟨by decide, by decide⟩ ?_
    refine R_iadd hC dX12_keeps_56 ⟨by omega, by omega⟩ ?_
    refine R_putI hC dX12_keeps_57 fl_12_287 (by decide) rfl (by decide) (by decide) (fi := 7) rfl ?_
    exact R_return hC dX12_keeps_60 rfl (ret_V hz)
  refine R_icmp_ne hC dX12_keeps_6 (tgt := 32) (by decide) (fun hb6 => ?_) (fun hb6 => ?_)
  · skip
    exact L32 _ _ _ hG hK (by first | exact Fr.rf | exact Fr.uB (Fr.uB Fr.rf (by decide)) (by decide)) (by first | exact uM_same | exact h7) (by first | exact h8 | exact (uM_k (by decide)).trans uM_same) (by omega)
  · skip
    refine R_aload_0 hC dX12_keeps_9 ?_
    refine R_aload_0 hC dX12_keeps_10 ?_
    refine R_getIE hC dX12_keeps_11 fl_12_284 (by decide) rfl (by decide) (by decide) (fi := 8) rfl h8 ?_
    refine R_iconst hC dX12_keeps_14 ⟨by decide, by decide⟩ ?_
    refine R_iadd hC dX12_keeps_15 ⟨by omega, by omega⟩ ?_
    refine R_bipush hC dX12_keeps_16 (by decide +kernel) ⟨by decide, by decide⟩ ?_
    refine R_irem hC dX12_keeps_18 (by omega) (by omega) ?_
    refine R_putI hC dX12_keeps_19 fl_12_284 (by decide) rfl (by decide) (by decide) (fi := 8) rfl ?_
    refine R_aload_0 hC dX12_keeps_22 ?_
    refine R_dup hC dX12_keeps_23 rfl ?_
    refine R_getIE hC dX12_keeps_24 fl_12_287 (by decide) rfl (by decide) (by decide) (fi := 7) rfl ((uM_k (by decide)).trans h7) ?_
    refine R_iconst hC dX12_keeps_27 ⟨by decide, by decide⟩ ?_
    refine R_isub hC dX12_keeps_28 ⟨by omega, by omega⟩ ?_
    refine R_putI hC dX12_keeps_29 fl_12_287 (by decide) rfl (by decide) (by decide) (fi := 7) rfl ?_
    have hG3 : GR (uM (uM M 57 8 ((rf + 1) % 40)) 57 7 (rn - 1)) := (GR.uF (GR.uF hG (by decide +kernel) (by decide)) (by decide +kernel) (by decide))
    have hk4 : RW (uM (uM M 57 8 ((rf + 1) % 40)) 57 7 (rn - 1)) 0 c := (RW.uf (RW.uf hK (by decide)) (by decide))
    exact L32 _ _ _ hG3 hk4 (by first | exact Fr.rf | exact Fr.uB (Fr.uB Fr.rf (by decide)) (by decide)) (by first | exact uM_same | exact h7) (by first | exact h8 | exact (uM_k (by decide)).trans uM_same) (by omega)
