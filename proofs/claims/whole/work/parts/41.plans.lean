/-! changes: by pairs of works, and by sums -/
theorem bP_b (p : Prop) : 0 ≤ bP p ∧ bP p ≤ 1 := by rcases bP_01 p with z | z <;> rw [z] <;> exact ⟨by decide, by decide⟩
theorem bP_and (p q : Prop) : bP (p ∧ q) = bP p * bP q := by
  by_cases a : p
  · by_cases b : q
    · rw [bP_pos a, bP_pos b, bP_pos ⟨a, b⟩]; rfl
    · rw [bP_neg b, bP_neg (fun z => b z.2)]; simp
  · rw [bP_neg a, bP_neg (fun z => a z.1)]; simp
theorem ch_ij {T d : Int → Int} {a b : Int} : sm (d 122).toNat (fun i => sm (d 122).toNat (fun j => bP (i ≠ j ∧ mvP T d a b i ∧ mvP T d b a j))) = chg T d a b := by
  unfold chg
  have e : ∀ i : Int, 0 ≤ i → i < (d 122).toNat → sm (d 122).toNat (fun j => bP (i ≠ j ∧ mvP T d a b i ∧ mvP T d b a j)) = sm (d 122).toNat (fun j => bP (mvP T d b a j)) * bP (mvP T d a b i) - bP (mvP T d a b i ∧ mvP T d b a i) := by
    intro i i0 i1
    have s := sm_chg (f := fun j => bP (mvP T d a b i) * bP (mvP T d b a j)) (g := fun j => bP (i ≠ j ∧ mvP T d a b i ∧ mvP T d b a j)) (a := i) (d := - bP (mvP T d a b i ∧ mvP T d b a i)) _ i0 i1 (fun k _ _ ne => by
      rw [← bP_and]
      exact bP_iff ⟨fun z => z.2, fun z => ⟨Ne.symm ne, z⟩⟩) (by
      rw [bP_neg (fun z => z.1 rfl), ← bP_and]
      omega)
    rw [s, sm_mul, Int.mul_comm]
    omega
  rw [sm_congr _ e]
  have h1 := sm_add (fun i => sm (d 122).toNat (fun j => bP (mvP T d b a j)) * bP (mvP T d a b i) - bP (mvP T d a b i ∧ mvP T d b a i)) (fun i => bP (mvP T d a b i ∧ mvP T d b a i)) (d 122).toNat
  rw [sm_congr (g := fun i => sm (d 122).toNat (fun j => bP (mvP T d b a j)) * bP (mvP T d a b i)) _ (fun k _ _ => by omega), sm_mul] at h1
  rw [Int.mul_comm (sm _ fun w => bP (mvP T d a b w))]
  omega
theorem chgs_m {T d : Int → Int} (hL : 0 ≤ d 121) : sm (d 121).toNat (fun a => sm (d 121).toNat (fun b => if a < b then chg T d a b else 0)) = chgs T d := by
  unfold chgs
  rw [sm_swap]
  refine sm_congr _ (fun b b0 b1 => ?_)
  exact sm_cut (fun a => chg T d a b) b b0 _ (by omega)
theorem chI_bd {T d : Int → Int} (h : (0 ≤ d 121 ∧ d 121 ≤ 5) ∧ 0 ≤ d 122 ∧ d 122 ≤ 6) (a b : Int) : 0 ≤ (if a < b then chg T d a b else 0) ∧ (if a < b then chg T d a b else 0) ≤ 36 := by
  split
  · rw [← ch_ij]
    exact sm_bd2 (q := 6) 6 h.2.1 (fun k _ _ => sm_bd2 (q := 6) 1 h.2.1 (fun j _ _ => bP_b _) (by decide) h.2.2) (by decide) h.2.2
  · exact ⟨by decide, by decide⟩
theorem chS_bd {T d : Int → Int} {I : Ins} (_ : IB I) (h : (0 ≤ d 121 ∧ d 121 ≤ 5) ∧ 0 ≤ d 122 ∧ d 122 ≤ 6) (a : Int) : 0 ≤ sm (d 121).toNat (fun b => if a < b then chg T d a b else 0) ∧ sm (d 121).toNat (fun b => if a < b then chg T d a b else 0) ≤ 180 :=
  sm_bd2 (q := 5) 36 h.1.1 (fun k _ _ => chI_bd h a k) (by decide) h.1.2
section CHN
variable {T d : Int → Int} {a b i j : Int}
theorem ch_n1 (h : i = j) : ¬ (i ≠ j ∧ mvP T d a b i ∧ mvP T d b a j) := fun z => z.1 h
theorem ch_n2 (h : T (6 * a + i) ≤ 0) : ¬ (i ≠ j ∧ mvP T d a b i ∧ mvP T d b a j) := fun z => by
  have := z.2.1.1
  rw [show a * 6 + i = 6 * a + i by omega] at this
  omega
theorem ch_n3 (h : T (6 * b + j) ≤ 0) : ¬ (i ≠ j ∧ mvP T d a b i ∧ mvP T d b a j) := fun z => by
  have := z.2.2.1
  rw [show b * 6 + j = 6 * b + j by omega] at this
  omega
theorem ch_n4 (h : ¬ T (6 * a + j) < offr d a j) : ¬ (i ≠ j ∧ mvP T d a b i ∧ mvP T d b a j) := fun z => by
  have := z.2.2.2
  rw [show a * 6 + j = 6 * a + j by omega] at this
  exact h this
theorem ch_n5 (h : ¬ T (6 * b + i) < offr d b i) : ¬ (i ≠ j ∧ mvP T d a b i ∧ mvP T d b a j) := fun z => by
  have := z.2.1.2
  rw [show b * 6 + i = 6 * b + i by omega] at this
  exact h this
theorem ch_p (h1 : i ≠ j) (h2 : 0 < T (6 * a + i)) (h3 : 0 < T (6 * b + j)) (h4 : T (6 * a + j) < offr d a j) (h5 : T (6 * b + i) < offr d b i) : i ≠ j ∧ mvP T d a b i ∧ mvP T d b a j := by
  refine ⟨h1, ⟨?_, ?_⟩, ?_, ?_⟩
  · rw [show a * 6 + i = 6 * a + i by omega]; exact h2
  · rw [show b * 6 + i = 6 * b + i by omega]; exact h5
  · rw [show b * 6 + j = 6 * b + j by omega]; exact h3
  · rw [show a * 6 + j = 6 * a + j by omega]; exact h4
end CHN

theorem dX12_plans_0 : decode cX12_plans 0 = .ok (.aload_n 0, 1) := by decide +kernel
theorem dX12_plans_1 : decode cX12_plans 1 = .ok (.aload_n 0, 1) := by decide +kernel
theorem dX12_plans_2 : decode cX12_plans 2 = .ok (.iload_n 1, 1) := by decide +kernel
theorem dX12_plans_3 : decode cX12_plans 3 = .ok (.invokevirtual 172, 3) := by decide +kernel
theorem dX12_plans_6 : decode cX12_plans 6 = .ok (.putfield 175, 3) := by decide +kernel
theorem dX12_plans_9 : decode cX12_plans 9 = .ok (.iconst 0, 1) := by decide +kernel
theorem dX12_plans_10 : decode cX12_plans 10 = .ok (.istore_n 2, 1) := by decide +kernel
theorem dX12_plans_11 : decode cX12_plans 11 = .ok (.iload_n 2, 1) := by decide +kernel
theorem dX12_plans_12 : decode cX12_plans 12 = .ok (.bipush 30, 2) := by decide +kernel
theorem dX12_plans_14 : decode cX12_plans 14 = .ok (.if_icmp .ge 16, 3) := by decide +kernel
theorem dX12_plans_17 : decode cX12_plans 17 = .ok (.aload_n 0, 1) := by decide +kernel
theorem dX12_plans_18 : decode cX12_plans 18 = .ok (.getfield 56, 3) := by decide +kernel
theorem dX12_plans_21 : decode cX12_plans 21 = .ok (.iload_n 2, 1) := by decide +kernel
theorem dX12_plans_22 : decode cX12_plans 22 = .ok (.iconst 0, 1) := by decide +kernel
theorem dX12_plans_23 : decode cX12_plans 23 = .ok (.iastore, 1) := by decide +kernel
theorem dX12_plans_24 : decode cX12_plans 24 = .ok (.iinc 2 1, 3) := by decide +kernel
theorem dX12_plans_27 : decode cX12_plans 27 = .ok (.goto (-16), 3) := by decide +kernel
theorem dX12_plans_30 : decode cX12_plans 30 = .ok (.aload_n 0, 1) := by decide +kernel
theorem dX12_plans_31 : decode cX12_plans 31 = .ok (.getfield 175, 3) := by decide +kernel
theorem dX12_plans_34 : decode cX12_plans 34 = .ok (.iconst (-1), 1) := by decide +kernel
theorem dX12_plans_35 : decode cX12_plans 35 = .ok (.if_icmp .ne 5, 3) := by decide +kernel
theorem dX12_plans_38 : decode cX12_plans 38 = .ok (.iconst 0, 1) := by decide +kernel
theorem dX12_plans_39 : decode cX12_plans 39 = .ok (.ireturn, 1) := by decide +kernel
theorem dX12_plans_40 : decode cX12_plans 40 = .ok (.iconst 0, 1) := by decide +kernel
theorem dX12_plans_41 : decode cX12_plans 41 = .ok (.istore_n 2, 1) := by decide +kernel
theorem dX12_plans_42 : decode cX12_plans 42 = .ok (.iload_n 2, 1) := by decide +kernel
theorem dX12_plans_43 : decode cX12_plans 43 = .ok (.bipush 6, 2) := by decide +kernel
theorem dX12_plans_45 : decode cX12_plans 45 = .ok (.aload_n 0, 1) := by decide +kernel
theorem dX12_plans_46 : decode cX12_plans 46 = .ok (.getfield 105, 3) := by decide +kernel
theorem dX12_plans_49 : decode cX12_plans 49 = .ok (.imul, 1) := by decide +kernel
theorem dX12_plans_50 : decode cX12_plans 50 = .ok (.if_icmp .ge 60, 3) := by decide +kernel
theorem dX12_plans_53 : decode cX12_plans 53 = .ok (.iload_n 2, 1) := by decide +kernel
theorem dX12_plans_54 : decode cX12_plans 54 = .ok (.bipush 6, 2) := by decide +kernel
theorem dX12_plans_56 : decode cX12_plans 56 = .ok (.irem, 1) := by decide +kernel
theorem dX12_plans_57 : decode cX12_plans 57 = .ok (.aload_n 0, 1) := by decide +kernel
theorem dX12_plans_58 : decode cX12_plans 58 = .ok (.getfield 102, 3) := by decide +kernel
theorem dX12_plans_61 : decode cX12_plans 61 = .ok (.if_icmp .lt 6, 3) := by decide +kernel
theorem dX12_plans_64 : decode cX12_plans 64 = .ok (.goto 40, 3) := by decide +kernel
theorem dX12_plans_67 : decode cX12_plans 67 = .ok (.aload_n 0, 1) := by decide +kernel
theorem dX12_plans_68 : decode cX12_plans 68 = .ok (.iload_n 1, 1) := by decide +kernel
theorem dX12_plans_69 : decode cX12_plans 69 = .ok (.iload_n 2, 1) := by decide +kernel
theorem dX12_plans_70 : decode cX12_plans 70 = .ok (.bipush 6, 2) := by decide +kernel
theorem dX12_plans_72 : decode cX12_plans 72 = .ok (.idiv, 1) := by decide +kernel
theorem dX12_plans_73 : decode cX12_plans 73 = .ok (.iload_n 2, 1) := by decide +kernel
theorem dX12_plans_74 : decode cX12_plans 74 = .ok (.bipush 6, 2) := by decide +kernel
theorem dX12_plans_76 : decode cX12_plans 76 = .ok (.irem, 1) := by decide +kernel
theorem dX12_plans_77 : decode cX12_plans 77 = .ok (.invokevirtual 117, 3) := by decide +kernel
theorem dX12_plans_80 : decode cX12_plans 80 = .ok (.istore_n 3, 1) := by decide +kernel
theorem dX12_plans_81 : decode cX12_plans 81 = .ok (.aload_n 0, 1) := by decide +kernel
theorem dX12_plans_82 : decode cX12_plans 82 = .ok (.iload_n 1, 1) := by decide +kernel
theorem dX12_plans_83 : decode cX12_plans 83 = .ok (.iload_n 2, 1) := by decide +kernel
theorem dX12_plans_84 : decode cX12_plans 84 = .ok (.iload_n 3, 1) := by decide +kernel
theorem dX12_plans_85 : decode cX12_plans 85 = .ok (.invokevirtual 178, 3) := by decide +kernel
theorem dX12_plans_88 : decode cX12_plans 88 = .ok (.ifCond .ne 9, 3) := by decide +kernel
theorem dX12_plans_91 : decode cX12_plans 91 = .ok (.iinc 3 (-1), 3) := by decide +kernel
theorem dX12_plans_94 : decode cX12_plans 94 = .ok (.goto (-13), 3) := by decide +kernel
theorem dX12_plans_97 : decode cX12_plans 97 = .ok (.aload_n 0, 1) := by decide +kernel
theorem dX12_plans_98 : decode cX12_plans 98 = .ok (.getfield 56, 3) := by decide +kernel
theorem dX12_plans_101 : decode cX12_plans 101 = .ok (.iload_n 2, 1) := by decide +kernel
theorem dX12_plans_102 : decode cX12_plans 102 = .ok (.iload_n 3, 1) := by decide +kernel
theorem dX12_plans_103 : decode cX12_plans 103 = .ok (.iastore, 1) := by decide +kernel
theorem dX12_plans_104 : decode cX12_plans 104 = .ok (.iinc 2 1, 3) := by decide +kernel
theorem dX12_plans_107 : decode cX12_plans 107 = .ok (.goto (-65), 3) := by decide +kernel
theorem dX12_plans_110 : decode cX12_plans 110 = .ok (.iconst 1, 1) := by decide +kernel
theorem dX12_plans_111 : decode cX12_plans 111 = .ok (.ireturn, 1) := by decide +kernel
set_option maxHeartbeats 1000000 in
theorem c12_plans {G : Gl} {l : Launch}  {M : Mem} {b : Int} {c : Int → Int} (hG : GR M) (hK : RW M b c) (hb0 : 0 ≤ b) (hb1 : b ≤ 9686) (hM : SM c) : Ct G LY 82 l 7 m12_plans [vR 57, vI b] M (RP (fun v M' => Fr [63, 64, 65, 66, 67, 68, 69, 70, 71, 72] [(57, 22), (57, 23), (57, 30)] M M' ∧ v = bP (planI (insOf c)) ∧ ∀ q, 0 ≤ q → q < 30 → M' 72 q = plT (insOf c) q)) := by
  refine R_start (by decide +kernel) (Nat.le_of_ble_eq_true rfl) (fun C hC hRm hlau => ?_)
  show RZ G LY C (Zn G LY 82 C (RP (fun v M' => Fr [63, 64, 65, 66, 67, 68, 69, 70, 71, 72] [(57, 22), (57, 23), (57, 30)] M M' ∧ v = bP (planI (insOf c)) ∧ ∀ q, 0 ≤ q → q < 30 → M' 72 q = plT (insOf c) q))) 0 0 82 0 [some (vR 57), some (vI b), none, none] [] M
  have hI := hM.I
  have hL := hM.1.1
  have hW := hM.1.2
  refine R_aload_0 hC dX12_plans_0 ?_
  refine R_aload_0 hC dX12_plans_1 ?_
  refine R_iload_1 hC dX12_plans_2 ?_
  refine R_callVp (as := [vI _]) hC dX12_plans_3 mo_12_spaceOf ml_12_172 (by decide) rfl rfl (c12_spaceOf  hG hK (by omega) (by omega) hM) rfl rfl hRm (by decide) (by decide) (Nat.le_of_ble_eq_true rfl) (fun v3 Mc1 hq2 => ?_)
  have hF0 : Fr [63, 64, 65, 66, 67, 68, 69, 70, 71, 72] [(57, 22), (57, 23), (57, 30)] M Mc1 := hq2.1.mo (by simp) (by simp)
  rw [hq2.2]
  refine R_putI hC dX12_plans_6 fl_12_175 (by decide) rfl (by decide) (by decide) (fi := 30) rfl ?_
  refine R_iconst hC dX12_plans_9 ⟨by decide, by decide⟩ ?_
  refine R_istore_2 hC dX12_plans_10 rfl ?_
  have L11 : ∀ (mq : Nat) (i : Int) (M1 : Mem), (0 ≤ i) → (i ≤ 30) → (GR M1) → (Fr [63, 64, 65, 66, 67, 68, 69, 70, 71, 72] [(57, 22), (57, 23), (57, 30)] M M1) → (RW M1 b c) → (∀ q, 0 ≤ q → q < i → M1 72 q = 0) → (M1 57 30 = SPC (insOf c)) → (30 - i).toNat < mq → RZ G LY C (Zn G LY 82 C (RP (fun v M' => Fr [63, 64, 65, 66, 67, 68, 69, 70, 71, 72] [(57, 22), (57, 23), (57, 30)] M M' ∧ v = bP (planI (insOf c)) ∧ ∀ q, 0 ≤ q → q < 30 → M' 72 q = plT (insOf c) q))) 0 0 82 11 [some (vR 57), some (vI b), some (vI i), none] [] M1 := by
    intro mq
    induction mq with
    | zero =>
      intro i M1 hi0 hi1 hg hF hk1 h0 hs hm
      exact absurd hm (Nat.not_lt_zero _)
    | succ mq ih11 =>
      intro i M1 hi0 hi1 hg hF hk1 h0 hs hm11
      refine R_iload_2 hC dX12_plans_11 ?_
      refine R_bipush hC dX12_plans_12 (by decide +kernel) ⟨by decide, by decide⟩ ?_
      refine R_icmp_ge hC dX12_plans_14 (tgt := 30) (by decide) (fun hb14 => ?_) (fun hb14 => ?_)
      · skip
        refine R_aload_0 hC dX12_plans_30 ?_
        refine R_getI hC dX12_plans_31 fl_12_175 (by decide) rfl (by decide) (by decide) (fi := 30) rfl ?_
        refine R_iconst hC dX12_plans_34 ⟨by decide, by decide⟩ ?_
        refine R_icmp_ne hC dX12_plans_35 (tgt := 40) (by decide) (fun hb35 => ?_) (fun hb35 => ?_)
        · skip
          have hpl : planI (insOf c) := Classical.byContradiction (fun z => hb35 (hs.trans ((SPC_n hI).mpr z)))
          refine R_iconst hC dX12_plans_40 ⟨by decide, by decide⟩ ?_
          refine R_istore_2 hC dX12_plans_41 rfl ?_
          have L42 : ∀ (mq : Nat) (k : Int) (T : Int → Int) (M2 : Mem), (0 ≤ k) → (k ≤ 6 * c 121) → (GR M2) → (Fr [63, 64, 65, 66, 67, 68, 69, 70, 71, 72] [(57, 22), (57, 23), (57, 30)] M M2) → (RW M2 b c) → (M2 57 30 = SPC (insOf c)) → (PLE (insOf c) k T) → (∀ q, 0 ≤ q → q < 30 → M2 72 q = T q) → (6 * c 121 - k).toNat < mq → RZ G LY C (Zn G LY 82 C (RP (fun v M' => Fr [63, 64, 65, 66, 67, 68, 69, 70, 71, 72] [(57, 22), (57, 23), (57, 30)] M M' ∧ v = bP (planI (insOf c)) ∧ ∀ q, 0 ≤ q → q < 30 → M' 72 q = plT (insOf c) q))) 0 0 82 42 [some (vR 57), some (vI b), some (vI k), none] [] M2 := by
            intro mq
            induction mq with
            | zero =>
              intro k T M2 hk0 hkL hg2 hF2 hk2 hs2 hE hT hm
              exact absurd hm (Nat.not_lt_zero _)
            | succ mq ih42 =>
              intro k T M2 hk0 hkL hg2 hF2 hk2 hs2 hE hT hm42
              refine R_iload_2 hC dX12_plans_42 ?_
              refine R_bipush hC dX12_plans_43 (by decide +kernel) ⟨by decide, by decide⟩ ?_
              refine R_aload_0 hC dX12_plans_45 ?_
              refine R_getIE hC dX12_plans_46 fl_12_105 (by decide) rfl (by decide) (by decide) (fi := 5) rfl hk2.l ?_
              refine R_imul hC dX12_plans_49 ⟨by omega, by omega⟩ ?_
              refine R_icmp_ge hC dX12_plans_50 (tgt := 110) (by decide) (fun hb50 => ?_) (fun hb50 => ?_)
              · skip
                refine R_iconst hC dX12_plans_110 ⟨by decide, by decide⟩ ?_
                exact R_zreturn hC dX12_plans_111 rfl (.inr rfl) (ret_P ⟨hF2, (bP_pos hpl).symm, fun q a b => (hT q a b).trans (PLE.end hI hpl (by rw [show k = 6 * iL (insOf c) from (by show k = 6 * c 121; omega)] at hE; exact hE) q).symm⟩)
              · skip
                refine R_iload_2 hC dX12_plans_53 ?_
                refine R_bipush hC dX12_plans_54 (by decide +kernel) ⟨by decide, by decide⟩ ?_
                refine R_irem hC dX12_plans_56 (by omega) (by omega) ?_
                refine R_aload_0 hC dX12_plans_57 ?_
                refine R_getIE hC dX12_plans_58 fl_12_102 (by decide) rfl (by decide) (by decide) (fi := 6) rfl hk2.w ?_
                refine R_icmp_lt hC dX12_plans_61 (tgt := 67) (by decide) (fun hb61 => ?_) (fun hb61 => ?_)
                · skip
                  refine R_aload_0 hC dX12_plans_67 ?_
                  refine R_iload_1 hC dX12_plans_68 ?_
                  refine R_iload_2 hC dX12_plans_69 ?_
                  refine R_bipush hC dX12_plans_70 (by decide +kernel) ⟨by decide, by decide⟩ ?_
                  refine R_idiv hC dX12_plans_72 (by omega) (by omega) ?_
                  refine R_iload_2 hC dX12_plans_73 ?_
                  refine R_bipush hC dX12_plans_74 (by decide +kernel) ⟨by decide, by decide⟩ ?_
                  refine R_irem hC dX12_plans_76 (by omega) (by omega) ?_
                  refine R_callVq (as := [vI _, vI _, vI _]) hC dX12_plans_77 mo_12_offerOf ml_12_117 (by decide) rfl rfl (c12_offerOf  hg2 hk2 (by omega) (by omega) (by omega) (by omega) (by omega) (by omega) hM) rfl rfl hRm (by decide) (by decide) (Nat.le_of_ble_eq_true rfl) ?_
                  have e77_4 := (hM).off (x := (k / 6)) (w := (k % 6)) (by omega) (by omega) (by omega) (by omega)
                  refine R_istore_3 hC dX12_plans_80 rfl ?_
                  have L81 : ∀ (mq : Nat) (n : Int) (M3 : Mem), (0 ≤ n) → (n ≤ offr c (k / 6) (k % 6)) → (GR M3) → (Fr [63, 64, 65, 66, 67, 68, 69, 70, 71, 72] [(57, 22), (57, 23), (57, 30)] M M3) → (RW M3 b c) → (M3 57 30 = SPC (insOf c)) → (∀ q, 0 ≤ q → q < 30 → q ≠ k → M3 72 q = T q) → (∀ m, n < m → m ≤ offr c (k / 6) (k % 6) → ¬ gdS (insOf c) T k m) → (n).toNat < mq → RZ G LY C (Zn G LY 82 C (RP (fun v M' => Fr [63, 64, 65, 66, 67, 68, 69, 70, 71, 72] [(57, 22), (57, 23), (57, 30)] M M' ∧ v = bP (planI (insOf c)) ∧ ∀ q, 0 ≤ q → q < 30 → M' 72 q = plT (insOf c) q))) 0 0 82 81 [some (vR 57), some (vI b), some (vI k), some (vI n)] [] M3 := by
                    intro mq
                    induction mq with
                    | zero =>
                      intro n M3 hn0 hn1 hg3 hF3 hk3 hs3 hT3 hm hm
                      exact absurd hm (Nat.not_lt_zero _)
                    | succ mq ih81 =>
                      intro n M3 hn0 hn1 hg3 hF3 hk3 hs3 hT3 hm hm81
                      have bo : 0 ≤ offr c (k / 6) (k % 6) ∧ offr c (k / 6) (k % 6) ≤ 3 := hI.2.2.1 (k / 6) (k % 6) (by omega) (show k / 6 < c 121 by omega) (by omega) (show k % 6 < c 122 by omega)
                      refine R_aload_0 hC dX12_plans_81 ?_
                      refine R_iload_1 hC dX12_plans_82 ?_
                      refine R_iload_2 hC dX12_plans_83 ?_
                      refine R_iload_3 hC dX12_plans_84 ?_
                      refine R_callVp (as := [vI _, vI _, vI _]) hC dX12_plans_85 mo_12_canSettle ml_12_178 (by decide) rfl rfl (c12_canSettle  hg3 hk3 (by omega) (by omega) hM (fun q a b => hT3 q a (by omega) (by omega)) ((hE.f hI hk0).1) ((hE.f hI hk0).2.1) (by omega) (by omega) (by omega) (by omega) (by omega) (by omega) hs3) rfl rfl hRm (by decide) (by decide) (Nat.le_of_ble_eq_true rfl) (fun v7 Mc5 hq6 => ?_)
                      have hF4 : Fr [63, 64, 65, 66, 67, 68, 69, 70, 71, 72] [(57, 22), (57, 23), (57, 30)] M Mc5 := Fr.tt hF3 (hq6.1.mo (by simp) (by simp))
                      have hs4 : Mc5 57 30 = SPC (insOf c) := (hq6.1 57 30 (by decide) (by decide)).trans hs3
                      have h74 : ∀ q, 0 ≤ q → q < 30 → q ≠ k → Mc5 72 q = T q := fun q a b ne => (hq6.2.1 q ne).trans (hT3 q a b ne)
                      have hq4 := hq6.2.2
                      refine R_if_ne hC dX12_plans_88 (tgt := 97) (by decide) (fun hb88 => ?_) (fun hb88 => ?_)
                      · skip
                        have hyes := bP_nz (fun z => hb88 (hq4.trans z))
                        refine R_aload_0 hC dX12_plans_97 ?_
                        have hG8 : GR Mc5 := (GR.fr hg3 hq6.1 (by decide +kernel))
                        refine R_getR hC dX12_plans_98 fl_12_56 (by decide) rfl (by decide) (by decide) (fi := 29) rfl (r := 72) (gr_57_29 hG8) ?_
                        refine R_iload_2 hC dX12_plans_101 ?_
                        refine R_iload_3 hC dX12_plans_102 ?_
                        refine R_iastore hC dX12_plans_103 (by decide) rfl (by omega) (by omega) ?_
                        have hFn : Fr [63, 64, 65, 66, 67, 68, 69, 70, 71, 72] [(57, 22), (57, 23), (57, 30)] M (uM Mc5 72 k n) := Fr.uA hF4 (by decide)
                        have hsn : (uM Mc5 72 k n) 57 30 = SPC (insOf c) := (uM_h (by decide)).trans hs4
                        have hEn : PLE (insOf c) (k + 1) (up T k n) := hE.step hI hk0 ⟨(show k / 6 < c 121 by omega), (show k % 6 < c 122 by omega)⟩ hn0 hn1 hyes hm
                        have hTn : ∀ q, 0 ≤ q → q < 30 → (uM Mc5 72 k n) 72 q = up T k n q := fun q a b => by
                          by_cases e : q = k
                          · rw [e, uM_same, up_same]
                          · rw [uM_k e, up_ne e]; exact h74 q a b e
                        refine R_iinc_2 hC dX12_plans_104 rfl ⟨by omega, by omega⟩ ?_
                        refine R_goto hC dX12_plans_107 (tgt := 42) (by decide) ?_
                        refine R_weak (subL_c (subL_c (subL_c (subL_d subL_n)))) ?_
                        have hG9 : GR (uM Mc5 72 k n) := (GR.uA hG8 (by decide +kernel) (.inl (by decide)))
                        have hk10 : RW (uM Mc5 72 k n) b c := (RW.u (RW.fr hk3 hq6.1 (by decide +kernel)) (by decide))
                        exact ih42 _ _ _ (by omega) (by omega) hG9 hFn hk10 hsn hEn hTn (by omega)
                      · skip
                        have hno := bP_z (hq4.symm.trans hb88)
                        have hn9 : n ≠ 0 := fun z => hno (.inl z)
                        have hmn : ∀ m, n - 1 < m → m ≤ offr c (k / 6) (k % 6) → ¬ gdS (insOf c) T k m := fun m a b g => by
                          by_cases e : m = n
                          · exact hno (.inr (e ▸ g))
                          · exact hm m (by omega) b g
                        refine R_iinc_3 hC dX12_plans_91 rfl ⟨by omega, by omega⟩ ?_
                        refine R_goto hC dX12_plans_94 (tgt := 81) (by decide) ?_
                        have hG11 : GR Mc5 := (GR.fr hg3 hq6.1 (by decide +kernel))
                        have hk12 : RW Mc5 b c := (RW.fr hk3 hq6.1 (by decide +kernel))
                        exact ih81 _ _ (by omega) (by omega) hG11 hF4 hk12 hs4 h74 hmn (by omega)
                  have bo := hI.2.2.1 (k / 6) (k % 6) (by omega) (show k / 6 < c 121 by omega) (by omega) (show k % 6 < c 122 by omega)
                  have bo : 0 ≤ offr c (k / 6) (k % 6) ∧ offr c (k / 6) (k % 6) ≤ 3 := bo
                  exact L81 _ _ _ (by omega) (by omega) hg2 hF2 hk2 hs2 (fun q a b _ => hT q a b) (fun m a b => by omega) (Nat.lt_succ_self _)
                · skip
                  have hFn := hF2
                  have hsn := hs2
                  have hEn := hE.skip hI hk0 (show k / 6 < c 121 by omega) (show c 122 ≤ k % 6 by omega)
                  have hTn := hT
                  refine R_goto hC dX12_plans_64 (tgt := 104) (by decide) ?_
                  refine R_iinc_2 hC dX12_plans_104 rfl ⟨by omega, by omega⟩ ?_
                  refine R_goto hC dX12_plans_107 (tgt := 42) (by decide) ?_
                  exact ih42 _ _ _ (by omega) (by omega) hg2 hFn hk2 hsn hEn hTn (by omega)
          exact L42 _ _ (fun _ => 0) _ (by omega) (by omega) hg hF hk1 hs (PLE.start hI hpl) (fun q a b => h0 q a (by omega)) (Nat.lt_succ_self _)
        · skip
          have hnp := (SPC_n hI).mp (hs.symm.trans hb35)
          refine R_iconst hC dX12_plans_38 ⟨by decide, by decide⟩ ?_
          exact R_zreturn hC dX12_plans_39 rfl (.inl rfl) (ret_P ⟨hF, (bP_neg hnp).symm, fun q a b => by
                unfold plT
                rw [if_neg hnp]
                exact h0 q a (by omega)⟩)
      · skip
        refine R_aload_0 hC dX12_plans_17 ?_
        refine R_getR hC dX12_plans_18 fl_12_56 (by decide) rfl (by decide) (by decide) (fi := 29) rfl (r := 72) (gr_57_29 hg) ?_
        refine R_iload_2 hC dX12_plans_21 ?_
        refine R_iconst hC dX12_plans_22 ⟨by decide, by decide⟩ ?_
        refine R_iastore hC dX12_plans_23 (by decide) rfl (by omega) (by omega) ?_
        refine R_iinc_2 hC dX12_plans_24 rfl ⟨by omega, by omega⟩ ?_
        refine R_goto hC dX12_plans_27 (tgt := 11) (by decide) ?_
        have hG13 : GR (uM M1 72 i 0) := (GR.uA hg (by decide +kernel) (.inl (by decide)))
        have hk14 : RW (uM M1 72 i 0) b c := (RW.u hk1 (by decide))
        exact ih11 _ _ (by omega) (by omega) hG13 (Fr.uA hF (by decide)) hk14 (row_set h0 rfl rfl) ((uM_h (by decide)).trans hs) (by omega)
  have hG15 : GR (uM Mc1 57 30 (SPC (insOf c))) := (GR.uF (GR.fr hG hq2.1 (by decide +kernel)) (by decide +kernel) (by decide))
  have hk16 : RW (uM Mc1 57 30 (SPC (insOf c))) b c := (RW.uf (RW.fr hK hq2.1 (by decide +kernel)) (by decide))
  exact L11 _ _ _ (by omega) (by omega) hG15 (Fr.uB hF0 (by decide)) hk16 (fun q a b => by omega) uM_same (Nat.lt_succ_self _)
theorem dX12_plannedBy_0 : decode cX12_plannedBy 0 = .ok (.iconst 0, 1) := by decide +kernel
theorem dX12_plannedBy_1 : decode cX12_plannedBy 1 = .ok (.istore_n 2, 1) := by decide +kernel
theorem dX12_plannedBy_2 : decode cX12_plannedBy 2 = .ok (.iconst 0, 1) := by decide +kernel
theorem dX12_plannedBy_3 : decode cX12_plannedBy 3 = .ok (.istore_n 3, 1) := by decide +kernel
theorem dX12_plannedBy_4 : decode cX12_plannedBy 4 = .ok (.iload_n 3, 1) := by decide +kernel
theorem dX12_plannedBy_5 : decode cX12_plannedBy 5 = .ok (.aload_n 0, 1) := by decide +kernel
theorem dX12_plannedBy_6 : decode cX12_plannedBy 6 = .ok (.getfield 102, 3) := by decide +kernel
theorem dX12_plannedBy_9 : decode cX12_plannedBy 9 = .ok (.if_icmp .ge 22, 3) := by decide +kernel
theorem dX12_plannedBy_12 : decode cX12_plannedBy 12 = .ok (.iload_n 2, 1) := by decide +kernel
theorem dX12_plannedBy_13 : decode cX12_plannedBy 13 = .ok (.aload_n 0, 1) := by decide +kernel
theorem dX12_plannedBy_14 : decode cX12_plannedBy 14 = .ok (.getfield 56, 3) := by decide +kernel
theorem dX12_plannedBy_17 : decode cX12_plannedBy 17 = .ok (.iload_n 1, 1) := by decide +kernel
theorem dX12_plannedBy_18 : decode cX12_plannedBy 18 = .ok (.iload_n 3, 1) := by decide +kernel
theorem dX12_plannedBy_19 : decode cX12_plannedBy 19 = .ok (.invokestatic 87, 3) := by decide +kernel
theorem dX12_plannedBy_22 : decode cX12_plannedBy 22 = .ok (.iaload, 1) := by decide +kernel
theorem dX12_plannedBy_23 : decode cX12_plannedBy 23 = .ok (.iadd, 1) := by decide +kernel
theorem dX12_plannedBy_24 : decode cX12_plannedBy 24 = .ok (.istore_n 2, 1) := by decide +kernel
theorem dX12_plannedBy_25 : decode cX12_plannedBy 25 = .ok (.iinc 3 1, 3) := by decide +kernel
theorem dX12_plannedBy_28 : decode cX12_plannedBy 28 = .ok (.goto (-24), 3) := by decide +kernel
theorem dX12_plannedBy_31 : decode cX12_plannedBy 31 = .ok (.iload_n 2, 1) := by decide +kernel
theorem dX12_plannedBy_32 : decode cX12_plannedBy 32 = .ok (.ireturn, 1) := by decide +kernel
set_option maxHeartbeats 400000 in
theorem c12_plannedBy {G : Gl} {l : Launch}  {M : Mem} {z : Int} {c P : Int → Int} {x : Int} (hG : GR M) (hK : RW M z c) (hM : SM c) (hP : ∀ q, 0 ≤ q → q < 30 → M 72 q = P q) (hP3 : ∀ q, 0 ≤ q → 0 ≤ P q ∧ P q ≤ 3) (hx0 : 0 ≤ x) (hx1 : x < 5) : Ct G LY 82 l 1 m12_plannedBy [vR 57, vI x] M (Ret (vI (sm (c 122).toNat (fun w => P (6 * x + w)))) M) := by
  refine R_start (by decide +kernel) (Nat.le_of_ble_eq_true rfl) (fun C hC hRm hlau => ?_)
  show RZ G LY C (Zn G LY 82 C (Ret (vI (sm (c 122).toNat (fun w => P (6 * x + w)))) M)) 0 0 82 0 [some (vR 57), some (vI x), none, none] [] M
  have hL := hM.1.1
  have hW := hM.1.2
  refine R_iconst hC dX12_plannedBy_0 ⟨by decide, by decide⟩ ?_
  refine R_istore_2 hC dX12_plannedBy_1 rfl ?_
  refine R_iconst hC dX12_plannedBy_2 ⟨by decide, by decide⟩ ?_
  refine R_istore_3 hC dX12_plannedBy_3 rfl ?_
  have L4 : ∀ (mq : Nat) (acc : Int) (i : Int), (0 ≤ i) → (i ≤ c 122) → (acc = sm i.toNat (fun w => P (6 * x + w))) → (c 122 - i).toNat < mq → RZ G LY C (Zn G LY 82 C (Ret (vI (sm (c 122).toNat (fun w => P (6 * x + w)))) M)) 0 0 82 4 [some (vR 57), some (vI x), some (vI acc), some (vI i)] [] M := by
    intro mq
    induction mq with
    | zero =>
      intro acc i hi0 hi1 ha hm
      exact absurd hm (Nat.not_lt_zero _)
    | succ mq ih4 =>
      intro acc i hi0 hi1 ha hm4
      have hs := sm_bd2 (f := fun w => P (6 * x + w)) (q := 6) 3 hi0 (fun k a b => hP3 _ (by omega)) (by decide) (by omega)
      refine R_iload_3 hC dX12_plannedBy_4 ?_
      refine R_aload_0 hC dX12_plannedBy_5 ?_
      refine R_getIE hC dX12_plannedBy_6 fl_12_102 (by decide) rfl (by decide) (by decide) (fi := 6) rfl hK.w ?_
      refine R_icmp_ge hC dX12_plannedBy_9 (tgt := 31) (by decide) (fun hb9 => ?_) (fun hb9 => ?_)
      · skip
        refine R_iload_2 hC dX12_plannedBy_31 ?_
        exact R_ireturn hC dX12_plannedBy_32 rfl (ret_I (by rw [ha, show i = c 122 by omega]))
      · skip
        refine R_iload_2 hC dX12_plannedBy_12 ?_
        refine R_aload_0 hC dX12_plannedBy_13 ?_
        refine R_getR hC dX12_plannedBy_14 fl_12_56 (by decide) rfl (by decide) (by decide) (fi := 29) rfl (r := 72) (gr_57_29 hG) ?_
        refine R_iload_1 hC dX12_plannedBy_17 ?_
        refine R_iload_3 hC dX12_plannedBy_18 ?_
        refine R_callSq (as := [vI _, vI _]) hC dX12_plannedBy_19 mo_12_cell ml_12_87 (c12_cell  (by omega) (by omega) (by omega) (by omega)) rfl rfl hRm (by decide) (by decide) (Nat.le_of_ble_eq_true rfl) ?_
        refine R_ialoadE hC dX12_plannedBy_22 (by decide) rfl (by omega) (by omega) (hP _ (by omega) (by omega)) ?_
        have b1 := hP3 (6 * x + i) (by omega)
        refine R_iadd hC dX12_plannedBy_23 ⟨by omega, by omega⟩ ?_
        refine R_istore_2 hC dX12_plannedBy_24 rfl ?_
        refine R_iinc_3 hC dX12_plannedBy_25 rfl ⟨by omega, by omega⟩ ?_
        refine R_goto hC dX12_plannedBy_28 (tgt := 4) (by decide) ?_
        exact ih4 _ _ (by omega) (by omega) (by rw [sm_to hi0 rfl, ← ha]) (by omega)
  exact L4 _ _ _ (by omega) (by omega) rfl (Nat.lt_succ_self _)
theorem dX12_plannedOf_0 : decode cX12_plannedOf 0 = .ok (.iconst 0, 1) := by decide +kernel
theorem dX12_plannedOf_1 : decode cX12_plannedOf 1 = .ok (.istore_n 2, 1) := by decide +kernel
theorem dX12_plannedOf_2 : decode cX12_plannedOf 2 = .ok (.iconst 0, 1) := by decide +kernel
theorem dX12_plannedOf_3 : decode cX12_plannedOf 3 = .ok (.istore_n 3, 1) := by decide +kernel
theorem dX12_plannedOf_4 : decode cX12_plannedOf 4 = .ok (.iload_n 3, 1) := by decide +kernel
theorem dX12_plannedOf_5 : decode cX12_plannedOf 5 = .ok (.aload_n 0, 1) := by decide +kernel
theorem dX12_plannedOf_6 : decode cX12_plannedOf 6 = .ok (.getfield 105, 3) := by decide +kernel
theorem dX12_plannedOf_9 : decode cX12_plannedOf 9 = .ok (.if_icmp .ge 22, 3) := by decide +kernel
theorem dX12_plannedOf_12 : decode cX12_plannedOf 12 = .ok (.iload_n 2, 1) := by decide +kernel
theorem dX12_plannedOf_13 : decode cX12_plannedOf 13 = .ok (.aload_n 0, 1) := by decide +kernel
theorem dX12_plannedOf_14 : decode cX12_plannedOf 14 = .ok (.getfield 56, 3) := by decide +kernel
theorem dX12_plannedOf_17 : decode cX12_plannedOf 17 = .ok (.iload_n 3, 1) := by decide +kernel
theorem dX12_plannedOf_18 : decode cX12_plannedOf 18 = .ok (.iload_n 1, 1) := by decide +kernel
theorem dX12_plannedOf_19 : decode cX12_plannedOf 19 = .ok (.invokestatic 87, 3) := by decide +kernel
theorem dX12_plannedOf_22 : decode cX12_plannedOf 22 = .ok (.iaload, 1) := by decide +kernel
theorem dX12_plannedOf_23 : decode cX12_plannedOf 23 = .ok (.iadd, 1) := by decide +kernel
theorem dX12_plannedOf_24 : decode cX12_plannedOf 24 = .ok (.istore_n 2, 1) := by decide +kernel
theorem dX12_plannedOf_25 : decode cX12_plannedOf 25 = .ok (.iinc 3 1, 3) := by decide +kernel
theorem dX12_plannedOf_28 : decode cX12_plannedOf 28 = .ok (.goto (-24), 3) := by decide +kernel
theorem dX12_plannedOf_31 : decode cX12_plannedOf 31 = .ok (.iload_n 2, 1) := by decide +kernel
theorem dX12_plannedOf_32 : decode cX12_plannedOf 32 = .ok (.ireturn, 1) := by decide +kernel
set_option maxHeartbeats 400000 in
theorem c12_plannedOf {G : Gl} {l : Launch}  {M : Mem} {z : Int} {c P : Int → Int} {w : Int} (hG : GR M) (hK : RW M z c) (hM : SM c) (hP : ∀ q, 0 ≤ q → q < 30 → M 72 q = P q) (hP3 : ∀ q, 0 ≤ q → 0 ≤ P q ∧ P q ≤ 3) (hw0 : 0 ≤ w) (hw1 : w < 6) : Ct G LY 82 l 1 m12_plannedOf [vR 57, vI w] M (Ret (vI (sm (c 121).toNat (fun x => P (6 * x + w)))) M) := by
  refine R_start (by decide +kernel) (Nat.le_of_ble_eq_true rfl) (fun C hC hRm hlau => ?_)
  show RZ G LY C (Zn G LY 82 C (Ret (vI (sm (c 121).toNat (fun x => P (6 * x + w)))) M)) 0 0 82 0 [some (vR 57), some (vI w), none, none] [] M
  have hL := hM.1.1
  have hW := hM.1.2
  refine R_iconst hC dX12_plannedOf_0 ⟨by decide, by decide⟩ ?_
  refine R_istore_2 hC dX12_plannedOf_1 rfl ?_
  refine R_iconst hC dX12_plannedOf_2 ⟨by decide, by decide⟩ ?_
  refine R_istore_3 hC dX12_plannedOf_3 rfl ?_
  have L4 : ∀ (mq : Nat) (acc : Int) (i : Int), (0 ≤ i) → (i ≤ c 121) → (acc = sm i.toNat (fun x => P (6 * x + w))) → (c 121 - i).toNat < mq → RZ G LY C (Zn G LY 82 C (Ret (vI (sm (c 121).toNat (fun x => P (6 * x + w)))) M)) 0 0 82 4 [some (vR 57), some (vI w), some (vI acc), some (vI i)] [] M := by
    intro mq
    induction mq with
    | zero =>
      intro acc i hi0 hi1 ha hm
      exact absurd hm (Nat.not_lt_zero _)
    | succ mq ih4 =>
      intro acc i hi0 hi1 ha hm4
      have hs := sm_bd2 (f := fun x => P (6 * x + w)) (q := 5) 3 hi0 (fun k a b => hP3 _ (by omega)) (by decide) (by omega)
      refine R_iload_3 hC dX12_plannedOf_4 ?_
      refine R_aload_0 hC dX12_plannedOf_5 ?_
      refine R_getIE hC dX12_plannedOf_6 fl_12_105 (by decide) rfl (by decide) (by decide) (fi := 5) rfl hK.l ?_
      refine R_icmp_ge hC dX12_plannedOf_9 (tgt := 31) (by decide) (fun hb9 => ?_) (fun hb9 => ?_)
      · skip
        refine R_iload_2 hC dX12_plannedOf_31 ?_
        exact R_ireturn hC dX12_plannedOf_32 rfl (ret_I (by rw [ha, show i = c 121 by omega]))
      · skip
        refine R_iload_2 hC dX12_plannedOf_12 ?_
        refine R_aload_0 hC dX12_plannedOf_13 ?_
        refine R_getR hC dX12_plannedOf_14 fl_12_56 (by decide) rfl (by decide) (by decide) (fi := 29) rfl (r := 72) (gr_57_29 hG) ?_
        refine R_iload_3 hC dX12_plannedOf_17 ?_
        refine R_iload_1 hC dX12_plannedOf_18 ?_
        refine R_callSq (as := [vI _, vI _]) hC dX12_plannedOf_19 mo_12_cell ml_12_87 (c12_cell  (by omega) (by omega) (by omega) (by omega)) rfl rfl hRm (by decide) (by decide) (Nat.le_of_ble_eq_true rfl) ?_
        refine R_ialoadE hC dX12_plannedOf_22 (by decide) rfl (by omega) (by omega) (hP _ (by omega) (by omega)) ?_
        have b1 := hP3 (6 * i + w) (by omega)
        refine R_iadd hC dX12_plannedOf_23 ⟨by omega, by omega⟩ ?_
        refine R_istore_2 hC dX12_plannedOf_24 rfl ?_
        refine R_iinc_3 hC dX12_plannedOf_25 rfl ⟨by omega, by omega⟩ ?_
        refine R_goto hC dX12_plannedOf_28 (tgt := 4) (by decide) ?_
        exact ih4 _ _ (by omega) (by omega) (by rw [sm_to hi0 rfl, ← ha]) (by omega)
  exact L4 _ _ _ (by omega) (by omega) rfl (Nat.lt_succ_self _)
theorem dX12_planned_0 : decode cX12_planned 0 = .ok (.iconst 0, 1) := by decide +kernel
theorem dX12_planned_1 : decode cX12_planned 1 = .ok (.istore_n 1, 1) := by decide +kernel
theorem dX12_planned_2 : decode cX12_planned 2 = .ok (.iconst 0, 1) := by decide +kernel
theorem dX12_planned_3 : decode cX12_planned 3 = .ok (.istore_n 2, 1) := by decide +kernel
theorem dX12_planned_4 : decode cX12_planned 4 = .ok (.iload_n 2, 1) := by decide +kernel
theorem dX12_planned_5 : decode cX12_planned 5 = .ok (.aload_n 0, 1) := by decide +kernel
theorem dX12_planned_6 : decode cX12_planned 6 = .ok (.getfield 105, 3) := by decide +kernel
theorem dX12_planned_9 : decode cX12_planned 9 = .ok (.if_icmp .ge 17, 3) := by decide +kernel
theorem dX12_planned_12 : decode cX12_planned 12 = .ok (.iload_n 1, 1) := by decide +kernel
theorem dX12_planned_13 : decode cX12_planned 13 = .ok (.aload_n 0, 1) := by decide +kernel
theorem dX12_planned_14 : decode cX12_planned 14 = .ok (.iload_n 2, 1) := by decide +kernel
theorem dX12_planned_15 : decode cX12_planned 15 = .ok (.invokevirtual 187, 3) := by decide +kernel
theorem dX12_planned_18 : decode cX12_planned 18 = .ok (.iadd, 1) := by decide +kernel
theorem dX12_planned_19 : decode cX12_planned 19 = .ok (.istore_n 1, 1) := by decide +kernel
theorem dX12_planned_20 : decode cX12_planned 20 = .ok (.iinc 2 1, 3) := by decide +kernel
theorem dX12_planned_23 : decode cX12_planned 23 = .ok (.goto (-19), 3) := by decide +kernel
theorem dX12_planned_26 : decode cX12_planned 26 = .ok (.iload_n 1, 1) := by decide +kernel
theorem dX12_planned_27 : decode cX12_planned 27 = .ok (.ireturn, 1) := by decide +kernel
set_option maxHeartbeats 400000 in
theorem c12_planned {G : Gl} {l : Launch}  {M : Mem} {z : Int} {c P : Int → Int} (hG : GR M) (hK : RW M z c) (hM : SM c) (hP : ∀ q, 0 ≤ q → q < 30 → M 72 q = P q) (hP3 : ∀ q, 0 ≤ q → 0 ≤ P q ∧ P q ≤ 3) : Ct G LY 82 l 2 m12_planned [vR 57] M (Ret (vI (sm (c 121).toNat (fun x => sm (c 122).toNat (fun w => P (6 * x + w))))) M) := by
  refine R_start (by decide +kernel) (Nat.le_of_ble_eq_true rfl) (fun C hC hRm hlau => ?_)
  show RZ G LY C (Zn G LY 82 C (Ret (vI (sm (c 121).toNat (fun x => sm (c 122).toNat (fun w => P (6 * x + w))))) M)) 0 0 82 0 [some (vR 57), none, none] [] M
  have hL := hM.1.1
  have hW := hM.1.2
  refine R_iconst hC dX12_planned_0 ⟨by decide, by decide⟩ ?_
  refine R_istore_1 hC dX12_planned_1 rfl ?_
  refine R_iconst hC dX12_planned_2 ⟨by decide, by decide⟩ ?_
  refine R_istore_2 hC dX12_planned_3 rfl ?_
  have L4 : ∀ (mq : Nat) (acc : Int) (i : Int), (0 ≤ i) → (i ≤ c 121) → (acc = sm i.toNat (fun x => sm (c 122).toNat (fun w => P (6 * x + w)))) → (c 121 - i).toNat < mq → RZ G LY C (Zn G LY 82 C (Ret (vI (sm (c 121).toNat (fun x => sm (c 122).toNat (fun w => P (6 * x + w))))) M)) 0 0 82 4 [some (vR 57), some (vI acc), some (vI i)] [] M := by
    intro mq
    induction mq with
    | zero =>
      intro acc i hi0 hi1 ha hm
      exact absurd hm (Nat.not_lt_zero _)
    | succ mq ih4 =>
      intro acc i hi0 hi1 ha hm4
      have hq : ∀ k : Int, 0 ≤ k → 0 ≤ sm (c 122).toNat (fun w => P (6 * k + w)) ∧ sm (c 122).toNat (fun w => P (6 * k + w)) ≤ 6 * 3 := fun k a => sm_bd2 (q := 6) 3 hW.1 (fun w p q => hP3 _ (by omega)) (by decide) hW.2
      have hs := sm_bd2 (f := fun x => sm (c 122).toNat (fun w => P (6 * x + w))) (q := 5) 18 hi0 (fun k a b => hq k a) (by decide) (by omega)
      refine R_iload_2 hC dX12_planned_4 ?_
      refine R_aload_0 hC dX12_planned_5 ?_
      refine R_getIE hC dX12_planned_6 fl_12_105 (by decide) rfl (by decide) (by decide) (fi := 5) rfl hK.l ?_
      refine R_icmp_ge hC dX12_planned_9 (tgt := 26) (by decide) (fun hb9 => ?_) (fun hb9 => ?_)
      · skip
        refine R_iload_1 hC dX12_planned_26 ?_
        exact R_ireturn hC dX12_planned_27 rfl (ret_I (by rw [ha, show i = c 121 by omega]))
      · skip
        refine R_iload_1 hC dX12_planned_12 ?_
        refine R_aload_0 hC dX12_planned_13 ?_
        refine R_iload_2 hC dX12_planned_14 ?_
        refine R_callVq (as := [vI _]) hC dX12_planned_15 mo_12_plannedBy ml_12_187 (by decide) rfl rfl (c12_plannedBy  hG hK hM hP hP3 (by omega) (by omega)) rfl rfl hRm (by decide) (by decide) (Nat.le_of_ble_eq_true rfl) ?_
        have b1 := hq i hi0
        refine R_iadd hC dX12_planned_18 ⟨by omega, by omega⟩ ?_
        refine R_istore_1 hC dX12_planned_19 rfl ?_
        refine R_iinc_2 hC dX12_planned_20 rfl ⟨by omega, by omega⟩ ?_
        refine R_goto hC dX12_planned_23 (tgt := 4) (by decide) ?_
        exact ih4 _ _ (by omega) (by omega) (by rw [sm_to hi0 rfl, ← ha]) (by omega)
  exact L4 _ _ _ (by omega) (by omega) rfl (Nat.lt_succ_self _)
theorem dX12_wonBy_0 : decode cX12_wonBy 0 = .ok (.iconst 0, 1) := by decide +kernel
theorem dX12_wonBy_1 : decode cX12_wonBy 1 = .ok (.istore_n 2, 1) := by decide +kernel
theorem dX12_wonBy_2 : decode cX12_wonBy 2 = .ok (.iconst 0, 1) := by decide +kernel
theorem dX12_wonBy_3 : decode cX12_wonBy 3 = .ok (.istore_n 3, 1) := by decide +kernel
theorem dX12_wonBy_4 : decode cX12_wonBy 4 = .ok (.iload_n 3, 1) := by decide +kernel
theorem dX12_wonBy_5 : decode cX12_wonBy 5 = .ok (.aload_n 0, 1) := by decide +kernel
theorem dX12_wonBy_6 : decode cX12_wonBy 6 = .ok (.getfield 102, 3) := by decide +kernel
theorem dX12_wonBy_9 : decode cX12_wonBy 9 = .ok (.if_icmp .ge 29, 3) := by decide +kernel
theorem dX12_wonBy_12 : decode cX12_wonBy 12 = .ok (.iload_n 2, 1) := by decide +kernel
theorem dX12_wonBy_13 : decode cX12_wonBy 13 = .ok (.aload_n 0, 1) := by decide +kernel
theorem dX12_wonBy_14 : decode cX12_wonBy 14 = .ok (.getfield 56, 3) := by decide +kernel
theorem dX12_wonBy_17 : decode cX12_wonBy 17 = .ok (.iload_n 1, 1) := by decide +kernel
theorem dX12_wonBy_18 : decode cX12_wonBy 18 = .ok (.iload_n 3, 1) := by decide +kernel
theorem dX12_wonBy_19 : decode cX12_wonBy 19 = .ok (.invokestatic 87, 3) := by decide +kernel
theorem dX12_wonBy_22 : decode cX12_wonBy 22 = .ok (.iaload, 1) := by decide +kernel
theorem dX12_wonBy_23 : decode cX12_wonBy 23 = .ok (.aload_n 0, 1) := by decide +kernel
theorem dX12_wonBy_24 : decode cX12_wonBy 24 = .ok (.getfield 13, 3) := by decide +kernel
theorem dX12_wonBy_27 : decode cX12_wonBy 27 = .ok (.iload_n 3, 1) := by decide +kernel
theorem dX12_wonBy_28 : decode cX12_wonBy 28 = .ok (.iaload, 1) := by decide +kernel
theorem dX12_wonBy_29 : decode cX12_wonBy 29 = .ok (.imul, 1) := by decide +kernel
theorem dX12_wonBy_30 : decode cX12_wonBy 30 = .ok (.iadd, 1) := by decide +kernel
theorem dX12_wonBy_31 : decode cX12_wonBy 31 = .ok (.istore_n 2, 1) := by decide +kernel
theorem dX12_wonBy_32 : decode cX12_wonBy 32 = .ok (.iinc 3 1, 3) := by decide +kernel
theorem dX12_wonBy_35 : decode cX12_wonBy 35 = .ok (.goto (-31), 3) := by decide +kernel
theorem dX12_wonBy_38 : decode cX12_wonBy 38 = .ok (.iload_n 2, 1) := by decide +kernel
theorem dX12_wonBy_39 : decode cX12_wonBy 39 = .ok (.ireturn, 1) := by decide +kernel
set_option maxHeartbeats 400000 in
theorem c12_wonBy {G : Gl} {l : Launch}  {M : Mem} {z : Int} {c P : Int → Int} {x : Int} (hG : GR M) (hK : RW M z c) (hM : SM c) (hP : ∀ q, 0 ≤ q → q < 30 → M 72 q = P q) (hP3 : ∀ q, 0 ≤ q → 0 ≤ P q ∧ P q ≤ 3) (hx0 : 0 ≤ x) (hx1 : x < 5) : Ct G LY 82 l 1 m12_wonBy [vR 57, vI x] M (Ret (vI (sm (c 122).toNat (fun w => P (6 * x + w) * c (10 + w)))) M) := by
  refine R_start (by decide +kernel) (Nat.le_of_ble_eq_true rfl) (fun C hC hRm hlau => ?_)
  show RZ G LY C (Zn G LY 82 C (Ret (vI (sm (c 122).toNat (fun w => P (6 * x + w) * c (10 + w)))) M)) 0 0 82 0 [some (vR 57), some (vI x), none, none] [] M
  have hL := hM.1.1
  have hW := hM.1.2
  refine R_iconst hC dX12_wonBy_0 ⟨by decide, by decide⟩ ?_
  refine R_istore_2 hC dX12_wonBy_1 rfl ?_
  refine R_iconst hC dX12_wonBy_2 ⟨by decide, by decide⟩ ?_
  refine R_istore_3 hC dX12_wonBy_3 rfl ?_
  have L4 : ∀ (mq : Nat) (acc : Int) (i : Int), (0 ≤ i) → (i ≤ c 122) → (acc = sm i.toNat (fun w => P (6 * x + w) * c (10 + w))) → (c 122 - i).toNat < mq → RZ G LY C (Zn G LY 82 C (Ret (vI (sm (c 122).toNat (fun w => P (6 * x + w) * c (10 + w)))) M)) 0 0 82 4 [some (vR 57), some (vI x), some (vI acc), some (vI i)] [] M := by
    intro mq
    induction mq with
    | zero =>
      intro acc i hi0 hi1 ha hm
      exact absurd hm (Nat.not_lt_zero _)
    | succ mq ih4 =>
      intro acc i hi0 hi1 ha hm4
      have hs := sm_bd2 (f := fun w => P (6 * x + w) * c (10 + w)) (q := 6) 27 hi0 (fun k a b => mul_bd (p := 3) (q := 9) (hP3 _ (by omega)).1 (hP3 _ (by omega)).2 (hM.2.2.1 k a (by omega)).1.1 (hM.2.2.1 k a (by omega)).1.2) (by decide) (by omega)
      refine R_iload_3 hC dX12_wonBy_4 ?_
      refine R_aload_0 hC dX12_wonBy_5 ?_
      refine R_getIE hC dX12_wonBy_6 fl_12_102 (by decide) rfl (by decide) (by decide) (fi := 6) rfl hK.w ?_
      refine R_icmp_ge hC dX12_wonBy_9 (tgt := 38) (by decide) (fun hb9 => ?_) (fun hb9 => ?_)
      · skip
        refine R_iload_2 hC dX12_wonBy_38 ?_
        exact R_ireturn hC dX12_wonBy_39 rfl (ret_I (by rw [ha, show i = c 122 by omega]))
      · skip
        refine R_iload_2 hC dX12_wonBy_12 ?_
        refine R_aload_0 hC dX12_wonBy_13 ?_
        refine R_getR hC dX12_wonBy_14 fl_12_56 (by decide) rfl (by decide) (by decide) (fi := 29) rfl (r := 72) (gr_57_29 hG) ?_
        refine R_iload_1 hC dX12_wonBy_17 ?_
        refine R_iload_3 hC dX12_wonBy_18 ?_
        refine R_callSq (as := [vI _, vI _]) hC dX12_wonBy_19 mo_12_cell ml_12_87 (c12_cell  (by omega) (by omega) (by omega) (by omega)) rfl rfl hRm (by decide) (by decide) (Nat.le_of_ble_eq_true rfl) ?_
        refine R_ialoadE hC dX12_wonBy_22 (by decide) rfl (by omega) (by omega) (hP _ (by omega) (by omega)) ?_
        refine R_aload_0 hC dX12_wonBy_23 ?_
        refine R_getR hC dX12_wonBy_24 fl_12_13 (by decide) rfl (by decide) (by decide) (fi := 1) rfl (r := 59) (gr_57_1 hG) ?_
        refine R_iload_3 hC dX12_wonBy_27 ?_
        refine R_ialoadE hC dX12_wonBy_28 (by decide) rfl (by omega) (by omega) (hK.rs i (by omega) (by omega) (by omega)) ?_
        have b1 := mul_bd (p := 3) (q := 9) (hP3 (6 * x + i) (by omega)).1 (hP3 (6 * x + i) (by omega)).2 (hM.2.2.1 i hi0 (by omega)).1.1 (hM.2.2.1 i hi0 (by omega)).1.2
        refine R_imul hC dX12_wonBy_29 ⟨by omega, by omega⟩ ?_
        refine R_iadd hC dX12_wonBy_30 ⟨by omega, by omega⟩ ?_
        refine R_istore_2 hC dX12_wonBy_31 rfl ?_
        refine R_iinc_3 hC dX12_wonBy_32 rfl ⟨by omega, by omega⟩ ?_
        refine R_goto hC dX12_wonBy_35 (tgt := 4) (by decide) ?_
        exact ih4 _ _ (by omega) (by omega) (by rw [sm_to hi0 rfl, ← ha]) (by omega)
  exact L4 _ _ _ (by omega) (by omega) rfl (Nat.lt_succ_self _)
theorem dX12_hasMore_0 : decode cX12_hasMore 0 = .ok (.aload_n 0, 1) := by decide +kernel
theorem dX12_hasMore_1 : decode cX12_hasMore 1 = .ok (.getfield 56, 3) := by decide +kernel
theorem dX12_hasMore_4 : decode cX12_hasMore 4 = .ok (.iload_n 1, 1) := by decide +kernel
theorem dX12_hasMore_5 : decode cX12_hasMore 5 = .ok (.iload_n 2, 1) := by decide +kernel
theorem dX12_hasMore_6 : decode cX12_hasMore 6 = .ok (.invokestatic 87, 3) := by decide +kernel
theorem dX12_hasMore_9 : decode cX12_hasMore 9 = .ok (.iaload, 1) := by decide +kernel
theorem dX12_hasMore_10 : decode cX12_hasMore 10 = .ok (.aload_n 0, 1) := by decide +kernel
theorem dX12_hasMore_11 : decode cX12_hasMore 11 = .ok (.iconst 0, 1) := by decide +kernel
theorem dX12_hasMore_12 : decode cX12_hasMore 12 = .ok (.iload_n 1, 1) := by decide +kernel
theorem dX12_hasMore_13 : decode cX12_hasMore 13 = .ok (.iload_n 2, 1) := by decide +kernel
theorem dX12_hasMore_14 : decode cX12_hasMore 14 = .ok (.invokevirtual 117, 3) := by decide +kernel
theorem dX12_hasMore_17 : decode cX12_hasMore 17 = .ok (.if_icmp .ge 7, 3) := by decide +kernel
theorem dX12_hasMore_20 : decode cX12_hasMore 20 = .ok (.iconst 1, 1) := by decide +kernel
theorem dX12_hasMore_21 : decode cX12_hasMore 21 = .ok (.goto 4, 3) := by decide +kernel
theorem dX12_hasMore_24 : decode cX12_hasMore 24 = .ok (.iconst 0, 1) := by decide +kernel
theorem dX12_hasMore_25 : decode cX12_hasMore 25 = .ok (.ireturn, 1) := by decide +kernel
set_option maxHeartbeats 400000 in
theorem c12_hasMore {G : Gl} {l : Launch}  {M : Mem} {c P : Int → Int} {x w : Int} (hG : GR M) (hK : RW M 0 c) (hM : SM c) (hP : ∀ q, 0 ≤ q → q < 30 → M 72 q = P q) (hx0 : 0 ≤ x) (hx1 : x < 5) (hw0 : 0 ≤ w) (hw1 : w < 6) : Ct G LY 82 l 3 m12_hasMore [vR 57, vI x, vI w] M (Ret (vI (bP (P (6 * x + w) < offr c x w))) M) := by
  refine R_start (by decide +kernel) (Nat.le_of_ble_eq_true rfl) (fun C hC hRm hlau => ?_)
  show RZ G LY C (Zn G LY 82 C (Ret (vI (bP (P (6 * x + w) < offr c x w))) M)) 0 0 82 0 [some (vR 57), some (vI x), some (vI w)] [] M
  refine R_aload_0 hC dX12_hasMore_0 ?_
  refine R_getR hC dX12_hasMore_1 fl_12_56 (by decide) rfl (by decide) (by decide) (fi := 29) rfl (r := 72) (gr_57_29 hG) ?_
  refine R_iload_1 hC dX12_hasMore_4 ?_
  refine R_iload_2 hC dX12_hasMore_5 ?_
  refine R_callSq (as := [vI _, vI _]) hC dX12_hasMore_6 mo_12_cell ml_12_87 (c12_cell  (by omega) (by omega) (by omega) (by omega)) rfl rfl hRm (by decide) (by decide) (Nat.le_of_ble_eq_true rfl) ?_
  refine R_ialoadE hC dX12_hasMore_9 (by decide) rfl (by omega) (by omega) (hP _ (by omega) (by omega)) ?_
  refine R_aload_0 hC dX12_hasMore_10 ?_
  refine R_iconst hC dX12_hasMore_11 ⟨by decide, by decide⟩ ?_
  refine R_iload_1 hC dX12_hasMore_12 ?_
  refine R_iload_2 hC dX12_hasMore_13 ?_
  refine R_callVq (as := [vI _, vI _, vI _]) hC dX12_hasMore_14 mo_12_offerOf ml_12_117 (by decide) rfl rfl (c12_offerOf  hG hK (by omega) (by omega) (by omega) (by omega) (by omega) (by omega) hM) rfl rfl hRm (by decide) (by decide) (Nat.le_of_ble_eq_true rfl) ?_
  have e14_1 := (hM).off (x := x) (w := w) (by omega) (by omega) (by omega) (by omega)
  refine R_icmp_ge hC dX12_hasMore_17 (tgt := 24) (by decide) (fun hb17 => ?_) (fun hb17 => ?_)
  · skip
    refine R_iconst hC dX12_hasMore_24 ⟨by decide, by decide⟩ ?_
    exact R_zreturn hC dX12_hasMore_25 rfl (.inl rfl) (ret_f (by omega))
  · skip
    refine R_iconst hC dX12_hasMore_20 ⟨by decide, by decide⟩ ?_
    refine R_goto hC dX12_hasMore_21 (tgt := 25) (by decide) ?_
    exact R_zreturn hC dX12_hasMore_25 rfl (.inr rfl) (ret_t (by omega))
theorem dX12_changes_0 : decode cX12_changes 0 = .ok (.aload_n 0, 1) := by decide +kernel
theorem dX12_changes_1 : decode cX12_changes 1 = .ok (.iconst 0, 1) := by decide +kernel
theorem dX12_changes_2 : decode cX12_changes 2 = .ok (.invokevirtual 190, 3) := by decide +kernel
theorem dX12_changes_5 : decode cX12_changes 5 = .ok (.ifCond .ne 5, 3) := by decide +kernel
theorem dX12_changes_8 : decode cX12_changes 8 = .ok (.iconst (-1), 1) := by decide +kernel
theorem dX12_changes_9 : decode cX12_changes 9 = .ok (.ireturn, 1) := by decide +kernel
theorem dX12_changes_10 : decode cX12_changes 10 = .ok (.iconst 0, 1) := by decide +kernel
theorem dX12_changes_11 : decode cX12_changes 11 = .ok (.istore_n 1, 1) := by decide +kernel
theorem dX12_changes_12 : decode cX12_changes 12 = .ok (.iconst 0, 1) := by decide +kernel
theorem dX12_changes_13 : decode cX12_changes 13 = .ok (.istore_n 2, 1) := by decide +kernel
theorem dX12_changes_14 : decode cX12_changes 14 = .ok (.iload_n 2, 1) := by decide +kernel
theorem dX12_changes_15 : decode cX12_changes 15 = .ok (.aload_n 0, 1) := by decide +kernel
theorem dX12_changes_16 : decode cX12_changes 16 = .ok (.getfield 105, 3) := by decide +kernel
theorem dX12_changes_19 : decode cX12_changes 19 = .ok (.if_icmp .ge 121, 3) := by decide +kernel
theorem dX12_changes_22 : decode cX12_changes 22 = .ok (.iload_n 2, 1) := by decide +kernel
theorem dX12_changes_23 : decode cX12_changes 23 = .ok (.iconst 1, 1) := by decide +kernel
theorem dX12_changes_24 : decode cX12_changes 24 = .ok (.iadd, 1) := by decide +kernel
theorem dX12_changes_25 : decode cX12_changes 25 = .ok (.istore_n 3, 1) := by decide +kernel
theorem dX12_changes_26 : decode cX12_changes 26 = .ok (.iload_n 3, 1) := by decide +kernel
theorem dX12_changes_27 : decode cX12_changes 27 = .ok (.aload_n 0, 1) := by decide +kernel
theorem dX12_changes_28 : decode cX12_changes 28 = .ok (.getfield 105, 3) := by decide +kernel
theorem dX12_changes_31 : decode cX12_changes 31 = .ok (.if_icmp .ge 103, 3) := by decide +kernel
theorem dX12_changes_34 : decode cX12_changes 34 = .ok (.iconst 0, 1) := by decide +kernel
theorem dX12_changes_35 : decode cX12_changes 35 = .ok (.istore 4, 2) := by decide +kernel
theorem dX12_changes_37 : decode cX12_changes 37 = .ok (.iload 4, 2) := by decide +kernel
theorem dX12_changes_39 : decode cX12_changes 39 = .ok (.aload_n 0, 1) := by decide +kernel
theorem dX12_changes_40 : decode cX12_changes 40 = .ok (.getfield 102, 3) := by decide +kernel
theorem dX12_changes_43 : decode cX12_changes 43 = .ok (.if_icmp .ge 85, 3) := by decide +kernel
theorem dX12_changes_46 : decode cX12_changes 46 = .ok (.iconst 0, 1) := by decide +kernel
theorem dX12_changes_47 : decode cX12_changes 47 = .ok (.istore 5, 2) := by decide +kernel
theorem dX12_changes_49 : decode cX12_changes 49 = .ok (.iload 5, 2) := by decide +kernel
theorem dX12_changes_51 : decode cX12_changes 51 = .ok (.aload_n 0, 1) := by decide +kernel
theorem dX12_changes_52 : decode cX12_changes 52 = .ok (.getfield 102, 3) := by decide +kernel
theorem dX12_changes_55 : decode cX12_changes 55 = .ok (.if_icmp .ge 67, 3) := by decide +kernel
theorem dX12_changes_58 : decode cX12_changes 58 = .ok (.iload 4, 2) := by decide +kernel
theorem dX12_changes_60 : decode cX12_changes 60 = .ok (.iload 5, 2) := by decide +kernel
theorem dX12_changes_62 : decode cX12_changes 62 = .ok (.if_icmp .eq 54, 3) := by decide +kernel
theorem dX12_changes_65 : decode cX12_changes 65 = .ok (.aload_n 0, 1) := by decide +kernel
theorem dX12_changes_66 : decode cX12_changes 66 = .ok (.getfield 56, 3) := by decide +kernel
theorem dX12_changes_69 : decode cX12_changes 69 = .ok (.iload_n 2, 1) := by decide +kernel
theorem dX12_changes_70 : decode cX12_changes 70 = .ok (.iload 4, 2) := by decide +kernel
theorem dX12_changes_72 : decode cX12_changes 72 = .ok (.invokestatic 87, 3) := by decide +kernel
theorem dX12_changes_75 : decode cX12_changes 75 = .ok (.iaload, 1) := by decide +kernel
theorem dX12_changes_76 : decode cX12_changes 76 = .ok (.ifCond .le 40, 3) := by decide +kernel
theorem dX12_changes_79 : decode cX12_changes 79 = .ok (.aload_n 0, 1) := by decide +kernel
theorem dX12_changes_80 : decode cX12_changes 80 = .ok (.getfield 56, 3) := by decide +kernel
theorem dX12_changes_83 : decode cX12_changes 83 = .ok (.iload_n 3, 1) := by decide +kernel
theorem dX12_changes_84 : decode cX12_changes 84 = .ok (.iload 5, 2) := by decide +kernel
theorem dX12_changes_86 : decode cX12_changes 86 = .ok (.invokestatic 87, 3) := by decide +kernel
theorem dX12_changes_89 : decode cX12_changes 89 = .ok (.iaload, 1) := by decide +kernel
theorem dX12_changes_90 : decode cX12_changes 90 = .ok (.ifCond .le 26, 3) := by decide +kernel
theorem dX12_changes_93 : decode cX12_changes 93 = .ok (.aload_n 0, 1) := by decide +kernel
theorem dX12_changes_94 : decode cX12_changes 94 = .ok (.iload_n 2, 1) := by decide +kernel
theorem dX12_changes_95 : decode cX12_changes 95 = .ok (.iload 5, 2) := by decide +kernel
theorem dX12_changes_97 : decode cX12_changes 97 = .ok (.invokevirtual 193, 3) := by decide +kernel
theorem dX12_changes_100 : decode cX12_changes 100 = .ok (.ifCond .eq 16, 3) := by decide +kernel
theorem dX12_changes_103 : decode cX12_changes 103 = .ok (.aload_n 0, 1) := by decide +kernel
theorem dX12_changes_104 : decode cX12_changes 104 = .ok (.iload_n 3, 1) := by decide +kernel
theorem dX12_changes_105 : decode cX12_changes 105 = .ok (.iload 4, 2) := by decide +kernel
theorem dX12_changes_107 : decode cX12_changes 107 = .ok (.invokevirtual 193, 3) := by decide +kernel
theorem dX12_changes_110 : decode cX12_changes 110 = .ok (.ifCond .eq 6, 3) := by decide +kernel
theorem dX12_changes_113 : decode cX12_changes 113 = .ok (.iinc 1 1, 3) := by decide +kernel
theorem dX12_changes_116 : decode cX12_changes 116 = .ok (.iinc 5 1, 3) := by decide +kernel
theorem dX12_changes_119 : decode cX12_changes 119 = .ok (.goto (-70), 3) := by decide +kernel
theorem dX12_changes_122 : decode cX12_changes 122 = .ok (.iinc 4 1, 3) := by decide +kernel
theorem dX12_changes_125 : decode cX12_changes 125 = .ok (.goto (-88), 3) := by decide +kernel
theorem dX12_changes_128 : decode cX12_changes 128 = .ok (.iinc 3 1, 3) := by decide +kernel
theorem dX12_changes_131 : decode cX12_changes 131 = .ok (.goto (-105), 3) := by decide +kernel
theorem dX12_changes_134 : decode cX12_changes 134 = .ok (.iinc 2 1, 3) := by decide +kernel
theorem dX12_changes_137 : decode cX12_changes 137 = .ok (.goto (-123), 3) := by decide +kernel
theorem dX12_changes_140 : decode cX12_changes 140 = .ok (.iload_n 1, 1) := by decide +kernel
theorem dX12_changes_141 : decode cX12_changes 141 = .ok (.ireturn, 1) := by decide +kernel
set_option maxHeartbeats 1000000 in
theorem c12_changes {G : Gl} {l : Launch}  {M : Mem} {c : Int → Int} (hG : GR M) (hK : RW M 0 c) (hM : SM c) : Ct G LY 82 l 8 m12_changes [vR 57] M (RP (fun v M' => Fr [63, 64, 65, 66, 67, 68, 69, 70, 71, 72] [(57, 22), (57, 23), (57, 30)] M M' ∧ v = itc (planI (insOf c)) (chgs (plT (insOf c)) c) (-1))) := by
  refine R_start (by decide +kernel) (Nat.le_of_ble_eq_true rfl) (fun C hC hRm hlau => ?_)
  show RZ G LY C (Zn G LY 82 C (RP (fun v M' => Fr [63, 64, 65, 66, 67, 68, 69, 70, 71, 72] [(57, 22), (57, 23), (57, 30)] M M' ∧ v = itc (planI (insOf c)) (chgs (plT (insOf c)) c) (-1)))) 0 0 82 0 [some (vR 57), none, none, none, none, none] [] M
  have hL := hM.1.1
  have hW := hM.1.2
  have hI := hM.I
  have hB := hM.B
  refine R_aload_0 hC dX12_changes_0 ?_
  refine R_iconst hC dX12_changes_1 ⟨by decide, by decide⟩ ?_
  refine R_callVp (as := [vI _]) hC dX12_changes_2 mo_12_plans ml_12_190 (by decide) rfl rfl (c12_plans  hG hK (by omega) (by omega) hM) rfl rfl hRm (by decide) (by decide) (Nat.le_of_ble_eq_true rfl) (fun v3 Mc1 hq2 => ?_)
  have hF0 := hq2.1
  have hvp := hq2.2.1
  have hP := hq2.2.2
  have hP3 := fun q (q0 : 0 ≤ q) => plT_3 hI q0
  refine R_if_ne hC dX12_changes_5 (tgt := 10) (by decide) (fun hb5 => ?_) (fun hb5 => ?_)
  · skip
    refine R_iconst hC dX12_changes_10 ⟨by decide, by decide⟩ ?_
    refine R_istore_1 hC dX12_changes_11 rfl ?_
    refine R_iconst hC dX12_changes_12 ⟨by decide, by decide⟩ ?_
    refine R_istore_2 hC dX12_changes_13 rfl ?_
    have L14 : ∀ (mq : Nat) (n : Int) (a : Int), (0 ≤ a) → (a ≤ c 121) → (n = sm a.toNat (fun a => sm (c 121).toNat (fun b => if a < b then chg (plT (insOf c)) c a b else 0))) → (c 121 - a).toNat < mq → RZ G LY C (Zn G LY 82 C (RP (fun v M' => Fr [63, 64, 65, 66, 67, 68, 69, 70, 71, 72] [(57, 22), (57, 23), (57, 30)] M M' ∧ v = itc (planI (insOf c)) (chgs (plT (insOf c)) c) (-1)))) 0 0 82 14 [some (vR 57), some (vI n), some (vI a), none, none, none] [] Mc1 := by
      intro mq
      induction mq with
      | zero =>
        intro n a ha0 ha1 hn hm
        exact absurd hm (Nat.not_lt_zero _)
      | succ mq ih14 =>
        intro n a ha0 ha1 hn hm14
        have hbA := sm_bd2 (f := fun a => sm (c 121).toNat (fun b => if a < b then chg (plT (insOf c)) c a b else 0)) (q := 5) 180 ha0 (fun k p q => chS_bd hI hM.1 k) (by decide) (by omega)
        refine R_iload_2 hC dX12_changes_14 ?_
        refine R_aload_0 hC dX12_changes_15 ?_
        have hk4 : RW Mc1 0 c := (RW.fr hK hq2.1 (by decide +kernel))
        refine R_getIE hC dX12_changes_16 fl_12_105 (by decide) rfl (by decide) (by decide) (fi := 5) rfl hk4.l ?_
        refine R_icmp_ge hC dX12_changes_19 (tgt := 140) (by decide) (fun hb19 => ?_) (fun hb19 => ?_)
        · skip
          refine R_iload_1 hC dX12_changes_140 ?_
          exact R_ireturn hC dX12_changes_141 rfl (ret_P ⟨hF0, by (rw [itc_t (bP_nz (fun z => hb5 (hvp.trans z))), hn, show a = c 121 by omega]; exact chgs_m hM.1.1.1)⟩)
        · skip
          refine R_iload_2 hC dX12_changes_22 ?_
          refine R_iconst hC dX12_changes_23 ⟨by decide, by decide⟩ ?_
          refine R_iadd hC dX12_changes_24 ⟨by omega, by omega⟩ ?_
          refine R_istore_3 hC dX12_changes_25 rfl ?_
          have L26 : ∀ (mq : Nat) (n2 : Int) (b : Int), (a < b) → (b ≤ c 121) → (n2 = n + sm b.toNat (fun b => if a < b then chg (plT (insOf c)) c a b else 0)) → (c 121 - b).toNat < mq → RZ G LY C (Zn G LY 82 C (RP (fun v M' => Fr [63, 64, 65, 66, 67, 68, 69, 70, 71, 72] [(57, 22), (57, 23), (57, 30)] M M' ∧ v = itc (planI (insOf c)) (chgs (plT (insOf c)) c) (-1)))) 0 0 82 26 [some (vR 57), some (vI n2), some (vI a), some (vI b), none, none] [] Mc1 := by
            intro mq
            induction mq with
            | zero =>
              intro n2 b hb0 hb1 hn2 hm
              exact absurd hm (Nat.not_lt_zero _)
            | succ mq ih26 =>
              intro n2 b hb0 hb1 hn2 hm26
              have hbB := sm_bd2 (f := fun b => if a < b then chg (plT (insOf c)) c a b else 0) (q := 5) 36 (show 0 ≤ b by omega) (fun k p q => chI_bd hM.1 a k) (by decide) (by omega)
              refine R_iload_3 hC dX12_changes_26 ?_
              refine R_aload_0 hC dX12_changes_27 ?_
              refine R_getIE hC dX12_changes_28 fl_12_105 (by decide) rfl (by decide) (by decide) (fi := 5) rfl hk4.l ?_
              refine R_icmp_ge hC dX12_changes_31 (tgt := 134) (by decide) (fun hb31 => ?_) (fun hb31 => ?_)
              · skip
                refine R_iinc_2 hC dX12_changes_134 rfl ⟨by omega, by omega⟩ ?_
                refine R_goto hC dX12_changes_137 (tgt := 14) (by decide) ?_
                refine R_weak (subL_c (subL_c (subL_c (subL_d (subL_c (subL_c subL_n)))))) ?_
                exact ih14 _ _ (by omega) (by omega) (by rw [sm_to ha0 rfl, ← hn, hn2, show b = c 121 by omega]) (by omega)
              · skip
                refine R_iconst hC dX12_changes_34 ⟨by decide, by decide⟩ ?_
                refine R_istore_4 hC dX12_changes_35 rfl ?_
                have L37 : ∀ (mq : Nat) (n3 : Int) (i : Int), (0 ≤ i) → (i ≤ c 122) → (n3 = n2 + sm i.toNat (fun i => sm (c 122).toNat (fun j => bP (i ≠ j ∧ mvP (plT (insOf c)) c a b i ∧ mvP (plT (insOf c)) c b a j)))) → (c 122 - i).toNat < mq → RZ G LY C (Zn G LY 82 C (RP (fun v M' => Fr [63, 64, 65, 66, 67, 68, 69, 70, 71, 72] [(57, 22), (57, 23), (57, 30)] M M' ∧ v = itc (planI (insOf c)) (chgs (plT (insOf c)) c) (-1)))) 0 0 82 37 [some (vR 57), some (vI n3), some (vI a), some (vI b), some (vI i), none] [] Mc1 := by
                  intro mq
                  induction mq with
                  | zero =>
                    intro n3 i hi0 hi1 hn3 hm
                    exact absurd hm (Nat.not_lt_zero _)
                  | succ mq ih37 =>
                    intro n3 i hi0 hi1 hn3 hm37
                    have hbI := sm_bd2 (f := fun i => sm (c 122).toNat (fun j => bP (i ≠ j ∧ mvP (plT (insOf c)) c a b i ∧ mvP (plT (insOf c)) c b a j))) (q := 6) 6 hi0 (fun k p q => sm_bd2 (q := 6) 1 hW.1 (fun j _ _ => bP_b _) (by decide) hW.2) (by decide) (by omega)
                    refine R_iload_4 hC dX12_changes_37 ?_
                    refine R_aload_0 hC dX12_changes_39 ?_
                    refine R_getIE hC dX12_changes_40 fl_12_102 (by decide) rfl (by decide) (by decide) (fi := 6) rfl hk4.w ?_
                    refine R_icmp_ge hC dX12_changes_43 (tgt := 128) (by decide) (fun hb43 => ?_) (fun hb43 => ?_)
                    · skip
                      refine R_iinc_3 hC dX12_changes_128 rfl ⟨by omega, by omega⟩ ?_
                      refine R_goto hC dX12_changes_131 (tgt := 26) (by decide) ?_
                      refine R_weak (subL_c (subL_c (subL_c (subL_c (subL_d (subL_c subL_n)))))) ?_
                      exact ih26 _ _ (by omega) (by omega) (by rw [sm_to (by omega) rfl, if_pos hb0, hn3, ← ch_ij, show i = c 122 by omega]; omega) (by omega)
                    · skip
                      refine R_iconst hC dX12_changes_46 ⟨by decide, by decide⟩ ?_
                      refine R_istore_5 hC dX12_changes_47 rfl ?_
                      have L49 : ∀ (mq : Nat) (n4 : Int) (j : Int), (0 ≤ j) → (j ≤ c 122) → (n4 = n3 + sm j.toNat (fun j => bP (i ≠ j ∧ mvP (plT (insOf c)) c a b i ∧ mvP (plT (insOf c)) c b a j))) → (c 122 - j).toNat < mq → RZ G LY C (Zn G LY 82 C (RP (fun v M' => Fr [63, 64, 65, 66, 67, 68, 69, 70, 71, 72] [(57, 22), (57, 23), (57, 30)] M M' ∧ v = itc (planI (insOf c)) (chgs (plT (insOf c)) c) (-1)))) 0 0 82 49 [some (vR 57), some (vI n4), some (vI a), some (vI b), some (vI i), some (vI j)] [] Mc1 := by
                        intro mq
                        induction mq with
                        | zero =>
                          intro n4 j hj0 hj1 hn4 hm
                          exact absurd hm (Nat.not_lt_zero _)
                        | succ mq ih49 =>
                          intro n4 j hj0 hj1 hn4 hm49
                          have hbJ := sm_bd2 (f := fun j => bP (i ≠ j ∧ mvP (plT (insOf c)) c a b i ∧ mvP (plT (insOf c)) c b a j)) (q := 6) 1 hj0 (fun k p q => bP_b _) (by decide) (by omega)
                          refine R_iload_5 hC dX12_changes_49 ?_
                          refine R_aload_0 hC dX12_changes_51 ?_
                          refine R_getIE hC dX12_changes_52 fl_12_102 (by decide) rfl (by decide) (by decide) (fi := 6) rfl hk4.w ?_
                          refine R_icmp_ge hC dX12_changes_55 (tgt := 122) (by decide) (fun hb55 => ?_) (fun hb55 => ?_)
                          · skip
                            refine R_iinc_4 hC dX12_changes_122 rfl ⟨by omega, by omega⟩ ?_
                            refine R_goto hC dX12_changes_125 (tgt := 37) (by decide) ?_
                            refine R_weak (subL_c (subL_c (subL_c (subL_c (subL_c (subL_d subL_n)))))) ?_
                            exact ih37 _ _ (by omega) (by omega) (by rw [sm_to hi0 rfl, hn4, hn3, show j = c 122 by omega]; omega) (by omega)
                          · skip
                            refine R_iload_4 hC dX12_changes_58 ?_
                            refine R_iload_5 hC dX12_changes_60 ?_
                            refine R_icmp_eq hC dX12_changes_62 (tgt := 116) (by decide) (fun hb62 => ?_) (fun hb62 => ?_)
                            · skip
                              refine R_iinc_5 hC dX12_changes_116 rfl ⟨by omega, by omega⟩ ?_
                              refine R_goto hC dX12_changes_119 (tgt := 49) (by decide) ?_
                              exact ih49 _ _ (by omega) (by omega) (by (rw [sm_to hj0 rfl, hn4]; first | (rw [bP_neg (ch_n1 hb62)]; omega) | (rw [bP_neg (ch_n2 hb76)]; omega) | (rw [bP_neg (ch_n3 hb90)]; omega) | (rw [bP_neg (ch_n4 hb100)]; omega) | (rw [bP_neg (ch_n5 hb110)]; omega) | (rw [bP_pos (ch_p hb62 hb76 hb90 hb100 hb110)]; omega))) (by omega)
                            · skip
                              refine R_aload_0 hC dX12_changes_65 ?_
                              have hG5 : GR Mc1 := (GR.fr hG hq2.1 (by decide +kernel))
                              refine R_getR hC dX12_changes_66 fl_12_56 (by decide) rfl (by decide) (by decide) (fi := 29) rfl (r := 72) (gr_57_29 hG5) ?_
                              refine R_iload_2 hC dX12_changes_69 ?_
                              refine R_iload_4 hC dX12_changes_70 ?_
                              refine R_callSq (as := [vI _, vI _]) hC dX12_changes_72 mo_12_cell ml_12_87 (c12_cell  (by omega) (by omega) (by omega) (by omega)) rfl rfl hRm (by decide) (by decide) (Nat.le_of_ble_eq_true rfl) ?_
                              refine R_ialoadE hC dX12_changes_75 (by decide) rfl (by omega) (by omega) (hP _ (by omega) (by omega)) ?_
                              refine R_if_le hC dX12_changes_76 (tgt := 116) (by decide) (fun hb76 => ?_) (fun hb76 => ?_)
                              · skip
                                refine R_iinc_5 hC dX12_changes_116 rfl ⟨by omega, by omega⟩ ?_
                                refine R_goto hC dX12_changes_119 (tgt := 49) (by decide) ?_
                                exact ih49 _ _ (by omega) (by omega) (by (rw [sm_to hj0 rfl, hn4]; first | (rw [bP_neg (ch_n1 hb62)]; omega) | (rw [bP_neg (ch_n2 hb76)]; omega) | (rw [bP_neg (ch_n3 hb90)]; omega) | (rw [bP_neg (ch_n4 hb100)]; omega) | (rw [bP_neg (ch_n5 hb110)]; omega) | (rw [bP_pos (ch_p hb62 hb76 hb90 hb100 hb110)]; omega))) (by omega)
                              · skip
                                refine R_aload_0 hC dX12_changes_79 ?_
                                refine R_getR hC dX12_changes_80 fl_12_56 (by decide) rfl (by decide) (by decide) (fi := 29) rfl (r := 72) (gr_57_29 hG5) ?_
                                refine R_iload_3 hC dX12_changes_83 ?_
                                refine R_iload_5 hC dX12_changes_84 ?_
                                refine R_callSq (as := [vI _, vI _]) hC dX12_changes_86 mo_12_cell ml_12_87 (c12_cell  (by omega) (by omega) (by omega) (by omega)) rfl rfl hRm (by decide) (by decide) (Nat.le_of_ble_eq_true rfl) ?_
                                refine R_ialoadE hC dX12_changes_89 (by decide) rfl (by omega) (by omega) (hP _ (by omega) (by omega)) ?_
                                refine R_if_le hC dX12_changes_90 (tgt := 116) (by decide) (fun hb90 => ?_) (fun hb90 => ?_)
                                · skip
                                  refine R_iinc_5 hC dX12_changes_116 rfl ⟨by omega, by omega⟩ ?_
                                  refine R_goto hC dX12_changes_119 (tgt := 49) (by decide) ?_
                                  exact ih49 _ _ (by omega) (by omega) (by (rw [sm_to hj0 rfl, hn4]; first | (rw [bP_neg (ch_n1 hb62)]; omega) | (rw [bP_neg (ch_n2 hb76)]; omega) | (rw [bP_neg (ch_n3 hb90)]; omega) | (rw [bP_neg (ch_n4 hb100)]; omega) | (rw [bP_neg (ch_n5 hb110)]; omega) | (rw [bP_pos (ch_p hb62 hb76 hb90 hb100 hb110)]; omega))) (by omega)
                                · skip
                                  refine R_aload_0 hC dX12_changes_93 ?_
                                  refine R_iload_2 hC dX12_changes_94 ?_
                                  refine R_iload_5 hC dX12_changes_95 ?_
                                  refine R_callVq (as := [vI _, vI _]) hC dX12_changes_97 mo_12_hasMore ml_12_193 (by decide) rfl rfl (c12_hasMore (P := (plT (insOf c))) hG5 hk4 hM hP (by omega) (by omega) (by omega) (by omega)) rfl rfl hRm (by decide) (by decide) (Nat.le_of_ble_eq_true rfl) ?_
                                  refine R_if_eq hC dX12_changes_100 (tgt := 116) (by decide) (fun hb100 => ?_) (fun hb100 => ?_)
                                  · skip
                                    replace hb100 := bP_z hb100
                                    refine R_iinc_5 hC dX12_changes_116 rfl ⟨by omega, by omega⟩ ?_
                                    refine R_goto hC dX12_changes_119 (tgt := 49) (by decide) ?_
                                    exact ih49 _ _ (by omega) (by omega) (by (rw [sm_to hj0 rfl, hn4]; first | (rw [bP_neg (ch_n1 hb62)]; omega) | (rw [bP_neg (ch_n2 hb76)]; omega) | (rw [bP_neg (ch_n3 hb90)]; omega) | (rw [bP_neg (ch_n4 hb100)]; omega) | (rw [bP_neg (ch_n5 hb110)]; omega) | (rw [bP_pos (ch_p hb62 hb76 hb90 hb100 hb110)]; omega))) (by omega)
                                  · skip
                                    replace hb100 := bP_nz hb100
                                    refine R_aload_0 hC dX12_changes_103 ?_
                                    refine R_iload_3 hC dX12_changes_104 ?_
                                    refine R_iload_4 hC dX12_changes_105 ?_
                                    refine R_callVq (as := [vI _, vI _]) hC dX12_changes_107 mo_12_hasMore ml_12_193 (by decide) rfl rfl (c12_hasMore (P := (plT (insOf c))) hG5 hk4 hM hP (by omega) (by omega) (by omega) (by omega)) rfl rfl hRm (by decide) (by decide) (Nat.le_of_ble_eq_true rfl) ?_
                                    refine R_if_eq hC dX12_changes_110 (tgt := 116) (by decide) (fun hb110 => ?_) (fun hb110 => ?_)
                                    · skip
                                      replace hb110 := bP_z hb110
                                      refine R_iinc_5 hC dX12_changes_116 rfl ⟨by omega, by omega⟩ ?_
                                      refine R_goto hC dX12_changes_119 (tgt := 49) (by decide) ?_
                                      exact ih49 _ _ (by omega) (by omega) (by (rw [sm_to hj0 rfl, hn4]; first | (rw [bP_neg (ch_n1 hb62)]; omega) | (rw [bP_neg (ch_n2 hb76)]; omega) | (rw [bP_neg (ch_n3 hb90)]; omega) | (rw [bP_neg (ch_n4 hb100)]; omega) | (rw [bP_neg (ch_n5 hb110)]; omega) | (rw [bP_pos (ch_p hb62 hb76 hb90 hb100 hb110)]; omega))) (by omega)
                                    · skip
                                      replace hb110 := bP_nz hb110
                                      refine R_iinc_1 hC dX12_changes_113 rfl ⟨by omega, by omega⟩ ?_
                                      refine R_iinc_5 hC dX12_changes_116 rfl ⟨by omega, by omega⟩ ?_
                                      refine R_goto hC dX12_changes_119 (tgt := 49) (by decide) ?_
                                      exact ih49 _ _ (by omega) (by omega) (by (rw [sm_to hj0 rfl, hn4]; first | (rw [bP_neg (ch_n1 hb62)]; omega) | (rw [bP_neg (ch_n2 hb76)]; omega) | (rw [bP_neg (ch_n3 hb90)]; omega) | (rw [bP_neg (ch_n4 hb100)]; omega) | (rw [bP_neg (ch_n5 hb110)]; omega) | (rw [bP_pos (ch_p hb62 hb76 hb90 hb100 hb110)]; omega))) (by omega)
                      exact L49 _ _ _ (by omega) (by omega) (by rw [sm_0, Int.add_zero]) (Nat.lt_succ_self _)
                exact L37 _ _ _ (by omega) (by omega) (by rw [sm_0, Int.add_zero]) (Nat.lt_succ_self _)
          exact L26 _ _ _ (by omega) (by omega) (by rw [sm_zero (f := fun b => if a < b then chg (plT (insOf c)) c a b else 0) _ (fun k p q => if_neg (by omega)), Int.add_zero]) (Nat.lt_succ_self _)
    exact L14 _ _ _ (by omega) (by omega) rfl (Nat.lt_succ_self _)
  · skip
    refine R_iconst hC dX12_changes_8 ⟨by decide, by decide⟩ ?_
    exact R_ireturn hC dX12_changes_9 rfl (ret_P ⟨hF0, (itc_f (bP_z (hvp.symm.trans hb5))).symm⟩)
