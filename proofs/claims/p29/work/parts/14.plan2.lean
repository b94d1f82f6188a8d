/-! reads of THE PLAN -/
/-- thirty pairs in a long -/
def pkF (T : Int → Int) : Nat → Int
  | 0 => 0
  | i + 1 => (Int64.ofInt (pkF T i) ||| Int64.ofInt ((Int64.ofInt (T i % 2 ^ 2) <<< ((Int32.ofInt (2 * (i : Int))).toInt64 &&& 63)).toInt)).toInt
theorem pkF_s {T : Int → Int} {i j : Int} (h : 0 ≤ i) (hj : j = i + 1) : pkF T j.toNat = (Int64.ofInt (pkF T i.toNat) ||| Int64.ofInt ((Int64.ofInt (T i % 2 ^ 2) <<< ((Int32.ofInt (2 * i)).toInt64 &&& 63)).toInt)).toInt := by
  subst hj
  rw [show (i + 1).toNat = i.toNat + 1 by omega, pkF, Int.toNat_of_nonneg h]
def mvP (T d : Int → Int) (a b w : Int) : Prop := 0 < T (a * 6 + w) ∧ T (b * 6 + w) < offr d b w
noncomputable def chg (T d : Int → Int) (a b : Int) : Int := sm (d 122).toNat (fun w => bP (mvP T d a b w)) * sm (d 122).toNat (fun w => bP (mvP T d b a w)) - sm (d 122).toNat (fun w => bP (mvP T d a b w ∧ mvP T d b a w))
noncomputable def chgs (T d : Int → Int) : Int := sm (d 121).toNat (fun b => sm b.toNat (fun a => chg T d a b))
theorem sm_b01 (p : Int → Prop) {n : Int} (h0 : 0 ≤ n) (h1 : n ≤ 6) : 0 ≤ sm n.toNat (fun w => bP (p w)) ∧ sm n.toNat (fun w => bP (p w)) ≤ 6 * 1 :=
  sm_bd2 (q := 6) 1 h0 (fun k _ _ => by have := bP_01 (p k); omega) (by decide) h1
theorem chg_bd (T : Int → Int) {d : Int → Int} (hB : SB d) (a b : Int) : -6 ≤ chg T d a b ∧ chg T d a b ≤ 36 := by
  have hW := hB.W
  have h1 := sm_b01 (fun w => mvP T d a b w) hW.1 hW.2
  have h2 := sm_b01 (fun w => mvP T d b a w) hW.1 hW.2
  have h3 := sm_b01 (fun w => mvP T d a b w ∧ mvP T d b a w) hW.1 hW.2
  have := mul_bd h1.1 h1.2 h2.1 h2.2
  unfold chg
  omega
theorem sm_bd3 {f : Int → Int} {n a b q : Int} (hq : 0 ≤ n) (h : ∀ k : Int, 0 ≤ k → k < n → a ≤ f k ∧ f k ≤ b) (ha : a ≤ 0) (hb : 0 ≤ b) (hn : n ≤ q) : q * a ≤ sm n.toNat f ∧ sm n.toNat f ≤ q * b := by
  have key : ∀ m : Nat, (m : Int) ≤ n → m * a ≤ sm m f ∧ sm m f ≤ m * b := by
    intro m
    induction m with
    | zero => intro _; simp [sm]
    | succ m ih =>
      intro hm
      have h1 := ih (by omega)
      have h2 := h m (by omega) (by omega)
      rw [sm, Int.natCast_add, Int.add_mul, Int.add_mul]
      simp only [Int.natCast_one, Int.one_mul]
      omega
  have h1 := key n.toNat (by omega)
  have e : (n.toNat : Int) = n := by omega
  rw [e] at h1
  have h2 : q * a ≤ n * a := Int.mul_le_mul_of_nonpos_right hn ha
  have h3 : n * b ≤ q * b := Int.mul_le_mul_of_nonneg_right hn hb
  omega

theorem dX5_copiesFrom_0 : decode cX5_copiesFrom 0 = .ok (.iconst 0, 1) := by decide +kernel
theorem dX5_copiesFrom_1 : decode cX5_copiesFrom 1 = .ok (.istore_n 2, 1) := by decide +kernel
theorem dX5_copiesFrom_2 : decode cX5_copiesFrom 2 = .ok (.iconst 0, 1) := by decide +kernel
theorem dX5_copiesFrom_3 : decode cX5_copiesFrom 3 = .ok (.istore_n 3, 1) := by decide +kernel
theorem dX5_copiesFrom_4 : decode cX5_copiesFrom 4 = .ok (.iload_n 3, 1) := by decide +kernel
theorem dX5_copiesFrom_5 : decode cX5_copiesFrom 5 = .ok (.bipush 6, 2) := by decide +kernel
theorem dX5_copiesFrom_7 : decode cX5_copiesFrom 7 = .ok (.if_icmp .ge 22, 3) := by decide +kernel
theorem dX5_copiesFrom_10 : decode cX5_copiesFrom 10 = .ok (.iload_n 2, 1) := by decide +kernel
theorem dX5_copiesFrom_11 : decode cX5_copiesFrom 11 = .ok (.aload_n 0, 1) := by decide +kernel
theorem dX5_copiesFrom_12 : decode cX5_copiesFrom 12 = .ok (.getfield 15, 3) := by decide +kernel
theorem dX5_copiesFrom_15 : decode cX5_copiesFrom 15 = .ok (.iload_n 1, 1) := by decide +kernel
theorem dX5_copiesFrom_16 : decode cX5_copiesFrom 16 = .ok (.iload_n 3, 1) := by decide +kernel
theorem dX5_copiesFrom_17 : decode cX5_copiesFrom 17 = .ok (.invokestatic 47, 3) := by decide +kernel
theorem dX5_copiesFrom_20 : decode cX5_copiesFrom 20 = .ok (.iaload, 1) := by decide +kernel
theorem dX5_copiesFrom_21 : decode cX5_copiesFrom 21 = .ok (.iadd, 1) := by decide +kernel
theorem dX5_copiesFrom_22 : decode cX5_copiesFrom 22 = .ok (.istore_n 2, 1) := by decide +kernel
theorem dX5_copiesFrom_23 : decode cX5_copiesFrom 23 = .ok (.iinc 3 1, 3) := by decide +kernel
theorem dX5_copiesFrom_26 : decode cX5_copiesFrom 26 = .ok (.goto (-22), 3) := by decide +kernel
theorem dX5_copiesFrom_29 : decode cX5_copiesFrom 29 = .ok (.iload_n 2, 1) := by decide +kernel
theorem dX5_copiesFrom_30 : decode cX5_copiesFrom 30 = .ok (.ireturn, 1) := by decide +kernel
set_option maxHeartbeats 400000 in
theorem c5_copiesFrom {G : Gl} {l : Launch}  {M : Mem} {p t : Nat} {x : Int} (hG : GR M) (hP : PH p t) (hT : ∀ q, 0 ≤ q → q < 30 → 0 ≤ M t q ∧ M t q ≤ 3) (hx0 : 0 ≤ x) (hx1 : x < 5) : Ct G LY 57 l 1 m5_copiesFrom [vR p, vI x] M (Ret (vI (sm 6 (fun w => M t (x * 6 + w)))) M) := by
  refine R_start (by decide +kernel) (Nat.le_of_ble_eq_true rfl) (fun C hC hRm hlau => ?_)
  show RZ G LY C (Zn G LY 57 C (Ret (vI (sm 6 (fun w => M t (x * 6 + w)))) M)) 0 0 57 0 [some (vR p), some (vI x), none, none] [] M
  refine R_iconst hC dX5_copiesFrom_0 ⟨by decide, by decide⟩ ?_
  refine R_istore_2 hC dX5_copiesFrom_1 rfl ?_
  refine R_iconst hC dX5_copiesFrom_2 ⟨by decide, by decide⟩ ?_
  refine R_istore_3 hC dX5_copiesFrom_3 rfl ?_
  have L4 : ∀ (mq : Nat) (acc : Int) (i : Int), (0 ≤ i) → (i ≤ 6) → (acc = sm i.toNat (fun w => M t (x * 6 + w))) → (6 - i).toNat < mq → RZ G LY C (Zn G LY 57 C (Ret (vI (sm 6 (fun w => M t (x * 6 + w)))) M)) 0 0 57 4 [some (vR p), some (vI x), some (vI acc), some (vI i)] [] M := by
    intro mq
    induction mq with
    | zero =>
      intro acc i hi0 hi1 ha hm
      exact absurd hm (Nat.not_lt_zero _)
    | succ mq ih4 =>
      intro acc i hi0 hi1 ha hm4
      have hs := sm_bd2 (f := fun w => M t (x * 6 + w)) (q := 6) 3 hi0 (fun k a b => hT _ (by omega) (by omega)) (by decide) (by omega)
      refine R_iload_3 hC dX5_copiesFrom_4 ?_
      refine R_bipush hC dX5_copiesFrom_5 (by decide +kernel) ⟨by decide, by decide⟩ ?_
      refine R_icmp_ge hC dX5_copiesFrom_7 (tgt := 29) (by decide) (fun hb7 => ?_) (fun hb7 => ?_)
      · skip
        refine R_iload_2 hC dX5_copiesFrom_29 ?_
        exact R_ireturn hC dX5_copiesFrom_30 rfl (ret_I (by rw [ha, show i = 6 by omega]; rfl))
      · skip
        refine R_iload_2 hC dX5_copiesFrom_10 ?_
        refine R_aload_0 hC dX5_copiesFrom_11 ?_
        refine R_getR hC dX5_copiesFrom_12 fl_5_15 hP.l hP.k (by decide) (by decide) (fi := 1) rfl (r := t) (hP.s hG) ?_
        refine R_iload_1 hC dX5_copiesFrom_15 ?_
        refine R_iload_3 hC dX5_copiesFrom_16 ?_
        refine R_callSNq (as := [vI _, vI _]) hC dX5_copiesFrom_17 mo_11_pairOf mn_5_47 (c11_pairOf  (by omega) (by omega) (by omega) (by omega)) rfl rfl hRm (by decide) (by decide) (Nat.le_of_ble_eq_true rfl) ?_
        refine R_iaload hC dX5_copiesFrom_20 hP.m hP.a (by omega) (by omega) ?_
        have b20 := hT (x * 6 + i) (by omega) (by omega)
        refine R_iadd hC dX5_copiesFrom_21 ⟨by omega, by omega⟩ ?_
        refine R_istore_2 hC dX5_copiesFrom_22 rfl ?_
        refine R_iinc_3 hC dX5_copiesFrom_23 rfl ⟨by omega, by omega⟩ ?_
        refine R_goto hC dX5_copiesFrom_26 (tgt := 4) (by decide) ?_
        exact ih4 _ _ (by omega) (by omega) (by rw [sm_to hi0 rfl, ← ha]) (by omega)
  exact L4 _ _ _ (by omega) (by omega) rfl (Nat.lt_succ_self _)
theorem dX5_copiesOf_0 : decode cX5_copiesOf 0 = .ok (.iconst 0, 1) := by decide +kernel
theorem dX5_copiesOf_1 : decode cX5_copiesOf 1 = .ok (.istore_n 2, 1) := by decide +kernel
theorem dX5_copiesOf_2 : decode cX5_copiesOf 2 = .ok (.iconst 0, 1) := by decide +kernel
theorem dX5_copiesOf_3 : decode cX5_copiesOf 3 = .ok (.istore_n 3, 1) := by decide +kernel
theorem dX5_copiesOf_4 : decode cX5_copiesOf 4 = .ok (.iload_n 3, 1) := by decide +kernel
theorem dX5_copiesOf_5 : decode cX5_copiesOf 5 = .ok (.iconst 5, 1) := by decide +kernel
theorem dX5_copiesOf_6 : decode cX5_copiesOf 6 = .ok (.if_icmp .ge 22, 3) := by decide +kernel
theorem dX5_copiesOf_9 : decode cX5_copiesOf 9 = .ok (.iload_n 2, 1) := by decide +kernel
theorem dX5_copiesOf_10 : decode cX5_copiesOf 10 = .ok (.aload_n 0, 1) := by decide +kernel
theorem dX5_copiesOf_11 : decode cX5_copiesOf 11 = .ok (.getfield 15, 3) := by decide +kernel
theorem dX5_copiesOf_14 : decode cX5_copiesOf 14 = .ok (.iload_n 3, 1) := by decide +kernel
theorem dX5_copiesOf_15 : decode cX5_copiesOf 15 = .ok (.iload_n 1, 1) := by decide +kernel
theorem dX5_copiesOf_16 : decode cX5_copiesOf 16 = .ok (.invokestatic 47, 3) := by decide +kernel
theorem dX5_copiesOf_19 : decode cX5_copiesOf 19 = .ok (.iaload, 1) := by decide +kernel
theorem dX5_copiesOf_20 : decode cX5_copiesOf 20 = .ok (.iadd, 1) := by decide +kernel
theorem dX5_copiesOf_21 : decode cX5_copiesOf 21 = .ok (.istore_n 2, 1) := by decide +kernel
theorem dX5_copiesOf_22 : decode cX5_copiesOf 22 = .ok (.iinc 3 1, 3) := by decide +kernel
theorem dX5_copiesOf_25 : decode cX5_copiesOf 25 = .ok (.goto (-21), 3) := by decide +kernel
theorem dX5_copiesOf_28 : decode cX5_copiesOf 28 = .ok (.iload_n 2, 1) := by decide +kernel
theorem dX5_copiesOf_29 : decode cX5_copiesOf 29 = .ok (.ireturn, 1) := by decide +kernel
set_option maxHeartbeats 400000 in
theorem c5_copiesOf {G : Gl} {l : Launch}  {M : Mem} {p t : Nat} {w : Int} (hG : GR M) (hP : PH p t) (hT : ∀ q, 0 ≤ q → q < 30 → 0 ≤ M t q ∧ M t q ≤ 3) (hw0 : 0 ≤ w) (hw1 : w < 6) : Ct G LY 57 l 1 m5_copiesOf [vR p, vI w] M (Ret (vI (sm 5 (fun x => M t (x * 6 + w)))) M) := by
  refine R_start (by decide +kernel) (Nat.le_of_ble_eq_true rfl) (fun C hC hRm hlau => ?_)
  show RZ G LY C (Zn G LY 57 C (Ret (vI (sm 5 (fun x => M t (x * 6 + w)))) M)) 0 0 57 0 [some (vR p), some (vI w), none, none] [] M
  refine R_iconst hC dX5_copiesOf_0 ⟨by decide, by decide⟩ ?_
  refine R_istore_2 hC dX5_copiesOf_1 rfl ?_
  refine R_iconst hC dX5_copiesOf_2 ⟨by decide, by decide⟩ ?_
  refine R_istore_3 hC dX5_copiesOf_3 rfl ?_
  have L4 : ∀ (mq : Nat) (acc : Int) (i : Int), (0 ≤ i) → (i ≤ 5) → (acc = sm i.toNat (fun x => M t (x * 6 + w))) → (5 - i).toNat < mq → RZ G LY C (Zn G LY 57 C (Ret (vI (sm 5 (fun x => M t (x * 6 + w)))) M)) 0 0 57 4 [some (vR p), some (vI w), some (vI acc), some (vI i)] [] M := by
    intro mq
    induction mq with
    | zero =>
      intro acc i hi0 hi1 ha hm
      exact absurd hm (Nat.not_lt_zero _)
    | succ mq ih4 =>
      intro acc i hi0 hi1 ha hm4
      have hs := sm_bd2 (f := fun x => M t (x * 6 + w)) (q := 5) 3 hi0 (fun k a b => hT _ (by omega) (by omega)) (by decide) (by omega)
      refine R_iload_3 hC dX5_copiesOf_4 ?_
      refine R_iconst hC dX5_copiesOf_5 ⟨by decide, by decide⟩ ?_
      refine R_icmp_ge hC dX5_copiesOf_6 (tgt := 28) (by decide) (fun hb6 => ?_) (fun hb6 => ?_)
      · skip
        refine R_iload_2 hC dX5_copiesOf_28 ?_
        exact R_ireturn hC dX5_copiesOf_29 rfl (ret_I (by rw [ha, show i = 5 by omega]; rfl))
      · skip
        refine R_iload_2 hC dX5_copiesOf_9 ?_
        refine R_aload_0 hC dX5_copiesOf_10 ?_
        refine R_getR hC dX5_copiesOf_11 fl_5_15 hP.l hP.k (by decide) (by decide) (fi := 1) rfl (r := t) (hP.s hG) ?_
        refine R_iload_3 hC dX5_copiesOf_14 ?_
        refine R_iload_1 hC dX5_copiesOf_15 ?_
        refine R_callSNq (as := [vI _, vI _]) hC dX5_copiesOf_16 mo_11_pairOf mn_5_47 (c11_pairOf  (by omega) (by omega) (by omega) (by omega)) rfl rfl hRm (by decide) (by decide) (Nat.le_of_ble_eq_true rfl) ?_
        refine R_iaload hC dX5_copiesOf_19 hP.m hP.a (by omega) (by omega) ?_
        have b19 := hT (i * 6 + w) (by omega) (by omega)
        refine R_iadd hC dX5_copiesOf_20 ⟨by omega, by omega⟩ ?_
        refine R_istore_2 hC dX5_copiesOf_21 rfl ?_
        refine R_iinc_3 hC dX5_copiesOf_22 rfl ⟨by omega, by omega⟩ ?_
        refine R_goto hC dX5_copiesOf_25 (tgt := 4) (by decide) ?_
        exact ih4 _ _ (by omega) (by omega) (by rw [sm_to hi0 rfl, ← ha]) (by omega)
  exact L4 _ _ _ (by omega) (by omega) rfl (Nat.lt_succ_self _)
theorem dX5_wonBy_0 : decode cX5_wonBy 0 = .ok (.iconst 0, 1) := by decide +kernel
theorem dX5_wonBy_1 : decode cX5_wonBy 1 = .ok (.istore_n 3, 1) := by decide +kernel
theorem dX5_wonBy_2 : decode cX5_wonBy 2 = .ok (.iconst 0, 1) := by decide +kernel
theorem dX5_wonBy_3 : decode cX5_wonBy 3 = .ok (.istore 4, 2) := by decide +kernel
theorem dX5_wonBy_5 : decode cX5_wonBy 5 = .ok (.iload 4, 2) := by decide +kernel
theorem dX5_wonBy_7 : decode cX5_wonBy 7 = .ok (.bipush 6, 2) := by decide +kernel
theorem dX5_wonBy_9 : decode cX5_wonBy 9 = .ok (.if_icmp .ge 30, 3) := by decide +kernel
theorem dX5_wonBy_12 : decode cX5_wonBy 12 = .ok (.iload_n 3, 1) := by decide +kernel
theorem dX5_wonBy_13 : decode cX5_wonBy 13 = .ok (.aload_n 2, 1) := by decide +kernel
theorem dX5_wonBy_14 : decode cX5_wonBy 14 = .ok (.iload 4, 2) := by decide +kernel
theorem dX5_wonBy_16 : decode cX5_wonBy 16 = .ok (.invokevirtual 82, 3) := by decide +kernel
theorem dX5_wonBy_19 : decode cX5_wonBy 19 = .ok (.aload_n 0, 1) := by decide +kernel
theorem dX5_wonBy_20 : decode cX5_wonBy 20 = .ok (.getfield 15, 3) := by decide +kernel
theorem dX5_wonBy_23 : decode cX5_wonBy 23 = .ok (.iload_n 1, 1) := by decide +kernel
theorem dX5_wonBy_24 : decode cX5_wonBy 24 = .ok (.iload 4, 2) := by decide +kernel
theorem dX5_wonBy_26 : decode cX5_wonBy 26 = .ok (.invokestatic 47, 3) := by decide +kernel
theorem dX5_wonBy_29 : decode cX5_wonBy 29 = .ok (.iaload, 1) := by decide +kernel
theorem dX5_wonBy_30 : decode cX5_wonBy 30 = .ok (.imul, 1) := by decide +kernel
theorem dX5_wonBy_31 : decode cX5_wonBy 31 = .ok (.iadd, 1) := by decide +kernel
theorem dX5_wonBy_32 : decode cX5_wonBy 32 = .ok (.istore_n 3, 1) := by decide +kernel
theorem dX5_wonBy_33 : decode cX5_wonBy 33 = .ok (.iinc 4 1, 3) := by decide +kernel
theorem dX5_wonBy_36 : decode cX5_wonBy 36 = .ok (.goto (-31), 3) := by decide +kernel
theorem dX5_wonBy_39 : decode cX5_wonBy 39 = .ok (.iload_n 3, 1) := by decide +kernel
theorem dX5_wonBy_40 : decode cX5_wonBy 40 = .ok (.ireturn, 1) := by decide +kernel
set_option maxHeartbeats 400000 in
theorem c5_wonBy {G : Gl} {l : Launch}  {M : Mem} {p t h c : Nat} {x : Int} {d : Int → Int} (hG : GR M) (hP : PH p t) (hT : ∀ q, 0 ≤ q → q < 30 → 0 ≤ M t q ∧ M t q ≤ 3) (hS : SH h c) (hD : M c = d) (hz : ∀ w, 0 ≤ w → w < 6 → 0 ≤ d (10 + w) ∧ d (10 + w) ≤ 9) (hx0 : 0 ≤ x) (hx1 : x < 5) : Ct G LY 57 l 1 m5_wonBy [vR p, vI x, vR h] M (Ret (vI (sm 6 (fun w => d (10 + w) * M t (x * 6 + w)))) M) := by
  refine R_start (by decide +kernel) (Nat.le_of_ble_eq_true rfl) (fun C hC hRm hlau => ?_)
  show RZ G LY C (Zn G LY 57 C (Ret (vI (sm 6 (fun w => d (10 + w) * M t (x * 6 + w)))) M)) 0 0 57 0 [some (vR p), some (vI x), some (vR h), none, none] [] M
  refine R_iconst hC dX5_wonBy_0 ⟨by decide, by decide⟩ ?_
  refine R_istore_3 hC dX5_wonBy_1 rfl ?_
  refine R_iconst hC dX5_wonBy_2 ⟨by decide, by decide⟩ ?_
  refine R_istore_4 hC dX5_wonBy_3 rfl ?_
  have L5 : ∀ (mq : Nat) (acc : Int) (i : Int), (0 ≤ i) → (i ≤ 6) → (acc = sm i.toNat (fun w => d (10 + w) * M t (x * 6 + w))) → (6 - i).toNat < mq → RZ G LY C (Zn G LY 57 C (Ret (vI (sm 6 (fun w => d (10 + w) * M t (x * 6 + w)))) M)) 0 0 57 5 [some (vR p), some (vI x), some (vR h), some (vI acc), some (vI i)] [] M := by
    intro mq
    induction mq with
    | zero =>
      intro acc i hi0 hi1 ha hm
      exact absurd hm (Nat.not_lt_zero _)
    | succ mq ih5 =>
      intro acc i hi0 hi1 ha hm5
      have hs := sm_bd2 (f := fun w => d (10 + w) * M t (x * 6 + w)) (q := 6) (9 * 3) hi0 (fun k a b => mul_bd (hz k a (by omega)).1 (hz k a (by omega)).2 (hT _ (by omega) (by omega)).1 (hT _ (by omega) (by omega)).2) (by decide) (by omega)
      refine R_iload_4 hC dX5_wonBy_5 ?_
      refine R_bipush hC dX5_wonBy_7 (by decide +kernel) ⟨by decide, by decide⟩ ?_
      refine R_icmp_ge hC dX5_wonBy_9 (tgt := 39) (by decide) (fun hb9 => ?_) (fun hb9 => ?_)
      · skip
        refine R_iload_3 hC dX5_wonBy_39 ?_
        exact R_ireturn hC dX5_wonBy_40 rfl (ret_I (by rw [ha, show i = 6 by omega]; rfl))
      · skip
        refine R_iload_3 hC dX5_wonBy_12 ?_
        refine R_aload_2 hC dX5_wonBy_13 ?_
        refine R_iload_4 hC dX5_wonBy_14 ?_
        refine R_callVq (as := [vI _]) hC dX5_wonBy_16 mo_8_sizeOf ml_5_82 hS.l hS.k rfl (c8_sizeOf_d  hD hG hS (by omega) (by omega)) rfl rfl hRm (by decide) (by decide) (Nat.le_of_ble_eq_true rfl) ?_
        refine R_aload_0 hC dX5_wonBy_19 ?_
        refine R_getR hC dX5_wonBy_20 fl_5_15 hP.l hP.k (by decide) (by decide) (fi := 1) rfl (r := t) (hP.s hG) ?_
        refine R_iload_1 hC dX5_wonBy_23 ?_
        refine R_iload_4 hC dX5_wonBy_24 ?_
        refine R_callSNq (as := [vI _, vI _]) hC dX5_wonBy_26 mo_11_pairOf mn_5_47 (c11_pairOf  (by omega) (by omega) (by omega) (by omega)) rfl rfl hRm (by decide) (by decide) (Nat.le_of_ble_eq_true rfl) ?_
        refine R_iaload hC dX5_wonBy_29 hP.m hP.a (by omega) (by omega) ?_
        have b29 := hT (x * 6 + i) (by omega) (by omega)
        have bm := mul_bd (hz i hi0 (by omega)).1 (hz i hi0 (by omega)).2 b29.1 b29.2
        refine R_imul hC dX5_wonBy_30 ⟨by omega, by omega⟩ ?_
        refine R_iadd hC dX5_wonBy_31 ⟨by omega, by omega⟩ ?_
        refine R_istore_3 hC dX5_wonBy_32 rfl ?_
        refine R_iinc_4 hC dX5_wonBy_33 rfl ⟨by omega, by omega⟩ ?_
        refine R_goto hC dX5_wonBy_36 (tgt := 5) (by decide) ?_
        exact ih5 _ _ (by omega) (by omega) (by rw [sm_to hi0 rfl, ← ha]) (by omega)
  exact L5 _ _ _ (by omega) (by omega) rfl (Nat.lt_succ_self _)
theorem dX5_packed_0 : decode cX5_packed 0 = .ok (.lconst 0, 1) := by decide +kernel
theorem dX5_packed_1 : decode cX5_packed 1 = .ok (.lstore_n 1, 1) := by decide +kernel
theorem dX5_packed_2 : decode cX5_packed 2 = .ok (.iconst 0, 1) := by decide +kernel
theorem dX5_packed_3 : decode cX5_packed 3 = .ok (.istore_n 3, 1) := by decide +kernel
theorem dX5_packed_4 : decode cX5_packed 4 = .ok (.iload_n 3, 1) := by decide +kernel
theorem dX5_packed_5 : decode cX5_packed 5 = .ok (.bipush 30, 2) := by decide +kernel
theorem dX5_packed_7 : decode cX5_packed 7 = .ok (.if_icmp .ge 25, 3) := by decide +kernel
theorem dX5_packed_10 : decode cX5_packed 10 = .ok (.lload_n 1, 1) := by decide +kernel
theorem dX5_packed_11 : decode cX5_packed 11 = .ok (.aload_n 0, 1) := by decide +kernel
theorem dX5_packed_12 : decode cX5_packed 12 = .ok (.getfield 15, 3) := by decide +kernel
theorem dX5_packed_15 : decode cX5_packed 15 = .ok (.iload_n 3, 1) := by decide +kernel
theorem dX5_packed_16 : decode cX5_packed 16 = .ok (.iaload, 1) := by decide +kernel
theorem dX5_packed_17 : decode cX5_packed 17 = .ok (.iconst 3, 1) := by decide +kernel
theorem dX5_packed_18 : decode cX5_packed 18 = .ok (.iand, 1) := by decide +kernel
theorem dX5_packed_19 : decode cX5_packed 19 = .ok (.i2l, 1) := by decide +kernel
theorem dX5_packed_20 : decode cX5_packed 20 = .ok (.iconst 2, 1) := by decide +kernel
theorem dX5_packed_21 : decode cX5_packed 21 = .ok (.iload_n 3, 1) := by decide +kernel
theorem dX5_packed_22 : decode cX5_packed 22 = .ok (.imul, 1) := by decide +kernel
theorem dX5_packed_23 : decode cX5_packed 23 = .ok (.lshl, 1) := by decide +kernel
theorem dX5_packed_24 : decode cX5_packed 24 = .ok (.lor, 1) := by decide +kernel
theorem dX5_packed_25 : decode cX5_packed 25 = .ok (.lstore_n 1, 1) := by decide +kernel
theorem dX5_packed_26 : decode cX5_packed 26 = .ok (.iinc 3 1, 3) := by decide +kernel
theorem dX5_packed_29 : decode cX5_packed 29 = .ok (.goto (-25), 3) := by decide +kernel
theorem dX5_packed_32 : decode cX5_packed 32 = .ok (.lload_n 1, 1) := by decide +kernel
theorem dX5_packed_33 : decode cX5_packed 33 = .ok (.lreturn, 1) := by decide +kernel
set_option maxHeartbeats 400000 in
theorem c5_packed {G : Gl} {l : Launch}  {M : Mem} {p t : Nat} (hG : GR M) (hP : PH p t) : Ct G LY 57 l 0 m5_packed [vR p] M (Ret (vL (pkF (M t) 30)) M) := by
  refine R_start (by decide +kernel) (Nat.le_of_ble_eq_true rfl) (fun C hC hRm hlau => ?_)
  show RZ G LY C (Zn G LY 57 C (Ret (vL (pkF (M t) 30)) M)) 0 0 57 0 [some (vR p), none, none, none] [] M
  refine R_lconst hC dX5_packed_0 ?_
  refine R_lstore_1 hC dX5_packed_1 rfl ?_
  refine R_iconst hC dX5_packed_2 ⟨by decide, by decide⟩ ?_
  refine R_istore_3 hC dX5_packed_3 rfl ?_
  have L4 : ∀ (mq : Nat) (a : Int) (i : Int), (0 ≤ i) → (i ≤ 30) → (a = pkF (M t) i.toNat) → (30 - i).toNat < mq → RZ G LY C (Zn G LY 57 C (Ret (vL (pkF (M t) 30)) M)) 0 0 57 4 [some (vR p), some (vL a), none, some (vI i)] [] M := by
    intro mq
    induction mq with
    | zero =>
      intro a i hi0 hi1 ha hm
      exact absurd hm (Nat.not_lt_zero _)
    | succ mq ih4 =>
      intro a i hi0 hi1 ha hm4
      refine R_iload_3 hC dX5_packed_4 ?_
      refine R_bipush hC dX5_packed_5 (by decide +kernel) ⟨by decide, by decide⟩ ?_
      refine R_icmp_ge hC dX5_packed_7 (tgt := 32) (by decide) (fun hb7 => ?_) (fun hb7 => ?_)
      · skip
        refine R_lload_1 hC dX5_packed_32 ?_
        exact R_lreturn hC dX5_packed_33 rfl (by (rw [ha, show i = 30 by omega]; exact ⟨rfl, rfl⟩))
      · skip
        refine R_lload_1 hC dX5_packed_10 ?_
        refine R_aload_0 hC dX5_packed_11 ?_
        refine R_getR hC dX5_packed_12 fl_5_15 hP.l hP.k (by decide) (by decide) (fi := 1) rfl (r := t) (hP.s hG) ?_
        refine R_iload_3 hC dX5_packed_15 ?_
        refine R_iaload hC dX5_packed_16 hP.m hP.a (by omega) (by omega) ?_
        refine R_iconst hC dX5_packed_17 ⟨by decide, by decide⟩ ?_
        refine R_iandm hC dX5_packed_18 (m := 2) (by decide) (by decide) ?_
        refine R_i2l hC dX5_packed_19 ?_
        refine R_iconst hC dX5_packed_20 ⟨by decide, by decide⟩ ?_
        refine R_iload_3 hC dX5_packed_21 ?_
        refine R_imul hC dX5_packed_22 ⟨by omega, by omega⟩ ?_
        refine R_lshl hC dX5_packed_23 ?_
        refine R_lor hC dX5_packed_24 ?_
        refine R_lstore_1 hC dX5_packed_25 rfl ?_
        refine R_iinc_3 hC dX5_packed_26 rfl ⟨by omega, by omega⟩ ?_
        refine R_goto hC dX5_packed_29 (tgt := 4) (by decide) ?_
        exact ih4 _ _ (by omega) (by omega) (by rw [pkF_s hi0 rfl, ← ha]) (by omega)
  exact L4 _ _ _ (by omega) (by omega) rfl (Nat.lt_succ_self _)
theorem dX5_mayMove_0 : decode cX5_mayMove 0 = .ok (.aload_n 0, 1) := by decide +kernel
theorem dX5_mayMove_1 : decode cX5_mayMove 1 = .ok (.getfield 15, 3) := by decide +kernel
theorem dX5_mayMove_4 : decode cX5_mayMove 4 = .ok (.iload_n 2, 1) := by decide +kernel
theorem dX5_mayMove_5 : decode cX5_mayMove 5 = .ok (.iload 4, 2) := by decide +kernel
theorem dX5_mayMove_7 : decode cX5_mayMove 7 = .ok (.invokestatic 47, 3) := by decide +kernel
theorem dX5_mayMove_10 : decode cX5_mayMove 10 = .ok (.iaload, 1) := by decide +kernel
theorem dX5_mayMove_11 : decode cX5_mayMove 11 = .ok (.ifCond .le 28, 3) := by decide +kernel
theorem dX5_mayMove_14 : decode cX5_mayMove 14 = .ok (.aload_n 0, 1) := by decide +kernel
theorem dX5_mayMove_15 : decode cX5_mayMove 15 = .ok (.getfield 15, 3) := by decide +kernel
theorem dX5_mayMove_18 : decode cX5_mayMove 18 = .ok (.iload_n 3, 1) := by decide +kernel
theorem dX5_mayMove_19 : decode cX5_mayMove 19 = .ok (.iload 4, 2) := by decide +kernel
theorem dX5_mayMove_21 : decode cX5_mayMove 21 = .ok (.invokestatic 47, 3) := by decide +kernel
theorem dX5_mayMove_24 : decode cX5_mayMove 24 = .ok (.iaload, 1) := by decide +kernel
theorem dX5_mayMove_25 : decode cX5_mayMove 25 = .ok (.aload_n 1, 1) := by decide +kernel
theorem dX5_mayMove_26 : decode cX5_mayMove 26 = .ok (.iload_n 3, 1) := by decide +kernel
theorem dX5_mayMove_27 : decode cX5_mayMove 27 = .ok (.iload 4, 2) := by decide +kernel
theorem dX5_mayMove_29 : decode cX5_mayMove 29 = .ok (.invokevirtual 100, 3) := by decide +kernel
theorem dX5_mayMove_32 : decode cX5_mayMove 32 = .ok (.if_icmp .ge 7, 3) := by decide +kernel
theorem dX5_mayMove_35 : decode cX5_mayMove 35 = .ok (.iconst 1, 1) := by decide +kernel
theorem dX5_mayMove_36 : decode cX5_mayMove 36 = .ok (.goto 4, 3) := by decide +kernel
theorem dX5_mayMove_39 : decode cX5_mayMove 39 = .ok (.iconst 0, 1) := by decide +kernel
theorem dX5_mayMove_40 : decode cX5_mayMove 40 = .ok (.ireturn, 1) := by decide +kernel
set_option maxHeartbeats 400000 in
theorem c5_mayMove {G : Gl} {l : Launch}  {M : Mem} {p t h c : Nat} {a b w : Int} {d : Int → Int} (hG : GR M) (hP : PH p t) (hS : SH h c) (hD : M c = d) (hB : SB d) (ha0 : 0 ≤ a) (ha1 : a < 5) (hb0 : 0 ≤ b) (hb1 : b < 5) (hw0 : 0 ≤ w) (hw1 : w < 6) : Ct G LY 57 l 2 m5_mayMove [vR p, vR h, vI a, vI b, vI w] M (Ret (vI (bP (mvP (M t) d a b w))) M) := by
  refine R_start (by decide +kernel) (Nat.le_of_ble_eq_true rfl) (fun C hC hRm hlau => ?_)
  show RZ G LY C (Zn G LY 57 C (Ret (vI (bP (mvP (M t) d a b w))) M)) 0 0 57 0 [some (vR p), some (vR h), some (vI a), some (vI b), some (vI w)] [] M
  refine R_aload_0 hC dX5_mayMove_0 ?_
  refine R_getR hC dX5_mayMove_1 fl_5_15 hP.l hP.k (by decide) (by decide) (fi := 1) rfl (r := t) (hP.s hG) ?_
  refine R_iload_2 hC dX5_mayMove_4 ?_
  refine R_iload_4 hC dX5_mayMove_5 ?_
  refine R_callSNq (as := [vI _, vI _]) hC dX5_mayMove_7 mo_11_pairOf mn_5_47 (c11_pairOf  (by omega) (by omega) (by omega) (by omega)) rfl rfl hRm (by decide) (by decide) (Nat.le_of_ble_eq_true rfl) ?_
  refine R_iaload hC dX5_mayMove_10 hP.m hP.a (by omega) (by omega) ?_
  refine R_if_le hC dX5_mayMove_11 (tgt := 39) (by decide) (fun hb11 => ?_) (fun hb11 => ?_)
  · skip
    refine R_iconst hC dX5_mayMove_39 ⟨by decide, by decide⟩ ?_
    exact R_zreturn hC dX5_mayMove_40 rfl (.inl rfl) (ret_f (by unfold mvP; omega))
  · skip
    refine R_aload_0 hC dX5_mayMove_14 ?_
    refine R_getR hC dX5_mayMove_15 fl_5_15 hP.l hP.k (by decide) (by decide) (fi := 1) rfl (r := t) (hP.s hG) ?_
    refine R_iload_3 hC dX5_mayMove_18 ?_
    refine R_iload_4 hC dX5_mayMove_19 ?_
    refine R_callSNq (as := [vI _, vI _]) hC dX5_mayMove_21 mo_11_pairOf mn_5_47 (c11_pairOf  (by omega) (by omega) (by omega) (by omega)) rfl rfl hRm (by decide) (by decide) (Nat.le_of_ble_eq_true rfl) ?_
    refine R_iaload hC dX5_mayMove_24 hP.m hP.a (by omega) (by omega) ?_
    refine R_aload_1 hC dX5_mayMove_25 ?_
    refine R_iload_3 hC dX5_mayMove_26 ?_
    refine R_iload_4 hC dX5_mayMove_27 ?_
    refine R_callVq (as := [vI _, vI _]) hC dX5_mayMove_29 mo_8_offerOf ml_5_100 hS.l hS.k rfl (c8_offerOf_d  hD hG hS hB (by omega) (by omega) (by omega) (by omega)) rfl rfl hRm (by decide) (by decide) (Nat.le_of_ble_eq_true rfl) ?_
    have e29_1 := offr_bd (x := b) (w := w) hB (by omega) (by omega) (by omega) (by omega)
    refine R_icmp_ge hC dX5_mayMove_32 (tgt := 39) (by decide) (fun hb32 => ?_) (fun hb32 => ?_)
    · skip
      refine R_iconst hC dX5_mayMove_39 ⟨by decide, by decide⟩ ?_
      exact R_zreturn hC dX5_mayMove_40 rfl (.inl rfl) (ret_f (by unfold mvP; omega))
    · skip
      refine R_iconst hC dX5_mayMove_35 ⟨by decide, by decide⟩ ?_
      refine R_goto hC dX5_mayMove_36 (tgt := 40) (by decide) ?_
      exact R_zreturn hC dX5_mayMove_40 rfl (.inr rfl) (ret_t (by unfold mvP; omega))
theorem dX5_changesOf_0 : decode cX5_changesOf 0 = .ok (.iconst 0, 1) := by decide +kernel
theorem dX5_changesOf_1 : decode cX5_changesOf 1 = .ok (.istore 4, 2) := by decide +kernel
theorem dX5_changesOf_3 : decode cX5_changesOf 3 = .ok (.iconst 0, 1) := by decide +kernel
theorem dX5_changesOf_4 : decode cX5_changesOf 4 = .ok (.istore 5, 2) := by decide +kernel
theorem dX5_changesOf_6 : decode cX5_changesOf 6 = .ok (.iconst 0, 1) := by decide +kernel
theorem dX5_changesOf_7 : decode cX5_changesOf 7 = .ok (.istore 6, 2) := by decide +kernel
theorem dX5_changesOf_9 : decode cX5_changesOf 9 = .ok (.iconst 0, 1) := by decide +kernel
theorem dX5_changesOf_10 : decode cX5_changesOf 10 = .ok (.istore 7, 2) := by decide +kernel
theorem dX5_changesOf_12 : decode cX5_changesOf 12 = .ok (.iload 7, 2) := by decide +kernel
theorem dX5_changesOf_14 : decode cX5_changesOf 14 = .ok (.aload_n 1, 1) := by decide +kernel
theorem dX5_changesOf_15 : decode cX5_changesOf 15 = .ok (.invokevirtual 94, 3) := by decide +kernel
theorem dX5_changesOf_18 : decode cX5_changesOf 18 = .ok (.if_icmp .ge 81, 3) := by decide +kernel
theorem dX5_changesOf_21 : decode cX5_changesOf 21 = .ok (.aload_n 0, 1) := by decide +kernel
theorem dX5_changesOf_22 : decode cX5_changesOf 22 = .ok (.aload_n 1, 1) := by decide +kernel
theorem dX5_changesOf_23 : decode cX5_changesOf 23 = .ok (.iload_n 2, 1) := by decide +kernel
theorem dX5_changesOf_24 : decode cX5_changesOf 24 = .ok (.iload_n 3, 1) := by decide +kernel
theorem dX5_changesOf_25 : decode cX5_changesOf 25 = .ok (.iload 7, 2) := by decide +kernel
theorem dX5_changesOf_27 : decode cX5_changesOf 27 = .ok (.invokevirtual 96, 3) := by decide +kernel
theorem dX5_changesOf_30 : decode cX5_changesOf 30 = .ok (.istore 8, 2) := by decide +kernel
theorem dX5_changesOf_32 : decode cX5_changesOf 32 = .ok (.aload_n 0, 1) := by decide +kernel
theorem dX5_changesOf_33 : decode cX5_changesOf 33 = .ok (.aload_n 1, 1) := by decide +kernel
theorem dX5_changesOf_34 : decode cX5_changesOf 34 = .ok (.iload_n 3, 1) := by decide +kernel
theorem dX5_changesOf_35 : decode cX5_changesOf 35 = .ok (.iload_n 2, 1) := by decide +kernel
theorem dX5_changesOf_36 : decode cX5_changesOf 36 = .ok (.iload 7, 2) := by decide +kernel
theorem dX5_changesOf_38 : decode cX5_changesOf 38 = .ok (.invokevirtual 96, 3) := by decide +kernel
theorem dX5_changesOf_41 : decode cX5_changesOf 41 = .ok (.istore 9, 2) := by decide +kernel
theorem dX5_changesOf_43 : decode cX5_changesOf 43 = .ok (.iload 4, 2) := by decide +kernel
theorem dX5_changesOf_45 : decode cX5_changesOf 45 = .ok (.iload 8, 2) := by decide +kernel
theorem dX5_changesOf_47 : decode cX5_changesOf 47 = .ok (.ifCond .eq 7, 3) := by decide +kernel
theorem dX5_changesOf_50 : decode cX5_changesOf 50 = .ok (.iconst 1, 1) := by decide +kernel
theorem dX5_changesOf_51 : decode cX5_changesOf 51 = .ok (.goto 4, 3) := by decide +kernel
theorem dX5_changesOf_54 : decode cX5_changesOf 54 = .ok (.iconst 0, 1) := by decide +kernel
theorem dX5_changesOf_55 : decode cX5_changesOf 55 = .ok (.iadd, 1) := by decide +kernel
theorem dX5_changesOf_56 : decode cX5_changesOf 56 = .ok (.istore 4, 2) := by decide +kernel
theorem dX5_changesOf_58 : decode cX5_changesOf 58 = .ok (.iload 5, 2) := by decide +kernel
theorem dX5_changesOf_60 : decode cX5_changesOf 60 = .ok (.iload 9, 2) := by decide +kernel
theorem dX5_changesOf_62 : decode cX5_changesOf 62 = .ok (.ifCond .eq 7, 3) := by decide +kernel
theorem dX5_changesOf_65 : decode cX5_changesOf 65 = .ok (.iconst 1, 1) := by decide +kernel
theorem dX5_changesOf_66 : decode cX5_changesOf 66 = .ok (.goto 4, 3) := by decide +kernel
theorem dX5_changesOf_69 : decode cX5_changesOf 69 = .ok (.iconst 0, 1) := by decide +kernel
theorem dX5_changesOf_70 : decode cX5_changesOf 70 = .ok (.iadd, 1) := by decide +kernel
theorem dX5_changesOf_71 : decode cX5_changesOf 71 = .ok (.istore 5, 2) := by decide +kernel
theorem dX5_changesOf_73 : decode cX5_changesOf 73 = .ok (.iload 6, 2) := by decide +kernel
theorem dX5_changesOf_75 : decode cX5_changesOf 75 = .ok (.iload 8, 2) := by decide +kernel
theorem dX5_changesOf_77 : decode cX5_changesOf 77 = .ok (.ifCond .eq 12, 3) := by decide +kernel
theorem dX5_changesOf_80 : decode cX5_changesOf 80 = .ok (.iload 9, 2) := by decide +kernel
theorem dX5_changesOf_82 : decode cX5_changesOf 82 = .ok (.ifCond .eq 7, 3) := by decide +kernel
theorem dX5_changesOf_85 : decode cX5_changesOf 85 = .ok (.iconst 1, 1) := by decide +kernel
theorem dX5_changesOf_86 : decode cX5_changesOf 86 = .ok (.goto 4, 3) := by decide +kernel
theorem dX5_changesOf_89 : decode cX5_changesOf 89 = .ok (.iconst 0, 1) := by decide +kernel
theorem dX5_changesOf_90 : decode cX5_changesOf 90 = .ok (.iadd, 1) := by decide +kernel
theorem dX5_changesOf_91 : decode cX5_changesOf 91 = .ok (.istore 6, 2) := by decide +kernel
theorem dX5_changesOf_93 : decode cX5_changesOf 93 = .ok (.iinc 7 1, 3) := by decide +kernel
theorem dX5_changesOf_96 : decode cX5_changesOf 96 = .ok (.goto (-84), 3) := by decide +kernel
theorem dX5_changesOf_99 : decode cX5_changesOf 99 = .ok (.iload 4, 2) := by decide +kernel
theorem dX5_changesOf_101 : decode cX5_changesOf 101 = .ok (.iload 5, 2) := by decide +kernel
theorem dX5_changesOf_103 : decode cX5_changesOf 103 = .ok (.imul, 1) := by decide +kernel
theorem dX5_changesOf_104 : decode cX5_changesOf 104 = .ok (.iload 6, 2) := by decide +kernel
theorem dX5_changesOf_106 : decode cX5_changesOf 106 = .ok (.isub, 1) := by decide +kernel
theorem dX5_changesOf_107 : decode cX5_changesOf 107 = .ok (.ireturn, 1) := by decide +kernel
set_option maxHeartbeats 1000000 in
theorem c5_changesOf {G : Gl} {l : Launch}  {M : Mem} {p t h c : Nat} {a b : Int} {d : Int → Int} (hG : GR M) (hP : PH p t) (hS : SH h c) (hD : M c = d) (hB : SB d) (ha0 : 0 ≤ a) (ha1 : a < 5) (hb0 : 0 ≤ b) (hb1 : b < 5) : Ct G LY 57 l 3 m5_changesOf [vR p, vR h, vI a, vI b] M (Ret (vI (chg (M t) d a b)) M) := by
  refine R_start (by decide +kernel) (Nat.le_of_ble_eq_true rfl) (fun C hC hRm hlau => ?_)
  show RZ G LY C (Zn G LY 57 C (Ret (vI (chg (M t) d a b)) M)) 0 0 57 0 [some (vR p), some (vR h), some (vI a), some (vI b), none, none, none, none, none, none] [] M
  have hW := hB.W
  refine R_iconst hC dX5_changesOf_0 ⟨by decide, by decide⟩ ?_
  refine R_istore_4 hC dX5_changesOf_1 rfl ?_
  refine R_iconst hC dX5_changesOf_3 ⟨by decide, by decide⟩ ?_
  refine R_istore_5 hC dX5_changesOf_4 rfl ?_
  refine R_iconst hC dX5_changesOf_6 ⟨by decide, by decide⟩ ?_
  refine R_istore_6 hC dX5_changesOf_7 rfl ?_
  refine R_iconst hC dX5_changesOf_9 ⟨by decide, by decide⟩ ?_
  refine R_istore_7 hC dX5_changesOf_10 rfl ?_
  have L12 : ∀ (mq : Nat) (l1 : Int) (l2 : Int) (l3 : Int) (i : Int), (0 ≤ i) → (i ≤ d 122) → (l1 = sm i.toNat (fun w => bP (mvP (M t) d a b w))) → (l2 = sm i.toNat (fun w => bP (mvP (M t) d b a w))) → (l3 = sm i.toNat (fun w => bP (mvP (M t) d a b w ∧ mvP (M t) d b a w))) → (d 122 - i).toNat < mq → RZ G LY C (Zn G LY 57 C (Ret (vI (chg (M t) d a b)) M)) 0 0 57 12 [some (vR p), some (vR h), some (vI a), some (vI b), some (vI l1), some (vI l2), some (vI l3), some (vI i), none, none] [] M := by
    intro mq
    induction mq with
    | zero =>
      intro l1 l2 l3 i hi0 hi1 h1 h2 h3 hm
      exact absurd hm (Nat.not_lt_zero _)
    | succ mq ih12 =>
      intro l1 l2 l3 i hi0 hi1 h1 h2 h3 hm12
      have k1 := sm_b01 (fun w => mvP (M t) d a b w) hi0 (by omega)
      have k2 := sm_b01 (fun w => mvP (M t) d b a w) hi0 (by omega)
      have k3 := sm_b01 (fun w => mvP (M t) d a b w ∧ mvP (M t) d b a w) hi0 (by omega)
      refine R_iload_7 hC dX5_changesOf_12 ?_
      refine R_aload_1 hC dX5_changesOf_14 ?_
      refine R_callVq (as := []) hC dX5_changesOf_15 mo_8_works ml_5_94 hS.l hS.k rfl (c8_works_d  hD hG hS) rfl rfl hRm (by decide) (by decide) (Nat.le_of_ble_eq_true rfl) ?_
      refine R_icmp_ge hC dX5_changesOf_18 (tgt := 99) (by decide) (fun hb18 => ?_) (fun hb18 => ?_)
      · skip
        refine R_iload_4 hC dX5_changesOf_99 ?_
        refine R_iload_5 hC dX5_changesOf_101 ?_
        have km := mul_bd k1.1 k1.2 k2.1 k2.2
        rw [← h1, ← h2] at km
        refine R_imul hC dX5_changesOf_103 ⟨by omega, by omega⟩ ?_
        refine R_iload_6 hC dX5_changesOf_104 ?_
        refine R_isub hC dX5_changesOf_106 ⟨by omega, by omega⟩ ?_
        exact R_ireturn hC dX5_changesOf_107 rfl (ret_I (by rw [h1, h2, h3, show i = d 122 by omega]; rfl))
      · skip
        refine R_aload_0 hC dX5_changesOf_21 ?_
        refine R_aload_1 hC dX5_changesOf_22 ?_
        refine R_iload_2 hC dX5_changesOf_23 ?_
        refine R_iload_3 hC dX5_changesOf_24 ?_
        refine R_iload_7 hC dX5_changesOf_25 ?_
        refine R_callVq (as := [vR _, vI _, vI _, vI _]) hC dX5_changesOf_27 mo_5_mayMove ml_5_96 hP.l hP.k rfl (c5_mayMove  hG hP hS hD hB (by omega) (by omega) (by omega) (by omega) (by omega) (by omega)) rfl rfl hRm (by decide) (by decide) (Nat.le_of_ble_eq_true rfl) ?_
        refine R_istore_8 hC dX5_changesOf_30 rfl ?_
        refine R_aload_0 hC dX5_changesOf_32 ?_
        refine R_aload_1 hC dX5_changesOf_33 ?_
        refine R_iload_3 hC dX5_changesOf_34 ?_
        refine R_iload_2 hC dX5_changesOf_35 ?_
        refine R_iload_7 hC dX5_changesOf_36 ?_
        refine R_callVq (as := [vR _, vI _, vI _, vI _]) hC dX5_changesOf_38 mo_5_mayMove ml_5_96 hP.l hP.k rfl (c5_mayMove  hG hP hS hD hB (by omega) (by omega) (by omega) (by omega) (by omega) (by omega)) rfl rfl hRm (by decide) (by decide) (Nat.le_of_ble_eq_true rfl) ?_
        refine R_istore_9 hC dX5_changesOf_41 rfl ?_
        refine R_iload_4 hC dX5_changesOf_43 ?_
        refine R_iload_8 hC dX5_changesOf_45 ?_
        have L55 : ∀ (e1 : Int), (e1 = bP (mvP (M t) d a b i)) → RZ G LY C (Zn G LY 57 C (Ret (vI (chg (M t) d a b)) M)) 0 0 57 55 [some (vR p), some (vR h), some (vI a), some (vI b), some (vI l1), some (vI l2), some (vI l3), some (vI i), some (vI (bP (mvP (M t) d a b i))), some (vI (bP (mvP (M t) d b a i)))] [vI e1, vI l1] M := by
          intro e1 he1
          have g1 := bP_01 (mvP (M t) d a b i)
          refine R_iadd hC dX5_changesOf_55 ⟨by omega, by omega⟩ ?_
          refine R_istore_4 hC dX5_changesOf_56 rfl ?_
          refine R_iload_5 hC dX5_changesOf_58 ?_
          refine R_iload_9 hC dX5_changesOf_60 ?_
          have L70 : ∀ (e2 : Int), (e2 = bP (mvP (M t) d b a i)) → RZ G LY C (Zn G LY 57 C (Ret (vI (chg (M t) d a b)) M)) 0 0 57 70 [some (vR p), some (vR h), some (vI a), some (vI b), some (vI (l1 + e1)), some (vI l2), some (vI l3), some (vI i), some (vI (bP (mvP (M t) d a b i))), some (vI (bP (mvP (M t) d b a i)))] [vI e2, vI l2] M := by
            intro e2 he2
            have g2 := bP_01 (mvP (M t) d b a i)
            refine R_iadd hC dX5_changesOf_70 ⟨by omega, by omega⟩ ?_
            refine R_istore_5 hC dX5_changesOf_71 rfl ?_
            refine R_iload_6 hC dX5_changesOf_73 ?_
            refine R_iload_8 hC dX5_changesOf_75 ?_
            have L90 : ∀ (e3 : Int), (e3 = bP (mvP (M t) d a b i ∧ mvP (M t) d b a i)) → RZ G LY C (Zn G LY 57 C (Ret (vI (chg (M t) d a b)) M)) 0 0 57 90 [some (vR p), some (vR h), some (vI a), some (vI b), some (vI (l1 + e1)), some (vI (l2 + e2)), some (vI l3), some (vI i), some (vI (bP (mvP (M t) d a b i))), some (vI (bP (mvP (M t) d b a i)))] [vI e3, vI l3] M := by
              intro e3 he3
              have g3 := bP_01 (mvP (M t) d a b i ∧ mvP (M t) d b a i)
              refine R_iadd hC dX5_changesOf_90 ⟨by omega, by omega⟩ ?_
              refine R_istore_6 hC dX5_changesOf_91 rfl ?_
              refine R_iinc_7 hC dX5_changesOf_93 rfl ⟨by omega, by omega⟩ ?_
              refine R_goto hC dX5_changesOf_96 (tgt := 12) (by decide) ?_
              refine R_weak (subL_c (subL_c (subL_c (subL_c (subL_c (subL_c (subL_c (subL_c (subL_d (subL_d subL_n)))))))))) ?_
              exact ih12 _ _ _ _ (by omega) (by omega) (by rw [sm_to hi0 rfl, ← h1, he1]) (by rw [sm_to hi0 rfl, ← h2, he2]) (by rw [sm_to hi0 rfl, ← h3, he3]) (by omega)
            refine R_if_eq hC dX5_changesOf_77 (tgt := 89) (by decide) (fun hb77 => ?_) (fun hb77 => ?_)
            · skip
              replace hb77 := bP_z hb77
              refine R_iconst hC dX5_changesOf_89 ⟨by decide, by decide⟩ ?_
              exact L90 _ (by first | (rw [bP_pos (And.intro hb77 hb82)]) | (rw [bP_neg (fun q => hb82 q.2)]) | (rw [bP_neg (fun q => hb77 q.1)]))
            · skip
              replace hb77 := bP_nz hb77
              refine R_iload_9 hC dX5_changesOf_80 ?_
              refine R_if_eq hC dX5_changesOf_82 (tgt := 89) (by decide) (fun hb82 => ?_) (fun hb82 => ?_)
              · skip
                replace hb82 := bP_z hb82
                refine R_iconst hC dX5_changesOf_89 ⟨by decide, by decide⟩ ?_
                exact L90 _ (by first | (rw [bP_pos (And.intro hb77 hb82)]) | (rw [bP_neg (fun q => hb82 q.2)]) | (rw [bP_neg (fun q => hb77 q.1)]))
              · skip
                replace hb82 := bP_nz hb82
                refine R_iconst hC dX5_changesOf_85 ⟨by decide, by decide⟩ ?_
                refine R_goto hC dX5_changesOf_86 (tgt := 90) (by decide) ?_
                exact L90 _ (by first | (rw [bP_pos (And.intro hb77 hb82)]) | (rw [bP_neg (fun q => hb82 q.2)]) | (rw [bP_neg (fun q => hb77 q.1)]))
          refine R_if_eq hC dX5_changesOf_62 (tgt := 69) (by decide) (fun hb62 => ?_) (fun hb62 => ?_)
          · skip
            replace hb62 := bP_z hb62
            refine R_iconst hC dX5_changesOf_69 ⟨by decide, by decide⟩ ?_
            exact L70 _ (by first | (rw [bP_pos hb62]) | (rw [bP_neg hb62]))
          · skip
            replace hb62 := bP_nz hb62
            refine R_iconst hC dX5_changesOf_65 ⟨by decide, by decide⟩ ?_
            refine R_goto hC dX5_changesOf_66 (tgt := 70) (by decide) ?_
            exact L70 _ (by first | (rw [bP_pos hb62]) | (rw [bP_neg hb62]))
        refine R_if_eq hC dX5_changesOf_47 (tgt := 54) (by decide) (fun hb47 => ?_) (fun hb47 => ?_)
        · skip
          replace hb47 := bP_z hb47
          refine R_iconst hC dX5_changesOf_54 ⟨by decide, by decide⟩ ?_
          exact L55 _ (by first | (rw [bP_pos hb47]) | (rw [bP_neg hb47]))
        · skip
          replace hb47 := bP_nz hb47
          refine R_iconst hC dX5_changesOf_50 ⟨by decide, by decide⟩ ?_
          refine R_goto hC dX5_changesOf_51 (tgt := 55) (by decide) ?_
          exact L55 _ (by first | (rw [bP_pos hb47]) | (rw [bP_neg hb47]))
  exact L12 _ _ _ _ _ (by omega) (by omega) rfl rfl rfl (Nat.lt_succ_self _)
theorem dX5_changes_0 : decode cX5_changes 0 = .ok (.aload_n 0, 1) := by decide +kernel
theorem dX5_changes_1 : decode cX5_changes 1 = .ok (.getfield 33, 3) := by decide +kernel
theorem dX5_changes_4 : decode cX5_changes 4 = .ok (.ifCond .ne 5, 3) := by decide +kernel
theorem dX5_changes_7 : decode cX5_changes 7 = .ok (.iconst (-1), 1) := by decide +kernel
theorem dX5_changes_8 : decode cX5_changes 8 = .ok (.ireturn, 1) := by decide +kernel
theorem dX5_changes_9 : decode cX5_changes 9 = .ok (.iconst 0, 1) := by decide +kernel
theorem dX5_changes_10 : decode cX5_changes 10 = .ok (.istore_n 2, 1) := by decide +kernel
theorem dX5_changes_11 : decode cX5_changes 11 = .ok (.iconst 1, 1) := by decide +kernel
theorem dX5_changes_12 : decode cX5_changes 12 = .ok (.istore_n 3, 1) := by decide +kernel
theorem dX5_changes_13 : decode cX5_changes 13 = .ok (.iload_n 3, 1) := by decide +kernel
theorem dX5_changes_14 : decode cX5_changes 14 = .ok (.aload_n 1, 1) := by decide +kernel
theorem dX5_changes_15 : decode cX5_changes 15 = .ok (.invokevirtual 87, 3) := by decide +kernel
theorem dX5_changes_18 : decode cX5_changes 18 = .ok (.if_icmp .ge 35, 3) := by decide +kernel
theorem dX5_changes_21 : decode cX5_changes 21 = .ok (.iconst 0, 1) := by decide +kernel
theorem dX5_changes_22 : decode cX5_changes 22 = .ok (.istore 4, 2) := by decide +kernel
theorem dX5_changes_24 : decode cX5_changes 24 = .ok (.iload 4, 2) := by decide +kernel
theorem dX5_changes_26 : decode cX5_changes 26 = .ok (.iload_n 3, 1) := by decide +kernel
theorem dX5_changes_27 : decode cX5_changes 27 = .ok (.if_icmp .ge 20, 3) := by decide +kernel
theorem dX5_changes_30 : decode cX5_changes 30 = .ok (.iload_n 2, 1) := by decide +kernel
theorem dX5_changes_31 : decode cX5_changes 31 = .ok (.aload_n 0, 1) := by decide +kernel
theorem dX5_changes_32 : decode cX5_changes 32 = .ok (.aload_n 1, 1) := by decide +kernel
theorem dX5_changes_33 : decode cX5_changes 33 = .ok (.iload 4, 2) := by decide +kernel
theorem dX5_changes_35 : decode cX5_changes 35 = .ok (.iload_n 3, 1) := by decide +kernel
theorem dX5_changes_36 : decode cX5_changes 36 = .ok (.invokevirtual 90, 3) := by decide +kernel
theorem dX5_changes_39 : decode cX5_changes 39 = .ok (.iadd, 1) := by decide +kernel
theorem dX5_changes_40 : decode cX5_changes 40 = .ok (.istore_n 2, 1) := by decide +kernel
theorem dX5_changes_41 : decode cX5_changes 41 = .ok (.iinc 4 1, 3) := by decide +kernel
theorem dX5_changes_44 : decode cX5_changes 44 = .ok (.goto (-20), 3) := by decide +kernel
theorem dX5_changes_47 : decode cX5_changes 47 = .ok (.iinc 3 1, 3) := by decide +kernel
theorem dX5_changes_50 : decode cX5_changes 50 = .ok (.goto (-37), 3) := by decide +kernel
theorem dX5_changes_53 : decode cX5_changes 53 = .ok (.iload_n 2, 1) := by decide +kernel
theorem dX5_changes_54 : decode cX5_changes 54 = .ok (.ireturn, 1) := by decide +kernel
set_option maxHeartbeats 400000 in
theorem c5_changes {G : Gl} {l : Launch}  {M : Mem} {p t h c : Nat} {d : Int → Int} (hG : GR M) (hP : PH p t) (hS : SH h c) (hD : M c = d) (hB : SB d) : Ct G LY 57 l 4 m5_changes [vR p, vR h] M (Ret (vI (if M p 2 = 0 then -1 else chgs (M t) d)) M) := by
  refine R_start (by decide +kernel) (Nat.le_of_ble_eq_true rfl) (fun C hC hRm hlau => ?_)
  show RZ G LY C (Zn G LY 57 C (Ret (vI (if M p 2 = 0 then -1 else chgs (M t) d)) M)) 0 0 57 0 [some (vR p), some (vR h), none, none, none] [] M
  have hL := hB.L
  refine R_aload_0 hC dX5_changes_0 ?_
  refine R_getI hC dX5_changes_1 fl_5_33 hP.l hP.k (by decide) (by decide) (fi := 2) rfl ?_
  refine R_if_ne hC dX5_changes_4 (tgt := 9) (by decide) (fun hb4 => ?_) (fun hb4 => ?_)
  · skip
    refine R_iconst hC dX5_changes_9 ⟨by decide, by decide⟩ ?_
    refine R_istore_2 hC dX5_changes_10 rfl ?_
    refine R_iconst hC dX5_changes_11 ⟨by decide, by decide⟩ ?_
    refine R_istore_3 hC dX5_changes_12 rfl ?_
    have L13 : ∀ (mq : Nat) (n : Int) (b : Int), (1 ≤ b) → (b ≤ 5) → (b ≤ d 121 ∨ b = 1) → (n = sm b.toNat (fun b => sm b.toNat (fun a => chg (M t) d a b))) → (d 121 - b).toNat < mq → RZ G LY C (Zn G LY 57 C (Ret (vI (if M p 2 = 0 then -1 else chgs (M t) d)) M)) 0 0 57 13 [some (vR p), some (vR h), some (vI n), some (vI b), none] [] M := by
      intro mq
      induction mq with
      | zero =>
        intro n b hb0 hb1 hb2 hn hm
        exact absurd hm (Nat.not_lt_zero _)
      | succ mq ih13 =>
        intro n b hb0 hb1 hb2 hn hm13
        have kb := sm_bd3 (f := fun b => sm b.toNat (fun a => chg (M t) d a b)) (n := b) (a := -30) (b := 180) (q := 5) (by omega) (fun k k0 k1 => (sm_bd3 (f := fun a => chg (M t) d a k) (n := k) (a := -6) (b := 36) (q := 5) k0 (fun j _ _ => chg_bd (M t) hB j k) (by decide) (by decide) (by omega))) (by decide) (by decide) (by omega)
        refine R_iload_3 hC dX5_changes_13 ?_
        refine R_aload_1 hC dX5_changes_14 ?_
        refine R_callVq (as := []) hC dX5_changes_15 mo_8_libraries ml_5_87 hS.l hS.k rfl (c8_libraries_d  hD hG hS) rfl rfl hRm (by decide) (by decide) (Nat.le_of_ble_eq_true rfl) ?_
        refine R_icmp_ge hC dX5_changes_18 (tgt := 53) (by decide) (fun hb18 => ?_) (fun hb18 => ?_)
        · skip
          refine R_iload_2 hC dX5_changes_53 ?_
          exact R_ireturn hC dX5_changes_54 rfl (ret_I (by
                  rw [if_neg (by omega), hn]
                  by_cases q : d 121 = 0
                  · unfold chgs
                    rw [q, show b = 1 by omega]
                    rfl
                  · rw [show b = d 121 by omega]; rfl))
        · skip
          refine R_iconst hC dX5_changes_21 ⟨by decide, by decide⟩ ?_
          refine R_istore_4 hC dX5_changes_22 rfl ?_
          have L24 : ∀ (mq : Nat) (n2 : Int) (a : Int), (0 ≤ a) → (a ≤ b) → (n2 = n + sm a.toNat (fun a => chg (M t) d a b)) → (b - a).toNat < mq → RZ G LY C (Zn G LY 57 C (Ret (vI (if M p 2 = 0 then -1 else chgs (M t) d)) M)) 0 0 57 24 [some (vR p), some (vR h), some (vI n2), some (vI b), some (vI a)] [] M := by
            intro mq
            induction mq with
            | zero =>
              intro n2 a ha0 ha1 h2 hm
              exact absurd hm (Nat.not_lt_zero _)
            | succ mq ih24 =>
              intro n2 a ha0 ha1 h2 hm24
              have ka := sm_bd3 (f := fun a => chg (M t) d a b) (n := a) (a := -6) (b := 36) (q := 5) ha0 (fun j _ _ => chg_bd (M t) hB j b) (by decide) (by decide) (by omega)
              refine R_iload_4 hC dX5_changes_24 ?_
              refine R_iload_3 hC dX5_changes_26 ?_
              refine R_icmp_ge hC dX5_changes_27 (tgt := 47) (by decide) (fun hb27 => ?_) (fun hb27 => ?_)
              · skip
                refine R_iinc_3 hC dX5_changes_47 rfl ⟨by omega, by omega⟩ ?_
                refine R_goto hC dX5_changes_50 (tgt := 13) (by decide) ?_
                refine R_weak (subL_c (subL_c (subL_c (subL_c (subL_d subL_n))))) ?_
                exact ih13 _ _ (by omega) (by omega) (by omega) (by rw [sm_to (i := b) (by omega) rfl, ← hn, h2, show a = b by omega]) (by omega)
              · skip
                refine R_iload_2 hC dX5_changes_30 ?_
                refine R_aload_0 hC dX5_changes_31 ?_
                refine R_aload_1 hC dX5_changes_32 ?_
                refine R_iload_4 hC dX5_changes_33 ?_
                refine R_iload_3 hC dX5_changes_35 ?_
                refine R_callVq (as := [vR _, vI _, vI _]) hC dX5_changes_36 mo_5_changesOf ml_5_90 hP.l hP.k rfl (c5_changesOf  hG hP hS hD hB (by omega) (by omega) (by omega) (by omega)) rfl rfl hRm (by decide) (by decide) (Nat.le_of_ble_eq_true rfl) ?_
                have kc := chg_bd (M t) hB a b
                refine R_iadd hC dX5_changes_39 ⟨by omega, by omega⟩ ?_
                refine R_istore_2 hC dX5_changes_40 rfl ?_
                refine R_iinc_4 hC dX5_changes_41 rfl ⟨by omega, by omega⟩ ?_
                refine R_goto hC dX5_changes_44 (tgt := 24) (by decide) ?_
                exact ih24 _ _ (by omega) (by omega) (by rw [sm_to ha0 rfl, h2]; omega) (by omega)
          exact L24 _ _ _ (by omega) (by omega) (by rw [sm_0]; omega) (Nat.lt_succ_self _)
    exact L13 _ _ _ (by omega) (by omega) (by omega) rfl (Nat.lt_succ_self _)
  · skip
    refine R_iconst hC dX5_changes_7 ⟨by decide, by decide⟩ ?_
    exact R_ireturn hC dX5_changes_8 rfl (ret_I (by rw [if_pos (by omega)]))
