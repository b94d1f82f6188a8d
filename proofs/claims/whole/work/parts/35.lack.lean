/-! sums over sets; the set that lacks the most -/
theorem sm_ext {f : Int → Int} {n : Nat} : ∀ m : Nat, n ≤ m → (∀ k : Int, n ≤ k → k < m → f k = 0) → sm m f = sm n f
  | 0, h, _ => by rw [show n = 0 by omega]
  | m + 1, h, e => by
    by_cases q : n = m + 1
    · rw [q]
    · rw [sm, sm_ext m (by omega) (fun k a b => e k a (by omega)), e m (by omega) (by omega), Int.add_zero]
theorem ss_L {f : Int → Int} {L t : Int} (h0 : 0 ≤ L) (h1 : L ≤ 5) (t0 : 0 ≤ t) (t1 : t < 2 ^ L.toNat) : ss f t = sm L.toNat (fun x => t / 2 ^ x.toNat % 2 * f x) := by
  unfold ss
  refine sm_ext 5 (by omega) (fun k a b => ?_)
  have := pw_le (i := L) (j := k) h0 (by omega)
  rw [Int.ediv_eq_zero_of_lt t0 (by omega)]
  simp
theorem bc_6 {t : Int} (t0 : 0 ≤ t) (t1 : t < 32) : sm 6 (fun x => t / 2 ^ x.toNat % 2) = bc t := by
  unfold bc ss
  rw [sm_ext (f := fun x => t / 2 ^ x.toNat % 2) (n := 5) 6 (by decide) (fun k a b => by
    rw [show k = 5 by omega]
    show t / 32 % 2 = 0
    omega)]
  exact sm_congr 5 (fun k _ _ => (Int.mul_one _).symm)
theorem lack0 {I : Ins} (h : IB I) : lackI I 0 = 0 := by
  unfold lackI canI
  rw [ss_0, sm_zero _ (fun w w0 w1 => by
    unfold canw
    rw [ss_0]
    have := (h.2.2.2.1 w w0 (by omega)).1
    omega)]
  rfl
theorem wsF_2 {I : Ins} (h : IB I) : ∀ n : Nat, (wsF I n).2 = lackI I (wsF I n).1
  | 0 => (lack0 h).symm
  | n + 1 => by
    rw [wsF]
    split
    · rfl
    · exact wsF_2 h n
theorem wsF_m {I : Ins} (h : IB I) : ∀ (n : Nat) (t : Int), 0 ≤ t → t ≤ n → lackI I t ≤ (wsF I n).2
  | 0, t, a, b => by
    rw [show t = 0 by omega, lack0 h]
    exact Int.le_refl _
  | n + 1, t, a, b => by
    rw [wsF]
    by_cases q : t = ((n + 1 : Nat) : Int)
    · subst q
      split
      · exact Int.le_refl _
      · omega
    · have := wsF_m h n t a (by omega)
      split
      · show _ ≤ lackI I _
        omega
      · exact this
theorem IB.wp {I : Ins} (h : IB I) : lackI I (worst I) = 0 ↔ planI I := by
  have e : lackI I (worst I) = (wsF I (fullS I).toNat).2 := (wsF_2 h _).symm
  have hf := h.fs
  constructor
  · intro z t t0 t1
    have := wsF_m h (fullS I).toNat t t0 (by unfold fullS at *; omega)
    omega
  · intro p
    have w := h.wb
    have a := p (worst I) w.1 w.2
    have b := wsF_m h (fullS I).toNat 0 (Int.le_refl _) (by omega)
    rw [lack0 h] at b
    omega
theorem worst_end {I : Ins} (h : IB I) {i : Int} (e : i = 2 ^ (iL I).toNat) : (wsF I (i - 1).toNat).2 = lackI I (worst I) ∧ (wsF I (i - 1).toNat).1 = worst I := by
  have e2 : (wsF I (i - 1).toNat).1 = worst I := by unfold worst fullS; rw [e]
  exact ⟨(wsF_2 h _).trans (by rw [e2]), e2⟩

theorem dX12_offersOf_0 : decode cX12_offersOf 0 = .ok (.iconst 0, 1) := by decide +kernel
theorem dX12_offersOf_1 : decode cX12_offersOf 1 = .ok (.istore_n 3, 1) := by decide +kernel
theorem dX12_offersOf_2 : decode cX12_offersOf 2 = .ok (.iconst 0, 1) := by decide +kernel
theorem dX12_offersOf_3 : decode cX12_offersOf 3 = .ok (.istore 4, 2) := by decide +kernel
theorem dX12_offersOf_5 : decode cX12_offersOf 5 = .ok (.iload 4, 2) := by decide +kernel
theorem dX12_offersOf_7 : decode cX12_offersOf 7 = .ok (.aload_n 0, 1) := by decide +kernel
theorem dX12_offersOf_8 : decode cX12_offersOf 8 = .ok (.getfield 105, 3) := by decide +kernel
theorem dX12_offersOf_11 : decode cX12_offersOf 11 = .ok (.if_icmp .ge 33, 3) := by decide +kernel
theorem dX12_offersOf_14 : decode cX12_offersOf 14 = .ok (.iload_n 1, 1) := by decide +kernel
theorem dX12_offersOf_15 : decode cX12_offersOf 15 = .ok (.iload 4, 2) := by decide +kernel
theorem dX12_offersOf_17 : decode cX12_offersOf 17 = .ok (.ishr, 1) := by decide +kernel
theorem dX12_offersOf_18 : decode cX12_offersOf 18 = .ok (.iconst 1, 1) := by decide +kernel
theorem dX12_offersOf_19 : decode cX12_offersOf 19 = .ok (.iand, 1) := by decide +kernel
theorem dX12_offersOf_20 : decode cX12_offersOf 20 = .ok (.iconst 1, 1) := by decide +kernel
theorem dX12_offersOf_21 : decode cX12_offersOf 21 = .ok (.if_icmp .ne 17, 3) := by decide +kernel
theorem dX12_offersOf_24 : decode cX12_offersOf 24 = .ok (.iload_n 3, 1) := by decide +kernel
theorem dX12_offersOf_25 : decode cX12_offersOf 25 = .ok (.aload_n 0, 1) := by decide +kernel
theorem dX12_offersOf_26 : decode cX12_offersOf 26 = .ok (.getfield 38, 3) := by decide +kernel
theorem dX12_offersOf_29 : decode cX12_offersOf 29 = .ok (.iload 4, 2) := by decide +kernel
theorem dX12_offersOf_31 : decode cX12_offersOf 31 = .ok (.iload_n 2, 1) := by decide +kernel
theorem dX12_offersOf_32 : decode cX12_offersOf 32 = .ok (.invokestatic 87, 3) := by decide +kernel
theorem dX12_offersOf_35 : decode cX12_offersOf 35 = .ok (.iaload, 1) := by decide +kernel
theorem dX12_offersOf_36 : decode cX12_offersOf 36 = .ok (.iadd, 1) := by decide +kernel
theorem dX12_offersOf_37 : decode cX12_offersOf 37 = .ok (.istore_n 3, 1) := by decide +kernel
theorem dX12_offersOf_38 : decode cX12_offersOf 38 = .ok (.iinc 4 1, 3) := by decide +kernel
theorem dX12_offersOf_41 : decode cX12_offersOf 41 = .ok (.goto (-36), 3) := by decide +kernel
theorem dX12_offersOf_44 : decode cX12_offersOf 44 = .ok (.iload_n 3, 1) := by decide +kernel
theorem dX12_offersOf_45 : decode cX12_offersOf 45 = .ok (.ireturn, 1) := by decide +kernel
set_option maxHeartbeats 400000 in
theorem c12_offersOf {G : Gl} {l : Launch}  {M : Mem} {I : Ins} {t w : Int} (hG : GR M) (hA : MA M I) (hIb : IB I) (ht0 : 0 ≤ t) (ht1 : t < 2 ^ (iL I).toNat) (hw0 : 0 ≤ w) (hw1 : w < iW I) : Ct G LY 82 l 1 m12_offersOf [vR 57, vI t, vI w] M (Ret (vI (ss (fun x => iO I x w) t)) M) := by
  refine R_start (by decide +kernel) (Nat.le_of_ble_eq_true rfl) (fun C hC hRm hlau => ?_)
  show RZ G LY C (Zn G LY 82 C (Ret (vI (ss (fun x => iO I x w) t)) M)) 0 0 82 0 [some (vR 57), some (vI t), some (vI w), none, none] [] M
  have hL := hIb.1
  have hW := hIb.2.1
  have hp := hIb.pw
  refine R_iconst hC dX12_offersOf_0 ⟨by decide, by decide⟩ ?_
  refine R_istore_3 hC dX12_offersOf_1 rfl ?_
  refine R_iconst hC dX12_offersOf_2 ⟨by decide, by decide⟩ ?_
  refine R_istore_4 hC dX12_offersOf_3 rfl ?_
  have L5 : ∀ (mq : Nat) (acc : Int) (i : Int), (0 ≤ i) → (i ≤ iL I) → (acc = sm i.toNat (fun x => t / 2 ^ x.toNat % 2 * iO I x w)) → (iL I - i).toNat < mq → RZ G LY C (Zn G LY 82 C (Ret (vI (ss (fun x => iO I x w) t)) M)) 0 0 82 5 [some (vR 57), some (vI t), some (vI w), some (vI acc), some (vI i)] [] M := by
    intro mq
    induction mq with
    | zero =>
      intro acc i hi0 hi1 ha hm
      exact absurd hm (Nat.not_lt_zero _)
    | succ mq ih5 =>
      intro acc i hi0 hi1 ha hm5
      have hs := sm_bd2 (f := fun x => t / 2 ^ x.toNat % 2 * iO I x w) (q := 5) 3 hi0 (fun k a b => (by have z := hIb.2.2.1 k w a (by omega) hw0 hw1; have y := bt_01 t k.toNat; rcases y with y | y <;> rw [y] <;> omega)) (by decide) (by omega)
      refine R_iload_4 hC dX12_offersOf_5 ?_
      refine R_aload_0 hC dX12_offersOf_7 ?_
      refine R_getIE hC dX12_offersOf_8 fl_12_105 (by decide) rfl (by decide) (by decide) (fi := 5) rfl hA.1.1 ?_
      refine R_icmp_ge hC dX12_offersOf_11 (tgt := 44) (by decide) (fun hb11 => ?_) (fun hb11 => ?_)
      · skip
        refine R_iload_3 hC dX12_offersOf_44 ?_
        exact R_ireturn hC dX12_offersOf_45 rfl (ret_I (by rw [ha, ss_L hL.1 hL.2 ht0 ht1, show i = iL I by omega]))
      · skip
        refine R_iload_1 hC dX12_offersOf_14 ?_
        refine R_iload_4 hC dX12_offersOf_15 ?_
        refine R_ishr hC dX12_offersOf_17 (by omega) (by omega) ?_
        refine R_iconst hC dX12_offersOf_18 ⟨by decide, by decide⟩ ?_
        refine R_iandm hC dX12_offersOf_19 (m := 1) (by decide) (by decide) ?_
        refine R_iconst hC dX12_offersOf_20 ⟨by decide, by decide⟩ ?_
        refine R_icmp_ne hC dX12_offersOf_21 (tgt := 38) (by decide) (fun hb21 => ?_) (fun hb21 => ?_)
        · skip
          refine R_iinc_4 hC dX12_offersOf_38 rfl ⟨by omega, by omega⟩ ?_
          refine R_goto hC dX12_offersOf_41 (tgt := 5) (by decide) ?_
          exact ih5 _ _ (by omega) (by omega) (by rw [sm_to hi0 rfl, ← ha]; first | (rw [show t / 2 ^ i.toNat % 2 = 1 from hb21, Int.one_mul]) | (rw [show t / 2 ^ i.toNat % 2 = 0 from (by have z : ¬ t / 2 ^ i.toNat % 2 = 1 := hb21; have y := bt_01 t i.toNat; omega), Int.zero_mul, Int.add_zero])) (by omega)
        · skip
          refine R_iload_3 hC dX12_offersOf_24 ?_
          refine R_aload_0 hC dX12_offersOf_25 ?_
          refine R_getR hC dX12_offersOf_26 fl_12_38 (by decide) rfl (by decide) (by decide) (fi := 21) rfl (r := 66) (gr_57_21 hG) ?_
          refine R_iload_4 hC dX12_offersOf_29 ?_
          refine R_iload_2 hC dX12_offersOf_31 ?_
          refine R_callSq (as := [vI _, vI _]) hC dX12_offersOf_32 mo_12_cell ml_12_87 (c12_cell  (by omega) (by omega) (by omega) (by omega)) rfl rfl hRm (by decide) (by decide) (Nat.le_of_ble_eq_true rfl) ?_
          refine R_ialoadE hC dX12_offersOf_35 (by decide) rfl (by omega) (by omega) (hA.o i w (by omega) (by omega) (by omega) (by omega)) ?_
          have b1 := hIb.2.2.1 i w hi0 (by omega) hw0 hw1
          refine R_iadd hC dX12_offersOf_36 ⟨by omega, by omega⟩ ?_
          refine R_istore_3 hC dX12_offersOf_37 rfl ?_
          refine R_iinc_4 hC dX12_offersOf_38 rfl ⟨by omega, by omega⟩ ?_
          refine R_goto hC dX12_offersOf_41 (tgt := 5) (by decide) ?_
          exact ih5 _ _ (by omega) (by omega) (by rw [sm_to hi0 rfl, ← ha]; first | (rw [show t / 2 ^ i.toNat % 2 = 1 from hb21, Int.one_mul]) | (rw [show t / 2 ^ i.toNat % 2 = 0 from (by have z : ¬ t / 2 ^ i.toNat % 2 = 1 := hb21; have y := bt_01 t i.toNat; omega), Int.zero_mul, Int.add_zero])) (by omega)
  exact L5 _ _ _ (by omega) (by omega) rfl (Nat.lt_succ_self _)
theorem dX12_lackOf_0 : decode cX12_lackOf 0 = .ok (.iconst 0, 1) := by decide +kernel
theorem dX12_lackOf_1 : decode cX12_lackOf 1 = .ok (.istore_n 2, 1) := by decide +kernel
theorem dX12_lackOf_2 : decode cX12_lackOf 2 = .ok (.iconst 0, 1) := by decide +kernel
theorem dX12_lackOf_3 : decode cX12_lackOf 3 = .ok (.istore_n 3, 1) := by decide +kernel
theorem dX12_lackOf_4 : decode cX12_lackOf 4 = .ok (.iload_n 3, 1) := by decide +kernel
theorem dX12_lackOf_5 : decode cX12_lackOf 5 = .ok (.aload_n 0, 1) := by decide +kernel
theorem dX12_lackOf_6 : decode cX12_lackOf 6 = .ok (.getfield 105, 3) := by decide +kernel
theorem dX12_lackOf_9 : decode cX12_lackOf 9 = .ok (.if_icmp .ge 27, 3) := by decide +kernel
theorem dX12_lackOf_12 : decode cX12_lackOf 12 = .ok (.iload_n 1, 1) := by decide +kernel
theorem dX12_lackOf_13 : decode cX12_lackOf 13 = .ok (.iload_n 3, 1) := by decide +kernel
theorem dX12_lackOf_14 : decode cX12_lackOf 14 = .ok (.ishr, 1) := by decide +kernel
theorem dX12_lackOf_15 : decode cX12_lackOf 15 = .ok (.iconst 1, 1) := by decide +kernel
theorem dX12_lackOf_16 : decode cX12_lackOf 16 = .ok (.iand, 1) := by decide +kernel
theorem dX12_lackOf_17 : decode cX12_lackOf 17 = .ok (.iconst 1, 1) := by decide +kernel
theorem dX12_lackOf_18 : decode cX12_lackOf 18 = .ok (.if_icmp .ne 12, 3) := by decide +kernel
theorem dX12_lackOf_21 : decode cX12_lackOf 21 = .ok (.iload_n 2, 1) := by decide +kernel
theorem dX12_lackOf_22 : decode cX12_lackOf 22 = .ok (.aload_n 0, 1) := by decide +kernel
theorem dX12_lackOf_23 : decode cX12_lackOf 23 = .ok (.getfield 29, 3) := by decide +kernel
theorem dX12_lackOf_26 : decode cX12_lackOf 26 = .ok (.iload_n 3, 1) := by decide +kernel
theorem dX12_lackOf_27 : decode cX12_lackOf 27 = .ok (.iaload, 1) := by decide +kernel
theorem dX12_lackOf_28 : decode cX12_lackOf 28 = .ok (.iadd, 1) := by decide +kernel
theorem dX12_lackOf_29 : decode cX12_lackOf 29 = .ok (.istore_n 2, 1) := by decide +kernel
theorem dX12_lackOf_30 : decode cX12_lackOf 30 = .ok (.iinc 3 1, 3) := by decide +kernel
theorem dX12_lackOf_33 : decode cX12_lackOf 33 = .ok (.goto (-29), 3) := by decide +kernel
theorem dX12_lackOf_36 : decode cX12_lackOf 36 = .ok (.iconst 0, 1) := by decide +kernel
theorem dX12_lackOf_37 : decode cX12_lackOf 37 = .ok (.istore_n 3, 1) := by decide +kernel
theorem dX12_lackOf_38 : decode cX12_lackOf 38 = .ok (.iload_n 3, 1) := by decide +kernel
theorem dX12_lackOf_39 : decode cX12_lackOf 39 = .ok (.aload_n 0, 1) := by decide +kernel
theorem dX12_lackOf_40 : decode cX12_lackOf 40 = .ok (.getfield 102, 3) := by decide +kernel
theorem dX12_lackOf_43 : decode cX12_lackOf 43 = .ok (.if_icmp .ge 27, 3) := by decide +kernel
theorem dX12_lackOf_46 : decode cX12_lackOf 46 = .ok (.iload_n 2, 1) := by decide +kernel
theorem dX12_lackOf_47 : decode cX12_lackOf 47 = .ok (.aload_n 0, 1) := by decide +kernel
theorem dX12_lackOf_48 : decode cX12_lackOf 48 = .ok (.getfield 35, 3) := by decide +kernel
theorem dX12_lackOf_51 : decode cX12_lackOf 51 = .ok (.iload_n 3, 1) := by decide +kernel
theorem dX12_lackOf_52 : decode cX12_lackOf 52 = .ok (.iaload, 1) := by decide +kernel
theorem dX12_lackOf_53 : decode cX12_lackOf 53 = .ok (.aload_n 0, 1) := by decide +kernel
theorem dX12_lackOf_54 : decode cX12_lackOf 54 = .ok (.iload_n 1, 1) := by decide +kernel
theorem dX12_lackOf_55 : decode cX12_lackOf 55 = .ok (.iload_n 3, 1) := by decide +kernel
theorem dX12_lackOf_56 : decode cX12_lackOf 56 = .ok (.invokevirtual 123, 3) := by decide +kernel
theorem dX12_lackOf_59 : decode cX12_lackOf 59 = .ok (.invokestatic 126, 3) := by decide +kernel
theorem dX12_lackOf_62 : decode cX12_lackOf 62 = .ok (.isub, 1) := by decide +kernel
theorem dX12_lackOf_63 : decode cX12_lackOf 63 = .ok (.istore_n 2, 1) := by decide +kernel
theorem dX12_lackOf_64 : decode cX12_lackOf 64 = .ok (.iinc 3 1, 3) := by decide +kernel
theorem dX12_lackOf_67 : decode cX12_lackOf 67 = .ok (.goto (-29), 3) := by decide +kernel
theorem dX12_lackOf_70 : decode cX12_lackOf 70 = .ok (.iload_n 2, 1) := by decide +kernel
theorem dX12_lackOf_71 : decode cX12_lackOf 71 = .ok (.ireturn, 1) := by decide +kernel
set_option maxHeartbeats 400000 in
theorem c12_lackOf {G : Gl} {l : Launch}  {M : Mem} {I : Ins} {t : Int} (hG : GR M) (hA : MA M I) (hIb : IB I) (ht0 : 0 ≤ t) (ht1 : t < 2 ^ (iL I).toNat) : Ct G LY 82 l 2 m12_lackOf [vR 57, vI t] M (Ret (vI (lackI I t)) M) := by
  refine R_start (by decide +kernel) (Nat.le_of_ble_eq_true rfl) (fun C hC hRm hlau => ?_)
  show RZ G LY C (Zn G LY 82 C (Ret (vI (lackI I t)) M)) 0 0 82 0 [some (vR 57), some (vI t), none, none] [] M
  have hL := hIb.1
  have hW := hIb.2.1
  have hp := hIb.pw
  refine R_iconst hC dX12_lackOf_0 ⟨by decide, by decide⟩ ?_
  refine R_istore_2 hC dX12_lackOf_1 rfl ?_
  refine R_iconst hC dX12_lackOf_2 ⟨by decide, by decide⟩ ?_
  refine R_istore_3 hC dX12_lackOf_3 rfl ?_
  have L4 : ∀ (mq : Nat) (acc : Int) (i : Int), (0 ≤ i) → (i ≤ iL I) → (acc = sm i.toNat (fun x => t / 2 ^ x.toNat % 2 * iN I x)) → (iL I - i).toNat < mq → RZ G LY C (Zn G LY 82 C (Ret (vI (lackI I t)) M)) 0 0 82 4 [some (vR 57), some (vI t), some (vI acc), some (vI i)] [] M := by
    intro mq
    induction mq with
    | zero =>
      intro acc i hi0 hi1 ha hm
      exact absurd hm (Nat.not_lt_zero _)
    | succ mq ih4 =>
      intro acc i hi0 hi1 ha hm4
      have hs := sm_bd2 (f := fun x => t / 2 ^ x.toNat % 2 * iN I x) (q := 5) 100 hi0 (fun k a b => (by have z := hIb.2.2.2.2 k a (by omega); have y := bt_01 t k.toNat; rcases y with y | y <;> rw [y] <;> omega)) (by decide) (by omega)
      refine R_iload_3 hC dX12_lackOf_4 ?_
      refine R_aload_0 hC dX12_lackOf_5 ?_
      refine R_getIE hC dX12_lackOf_6 fl_12_105 (by decide) rfl (by decide) (by decide) (fi := 5) rfl hA.1.1 ?_
      refine R_icmp_ge hC dX12_lackOf_9 (tgt := 36) (by decide) (fun hb9 => ?_) (fun hb9 => ?_)
      · skip
        refine R_iconst hC dX12_lackOf_36 ⟨by decide, by decide⟩ ?_
        refine R_istore_3 hC dX12_lackOf_37 rfl ?_
        have L38 : ∀ (mq : Nat) (e : Int) (j : Int), (0 ≤ j) → (j ≤ iW I) → (e = ss (iN I) t - sm j.toNat (fun w => canw I w t)) → (iW I - j).toNat < mq → RZ G LY C (Zn G LY 82 C (Ret (vI (lackI I t)) M)) 0 0 82 38 [some (vR 57), some (vI t), some (vI e), some (vI j)] [] M := by
          intro mq
          induction mq with
          | zero =>
            intro e j hj0 hj1 hc hm
            exact absurd hm (Nat.not_lt_zero _)
          | succ mq ih38 =>
            intro e j hj0 hj1 hc hm38
            have hs2 := sm_bd2 (f := fun w => canw I w t) (q := 6) 15 hj0 (fun k a b => IB.cw hIb a (by omega) ht0 ht1) (by decide) (by omega)
            have hsn := IB.ssN hIb ht0 ht1
            refine R_iload_3 hC dX12_lackOf_38 ?_
            refine R_aload_0 hC dX12_lackOf_39 ?_
            refine R_getIE hC dX12_lackOf_40 fl_12_102 (by decide) rfl (by decide) (by decide) (fi := 6) rfl hA.1.2 ?_
            refine R_icmp_ge hC dX12_lackOf_43 (tgt := 70) (by decide) (fun hb43 => ?_) (fun hb43 => ?_)
            · skip
              refine R_iload_2 hC dX12_lackOf_70 ?_
              exact R_ireturn hC dX12_lackOf_71 rfl (ret_I (by rw [hc, show j = iW I by omega]; rfl))
            · skip
              refine R_iload_2 hC dX12_lackOf_46 ?_
              refine R_aload_0 hC dX12_lackOf_47 ?_
              refine R_getR hC dX12_lackOf_48 fl_12_35 (by decide) rfl (by decide) (by decide) (fi := 20) rfl (r := 65) (gr_57_20 hG) ?_
              refine R_iload_3 hC dX12_lackOf_51 ?_
              refine R_ialoadE hC dX12_lackOf_52 (by decide) rfl (by omega) (by omega) (hA.s j (by omega) (by omega)) ?_
              refine R_aload_0 hC dX12_lackOf_53 ?_
              refine R_iload_1 hC dX12_lackOf_54 ?_
              refine R_iload_3 hC dX12_lackOf_55 ?_
              refine R_callVq (as := [vI _, vI _]) hC dX12_lackOf_56 mo_12_offersOf ml_12_123 (by decide) rfl rfl (c12_offersOf  hG hA hIb (by omega) (by omega) (by omega) (by omega)) rfl rfl hRm (by decide) (by decide) (Nat.le_of_ble_eq_true rfl) ?_
              have e56_1 := IB.ssO hIb (w := j) (t := t) (by omega) (by omega) (by omega) (by omega)
              refine R_callSq (as := [vI _, vI _]) hC dX12_lackOf_59 mo_12_lesser ml_12_126 (c12_lesser  ) rfl rfl hRm (by decide) (by decide) (Nat.le_of_ble_eq_true rfl) ?_
              have b2 := (hIb.2.2.2.1 j hj0 (by omega)).1
              refine R_isub hC dX12_lackOf_62 ⟨by omega, by omega⟩ ?_
              refine R_istore_2 hC dX12_lackOf_63 rfl ?_
              refine R_iinc_3 hC dX12_lackOf_64 rfl ⟨by omega, by omega⟩ ?_
              refine R_goto hC dX12_lackOf_67 (tgt := 38) (by decide) ?_
              exact ih38 _ _ (by omega) (by omega) (by rw [sm_to hj0 rfl, hc]; show _ = _ - (_ + min (ss (fun x => iO I x j) t) (iS I j)); omega) (by omega)
        exact L38 _ _ _ (by omega) (by omega) (by rw [ha, ss_L hL.1 hL.2 ht0 ht1, show i = iL I by omega]; exact (Int.sub_zero _).symm) (Nat.lt_succ_self _)
      · skip
        refine R_iload_1 hC dX12_lackOf_12 ?_
        refine R_iload_3 hC dX12_lackOf_13 ?_
        refine R_ishr hC dX12_lackOf_14 (by omega) (by omega) ?_
        refine R_iconst hC dX12_lackOf_15 ⟨by decide, by decide⟩ ?_
        refine R_iandm hC dX12_lackOf_16 (m := 1) (by decide) (by decide) ?_
        refine R_iconst hC dX12_lackOf_17 ⟨by decide, by decide⟩ ?_
        refine R_icmp_ne hC dX12_lackOf_18 (tgt := 30) (by decide) (fun hb18 => ?_) (fun hb18 => ?_)
        · skip
          refine R_iinc_3 hC dX12_lackOf_30 rfl ⟨by omega, by omega⟩ ?_
          refine R_goto hC dX12_lackOf_33 (tgt := 4) (by decide) ?_
          exact ih4 _ _ (by omega) (by omega) (by rw [sm_to hi0 rfl, ← ha]; first | (rw [show t / 2 ^ i.toNat % 2 = 1 from hb18, Int.one_mul]) | (rw [show t / 2 ^ i.toNat % 2 = 0 from (by have z : ¬ t / 2 ^ i.toNat % 2 = 1 := hb18; have y := bt_01 t i.toNat; omega), Int.zero_mul, Int.add_zero])) (by omega)
        · skip
          refine R_iload_2 hC dX12_lackOf_21 ?_
          refine R_aload_0 hC dX12_lackOf_22 ?_
          refine R_getR hC dX12_lackOf_23 fl_12_29 (by decide) rfl (by decide) (by decide) (fi := 18) rfl (r := 63) (gr_57_18 hG) ?_
          refine R_iload_3 hC dX12_lackOf_26 ?_
          refine R_ialoadE hC dX12_lackOf_27 (by decide) rfl (by omega) (by omega) (hA.n i (by omega) (by omega)) ?_
          have b1 := hIb.2.2.2.2 i hi0 (by omega)
          refine R_iadd hC dX12_lackOf_28 ⟨by omega, by omega⟩ ?_
          refine R_istore_2 hC dX12_lackOf_29 rfl ?_
          refine R_iinc_3 hC dX12_lackOf_30 rfl ⟨by omega, by omega⟩ ?_
          refine R_goto hC dX12_lackOf_33 (tgt := 4) (by decide) ?_
          exact ih4 _ _ (by omega) (by omega) (by rw [sm_to hi0 rfl, ← ha]; first | (rw [show t / 2 ^ i.toNat % 2 = 1 from hb18, Int.one_mul]) | (rw [show t / 2 ^ i.toNat % 2 = 0 from (by have z : ¬ t / 2 ^ i.toNat % 2 = 1 := hb18; have y := bt_01 t i.toNat; omega), Int.zero_mul, Int.add_zero])) (by omega)
  exact L4 _ _ _ (by omega) (by omega) rfl (Nat.lt_succ_self _)
theorem dX12_bits_0 : decode cX12_bits 0 = .ok (.iconst 0, 1) := by decide +kernel
theorem dX12_bits_1 : decode cX12_bits 1 = .ok (.istore_n 1, 1) := by decide +kernel
theorem dX12_bits_2 : decode cX12_bits 2 = .ok (.iconst 0, 1) := by decide +kernel
theorem dX12_bits_3 : decode cX12_bits 3 = .ok (.istore_n 2, 1) := by decide +kernel
theorem dX12_bits_4 : decode cX12_bits 4 = .ok (.iload_n 2, 1) := by decide +kernel
theorem dX12_bits_5 : decode cX12_bits 5 = .ok (.bipush 6, 2) := by decide +kernel
theorem dX12_bits_7 : decode cX12_bits 7 = .ok (.if_icmp .ge 17, 3) := by decide +kernel
theorem dX12_bits_10 : decode cX12_bits 10 = .ok (.iload_n 1, 1) := by decide +kernel
theorem dX12_bits_11 : decode cX12_bits 11 = .ok (.iload_n 0, 1) := by decide +kernel
theorem dX12_bits_12 : decode cX12_bits 12 = .ok (.iload_n 2, 1) := by decide +kernel
theorem dX12_bits_13 : decode cX12_bits 13 = .ok (.ishr, 1) := by decide +kernel
theorem dX12_bits_14 : decode cX12_bits 14 = .ok (.iconst 1, 1) := by decide +kernel
theorem dX12_bits_15 : decode cX12_bits 15 = .ok (.iand, 1) := by decide +kernel
theorem dX12_bits_16 : decode cX12_bits 16 = .ok (.iadd, 1) := by decide +kernel
theorem dX12_bits_17 : decode cX12_bits 17 = .ok (.istore_n 1, 1) := by decide +kernel
theorem dX12_bits_18 : decode cX12_bits 18 = .ok (.iinc 2 1, 3) := by decide +kernel
theorem dX12_bits_21 : decode cX12_bits 21 = .ok (.goto (-17), 3) := by decide +kernel
theorem dX12_bits_24 : decode cX12_bits 24 = .ok (.iload_n 1, 1) := by decide +kernel
theorem dX12_bits_25 : decode cX12_bits 25 = .ok (.ireturn, 1) := by decide +kernel
set_option maxHeartbeats 400000 in
theorem c12_bits {G : Gl} {l : Launch}  {M : Mem} {t : Int} (ht0 : 0 ≤ t) (ht1 : t < 32) : Ct G LY 82 l 0 m12_bits [vI t] M (Ret (vI (bc t)) M) := by
  refine R_start (by decide +kernel) (Nat.le_of_ble_eq_true rfl) (fun C hC hRm hlau => ?_)
  show RZ G LY C (Zn G LY 82 C (Ret (vI (bc t)) M)) 0 0 82 0 [some (vI t), none, none] [] M
  refine R_iconst hC dX12_bits_0 ⟨by decide, by decide⟩ ?_
  refine R_istore_1 hC dX12_bits_1 rfl ?_
  refine R_iconst hC dX12_bits_2 ⟨by decide, by decide⟩ ?_
  refine R_istore_2 hC dX12_bits_3 rfl ?_
  have L4 : ∀ (mq : Nat) (acc : Int) (i : Int), (0 ≤ i) → (i ≤ 6) → (acc = sm i.toNat (fun x => t / 2 ^ x.toNat % 2)) → (6 - i).toNat < mq → RZ G LY C (Zn G LY 82 C (Ret (vI (bc t)) M)) 0 0 82 4 [some (vI t), some (vI acc), some (vI i)] [] M := by
    intro mq
    induction mq with
    | zero =>
      intro acc i hi0 hi1 ha hm
      exact absurd hm (Nat.not_lt_zero _)
    | succ mq ih4 =>
      intro acc i hi0 hi1 ha hm4
      have hs := sm_bd2 (f := fun x => t / 2 ^ x.toNat % 2) (q := 6) 1 hi0 (fun k a b => (by have y := bt_01 t k.toNat; rcases y with y | y <;> rw [y] <;> omega)) (by decide) (by omega)
      refine R_iload_2 hC dX12_bits_4 ?_
      refine R_bipush hC dX12_bits_5 (by decide +kernel) ⟨by decide, by decide⟩ ?_
      refine R_icmp_ge hC dX12_bits_7 (tgt := 24) (by decide) (fun hb7 => ?_) (fun hb7 => ?_)
      · skip
        refine R_iload_1 hC dX12_bits_24 ?_
        exact R_ireturn hC dX12_bits_25 rfl (ret_I (by rw [ha, show i = 6 by omega]; exact bc_6 ht0 ht1))
      · skip
        refine R_iload_1 hC dX12_bits_10 ?_
        refine R_iload_0 hC dX12_bits_11 ?_
        refine R_iload_2 hC dX12_bits_12 ?_
        refine R_ishr hC dX12_bits_13 (by omega) (by omega) ?_
        refine R_iconst hC dX12_bits_14 ⟨by decide, by decide⟩ ?_
        refine R_iandm hC dX12_bits_15 (m := 1) (by decide) (by decide) ?_
        have y : t / 2 ^ i.toNat % 2 ^ 1 = 0 ∨ t / 2 ^ i.toNat % 2 ^ 1 = 1 := bt_01 t i.toNat
        refine R_iadd hC dX12_bits_16 ⟨by omega, by omega⟩ ?_
        refine R_istore_1 hC dX12_bits_17 rfl ?_
        refine R_iinc_2 hC dX12_bits_18 rfl ⟨by omega, by omega⟩ ?_
        refine R_goto hC dX12_bits_21 (tgt := 4) (by decide) ?_
        exact ih4 _ _ (by omega) (by omega) (by rw [sm_to hi0 rfl, ← ha]; rfl) (by omega)
  exact L4 _ _ _ (by omega) (by omega) rfl (Nat.lt_succ_self _)
theorem dX12_laysShortage_0 : decode cX12_laysShortage 0 = .ok (.aload_n 0, 1) := by decide +kernel
theorem dX12_laysShortage_1 : decode cX12_laysShortage 1 = .ok (.iconst 0, 1) := by decide +kernel
theorem dX12_laysShortage_2 : decode cX12_laysShortage 2 = .ok (.putfield 129, 3) := by decide +kernel
theorem dX12_laysShortage_5 : decode cX12_laysShortage 5 = .ok (.aload_n 0, 1) := by decide +kernel
theorem dX12_laysShortage_6 : decode cX12_laysShortage 6 = .ok (.iconst 0, 1) := by decide +kernel
theorem dX12_laysShortage_7 : decode cX12_laysShortage 7 = .ok (.putfield 132, 3) := by decide +kernel
theorem dX12_laysShortage_10 : decode cX12_laysShortage 10 = .ok (.iconst 1, 1) := by decide +kernel
theorem dX12_laysShortage_11 : decode cX12_laysShortage 11 = .ok (.istore_n 1, 1) := by decide +kernel
theorem dX12_laysShortage_12 : decode cX12_laysShortage 12 = .ok (.iload_n 1, 1) := by decide +kernel
theorem dX12_laysShortage_13 : decode cX12_laysShortage 13 = .ok (.iconst 1, 1) := by decide +kernel
theorem dX12_laysShortage_14 : decode cX12_laysShortage 14 = .ok (.aload_n 0, 1) := by decide +kernel
theorem dX12_laysShortage_15 : decode cX12_laysShortage 15 = .ok (.getfield 105, 3) := by decide +kernel
theorem dX12_laysShortage_18 : decode cX12_laysShortage 18 = .ok (.ishl, 1) := by decide +kernel
theorem dX12_laysShortage_19 : decode cX12_laysShortage 19 = .ok (.if_icmp .ge 58, 3) := by decide +kernel
theorem dX12_laysShortage_22 : decode cX12_laysShortage 22 = .ok (.aload_n 0, 1) := by decide +kernel
theorem dX12_laysShortage_23 : decode cX12_laysShortage 23 = .ok (.iload_n 1, 1) := by decide +kernel
theorem dX12_laysShortage_24 : decode cX12_laysShortage 24 = .ok (.invokevirtual 135, 3) := by decide +kernel
theorem dX12_laysShortage_27 : decode cX12_laysShortage 27 = .ok (.istore_n 2, 1) := by decide +kernel
theorem dX12_laysShortage_28 : decode cX12_laysShortage 28 = .ok (.iload_n 2, 1) := by decide +kernel
theorem dX12_laysShortage_29 : decode cX12_laysShortage 29 = .ok (.aload_n 0, 1) := by decide +kernel
theorem dX12_laysShortage_30 : decode cX12_laysShortage 30 = .ok (.getfield 129, 3) := by decide +kernel
theorem dX12_laysShortage_33 : decode cX12_laysShortage 33 = .ok (.if_icmp .lt 38, 3) := by decide +kernel
theorem dX12_laysShortage_36 : decode cX12_laysShortage 36 = .ok (.iload_n 2, 1) := by decide +kernel
theorem dX12_laysShortage_37 : decode cX12_laysShortage 37 = .ok (.aload_n 0, 1) := by decide +kernel
theorem dX12_laysShortage_38 : decode cX12_laysShortage 38 = .ok (.getfield 129, 3) := by decide +kernel
theorem dX12_laysShortage_41 : decode cX12_laysShortage 41 = .ok (.if_icmp .ne 20, 3) := by decide +kernel
theorem dX12_laysShortage_44 : decode cX12_laysShortage 44 = .ok (.iload_n 1, 1) := by decide +kernel
theorem dX12_laysShortage_45 : decode cX12_laysShortage 45 = .ok (.invokestatic 139, 3) := by decide +kernel
theorem dX12_laysShortage_48 : decode cX12_laysShortage 48 = .ok (.aload_n 0, 1) := by decide +kernel
theorem dX12_laysShortage_49 : decode cX12_laysShortage 49 = .ok (.getfield 132, 3) := by decide +kernel
theorem dX12_laysShortage_52 : decode cX12_laysShortage 52 = .ok (.invokestatic 139, 3) := by decide +kernel
theorem dX12_laysShortage_55 : decode cX12_laysShortage 55 = .ok (.if_icmp .lt 6, 3) := by decide +kernel
theorem dX12_laysShortage_58 : decode cX12_laysShortage 58 = .ok (.goto 13, 3) := by decide +kernel
theorem dX12_laysShortage_61 : decode cX12_laysShortage 61 = .ok (.aload_n 0, 1) := by decide +kernel
theorem dX12_laysShortage_62 : decode cX12_laysShortage 62 = .ok (.iload_n 2, 1) := by decide +kernel
theorem dX12_laysShortage_63 : decode cX12_laysShortage 63 = .ok (.putfield 129, 3) := by decide +kernel
theorem dX12_laysShortage_66 : decode cX12_laysShortage 66 = .ok (.aload_n 0, 1) := by decide +kernel
theorem dX12_laysShortage_67 : decode cX12_laysShortage 67 = .ok (.iload_n 1, 1) := by decide +kernel
theorem dX12_laysShortage_68 : decode cX12_laysShortage 68 = .ok (.putfield 132, 3) := by decide +kernel
theorem dX12_laysShortage_71 : decode cX12_laysShortage 71 = .ok (.iinc 1 1, 3) := by decide +kernel
theorem dX12_laysShortage_74 : decode cX12_laysShortage 74 = .ok (.goto (-62), 3) := by decide +kernel
theorem dX12_laysShortage_77 : decode cX12_laysShortage 77 = .ok (.return_, 1) := by decide +kernel
set_option maxHeartbeats 400000 in
theorem c12_laysShortage {G : Gl} {l : Launch}  {M : Mem} {I : Ins} (hG : GR M) (hA : MA M I) (hIb : IB I) : Ct G LY 82 l 3 m12_laysShortage [vR 57] M (RV (fun M' => Fr [] [(57, 22), (57, 23)] M M' ∧ M' 57 22 = lackI I (worst I) ∧ M' 57 23 = worst I)) := by
  refine R_start (by decide +kernel) (Nat.le_of_ble_eq_true rfl) (fun C hC hRm hlau => ?_)
  show RZ G LY C (Zn G LY 82 C (RV (fun M' => Fr [] [(57, 22), (57, 23)] M M' ∧ M' 57 22 = lackI I (worst I) ∧ M' 57 23 = worst I))) 0 0 82 0 [some (vR 57), none, none] [] M
  have hL := hIb.1
  have hW := hIb.2.1
  have hp := hIb.pw
  refine R_aload_0 hC dX12_laysShortage_0 ?_
  refine R_iconst hC dX12_laysShortage_1 ⟨by decide, by decide⟩ ?_
  refine R_putI hC dX12_laysShortage_2 fl_12_129 (by decide) rfl (by decide) (by decide) (fi := 22) rfl ?_
  refine R_aload_0 hC dX12_laysShortage_5 ?_
  refine R_iconst hC dX12_laysShortage_6 ⟨by decide, by decide⟩ ?_
  refine R_putI hC dX12_laysShortage_7 fl_12_132 (by decide) rfl (by decide) (by decide) (fi := 23) rfl ?_
  refine R_iconst hC dX12_laysShortage_10 ⟨by decide, by decide⟩ ?_
  refine R_istore_1 hC dX12_laysShortage_11 rfl ?_
  have L12 : ∀ (mq : Nat) (i : Int) (M2 : Mem), (1 ≤ i) → (i ≤ 2 ^ (iL I).toNat) → (GR M2) → (Fr [] [(57, 22), (57, 23)] M M2) → (MA M2 I) → (M2 57 22 = (wsF I (i - 1).toNat).2) → (M2 57 23 = (wsF I (i - 1).toNat).1) → (2 ^ (iL I).toNat - i).toNat < mq → RZ G LY C (Zn G LY 82 C (RV (fun M' => Fr [] [(57, 22), (57, 23)] M M' ∧ M' 57 22 = lackI I (worst I) ∧ M' 57 23 = worst I))) 0 0 82 12 [some (vR 57), some (vI i), none] [] M2 := by
    intro mq
    induction mq with
    | zero =>
      intro i M2 hi0 hi1 hg hF hA2 h22 h23 hm
      exact absurd hm (Nat.not_lt_zero _)
    | succ mq ih12 =>
      intro i M2 hi0 hi1 hg hF hA2 h22 h23 hm12
      have ba := wsF_bd I (i - 1).toNat
      refine R_iload_1 hC dX12_laysShortage_12 ?_
      refine R_iconst hC dX12_laysShortage_13 ⟨by decide, by decide⟩ ?_
      refine R_aload_0 hC dX12_laysShortage_14 ?_
      refine R_getIE hC dX12_laysShortage_15 fl_12_105 (by decide) rfl (by decide) (by decide) (fi := 5) rfl hA2.1.1 ?_
      refine R_shl1 hC dX12_laysShortage_18 (by omega) (by omega) ?_
      refine R_icmp_ge hC dX12_laysShortage_19 (tgt := 77) (by decide) (fun hb19 => ?_) (fun hb19 => ?_)
      · skip
        exact R_return hC dX12_laysShortage_77 rfl (ret_V ⟨hF, h22.trans (worst_end hIb (by omega)).1, h23.trans (worst_end hIb (by omega)).2⟩)
      · skip
        refine R_aload_0 hC dX12_laysShortage_22 ?_
        refine R_iload_1 hC dX12_laysShortage_23 ?_
        refine R_callVq (as := [vI _]) hC dX12_laysShortage_24 mo_12_lackOf ml_12_135 (by decide) rfl rfl (c12_lackOf  hg hA2 hIb (by omega) (by omega)) rfl rfl hRm (by decide) (by decide) (Nat.le_of_ble_eq_true rfl) ?_
        have e24_1 := IB.lk hIb (t := i) (by omega) (by omega)
        refine R_istore_2 hC dX12_laysShortage_27 rfl ?_
        have L71 : ∀  (M3 : Mem), (GR M3) → (Fr [] [(57, 22), (57, 23)] M M3) → (MA M3 I) → (M3 57 22 = (wsF I (i + 1 - 1).toNat).2) → (M3 57 23 = (wsF I (i + 1 - 1).toNat).1) → RZ G LY C (Zn G LY 82 C (RV (fun M' => Fr [] [(57, 22), (57, 23)] M M' ∧ M' 57 22 = lackI I (worst I) ∧ M' 57 23 = worst I))) 0 0 82 71 [some (vR 57), some (vI i), none] [] M3 := by
          intro M3 hg3 hF3 hA3 h223 h233
          refine R_iinc_1 hC dX12_laysShortage_71 rfl ⟨by omega, by omega⟩ ?_
          refine R_goto hC dX12_laysShortage_74 (tgt := 12) (by decide) ?_
          exact ih12 _ _ (by omega) (by omega) hg3 hF3 hA3 h223 h233 (by omega)
        refine R_iload_2 hC dX12_laysShortage_28 ?_
        refine R_aload_0 hC dX12_laysShortage_29 ?_
        refine R_getIE hC dX12_laysShortage_30 fl_12_129 (by decide) rfl (by decide) (by decide) (fi := 22) rfl h22 ?_
        refine R_icmp_lt hC dX12_laysShortage_33 (tgt := 71) (by decide) (fun hb33 => ?_) (fun hb33 => ?_)
        · skip
          refine R_weak (subL_c (subL_c (subL_d subL_n))) ?_
          exact L71 _ hg (by first | exact hF | exact Fr.uB (Fr.uB hF (by decide)) (by decide)) hA2 (by rw [show i + 1 - 1 = i by omega, wsF_s hi0]; first | (rw [if_neg (by omega)]; exact h22) | (rw [if_pos (by omega)]; exact (uM_k (by decide)).trans uM_same)) (by rw [show i + 1 - 1 = i by omega, wsF_s hi0]; first | (rw [if_neg (by omega)]; exact h23) | (rw [if_pos (by omega)]; exact uM_same))
        · skip
          refine R_iload_2 hC dX12_laysShortage_36 ?_
          refine R_aload_0 hC dX12_laysShortage_37 ?_
          refine R_getIE hC dX12_laysShortage_38 fl_12_129 (by decide) rfl (by decide) (by decide) (fi := 22) rfl h22 ?_
          refine R_icmp_ne hC dX12_laysShortage_41 (tgt := 61) (by decide) (fun hb41 => ?_) (fun hb41 => ?_)
          · skip
            refine R_aload_0 hC dX12_laysShortage_61 ?_
            refine R_iload_2 hC dX12_laysShortage_62 ?_
            refine R_putI hC dX12_laysShortage_63 fl_12_129 (by decide) rfl (by decide) (by decide) (fi := 22) rfl ?_
            refine R_aload_0 hC dX12_laysShortage_66 ?_
            refine R_iload_1 hC dX12_laysShortage_67 ?_
            refine R_putI hC dX12_laysShortage_68 fl_12_132 (by decide) rfl (by decide) (by decide) (fi := 23) rfl ?_
            refine R_weak (subL_c (subL_c (subL_d subL_n))) ?_
            have hG2 : GR (uM (uM M2 57 22 (lackI I i)) 57 23 i) := (GR.uF (GR.uF hg (by decide +kernel) (by decide)) (by decide +kernel) (by decide))
            have hk3 : MA (uM (uM M2 57 22 (lackI I i)) 57 23 i) I := (MA.uf (MA.uf hA2 (by decide)) (by decide))
            exact L71 _ hG2 (by first | exact hF | exact Fr.uB (Fr.uB hF (by decide)) (by decide)) hk3 (by rw [show i + 1 - 1 = i by omega, wsF_s hi0]; first | (rw [if_neg (by omega)]; exact h22) | (rw [if_pos (by omega)]; exact (uM_k (by decide)).trans uM_same)) (by rw [show i + 1 - 1 = i by omega, wsF_s hi0]; first | (rw [if_neg (by omega)]; exact h23) | (rw [if_pos (by omega)]; exact uM_same))
          · skip
            refine R_iload_1 hC dX12_laysShortage_44 ?_
            refine R_callSq (as := [vI _]) hC dX12_laysShortage_45 mo_12_bits ml_12_139 (c12_bits  (by omega) (by omega)) rfl rfl hRm (by decide) (by decide) (Nat.le_of_ble_eq_true rfl) ?_
            have e45_4 := bc_bd (t := i) (by omega) (by omega)
            refine R_aload_0 hC dX12_laysShortage_48 ?_
            refine R_getIE hC dX12_laysShortage_49 fl_12_132 (by decide) rfl (by decide) (by decide) (fi := 23) rfl h23 ?_
            refine R_callSq (as := [vI _]) hC dX12_laysShortage_52 mo_12_bits ml_12_139 (c12_bits  (by omega) (by omega)) rfl rfl hRm (by decide) (by decide) (Nat.le_of_ble_eq_true rfl) ?_
            have e52_5 := bc_bd (t := ((wsF I (i - 1).toNat).1)) (by omega) (by omega)
            refine R_icmp_lt hC dX12_laysShortage_55 (tgt := 61) (by decide) (fun hb55 => ?_) (fun hb55 => ?_)
            · skip
              refine R_aload_0 hC dX12_laysShortage_61 ?_
              refine R_iload_2 hC dX12_laysShortage_62 ?_
              refine R_putI hC dX12_laysShortage_63 fl_12_129 (by decide) rfl (by decide) (by decide) (fi := 22) rfl ?_
              refine R_aload_0 hC dX12_laysShortage_66 ?_
              refine R_iload_1 hC dX12_laysShortage_67 ?_
              refine R_putI hC dX12_laysShortage_68 fl_12_132 (by decide) rfl (by decide) (by decide) (fi := 23) rfl ?_
              refine R_weak (subL_c (subL_c (subL_d subL_n))) ?_
              have hG6 : GR (uM (uM M2 57 22 (lackI I i)) 57 23 i) := (GR.uF (GR.uF hg (by decide +kernel) (by decide)) (by decide +kernel) (by decide))
              have hk7 : MA (uM (uM M2 57 22 (lackI I i)) 57 23 i) I := (MA.uf (MA.uf hA2 (by decide)) (by decide))
              exact L71 _ hG6 (by first | exact hF | exact Fr.uB (Fr.uB hF (by decide)) (by decide)) hk7 (by rw [show i + 1 - 1 = i by omega, wsF_s hi0]; first | (rw [if_neg (by omega)]; exact h22) | (rw [if_pos (by omega)]; exact (uM_k (by decide)).trans uM_same)) (by rw [show i + 1 - 1 = i by omega, wsF_s hi0]; first | (rw [if_neg (by omega)]; exact h23) | (rw [if_pos (by omega)]; exact uM_same))
            · skip
              refine R_goto hC dX12_laysShortage_58 (tgt := 71) (by decide) ?_
              refine R_weak (subL_c (subL_c (subL_d subL_n))) ?_
              exact L71 _ hg (by first | exact hF | exact Fr.uB (Fr.uB hF (by decide)) (by decide)) hA2 (by rw [show i + 1 - 1 = i by omega, wsF_s hi0]; first | (rw [if_neg (by omega)]; exact h22) | (rw [if_pos (by omega)]; exact (uM_k (by decide)).trans uM_same)) (by rw [show i + 1 - 1 = i by omega, wsF_s hi0]; first | (rw [if_neg (by omega)]; exact h23) | (rw [if_pos (by omega)]; exact uM_same))
  have hG8 : GR (uM (uM M 57 22 0) 57 23 0) := (GR.uF (GR.uF hG (by decide +kernel) (by decide)) (by decide +kernel) (by decide))
  have hk9 : MA (uM (uM M 57 22 0) 57 23 0) I := (MA.uf (MA.uf hA (by decide)) (by decide))
  exact L12 _ _ _ (by omega) (by omega) hG8 (Fr.uB (Fr.uB Fr.rf (by decide)) (by decide)) hk9 ((uM_k (by decide)).trans uM_same) uM_same (Nat.lt_succ_self _)
theorem dX12_shortWorks_0 : decode cX12_shortWorks 0 = .ok (.iconst 0, 1) := by decide +kernel
theorem dX12_shortWorks_1 : decode cX12_shortWorks 1 = .ok (.istore_n 1, 1) := by decide +kernel
theorem dX12_shortWorks_2 : decode cX12_shortWorks 2 = .ok (.iconst 0, 1) := by decide +kernel
theorem dX12_shortWorks_3 : decode cX12_shortWorks 3 = .ok (.istore_n 2, 1) := by decide +kernel
theorem dX12_shortWorks_4 : decode cX12_shortWorks 4 = .ok (.iload_n 2, 1) := by decide +kernel
theorem dX12_shortWorks_5 : decode cX12_shortWorks 5 = .ok (.aload_n 0, 1) := by decide +kernel
theorem dX12_shortWorks_6 : decode cX12_shortWorks 6 = .ok (.getfield 102, 3) := by decide +kernel
theorem dX12_shortWorks_9 : decode cX12_shortWorks 9 = .ok (.if_icmp .ge 33, 3) := by decide +kernel
theorem dX12_shortWorks_12 : decode cX12_shortWorks 12 = .ok (.aload_n 0, 1) := by decide +kernel
theorem dX12_shortWorks_13 : decode cX12_shortWorks 13 = .ok (.aload_n 0, 1) := by decide +kernel
theorem dX12_shortWorks_14 : decode cX12_shortWorks 14 = .ok (.getfield 132, 3) := by decide +kernel
theorem dX12_shortWorks_17 : decode cX12_shortWorks 17 = .ok (.iload_n 2, 1) := by decide +kernel
theorem dX12_shortWorks_18 : decode cX12_shortWorks 18 = .ok (.invokevirtual 123, 3) := by decide +kernel
theorem dX12_shortWorks_21 : decode cX12_shortWorks 21 = .ok (.aload_n 0, 1) := by decide +kernel
theorem dX12_shortWorks_22 : decode cX12_shortWorks 22 = .ok (.getfield 35, 3) := by decide +kernel
theorem dX12_shortWorks_25 : decode cX12_shortWorks 25 = .ok (.iload_n 2, 1) := by decide +kernel
theorem dX12_shortWorks_26 : decode cX12_shortWorks 26 = .ok (.iaload, 1) := by decide +kernel
theorem dX12_shortWorks_27 : decode cX12_shortWorks 27 = .ok (.if_icmp .le 9, 3) := by decide +kernel
theorem dX12_shortWorks_30 : decode cX12_shortWorks 30 = .ok (.iload_n 1, 1) := by decide +kernel
theorem dX12_shortWorks_31 : decode cX12_shortWorks 31 = .ok (.iconst 1, 1) := by decide +kernel
theorem dX12_shortWorks_32 : decode cX12_shortWorks 32 = .ok (.iload_n 2, 1) := by decide +kernel
theorem dX12_shortWorks_33 : decode cX12_shortWorks 33 = .ok (.ishl, 1) := by decide +kernel
theorem dX12_shortWorks_34 : decode cX12_shortWorks 34 = .ok (.ior, 1) := by decide +kernel
theorem dX12_shortWorks_35 : decode cX12_shortWorks 35 = .ok (.istore_n 1, 1) := by decide +kernel
theorem dX12_shortWorks_36 : decode cX12_shortWorks 36 = .ok (.iinc 2 1, 3) := by decide +kernel
theorem dX12_shortWorks_39 : decode cX12_shortWorks 39 = .ok (.goto (-35), 3) := by decide +kernel
theorem dX12_shortWorks_42 : decode cX12_shortWorks 42 = .ok (.iload_n 1, 1) := by decide +kernel
theorem dX12_shortWorks_43 : decode cX12_shortWorks 43 = .ok (.ireturn, 1) := by decide +kernel
set_option maxHeartbeats 400000 in
theorem c12_shortWorks {G : Gl} {l : Launch}  {M : Mem} {I : Ins} (hG : GR M) (hA : MA M I) (hIb : IB I) (hs0 : 0 ≤ M 57 23) (hs1 : M 57 23 < 2 ^ (iL I).toNat) : Ct G LY 82 l 2 m12_shortWorks [vR 57] M (Ret (vI (bits (iW I).toNat (fun k => iS I k < ss (fun x => iO I x k) (M 57 23)))) M) := by
  refine R_start (by decide +kernel) (Nat.le_of_ble_eq_true rfl) (fun C hC hRm hlau => ?_)
  show RZ G LY C (Zn G LY 82 C (Ret (vI (bits (iW I).toNat (fun k => iS I k < ss (fun x => iO I x k) (M 57 23)))) M)) 0 0 82 0 [some (vR 57), none, none] [] M
  have hL := hIb.1
  have hW := hIb.2.1
  have hp := hIb.pw
  refine R_iconst hC dX12_shortWorks_0 ⟨by decide, by decide⟩ ?_
  refine R_istore_1 hC dX12_shortWorks_1 rfl ?_
  refine R_iconst hC dX12_shortWorks_2 ⟨by decide, by decide⟩ ?_
  refine R_istore_2 hC dX12_shortWorks_3 rfl ?_
  have L4 : ∀ (mq : Nat) (acc : Int) (i : Int), (0 ≤ i) → (i ≤ iW I) → (acc = bits i.toNat (fun k => iS I k < ss (fun x => iO I x k) (M 57 23))) → (iW I - i).toNat < mq → RZ G LY C (Zn G LY 82 C (Ret (vI (bits (iW I).toNat (fun k => iS I k < ss (fun x => iO I x k) (M 57 23)))) M)) 0 0 82 4 [some (vR 57), some (vI acc), some (vI i)] [] M := by
    intro mq
    induction mq with
    | zero =>
      intro acc i hi0 hi1 ha hm
      exact absurd hm (Nat.not_lt_zero _)
    | succ mq ih4 =>
      intro acc i hi0 hi1 ha hm4
      have hp2 := pw_bd hi0 (by omega)
      have hq := bits_b10 (fun k => iS I k < ss (fun x => iO I x k) (M 57 23)) hi0 (by omega)
      refine R_iload_2 hC dX12_shortWorks_4 ?_
      refine R_aload_0 hC dX12_shortWorks_5 ?_
      refine R_getIE hC dX12_shortWorks_6 fl_12_102 (by decide) rfl (by decide) (by decide) (fi := 6) rfl hA.1.2 ?_
      refine R_icmp_ge hC dX12_shortWorks_9 (tgt := 42) (by decide) (fun hb9 => ?_) (fun hb9 => ?_)
      · skip
        refine R_iload_1 hC dX12_shortWorks_42 ?_
        exact R_ireturn hC dX12_shortWorks_43 rfl (ret_I (by rw [ha, show i = iW I by omega]))
      · skip
        refine R_aload_0 hC dX12_shortWorks_12 ?_
        refine R_aload_0 hC dX12_shortWorks_13 ?_
        refine R_getI hC dX12_shortWorks_14 fl_12_132 (by decide) rfl (by decide) (by decide) (fi := 23) rfl ?_
        refine R_iload_2 hC dX12_shortWorks_17 ?_
        refine R_callVq (as := [vI _, vI _]) hC dX12_shortWorks_18 mo_12_offersOf ml_12_123 (by decide) rfl rfl (c12_offersOf  hG hA hIb (by omega) (by omega) (by omega) (by omega)) rfl rfl hRm (by decide) (by decide) (Nat.le_of_ble_eq_true rfl) ?_
        have e18_1 := IB.ssO hIb (w := i) (t := (M 57 23)) (by omega) (by omega) (by omega) (by omega)
        refine R_aload_0 hC dX12_shortWorks_21 ?_
        refine R_getR hC dX12_shortWorks_22 fl_12_35 (by decide) rfl (by decide) (by decide) (fi := 20) rfl (r := 65) (gr_57_20 hG) ?_
        refine R_iload_2 hC dX12_shortWorks_25 ?_
        refine R_ialoadE hC dX12_shortWorks_26 (by decide) rfl (by omega) (by omega) (hA.s i (by omega) (by omega)) ?_
        refine R_icmp_le hC dX12_shortWorks_27 (tgt := 36) (by decide) (fun hb27 => ?_) (fun hb27 => ?_)
        · skip
          refine R_iinc_2 hC dX12_shortWorks_36 rfl ⟨by omega, by omega⟩ ?_
          refine R_goto hC dX12_shortWorks_39 (tgt := 4) (by decide) ?_
          exact ih4 _ _ (by omega) (by omega) (by first | (rw [ha]; exact bits_t hi0 rfl (show iS I i < ss (fun x => iO I x i) (M 57 23) by omega)) | (rw [ha]; exact bits_f hi0 rfl (show ¬ (iS I i < ss (fun x => iO I x i) (M 57 23)) by omega))) (by omega)
        · skip
          refine R_iload_1 hC dX12_shortWorks_30 ?_
          refine R_iconst hC dX12_shortWorks_31 ⟨by decide, by decide⟩ ?_
          refine R_iload_2 hC dX12_shortWorks_32 ?_
          refine R_shl1 hC dX12_shortWorks_33 (by omega) (by omega) ?_
          refine R_ior hC dX12_shortWorks_34 (by omega) (by omega) ?_
          refine R_istore_1 hC dX12_shortWorks_35 rfl ?_
          refine R_iinc_2 hC dX12_shortWorks_36 rfl ⟨by omega, by omega⟩ ?_
          refine R_goto hC dX12_shortWorks_39 (tgt := 4) (by decide) ?_
          exact ih4 _ _ (by omega) (by omega) (by first | (rw [ha]; exact bits_t hi0 rfl (show iS I i < ss (fun x => iO I x i) (M 57 23) by omega)) | (rw [ha]; exact bits_f hi0 rfl (show ¬ (iS I i < ss (fun x => iO I x i) (M 57 23)) by omega))) (by omega)
  exact L4 _ _ _ (by omega) (by omega) rfl (Nat.lt_succ_self _)
