/-! a Stock: sets as bits, what is written -/
/-- what two bits of a packed plan tell of a pair -/
def pkd (v p : Int) : Int := (((Int64.ofInt v).toUInt64 >>> ((Int32.ofInt (2 * p)).toInt64.toUInt64 &&& Int64.toUInt64 63)).toInt64.toInt.bmod 4294967296) % 2 ^ 2
theorem pkd_bd (v p : Int) : 0 ≤ pkd v p ∧ pkd v p ≤ 3 := by unfold pkd; omega
/-- the pairs below 28 + i with what the plan took (s = -1) or put back (s = 1) -/
def wdM (M : Mem) (c : Nat) (v s i : Int) : Mem := fun a b => if a = c ∧ 28 ≤ b ∧ b < 28 + i then M c b + s * pkd v (b - 28) else M a b
theorem wdM_0 {M : Mem} {c : Nat} {v s : Int} : wdM M c v s 0 = M := by
  funext a b
  unfold wdM
  rw [if_neg (by omega)]
theorem wdM_ge {M : Mem} {c : Nat} {v s i b : Int} (h : 28 + i ≤ b) : wdM M c v s i c b = M c b := by
  unfold wdM
  rw [if_neg (by omega)]
theorem wdM_s {M : Mem} {c : Nat} {v s i x : Int} (h : 0 ≤ i) (hx : x = M c (28 + i) + s * pkd v i) : uM (wdM M c v s i) c (28 + i) x = wdM M c v s (i + 1) := by
  funext a b
  unfold uM wdM
  by_cases e : a = c ∧ b = 28 + i
  · rw [if_pos e, if_pos (by omega), e.2, hx, show 28 + i - 28 = i by omega]
  · rw [if_neg e]
    by_cases e2 : a = c ∧ 28 ≤ b ∧ b < 28 + i
    · rw [if_pos e2, if_pos (by omega)]
    · rw [if_neg e2, if_neg (by omega)]
/-- cells from 0 on that are 0 -/
def clM (M : Mem) (c : Nat) (i : Int) : Mem := fun a b => if a = c ∧ 0 ≤ b ∧ b < i then 0 else M a b
theorem clM_0 {M : Mem} {c : Nat} : clM M c 0 = M := by
  funext a b
  unfold clM
  rw [if_neg (by omega)]
theorem clM_s {M : Mem} {c : Nat} {i : Int} (h : 0 ≤ i) : uM (clM M c i) c i 0 = clM M c (i + 1) := by
  funext a b
  unfold uM clM
  by_cases e : a = c ∧ b = i
  · rw [if_pos e, if_pos (by omega)]
  · rw [if_neg e]
    by_cases e2 : a = c ∧ 0 ≤ b ∧ b < i
    · rw [if_pos e2, if_pos (by omega)]
    · rw [if_neg e2, if_neg (by omega)]
theorem uM_row {M : Mem} {c : Nat} {k x : Int} : uM M c k x c = fun j => if j = k then x else M c j := by
  funext j
  by_cases e : j = k
  · rw [uM_at e, if_pos e]
  · rw [uM_k e, if_neg e]
def upd1 (f : Int → Int) (k v : Int) : Int → Int := fun j => if j = k then v else f j
def mvR (d : Int → Int) (x t w : Int) : Int → Int := upd1 (upd1 d (28 + (x * 6 + w)) (d (28 + (x * 6 + w)) - 1)) (28 + (t * 6 + w)) (upd1 d (28 + (x * 6 + w)) (d (28 + (x * 6 + w)) - 1) (28 + (t * 6 + w)) + 1)
theorem mvR_ok {M : Mem} {c : Nat} {x t w : Int} : uM (uM M c (28 + (x * 6 + w)) (M c (28 + (x * 6 + w)) - 1)) c (28 + (t * 6 + w)) (uM M c (28 + (x * 6 + w)) (M c (28 + (x * 6 + w)) - 1) c (28 + (t * 6 + w)) + 1) c = mvR (M c) x t w := by
  rw [uM_row, uM_row]
  rfl
def wdR (d : Int → Int) (v s : Int) : Int → Int := fun b => if 28 ≤ b ∧ b < 58 then d b + s * pkd v (b - 28) else d b
theorem wdM_fr {M : Mem} {c : Nat} {v s i : Int} : Fr [c] [] M (wdM M c v s i) := fun h k p _ => if_neg (fun e => p (by rw [e.1]; exact List.mem_singleton.mpr rfl))
theorem wdM_row {M : Mem} {c : Nat} {v s : Int} : wdM M c v s 30 c = wdR (M c) v s := by
  funext b
  unfold wdM wdR
  by_cases e : 28 ≤ b ∧ b < 58
  · rw [if_pos ⟨rfl, e.1, by omega⟩, if_pos e]
  · rw [if_neg (fun q => e ⟨q.2.1, by omega⟩), if_neg e]
theorem clM_fr {M : Mem} {c : Nat} {i : Int} : Fr [c] [] M (clM M c i) := fun h k p _ => if_neg (fun e => p (by rw [e.1]; exact List.mem_singleton.mpr rfl))
theorem cpM_fr {M : Mem} {hd hs : Nat} {dp sp n : Int} {A : List Nat} {B : List (Nat × Int)} (ha : hd ∈ A) : Fr A B M (cpM M hd dp hs sp n) := fun h k p _ => cpM_h (fun e => p (by rw [e]; exact ha))

theorem dX11_pairOf_0 : decode cX11_pairOf 0 = .ok (.iload_n 0, 1) := by decide +kernel
theorem dX11_pairOf_1 : decode cX11_pairOf 1 = .ok (.bipush 6, 2) := by decide +kernel
theorem dX11_pairOf_3 : decode cX11_pairOf 3 = .ok (.imul, 1) := by decide +kernel
theorem dX11_pairOf_4 : decode cX11_pairOf 4 = .ok (.iload_n 1, 1) := by decide +kernel
theorem dX11_pairOf_5 : decode cX11_pairOf 5 = .ok (.iadd, 1) := by decide +kernel
theorem dX11_pairOf_6 : decode cX11_pairOf 6 = .ok (.ireturn, 1) := by decide +kernel
set_option maxHeartbeats 400000 in
theorem c11_pairOf {G : Gl} {l : Launch}  {M : Mem} {x w : Int} (hx0 : 0 ≤ x) (hx1 : x < 5) (hw0 : 0 ≤ w) (hw1 : w < 6) : Ct G LY 57 l 0 m11_pairOf [vI x, vI w] M (Ret (vI (x * 6 + w)) M) := by
  refine R_start (by decide +kernel) (Nat.le_of_ble_eq_true rfl) (fun C hC hRm hlau => ?_)
  show RZ G LY C (Zn G LY 57 C (Ret (vI (x * 6 + w)) M)) 0 0 57 0 [some (vI x), some (vI w)] [] M
  refine R_iload_0 hC dX11_pairOf_0 ?_
  refine R_bipush hC dX11_pairOf_1 (by decide +kernel) ⟨by decide, by decide⟩ ?_
  refine R_imul hC dX11_pairOf_3 ⟨by omega, by omega⟩ ?_
  refine R_iload_1 hC dX11_pairOf_4 ?_
  refine R_iadd hC dX11_pairOf_5 ⟨by omega, by omega⟩ ?_
  exact R_ireturn hC dX11_pairOf_6 rfl (ret_I rfl)
theorem dX8_holdersOf_0 : decode cX8_holdersOf 0 = .ok (.iconst 0, 1) := by decide +kernel
theorem dX8_holdersOf_1 : decode cX8_holdersOf 1 = .ok (.istore_n 2, 1) := by decide +kernel
theorem dX8_holdersOf_2 : decode cX8_holdersOf 2 = .ok (.iconst 0, 1) := by decide +kernel
theorem dX8_holdersOf_3 : decode cX8_holdersOf 3 = .ok (.istore_n 3, 1) := by decide +kernel
theorem dX8_holdersOf_4 : decode cX8_holdersOf 4 = .ok (.iload_n 3, 1) := by decide +kernel
theorem dX8_holdersOf_5 : decode cX8_holdersOf 5 = .ok (.aload_n 0, 1) := by decide +kernel
theorem dX8_holdersOf_6 : decode cX8_holdersOf 6 = .ok (.getfield 9, 3) := by decide +kernel
theorem dX8_holdersOf_9 : decode cX8_holdersOf 9 = .ok (.bipush 121, 2) := by decide +kernel
theorem dX8_holdersOf_11 : decode cX8_holdersOf 11 = .ok (.iaload, 1) := by decide +kernel
theorem dX8_holdersOf_12 : decode cX8_holdersOf 12 = .ok (.if_icmp .ge 24, 3) := by decide +kernel
theorem dX8_holdersOf_15 : decode cX8_holdersOf 15 = .ok (.aload_n 0, 1) := by decide +kernel
theorem dX8_holdersOf_16 : decode cX8_holdersOf 16 = .ok (.iload_n 3, 1) := by decide +kernel
theorem dX8_holdersOf_17 : decode cX8_holdersOf 17 = .ok (.iload_n 1, 1) := by decide +kernel
theorem dX8_holdersOf_18 : decode cX8_holdersOf 18 = .ok (.invokevirtual 28, 3) := by decide +kernel
theorem dX8_holdersOf_21 : decode cX8_holdersOf 21 = .ok (.ifCond .le 9, 3) := by decide +kernel
theorem dX8_holdersOf_24 : decode cX8_holdersOf 24 = .ok (.iload_n 2, 1) := by decide +kernel
theorem dX8_holdersOf_25 : decode cX8_holdersOf 25 = .ok (.iconst 1, 1) := by decide +kernel
theorem dX8_holdersOf_26 : decode cX8_holdersOf 26 = .ok (.iload_n 3, 1) := by decide +kernel
theorem dX8_holdersOf_27 : decode cX8_holdersOf 27 = .ok (.ishl, 1) := by decide +kernel
theorem dX8_holdersOf_28 : decode cX8_holdersOf 28 = .ok (.ior, 1) := by decide +kernel
theorem dX8_holdersOf_29 : decode cX8_holdersOf 29 = .ok (.istore_n 2, 1) := by decide +kernel
theorem dX8_holdersOf_30 : decode cX8_holdersOf 30 = .ok (.iinc 3 1, 3) := by decide +kernel
theorem dX8_holdersOf_33 : decode cX8_holdersOf 33 = .ok (.goto (-29), 3) := by decide +kernel
theorem dX8_holdersOf_36 : decode cX8_holdersOf 36 = .ok (.iload_n 2, 1) := by decide +kernel
theorem dX8_holdersOf_37 : decode cX8_holdersOf 37 = .ok (.ireturn, 1) := by decide +kernel
set_option maxHeartbeats 400000 in
theorem c8_holdersOf {G : Gl} {l : Launch}  {M : Mem} {h c : Nat} {w : Int} (hG : GR M) (hS : SH h c) (hB : SB (M c)) (hw0 : 0 ≤ w) (hw1 : w < 6) : Ct G LY 57 l 1 m8_holdersOf [vR h, vI w] M (Ret (vI (bits (M c 121).toNat (fun k => 0 < M c (28 + k * 6 + w)))) M) := by
  refine R_start (by decide +kernel) (Nat.le_of_ble_eq_true rfl) (fun C hC hRm hlau => ?_)
  show RZ G LY C (Zn G LY 57 C (Ret (vI (bits (M c 121).toNat (fun k => 0 < M c (28 + k * 6 + w)))) M)) 0 0 57 0 [some (vR h), some (vI w), none, none] [] M
  have hL := hB.L
  have hW := hB.W
  refine R_iconst hC dX8_holdersOf_0 ⟨by decide, by decide⟩ ?_
  refine R_istore_2 hC dX8_holdersOf_1 rfl ?_
  refine R_iconst hC dX8_holdersOf_2 ⟨by decide, by decide⟩ ?_
  refine R_istore_3 hC dX8_holdersOf_3 rfl ?_
  have L4 : ∀ (mq : Nat) (acc : Int) (i : Int), (0 ≤ i) → (i ≤ M c 121) → (acc = bits i.toNat (fun k => 0 < M c (28 + k * 6 + w))) → (M c 121 - i).toNat < mq → RZ G LY C (Zn G LY 57 C (Ret (vI (bits (M c 121).toNat (fun k => 0 < M c (28 + k * 6 + w)))) M)) 0 0 57 4 [some (vR h), some (vI w), some (vI acc), some (vI i)] [] M := by
    intro mq
    induction mq with
    | zero =>
      intro acc i hi0 hi1 ha hm
      exact absurd hm (Nat.not_lt_zero _)
    | succ mq ih4 =>
      intro acc i hi0 hi1 ha hm4
      have hp := pw_bd hi0 (by omega)
      have hq := bits_b10 (fun k => 0 < M c (28 + k * 6 + w)) hi0 (by omega)
      refine R_iload_3 hC dX8_holdersOf_4 ?_
      refine R_aload_0 hC dX8_holdersOf_5 ?_
      refine R_getR hC dX8_holdersOf_6 fl_8_9 hS.l hS.k (by decide) (by decide) (fi := 0) rfl (r := c) (hS.r hG) ?_
      refine R_bipush hC dX8_holdersOf_9 (by decide +kernel) ⟨by decide, by decide⟩ ?_
      refine R_iaload hC dX8_holdersOf_11 hS.m hS.a (by omega) (by omega) ?_
      have b11 := hB.1 121 (by omega) (by omega)
      refine R_icmp_ge hC dX8_holdersOf_12 (tgt := 36) (by decide) (fun hb12 => ?_) (fun hb12 => ?_)
      · skip
        refine R_iload_2 hC dX8_holdersOf_36 ?_
        exact R_ireturn hC dX8_holdersOf_37 rfl (ret_I (by rw [ha, show i = M c 121 by omega]))
      · skip
        refine R_aload_0 hC dX8_holdersOf_15 ?_
        refine R_iload_3 hC dX8_holdersOf_16 ?_
        refine R_iload_1 hC dX8_holdersOf_17 ?_
        refine R_callVq (as := [vI _, vI _]) hC dX8_holdersOf_18 mo_8_heldIn ml_8_28 hS.l hS.k rfl (c8_heldIn  hG hS (by omega) (by omega) (by omega) (by omega)) rfl rfl hRm (by decide) (by decide) (Nat.le_of_ble_eq_true rfl) ?_
        refine R_if_le hC dX8_holdersOf_21 (tgt := 30) (by decide) (fun hb21 => ?_) (fun hb21 => ?_)
        · skip
          refine R_iinc_3 hC dX8_holdersOf_30 rfl ⟨by omega, by omega⟩ ?_
          refine R_goto hC dX8_holdersOf_33 (tgt := 4) (by decide) ?_
          exact ih4 _ _ (by omega) (by omega) (by first | (rw [ha]; exact bits_t hi0 rfl (show 0 < M c (28 + i * 6 + w) by omega)) | (rw [ha]; exact bits_f hi0 rfl (show ¬ (0 < M c (28 + i * 6 + w)) by omega))) (by omega)
        · skip
          refine R_iload_2 hC dX8_holdersOf_24 ?_
          refine R_iconst hC dX8_holdersOf_25 ⟨by decide, by decide⟩ ?_
          refine R_iload_3 hC dX8_holdersOf_26 ?_
          refine R_shl1 hC dX8_holdersOf_27 (by omega) (by omega) ?_
          refine R_ior hC dX8_holdersOf_28 (by omega) (by omega) ?_
          refine R_istore_2 hC dX8_holdersOf_29 rfl ?_
          refine R_iinc_3 hC dX8_holdersOf_30 rfl ⟨by omega, by omega⟩ ?_
          refine R_goto hC dX8_holdersOf_33 (tgt := 4) (by decide) ?_
          exact ih4 _ _ (by omega) (by omega) (by first | (rw [ha]; exact bits_t hi0 rfl (show 0 < M c (28 + i * 6 + w) by omega)) | (rw [ha]; exact bits_f hi0 rfl (show ¬ (0 < M c (28 + i * 6 + w)) by omega))) (by omega)
  exact L4 _ _ _ (by omega) (by omega) rfl (Nat.lt_succ_self _)
theorem c8_holdersOf_d {G : Gl} {l : Launch} {M : Mem} {h c : Nat} {w : Int} {d : Int → Int} (hMd : M c = d) (hG : GR M) (hS : SH h c) (hB : SB (d)) (hw0 : 0 ≤ w) (hw1 : w < 6) : Ct G LY 57 l 1 m8_holdersOf [vR h, vI w] M (Ret (vI (bits (d 121).toNat (fun k => 0 < d (28 + k * 6 + w)))) M) := by
  subst hMd
  exact c8_holdersOf hG hS hB hw0 hw1
theorem dX8_lastWorks_0 : decode cX8_lastWorks 0 = .ok (.iconst 0, 1) := by decide +kernel
theorem dX8_lastWorks_1 : decode cX8_lastWorks 1 = .ok (.istore_n 1, 1) := by decide +kernel
theorem dX8_lastWorks_2 : decode cX8_lastWorks 2 = .ok (.iconst 0, 1) := by decide +kernel
theorem dX8_lastWorks_3 : decode cX8_lastWorks 3 = .ok (.istore_n 2, 1) := by decide +kernel
theorem dX8_lastWorks_4 : decode cX8_lastWorks 4 = .ok (.iload_n 2, 1) := by decide +kernel
theorem dX8_lastWorks_5 : decode cX8_lastWorks 5 = .ok (.aload_n 0, 1) := by decide +kernel
theorem dX8_lastWorks_6 : decode cX8_lastWorks 6 = .ok (.getfield 9, 3) := by decide +kernel
theorem dX8_lastWorks_9 : decode cX8_lastWorks 9 = .ok (.bipush 122, 2) := by decide +kernel
theorem dX8_lastWorks_11 : decode cX8_lastWorks 11 = .ok (.iaload, 1) := by decide +kernel
theorem dX8_lastWorks_12 : decode cX8_lastWorks 12 = .ok (.if_icmp .ge 24, 3) := by decide +kernel
theorem dX8_lastWorks_15 : decode cX8_lastWorks 15 = .ok (.aload_n 0, 1) := by decide +kernel
theorem dX8_lastWorks_16 : decode cX8_lastWorks 16 = .ok (.iload_n 2, 1) := by decide +kernel
theorem dX8_lastWorks_17 : decode cX8_lastWorks 17 = .ok (.invokevirtual 46, 3) := by decide +kernel
theorem dX8_lastWorks_20 : decode cX8_lastWorks 20 = .ok (.iconst 1, 1) := by decide +kernel
theorem dX8_lastWorks_21 : decode cX8_lastWorks 21 = .ok (.if_icmp .ne 9, 3) := by decide +kernel
theorem dX8_lastWorks_24 : decode cX8_lastWorks 24 = .ok (.iload_n 1, 1) := by decide +kernel
theorem dX8_lastWorks_25 : decode cX8_lastWorks 25 = .ok (.iconst 1, 1) := by decide +kernel
theorem dX8_lastWorks_26 : decode cX8_lastWorks 26 = .ok (.iload_n 2, 1) := by decide +kernel
theorem dX8_lastWorks_27 : decode cX8_lastWorks 27 = .ok (.ishl, 1) := by decide +kernel
theorem dX8_lastWorks_28 : decode cX8_lastWorks 28 = .ok (.ior, 1) := by decide +kernel
theorem dX8_lastWorks_29 : decode cX8_lastWorks 29 = .ok (.istore_n 1, 1) := by decide +kernel
theorem dX8_lastWorks_30 : decode cX8_lastWorks 30 = .ok (.iinc 2 1, 3) := by decide +kernel
theorem dX8_lastWorks_33 : decode cX8_lastWorks 33 = .ok (.goto (-29), 3) := by decide +kernel
theorem dX8_lastWorks_36 : decode cX8_lastWorks 36 = .ok (.iload_n 1, 1) := by decide +kernel
theorem dX8_lastWorks_37 : decode cX8_lastWorks 37 = .ok (.ireturn, 1) := by decide +kernel
set_option maxHeartbeats 400000 in
theorem c8_lastWorks {G : Gl} {l : Launch}  {M : Mem} {h c : Nat} (hG : GR M) (hS : SH h c) (hB : SB (M c)) : Ct G LY 57 l 1 m8_lastWorks [vR h] M (Ret (vI (bits (M c 122).toNat (fun k => allOf (M c) k = 1))) M) := by
  refine R_start (by decide +kernel) (Nat.le_of_ble_eq_true rfl) (fun C hC hRm hlau => ?_)
  show RZ G LY C (Zn G LY 57 C (Ret (vI (bits (M c 122).toNat (fun k => allOf (M c) k = 1))) M)) 0 0 57 0 [some (vR h), none, none] [] M
  have hL := hB.L
  have hW := hB.W
  refine R_iconst hC dX8_lastWorks_0 ⟨by decide, by decide⟩ ?_
  refine R_istore_1 hC dX8_lastWorks_1 rfl ?_
  refine R_iconst hC dX8_lastWorks_2 ⟨by decide, by decide⟩ ?_
  refine R_istore_2 hC dX8_lastWorks_3 rfl ?_
  have L4 : ∀ (mq : Nat) (acc : Int) (i : Int), (0 ≤ i) → (i ≤ M c 122) → (acc = bits i.toNat (fun k => allOf (M c) k = 1)) → (M c 122 - i).toNat < mq → RZ G LY C (Zn G LY 57 C (Ret (vI (bits (M c 122).toNat (fun k => allOf (M c) k = 1))) M)) 0 0 57 4 [some (vR h), some (vI acc), some (vI i)] [] M := by
    intro mq
    induction mq with
    | zero =>
      intro acc i hi0 hi1 ha hm
      exact absurd hm (Nat.not_lt_zero _)
    | succ mq ih4 =>
      intro acc i hi0 hi1 ha hm4
      have hp := pw_bd hi0 (by omega)
      have hq := bits_b10 (fun k => allOf (M c) k = 1) hi0 (by omega)
      refine R_iload_2 hC dX8_lastWorks_4 ?_
      refine R_aload_0 hC dX8_lastWorks_5 ?_
      refine R_getR hC dX8_lastWorks_6 fl_8_9 hS.l hS.k (by decide) (by decide) (fi := 0) rfl (r := c) (hS.r hG) ?_
      refine R_bipush hC dX8_lastWorks_9 (by decide +kernel) ⟨by decide, by decide⟩ ?_
      refine R_iaload hC dX8_lastWorks_11 hS.m hS.a (by omega) (by omega) ?_
      have b11 := hB.1 122 (by omega) (by omega)
      refine R_icmp_ge hC dX8_lastWorks_12 (tgt := 36) (by decide) (fun hb12 => ?_) (fun hb12 => ?_)
      · skip
        refine R_iload_1 hC dX8_lastWorks_36 ?_
        exact R_ireturn hC dX8_lastWorks_37 rfl (ret_I (by rw [ha, show i = M c 122 by omega]))
      · skip
        refine R_aload_0 hC dX8_lastWorks_15 ?_
        refine R_iload_2 hC dX8_lastWorks_16 ?_
        refine R_callVq (as := [vI _]) hC dX8_lastWorks_17 mo_8_copiesOf ml_8_46 hS.l hS.k rfl (c8_copiesOf  hG hS hB (by omega) (by omega)) rfl rfl hRm (by decide) (by decide) (Nat.le_of_ble_eq_true rfl) ?_
        have e17_1 := allOf_bd (w := i) hB (by omega) (by omega)
        refine R_iconst hC dX8_lastWorks_20 ⟨by decide, by decide⟩ ?_
        refine R_icmp_ne hC dX8_lastWorks_21 (tgt := 30) (by decide) (fun hb21 => ?_) (fun hb21 => ?_)
        · skip
          refine R_iinc_2 hC dX8_lastWorks_30 rfl ⟨by omega, by omega⟩ ?_
          refine R_goto hC dX8_lastWorks_33 (tgt := 4) (by decide) ?_
          exact ih4 _ _ (by omega) (by omega) (by first | (rw [ha]; exact bits_t hi0 rfl (show allOf (M c) i = 1 by omega)) | (rw [ha]; exact bits_f hi0 rfl (show ¬ (allOf (M c) i = 1) by omega))) (by omega)
        · skip
          refine R_iload_1 hC dX8_lastWorks_24 ?_
          refine R_iconst hC dX8_lastWorks_25 ⟨by decide, by decide⟩ ?_
          refine R_iload_2 hC dX8_lastWorks_26 ?_
          refine R_shl1 hC dX8_lastWorks_27 (by omega) (by omega) ?_
          refine R_ior hC dX8_lastWorks_28 (by omega) (by omega) ?_
          refine R_istore_1 hC dX8_lastWorks_29 rfl ?_
          refine R_iinc_2 hC dX8_lastWorks_30 rfl ⟨by omega, by omega⟩ ?_
          refine R_goto hC dX8_lastWorks_33 (tgt := 4) (by decide) ?_
          exact ih4 _ _ (by omega) (by omega) (by first | (rw [ha]; exact bits_t hi0 rfl (show allOf (M c) i = 1 by omega)) | (rw [ha]; exact bits_f hi0 rfl (show ¬ (allOf (M c) i = 1) by omega))) (by omega)
  exact L4 _ _ _ (by omega) (by omega) rfl (Nat.lt_succ_self _)
theorem c8_lastWorks_d {G : Gl} {l : Launch} {M : Mem} {h c : Nat} {d : Int → Int} (hMd : M c = d) (hG : GR M) (hS : SH h c) (hB : SB (d)) : Ct G LY 57 l 1 m8_lastWorks [vR h] M (Ret (vI (bits (d 122).toNat (fun k => allOf (d) k = 1))) M) := by
  subst hMd
  exact c8_lastWorks hG hS hB
theorem dX8_shortWorks_0 : decode cX8_shortWorks 0 = .ok (.iconst 0, 1) := by decide +kernel
theorem dX8_shortWorks_1 : decode cX8_shortWorks 1 = .ok (.istore_n 1, 1) := by decide +kernel
theorem dX8_shortWorks_2 : decode cX8_shortWorks 2 = .ok (.iconst 0, 1) := by decide +kernel
theorem dX8_shortWorks_3 : decode cX8_shortWorks 3 = .ok (.istore_n 2, 1) := by decide +kernel
theorem dX8_shortWorks_4 : decode cX8_shortWorks 4 = .ok (.iload_n 2, 1) := by decide +kernel
theorem dX8_shortWorks_5 : decode cX8_shortWorks 5 = .ok (.aload_n 0, 1) := by decide +kernel
theorem dX8_shortWorks_6 : decode cX8_shortWorks 6 = .ok (.getfield 9, 3) := by decide +kernel
theorem dX8_shortWorks_9 : decode cX8_shortWorks 9 = .ok (.bipush 122, 2) := by decide +kernel
theorem dX8_shortWorks_11 : decode cX8_shortWorks 11 = .ok (.iaload, 1) := by decide +kernel
theorem dX8_shortWorks_12 : decode cX8_shortWorks 12 = .ok (.if_icmp .ge 23, 3) := by decide +kernel
theorem dX8_shortWorks_15 : decode cX8_shortWorks 15 = .ok (.aload_n 0, 1) := by decide +kernel
theorem dX8_shortWorks_16 : decode cX8_shortWorks 16 = .ok (.iload_n 2, 1) := by decide +kernel
theorem dX8_shortWorks_17 : decode cX8_shortWorks 17 = .ok (.invokevirtual 76, 3) := by decide +kernel
theorem dX8_shortWorks_20 : decode cX8_shortWorks 20 = .ok (.ifCond .le 9, 3) := by decide +kernel
theorem dX8_shortWorks_23 : decode cX8_shortWorks 23 = .ok (.iload_n 1, 1) := by decide +kernel
theorem dX8_shortWorks_24 : decode cX8_shortWorks 24 = .ok (.iconst 1, 1) := by decide +kernel
theorem dX8_shortWorks_25 : decode cX8_shortWorks 25 = .ok (.iload_n 2, 1) := by decide +kernel
theorem dX8_shortWorks_26 : decode cX8_shortWorks 26 = .ok (.ishl, 1) := by decide +kernel
theorem dX8_shortWorks_27 : decode cX8_shortWorks 27 = .ok (.ior, 1) := by decide +kernel
theorem dX8_shortWorks_28 : decode cX8_shortWorks 28 = .ok (.istore_n 1, 1) := by decide +kernel
theorem dX8_shortWorks_29 : decode cX8_shortWorks 29 = .ok (.iinc 2 1, 3) := by decide +kernel
theorem dX8_shortWorks_32 : decode cX8_shortWorks 32 = .ok (.goto (-28), 3) := by decide +kernel
theorem dX8_shortWorks_35 : decode cX8_shortWorks 35 = .ok (.iload_n 1, 1) := by decide +kernel
theorem dX8_shortWorks_36 : decode cX8_shortWorks 36 = .ok (.ireturn, 1) := by decide +kernel
set_option maxHeartbeats 400000 in
theorem c8_shortWorks {G : Gl} {l : Launch}  {M : Mem} {h c : Nat} (hG : GR M) (hS : SH h c) (hB : SB (M c)) : Ct G LY 57 l 2 m8_shortWorks [vR h] M (Ret (vI (bits (M c 122).toNat (fun k => 0 < shrt (M c) k))) M) := by
  refine R_start (by decide +kernel) (Nat.le_of_ble_eq_true rfl) (fun C hC hRm hlau => ?_)
  show RZ G LY C (Zn G LY 57 C (Ret (vI (bits (M c 122).toNat (fun k => 0 < shrt (M c) k))) M)) 0 0 57 0 [some (vR h), none, none] [] M
  have hL := hB.L
  have hW := hB.W
  refine R_iconst hC dX8_shortWorks_0 ⟨by decide, by decide⟩ ?_
  refine R_istore_1 hC dX8_shortWorks_1 rfl ?_
  refine R_iconst hC dX8_shortWorks_2 ⟨by decide, by decide⟩ ?_
  refine R_istore_2 hC dX8_shortWorks_3 rfl ?_
  have L4 : ∀ (mq : Nat) (acc : Int) (i : Int), (0 ≤ i) → (i ≤ M c 122) → (acc = bits i.toNat (fun k => 0 < shrt (M c) k)) → (M c 122 - i).toNat < mq → RZ G LY C (Zn G LY 57 C (Ret (vI (bits (M c 122).toNat (fun k => 0 < shrt (M c) k))) M)) 0 0 57 4 [some (vR h), some (vI acc), some (vI i)] [] M := by
    intro mq
    induction mq with
    | zero =>
      intro acc i hi0 hi1 ha hm
      exact absurd hm (Nat.not_lt_zero _)
    | succ mq ih4 =>
      intro acc i hi0 hi1 ha hm4
      have hp := pw_bd hi0 (by omega)
      have hq := bits_b10 (fun k => 0 < shrt (M c) k) hi0 (by omega)
      refine R_iload_2 hC dX8_shortWorks_4 ?_
      refine R_aload_0 hC dX8_shortWorks_5 ?_
      refine R_getR hC dX8_shortWorks_6 fl_8_9 hS.l hS.k (by decide) (by decide) (fi := 0) rfl (r := c) (hS.r hG) ?_
      refine R_bipush hC dX8_shortWorks_9 (by decide +kernel) ⟨by decide, by decide⟩ ?_
      refine R_iaload hC dX8_shortWorks_11 hS.m hS.a (by omega) (by omega) ?_
      have b11 := hB.1 122 (by omega) (by omega)
      refine R_icmp_ge hC dX8_shortWorks_12 (tgt := 35) (by decide) (fun hb12 => ?_) (fun hb12 => ?_)
      · skip
        refine R_iload_1 hC dX8_shortWorks_35 ?_
        exact R_ireturn hC dX8_shortWorks_36 rfl (ret_I (by rw [ha, show i = M c 122 by omega]))
      · skip
        refine R_aload_0 hC dX8_shortWorks_15 ?_
        refine R_iload_2 hC dX8_shortWorks_16 ?_
        refine R_callVq (as := [vI _]) hC dX8_shortWorks_17 mo_8_shortOf ml_8_76 hS.l hS.k rfl (c8_shortOf  hG hS hB (by omega) (by omega)) rfl rfl hRm (by decide) (by decide) (Nat.le_of_ble_eq_true rfl) ?_
        have e17_1 := shrt_bd (w := i) hB (by omega) (by omega)
        refine R_if_le hC dX8_shortWorks_20 (tgt := 29) (by decide) (fun hb20 => ?_) (fun hb20 => ?_)
        · skip
          refine R_iinc_2 hC dX8_shortWorks_29 rfl ⟨by omega, by omega⟩ ?_
          refine R_goto hC dX8_shortWorks_32 (tgt := 4) (by decide) ?_
          exact ih4 _ _ (by omega) (by omega) (by first | (rw [ha]; exact bits_t hi0 rfl (show 0 < shrt (M c) i by omega)) | (rw [ha]; exact bits_f hi0 rfl (show ¬ (0 < shrt (M c) i) by omega))) (by omega)
        · skip
          refine R_iload_1 hC dX8_shortWorks_23 ?_
          refine R_iconst hC dX8_shortWorks_24 ⟨by decide, by decide⟩ ?_
          refine R_iload_2 hC dX8_shortWorks_25 ?_
          refine R_shl1 hC dX8_shortWorks_26 (by omega) (by omega) ?_
          refine R_ior hC dX8_shortWorks_27 (by omega) (by omega) ?_
          refine R_istore_1 hC dX8_shortWorks_28 rfl ?_
          refine R_iinc_2 hC dX8_shortWorks_29 rfl ⟨by omega, by omega⟩ ?_
          refine R_goto hC dX8_shortWorks_32 (tgt := 4) (by decide) ?_
          exact ih4 _ _ (by omega) (by omega) (by first | (rw [ha]; exact bits_t hi0 rfl (show 0 < shrt (M c) i by omega)) | (rw [ha]; exact bits_f hi0 rfl (show ¬ (0 < shrt (M c) i) by omega))) (by omega)
  exact L4 _ _ _ (by omega) (by omega) rfl (Nat.lt_succ_self _)
theorem c8_shortWorks_d {G : Gl} {l : Launch} {M : Mem} {h c : Nat} {d : Int → Int} (hMd : M c = d) (hG : GR M) (hS : SH h c) (hB : SB (d)) : Ct G LY 57 l 2 m8_shortWorks [vR h] M (Ret (vI (bits (d 122).toNat (fun k => 0 < shrt (d) k))) M) := by
  subst hMd
  exact c8_shortWorks hG hS hB
theorem dX8_scarceWithout_0 : decode cX8_scarceWithout 0 = .ok (.iconst 0, 1) := by decide +kernel
theorem dX8_scarceWithout_1 : decode cX8_scarceWithout 1 = .ok (.istore_n 2, 1) := by decide +kernel
theorem dX8_scarceWithout_2 : decode cX8_scarceWithout 2 = .ok (.iconst 0, 1) := by decide +kernel
theorem dX8_scarceWithout_3 : decode cX8_scarceWithout 3 = .ok (.istore_n 3, 1) := by decide +kernel
theorem dX8_scarceWithout_4 : decode cX8_scarceWithout 4 = .ok (.iload_n 3, 1) := by decide +kernel
theorem dX8_scarceWithout_5 : decode cX8_scarceWithout 5 = .ok (.aload_n 0, 1) := by decide +kernel
theorem dX8_scarceWithout_6 : decode cX8_scarceWithout 6 = .ok (.getfield 9, 3) := by decide +kernel
theorem dX8_scarceWithout_9 : decode cX8_scarceWithout 9 = .ok (.bipush 122, 2) := by decide +kernel
theorem dX8_scarceWithout_11 : decode cX8_scarceWithout 11 = .ok (.iaload, 1) := by decide +kernel
theorem dX8_scarceWithout_12 : decode cX8_scarceWithout 12 = .ok (.if_icmp .ge 35, 3) := by decide +kernel
theorem dX8_scarceWithout_15 : decode cX8_scarceWithout 15 = .ok (.aload_n 0, 1) := by decide +kernel
theorem dX8_scarceWithout_16 : decode cX8_scarceWithout 16 = .ok (.iload_n 3, 1) := by decide +kernel
theorem dX8_scarceWithout_17 : decode cX8_scarceWithout 17 = .ok (.invokevirtual 46, 3) := by decide +kernel
theorem dX8_scarceWithout_20 : decode cX8_scarceWithout 20 = .ok (.aload_n 0, 1) := by decide +kernel
theorem dX8_scarceWithout_21 : decode cX8_scarceWithout 21 = .ok (.iload_n 1, 1) := by decide +kernel
theorem dX8_scarceWithout_22 : decode cX8_scarceWithout 22 = .ok (.iload_n 3, 1) := by decide +kernel
theorem dX8_scarceWithout_23 : decode cX8_scarceWithout 23 = .ok (.invokevirtual 28, 3) := by decide +kernel
theorem dX8_scarceWithout_26 : decode cX8_scarceWithout 26 = .ok (.isub, 1) := by decide +kernel
theorem dX8_scarceWithout_27 : decode cX8_scarceWithout 27 = .ok (.aload_n 0, 1) := by decide +kernel
theorem dX8_scarceWithout_28 : decode cX8_scarceWithout 28 = .ok (.iload_n 3, 1) := by decide +kernel
theorem dX8_scarceWithout_29 : decode cX8_scarceWithout 29 = .ok (.invokevirtual 49, 3) := by decide +kernel
theorem dX8_scarceWithout_32 : decode cX8_scarceWithout 32 = .ok (.if_icmp .ge 9, 3) := by decide +kernel
theorem dX8_scarceWithout_35 : decode cX8_scarceWithout 35 = .ok (.iload_n 2, 1) := by decide +kernel
theorem dX8_scarceWithout_36 : decode cX8_scarceWithout 36 = .ok (.iconst 1, 1) := by decide +kernel
theorem dX8_scarceWithout_37 : decode cX8_scarceWithout 37 = .ok (.iload_n 3, 1) := by decide +kernel
theorem dX8_scarceWithout_38 : decode cX8_scarceWithout 38 = .ok (.ishl, 1) := by decide +kernel
theorem dX8_scarceWithout_39 : decode cX8_scarceWithout 39 = .ok (.ior, 1) := by decide +kernel
theorem dX8_scarceWithout_40 : decode cX8_scarceWithout 40 = .ok (.istore_n 2, 1) := by decide +kernel
theorem dX8_scarceWithout_41 : decode cX8_scarceWithout 41 = .ok (.iinc 3 1, 3) := by decide +kernel
theorem dX8_scarceWithout_44 : decode cX8_scarceWithout 44 = .ok (.goto (-40), 3) := by decide +kernel
theorem dX8_scarceWithout_47 : decode cX8_scarceWithout 47 = .ok (.iload_n 2, 1) := by decide +kernel
theorem dX8_scarceWithout_48 : decode cX8_scarceWithout 48 = .ok (.ireturn, 1) := by decide +kernel
set_option maxHeartbeats 400000 in
theorem c8_scarceWithout {G : Gl} {l : Launch}  {M : Mem} {h c : Nat} {x : Int} (hG : GR M) (hS : SH h c) (hB : SB (M c)) (hx0 : 0 ≤ x) (hx1 : x < 5) : Ct G LY 57 l 1 m8_scarceWithout [vR h, vI x] M (Ret (vI (bits (M c 122).toNat (fun k => allOf (M c) k - M c (28 + x * 6 + k) < M c (16 + k)))) M) := by
  refine R_start (by decide +kernel) (Nat.le_of_ble_eq_true rfl) (fun C hC hRm hlau => ?_)
  show RZ G LY C (Zn G LY 57 C (Ret (vI (bits (M c 122).toNat (fun k => allOf (M c) k - M c (28 + x * 6 + k) < M c (16 + k)))) M)) 0 0 57 0 [some (vR h), some (vI x), none, none] [] M
  have hL := hB.L
  have hW := hB.W
  refine R_iconst hC dX8_scarceWithout_0 ⟨by decide, by decide⟩ ?_
  refine R_istore_2 hC dX8_scarceWithout_1 rfl ?_
  refine R_iconst hC dX8_scarceWithout_2 ⟨by decide, by decide⟩ ?_
  refine R_istore_3 hC dX8_scarceWithout_3 rfl ?_
  have L4 : ∀ (mq : Nat) (acc : Int) (i : Int), (0 ≤ i) → (i ≤ M c 122) → (acc = bits i.toNat (fun k => allOf (M c) k - M c (28 + x * 6 + k) < M c (16 + k))) → (M c 122 - i).toNat < mq → RZ G LY C (Zn G LY 57 C (Ret (vI (bits (M c 122).toNat (fun k => allOf (M c) k - M c (28 + x * 6 + k) < M c (16 + k)))) M)) 0 0 57 4 [some (vR h), some (vI x), some (vI acc), some (vI i)] [] M := by
    intro mq
    induction mq with
    | zero =>
      intro acc i hi0 hi1 ha hm
      exact absurd hm (Nat.not_lt_zero _)
    | succ mq ih4 =>
      intro acc i hi0 hi1 ha hm4
      have hp := pw_bd hi0 (by omega)
      have hq := bits_b10 (fun k => allOf (M c) k - M c (28 + x * 6 + k) < M c (16 + k)) hi0 (by omega)
      have b1 := hB.1 (28 + x * 6 + i)
      have b2 := hB.1 (16 + i)
      refine R_iload_3 hC dX8_scarceWithout_4 ?_
      refine R_aload_0 hC dX8_scarceWithout_5 ?_
      refine R_getR hC dX8_scarceWithout_6 fl_8_9 hS.l hS.k (by decide) (by decide) (fi := 0) rfl (r := c) (hS.r hG) ?_
      refine R_bipush hC dX8_scarceWithout_9 (by decide +kernel) ⟨by decide, by decide⟩ ?_
      refine R_iaload hC dX8_scarceWithout_11 hS.m hS.a (by omega) (by omega) ?_
      have b11 := hB.1 122 (by omega) (by omega)
      refine R_icmp_ge hC dX8_scarceWithout_12 (tgt := 47) (by decide) (fun hb12 => ?_) (fun hb12 => ?_)
      · skip
        refine R_iload_2 hC dX8_scarceWithout_47 ?_
        exact R_ireturn hC dX8_scarceWithout_48 rfl (ret_I (by rw [ha, show i = M c 122 by omega]))
      · skip
        refine R_aload_0 hC dX8_scarceWithout_15 ?_
        refine R_iload_3 hC dX8_scarceWithout_16 ?_
        refine R_callVq (as := [vI _]) hC dX8_scarceWithout_17 mo_8_copiesOf ml_8_46 hS.l hS.k rfl (c8_copiesOf  hG hS hB (by omega) (by omega)) rfl rfl hRm (by decide) (by decide) (Nat.le_of_ble_eq_true rfl) ?_
        have e17_1 := allOf_bd (w := i) hB (by omega) (by omega)
        refine R_aload_0 hC dX8_scarceWithout_20 ?_
        refine R_iload_1 hC dX8_scarceWithout_21 ?_
        refine R_iload_3 hC dX8_scarceWithout_22 ?_
        refine R_callVq (as := [vI _, vI _]) hC dX8_scarceWithout_23 mo_8_heldIn ml_8_28 hS.l hS.k rfl (c8_heldIn  hG hS (by omega) (by omega) (by omega) (by omega)) rfl rfl hRm (by decide) (by decide) (Nat.le_of_ble_eq_true rfl) ?_
        refine R_isub hC dX8_scarceWithout_26 ⟨by omega, by omega⟩ ?_
        refine R_aload_0 hC dX8_scarceWithout_27 ?_
        refine R_iload_3 hC dX8_scarceWithout_28 ?_
        refine R_callVq (as := [vI _]) hC dX8_scarceWithout_29 mo_8_keepOf ml_8_49 hS.l hS.k rfl (c8_keepOf  hG hS (by omega) (by omega)) rfl rfl hRm (by decide) (by decide) (Nat.le_of_ble_eq_true rfl) ?_
        refine R_icmp_ge hC dX8_scarceWithout_32 (tgt := 41) (by decide) (fun hb32 => ?_) (fun hb32 => ?_)
        · skip
          refine R_iinc_3 hC dX8_scarceWithout_41 rfl ⟨by omega, by omega⟩ ?_
          refine R_goto hC dX8_scarceWithout_44 (tgt := 4) (by decide) ?_
          exact ih4 _ _ (by omega) (by omega) (by first | (rw [ha]; exact bits_t hi0 rfl (show allOf (M c) i - M c (28 + x * 6 + i) < M c (16 + i) by omega)) | (rw [ha]; exact bits_f hi0 rfl (show ¬ (allOf (M c) i - M c (28 + x * 6 + i) < M c (16 + i)) by omega))) (by omega)
        · skip
          refine R_iload_2 hC dX8_scarceWithout_35 ?_
          refine R_iconst hC dX8_scarceWithout_36 ⟨by decide, by decide⟩ ?_
          refine R_iload_3 hC dX8_scarceWithout_37 ?_
          refine R_shl1 hC dX8_scarceWithout_38 (by omega) (by omega) ?_
          refine R_ior hC dX8_scarceWithout_39 (by omega) (by omega) ?_
          refine R_istore_2 hC dX8_scarceWithout_40 rfl ?_
          refine R_iinc_3 hC dX8_scarceWithout_41 rfl ⟨by omega, by omega⟩ ?_
          refine R_goto hC dX8_scarceWithout_44 (tgt := 4) (by decide) ?_
          exact ih4 _ _ (by omega) (by omega) (by first | (rw [ha]; exact bits_t hi0 rfl (show allOf (M c) i - M c (28 + x * 6 + i) < M c (16 + i) by omega)) | (rw [ha]; exact bits_f hi0 rfl (show ¬ (allOf (M c) i - M c (28 + x * 6 + i) < M c (16 + i)) by omega))) (by omega)
  exact L4 _ _ _ (by omega) (by omega) rfl (Nat.lt_succ_self _)
theorem c8_scarceWithout_d {G : Gl} {l : Launch} {M : Mem} {h c : Nat} {x : Int} {d : Int → Int} (hMd : M c = d) (hG : GR M) (hS : SH h c) (hB : SB (d)) (hx0 : 0 ≤ x) (hx1 : x < 5) : Ct G LY 57 l 1 m8_scarceWithout [vR h, vI x] M (Ret (vI (bits (d 122).toNat (fun k => allOf (d) k - d (28 + x * 6 + k) < d (16 + k)))) M) := by
  subst hMd
  exact c8_scarceWithout hG hS hB hx0 hx1
theorem dX8_lostWithout_0 : decode cX8_lostWithout 0 = .ok (.iconst 0, 1) := by decide +kernel
theorem dX8_lostWithout_1 : decode cX8_lostWithout 1 = .ok (.istore_n 2, 1) := by decide +kernel
theorem dX8_lostWithout_2 : decode cX8_lostWithout 2 = .ok (.iconst 0, 1) := by decide +kernel
theorem dX8_lostWithout_3 : decode cX8_lostWithout 3 = .ok (.istore_n 3, 1) := by decide +kernel
theorem dX8_lostWithout_4 : decode cX8_lostWithout 4 = .ok (.iload_n 3, 1) := by decide +kernel
theorem dX8_lostWithout_5 : decode cX8_lostWithout 5 = .ok (.aload_n 0, 1) := by decide +kernel
theorem dX8_lostWithout_6 : decode cX8_lostWithout 6 = .ok (.getfield 9, 3) := by decide +kernel
theorem dX8_lostWithout_9 : decode cX8_lostWithout 9 = .ok (.bipush 122, 2) := by decide +kernel
theorem dX8_lostWithout_11 : decode cX8_lostWithout 11 = .ok (.iaload, 1) := by decide +kernel
theorem dX8_lostWithout_12 : decode cX8_lostWithout 12 = .ok (.if_icmp .ge 38, 3) := by decide +kernel
theorem dX8_lostWithout_15 : decode cX8_lostWithout 15 = .ok (.aload_n 0, 1) := by decide +kernel
theorem dX8_lostWithout_16 : decode cX8_lostWithout 16 = .ok (.iload_n 3, 1) := by decide +kernel
theorem dX8_lostWithout_17 : decode cX8_lostWithout 17 = .ok (.invokevirtual 46, 3) := by decide +kernel
theorem dX8_lostWithout_20 : decode cX8_lostWithout 20 = .ok (.istore 4, 2) := by decide +kernel
theorem dX8_lostWithout_22 : decode cX8_lostWithout 22 = .ok (.iload 4, 2) := by decide +kernel
theorem dX8_lostWithout_24 : decode cX8_lostWithout 24 = .ok (.ifCond .le 20, 3) := by decide +kernel
theorem dX8_lostWithout_27 : decode cX8_lostWithout 27 = .ok (.iload 4, 2) := by decide +kernel
theorem dX8_lostWithout_29 : decode cX8_lostWithout 29 = .ok (.aload_n 0, 1) := by decide +kernel
theorem dX8_lostWithout_30 : decode cX8_lostWithout 30 = .ok (.iload_n 1, 1) := by decide +kernel
theorem dX8_lostWithout_31 : decode cX8_lostWithout 31 = .ok (.iload_n 3, 1) := by decide +kernel
theorem dX8_lostWithout_32 : decode cX8_lostWithout 32 = .ok (.invokevirtual 28, 3) := by decide +kernel
theorem dX8_lostWithout_35 : decode cX8_lostWithout 35 = .ok (.if_icmp .ne 9, 3) := by decide +kernel
theorem dX8_lostWithout_38 : decode cX8_lostWithout 38 = .ok (.iload_n 2, 1) := by decide +kernel
theorem dX8_lostWithout_39 : decode cX8_lostWithout 39 = .ok (.iconst 1, 1) := by decide +kernel
theorem dX8_lostWithout_40 : decode cX8_lostWithout 40 = .ok (.iload_n 3, 1) := by decide +kernel
theorem dX8_lostWithout_41 : decode cX8_lostWithout 41 = .ok (.ishl, 1) := by decide +kernel
theorem dX8_lostWithout_42 : decode cX8_lostWithout 42 = .ok (.ior, 1) := by decide +kernel
theorem dX8_lostWithout_43 : decode cX8_lostWithout 43 = .ok (.istore_n 2, 1) := by decide +kernel
theorem dX8_lostWithout_44 : decode cX8_lostWithout 44 = .ok (.iinc 3 1, 3) := by decide +kernel
theorem dX8_lostWithout_47 : decode cX8_lostWithout 47 = .ok (.goto (-43), 3) := by decide +kernel
theorem dX8_lostWithout_50 : decode cX8_lostWithout 50 = .ok (.iload_n 2, 1) := by decide +kernel
theorem dX8_lostWithout_51 : decode cX8_lostWithout 51 = .ok (.ireturn, 1) := by decide +kernel
set_option maxHeartbeats 400000 in
theorem c8_lostWithout {G : Gl} {l : Launch}  {M : Mem} {h c : Nat} {x : Int} (hG : GR M) (hS : SH h c) (hB : SB (M c)) (hx0 : 0 ≤ x) (hx1 : x < 5) : Ct G LY 57 l 1 m8_lostWithout [vR h, vI x] M (Ret (vI (bits (M c 122).toNat (fun k => 0 < allOf (M c) k ∧ allOf (M c) k = M c (28 + x * 6 + k)))) M) := by
  refine R_start (by decide +kernel) (Nat.le_of_ble_eq_true rfl) (fun C hC hRm hlau => ?_)
  show RZ G LY C (Zn G LY 57 C (Ret (vI (bits (M c 122).toNat (fun k => 0 < allOf (M c) k ∧ allOf (M c) k = M c (28 + x * 6 + k)))) M)) 0 0 57 0 [some (vR h), some (vI x), none, none, none] [] M
  have hL := hB.L
  have hW := hB.W
  refine R_iconst hC dX8_lostWithout_0 ⟨by decide, by decide⟩ ?_
  refine R_istore_2 hC dX8_lostWithout_1 rfl ?_
  refine R_iconst hC dX8_lostWithout_2 ⟨by decide, by decide⟩ ?_
  refine R_istore_3 hC dX8_lostWithout_3 rfl ?_
  have L4 : ∀ (mq : Nat) (acc : Int) (i : Int), (0 ≤ i) → (i ≤ M c 122) → (acc = bits i.toNat (fun k => 0 < allOf (M c) k ∧ allOf (M c) k = M c (28 + x * 6 + k))) → (M c 122 - i).toNat < mq → RZ G LY C (Zn G LY 57 C (Ret (vI (bits (M c 122).toNat (fun k => 0 < allOf (M c) k ∧ allOf (M c) k = M c (28 + x * 6 + k)))) M)) 0 0 57 4 [some (vR h), some (vI x), some (vI acc), some (vI i), none] [] M := by
    intro mq
    induction mq with
    | zero =>
      intro acc i hi0 hi1 ha hm
      exact absurd hm (Nat.not_lt_zero _)
    | succ mq ih4 =>
      intro acc i hi0 hi1 ha hm4
      have hp := pw_bd hi0 (by omega)
      have hq := bits_b10 (fun k => 0 < allOf (M c) k ∧ allOf (M c) k = M c (28 + x * 6 + k)) hi0 (by omega)
      refine R_iload_3 hC dX8_lostWithout_4 ?_
      refine R_aload_0 hC dX8_lostWithout_5 ?_
      refine R_getR hC dX8_lostWithout_6 fl_8_9 hS.l hS.k (by decide) (by decide) (fi := 0) rfl (r := c) (hS.r hG) ?_
      refine R_bipush hC dX8_lostWithout_9 (by decide +kernel) ⟨by decide, by decide⟩ ?_
      refine R_iaload hC dX8_lostWithout_11 hS.m hS.a (by omega) (by omega) ?_
      have b11 := hB.1 122 (by omega) (by omega)
      refine R_icmp_ge hC dX8_lostWithout_12 (tgt := 50) (by decide) (fun hb12 => ?_) (fun hb12 => ?_)
      · skip
        refine R_iload_2 hC dX8_lostWithout_50 ?_
        exact R_ireturn hC dX8_lostWithout_51 rfl (ret_I (by rw [ha, show i = M c 122 by omega]))
      · skip
        refine R_aload_0 hC dX8_lostWithout_15 ?_
        refine R_iload_3 hC dX8_lostWithout_16 ?_
        refine R_callVq (as := [vI _]) hC dX8_lostWithout_17 mo_8_copiesOf ml_8_46 hS.l hS.k rfl (c8_copiesOf  hG hS hB (by omega) (by omega)) rfl rfl hRm (by decide) (by decide) (Nat.le_of_ble_eq_true rfl) ?_
        have e17_1 := allOf_bd (w := i) hB (by omega) (by omega)
        refine R_istore_4 hC dX8_lostWithout_20 rfl ?_
        refine R_iload_4 hC dX8_lostWithout_22 ?_
        refine R_if_le hC dX8_lostWithout_24 (tgt := 44) (by decide) (fun hb24 => ?_) (fun hb24 => ?_)
        · skip
          refine R_iinc_3 hC dX8_lostWithout_44 rfl ⟨by omega, by omega⟩ ?_
          refine R_goto hC dX8_lostWithout_47 (tgt := 4) (by decide) ?_
          refine R_weak (subL_c (subL_c (subL_c (subL_c (subL_d subL_n))))) ?_
          exact ih4 _ _ (by omega) (by omega) (by first | (rw [ha]; exact bits_t hi0 rfl (show 0 < allOf (M c) i ∧ allOf (M c) i = M c (28 + x * 6 + i) by omega)) | (rw [ha]; exact bits_f hi0 rfl (show ¬ (0 < allOf (M c) i ∧ allOf (M c) i = M c (28 + x * 6 + i)) by omega))) (by omega)
        · skip
          refine R_iload_4 hC dX8_lostWithout_27 ?_
          refine R_aload_0 hC dX8_lostWithout_29 ?_
          refine R_iload_1 hC dX8_lostWithout_30 ?_
          refine R_iload_3 hC dX8_lostWithout_31 ?_
          refine R_callVq (as := [vI _, vI _]) hC dX8_lostWithout_32 mo_8_heldIn ml_8_28 hS.l hS.k rfl (c8_heldIn  hG hS (by omega) (by omega) (by omega) (by omega)) rfl rfl hRm (by decide) (by decide) (Nat.le_of_ble_eq_true rfl) ?_
          refine R_icmp_ne hC dX8_lostWithout_35 (tgt := 44) (by decide) (fun hb35 => ?_) (fun hb35 => ?_)
          · skip
            refine R_iinc_3 hC dX8_lostWithout_44 rfl ⟨by omega, by omega⟩ ?_
            refine R_goto hC dX8_lostWithout_47 (tgt := 4) (by decide) ?_
            refine R_weak (subL_c (subL_c (subL_c (subL_c (subL_d subL_n))))) ?_
            exact ih4 _ _ (by omega) (by omega) (by first | (rw [ha]; exact bits_t hi0 rfl (show 0 < allOf (M c) i ∧ allOf (M c) i = M c (28 + x * 6 + i) by omega)) | (rw [ha]; exact bits_f hi0 rfl (show ¬ (0 < allOf (M c) i ∧ allOf (M c) i = M c (28 + x * 6 + i)) by omega))) (by omega)
          · skip
            refine R_iload_2 hC dX8_lostWithout_38 ?_
            refine R_iconst hC dX8_lostWithout_39 ⟨by decide, by decide⟩ ?_
            refine R_iload_3 hC dX8_lostWithout_40 ?_
            refine R_shl1 hC dX8_lostWithout_41 (by omega) (by omega) ?_
            refine R_ior hC dX8_lostWithout_42 (by omega) (by omega) ?_
            refine R_istore_2 hC dX8_lostWithout_43 rfl ?_
            refine R_iinc_3 hC dX8_lostWithout_44 rfl ⟨by omega, by omega⟩ ?_
            refine R_goto hC dX8_lostWithout_47 (tgt := 4) (by decide) ?_
            refine R_weak (subL_c (subL_c (subL_c (subL_c (subL_d subL_n))))) ?_
            exact ih4 _ _ (by omega) (by omega) (by first | (rw [ha]; exact bits_t hi0 rfl (show 0 < allOf (M c) i ∧ allOf (M c) i = M c (28 + x * 6 + i) by omega)) | (rw [ha]; exact bits_f hi0 rfl (show ¬ (0 < allOf (M c) i ∧ allOf (M c) i = M c (28 + x * 6 + i)) by omega))) (by omega)
  exact L4 _ _ _ (by omega) (by omega) rfl (Nat.lt_succ_self _)
theorem c8_lostWithout_d {G : Gl} {l : Launch} {M : Mem} {h c : Nat} {x : Int} {d : Int → Int} (hMd : M c = d) (hG : GR M) (hS : SH h c) (hB : SB (d)) (hx0 : 0 ≤ x) (hx1 : x < 5) : Ct G LY 57 l 1 m8_lostWithout [vR h, vI x] M (Ret (vI (bits (d 122).toNat (fun k => 0 < allOf (d) k ∧ allOf (d) k = d (28 + x * 6 + k)))) M) := by
  subst hMd
  exact c8_lostWithout hG hS hB hx0 hx1
theorem dX8_promiseEndsWith_0 : decode cX8_promiseEndsWith 0 = .ok (.iconst 0, 1) := by decide +kernel
theorem dX8_promiseEndsWith_1 : decode cX8_promiseEndsWith 1 = .ok (.istore_n 2, 1) := by decide +kernel
theorem dX8_promiseEndsWith_2 : decode cX8_promiseEndsWith 2 = .ok (.iload_n 2, 1) := by decide +kernel
theorem dX8_promiseEndsWith_3 : decode cX8_promiseEndsWith 3 = .ok (.bipush 30, 2) := by decide +kernel
theorem dX8_promiseEndsWith_5 : decode cX8_promiseEndsWith 5 = .ok (.if_icmp .ge 36, 3) := by decide +kernel
theorem dX8_promiseEndsWith_8 : decode cX8_promiseEndsWith 8 = .ok (.aload_n 0, 1) := by decide +kernel
theorem dX8_promiseEndsWith_9 : decode cX8_promiseEndsWith 9 = .ok (.getfield 9, 3) := by decide +kernel
theorem dX8_promiseEndsWith_12 : decode cX8_promiseEndsWith 12 = .ok (.bipush 58, 2) := by decide +kernel
theorem dX8_promiseEndsWith_14 : decode cX8_promiseEndsWith 14 = .ok (.iload_n 2, 1) := by decide +kernel
theorem dX8_promiseEndsWith_15 : decode cX8_promiseEndsWith 15 = .ok (.iadd, 1) := by decide +kernel
theorem dX8_promiseEndsWith_16 : decode cX8_promiseEndsWith 16 = .ok (.iaload, 1) := by decide +kernel
theorem dX8_promiseEndsWith_17 : decode cX8_promiseEndsWith 17 = .ok (.ifCond .le 18, 3) := by decide +kernel
theorem dX8_promiseEndsWith_20 : decode cX8_promiseEndsWith 20 = .ok (.aload_n 0, 1) := by decide +kernel
theorem dX8_promiseEndsWith_21 : decode cX8_promiseEndsWith 21 = .ok (.getfield 9, 3) := by decide +kernel
theorem dX8_promiseEndsWith_24 : decode cX8_promiseEndsWith 24 = .ok (.bipush 88, 2) := by decide +kernel
theorem dX8_promiseEndsWith_26 : decode cX8_promiseEndsWith 26 = .ok (.iload_n 2, 1) := by decide +kernel
theorem dX8_promiseEndsWith_27 : decode cX8_promiseEndsWith 27 = .ok (.iadd, 1) := by decide +kernel
theorem dX8_promiseEndsWith_28 : decode cX8_promiseEndsWith 28 = .ok (.iaload, 1) := by decide +kernel
theorem dX8_promiseEndsWith_29 : decode cX8_promiseEndsWith 29 = .ok (.iload_n 1, 1) := by decide +kernel
theorem dX8_promiseEndsWith_30 : decode cX8_promiseEndsWith 30 = .ok (.if_icmp .ne 5, 3) := by decide +kernel
theorem dX8_promiseEndsWith_33 : decode cX8_promiseEndsWith 33 = .ok (.iconst 1, 1) := by decide +kernel
theorem dX8_promiseEndsWith_34 : decode cX8_promiseEndsWith 34 = .ok (.ireturn, 1) := by decide +kernel
theorem dX8_promiseEndsWith_35 : decode cX8_promiseEndsWith 35 = .ok (.iinc 2 1, 3) := by decide +kernel
theorem dX8_promiseEndsWith_38 : decode cX8_promiseEndsWith 38 = .ok (.goto (-36), 3) := by decide +kernel
theorem dX8_promiseEndsWith_41 : decode cX8_promiseEndsWith 41 = .ok (.iconst 0, 1) := by decide +kernel
theorem dX8_promiseEndsWith_42 : decode cX8_promiseEndsWith 42 = .ok (.ireturn, 1) := by decide +kernel
set_option maxHeartbeats 400000 in
theorem c8_promiseEndsWith {G : Gl} {l : Launch}  {M : Mem} {h c : Nat} {y : Int} (hG : GR M) (hS : SH h c) : Ct G LY 57 l 0 m8_promiseEndsWith [vR h, vI y] M (Ret (vI (bP (∃ p : Int, 0 ≤ p ∧ p < 30 ∧ 0 < M c (58 + p) ∧ M c (88 + p) = y))) M) := by
  refine R_start (by decide +kernel) (Nat.le_of_ble_eq_true rfl) (fun C hC hRm hlau => ?_)
  show RZ G LY C (Zn G LY 57 C (Ret (vI (bP (∃ p : Int, 0 ≤ p ∧ p < 30 ∧ 0 < M c (58 + p) ∧ M c (88 + p) = y))) M)) 0 0 57 0 [some (vR h), some (vI y), none] [] M
  refine R_iconst hC dX8_promiseEndsWith_0 ⟨by decide, by decide⟩ ?_
  refine R_istore_2 hC dX8_promiseEndsWith_1 rfl ?_
  have L2 : ∀ (mq : Nat) (i : Int), (0 ≤ i) → (i ≤ 30) → (¬ ∃ p : Int, 0 ≤ p ∧ p < i ∧ 0 < M c (58 + p) ∧ M c (88 + p) = y) → (30 - i).toNat < mq → RZ G LY C (Zn G LY 57 C (Ret (vI (bP (∃ p : Int, 0 ≤ p ∧ p < 30 ∧ 0 < M c (58 + p) ∧ M c (88 + p) = y))) M)) 0 0 57 2 [some (vR h), some (vI y), some (vI i)] [] M := by
    intro mq
    induction mq with
    | zero =>
      intro i hi0 hi1 ha hm
      exact absurd hm (Nat.not_lt_zero _)
    | succ mq ih2 =>
      intro i hi0 hi1 ha hm2
      refine R_iload_2 hC dX8_promiseEndsWith_2 ?_
      refine R_bipush hC dX8_promiseEndsWith_3 (by decide +kernel) ⟨by decide, by decide⟩ ?_
      refine R_icmp_ge hC dX8_promiseEndsWith_5 (tgt := 41) (by decide) (fun hb5 => ?_) (fun hb5 => ?_)
      · skip
        refine R_iconst hC dX8_promiseEndsWith_41 ⟨by decide, by decide⟩ ?_
        exact R_zreturn hC dX8_promiseEndsWith_42 rfl (.inl rfl) (ret_f (by rw [show i = 30 by omega] at ha; exact ha))
      · skip
        refine R_aload_0 hC dX8_promiseEndsWith_8 ?_
        refine R_getR hC dX8_promiseEndsWith_9 fl_8_9 hS.l hS.k (by decide) (by decide) (fi := 0) rfl (r := c) (hS.r hG) ?_
        refine R_bipush hC dX8_promiseEndsWith_12 (by decide +kernel) ⟨by decide, by decide⟩ ?_
        refine R_iload_2 hC dX8_promiseEndsWith_14 ?_
        refine R_iadd hC dX8_promiseEndsWith_15 ⟨by omega, by omega⟩ ?_
        refine R_iaload hC dX8_promiseEndsWith_16 hS.m hS.a (by omega) (by omega) ?_
        refine R_if_le hC dX8_promiseEndsWith_17 (tgt := 35) (by decide) (fun hb17 => ?_) (fun hb17 => ?_)
        · skip
          refine R_iinc_2 hC dX8_promiseEndsWith_35 rfl ⟨by omega, by omega⟩ ?_
          refine R_goto hC dX8_promiseEndsWith_38 (tgt := 2) (by decide) ?_
          exact ih2 _ (by omega) (by omega) (fun ⟨p, h1, h2, h3, h4⟩ => by
                by_cases e : p = i
                · subst e; omega
                · exact ha ⟨p, h1, by omega, h3, h4⟩) (by omega)
        · skip
          refine R_aload_0 hC dX8_promiseEndsWith_20 ?_
          refine R_getR hC dX8_promiseEndsWith_21 fl_8_9 hS.l hS.k (by decide) (by decide) (fi := 0) rfl (r := c) (hS.r hG) ?_
          refine R_bipush hC dX8_promiseEndsWith_24 (by decide +kernel) ⟨by decide, by decide⟩ ?_
          refine R_iload_2 hC dX8_promiseEndsWith_26 ?_
          refine R_iadd hC dX8_promiseEndsWith_27 ⟨by omega, by omega⟩ ?_
          refine R_iaload hC dX8_promiseEndsWith_28 hS.m hS.a (by omega) (by omega) ?_
          refine R_iload_1 hC dX8_promiseEndsWith_29 ?_
          refine R_icmp_ne hC dX8_promiseEndsWith_30 (tgt := 35) (by decide) (fun hb30 => ?_) (fun hb30 => ?_)
          · skip
            refine R_iinc_2 hC dX8_promiseEndsWith_35 rfl ⟨by omega, by omega⟩ ?_
            refine R_goto hC dX8_promiseEndsWith_38 (tgt := 2) (by decide) ?_
            exact ih2 _ (by omega) (by omega) (fun ⟨p, h1, h2, h3, h4⟩ => by
                  by_cases e : p = i
                  · subst e; omega
                  · exact ha ⟨p, h1, by omega, h3, h4⟩) (by omega)
          · skip
            refine R_iconst hC dX8_promiseEndsWith_33 ⟨by decide, by decide⟩ ?_
            exact R_zreturn hC dX8_promiseEndsWith_34 rfl (.inr rfl) (ret_t ⟨i, hi0, by omega, by omega, by omega⟩)
  exact L2 _ _ (by omega) (by omega) (fun ⟨p, h⟩ => by omega) (Nat.lt_succ_self _)
theorem c8_promiseEndsWith_d {G : Gl} {l : Launch} {M : Mem} {h c : Nat} {y : Int} {d : Int → Int} (hMd : M c = d) (hG : GR M) (hS : SH h c) : Ct G LY 57 l 0 m8_promiseEndsWith [vR h, vI y] M (Ret (vI (bP (∃ p : Int, 0 ≤ p ∧ p < 30 ∧ 0 < d (58 + p) ∧ d (88 + p) = y))) M) := by
  subst hMd
  exact c8_promiseEndsWith hG hS
theorem dX8_moveOne_0 : decode cX8_moveOne 0 = .ok (.aload_n 0, 1) := by decide +kernel
theorem dX8_moveOne_1 : decode cX8_moveOne 1 = .ok (.getfield 9, 3) := by decide +kernel
theorem dX8_moveOne_4 : decode cX8_moveOne 4 = .ok (.bipush 28, 2) := by decide +kernel
theorem dX8_moveOne_6 : decode cX8_moveOne 6 = .ok (.iload_n 1, 1) := by decide +kernel
theorem dX8_moveOne_7 : decode cX8_moveOne 7 = .ok (.iload_n 3, 1) := by decide +kernel
theorem dX8_moveOne_8 : decode cX8_moveOne 8 = .ok (.invokestatic 73, 3) := by decide +kernel
theorem dX8_moveOne_11 : decode cX8_moveOne 11 = .ok (.iadd, 1) := by decide +kernel
theorem dX8_moveOne_12 : decode cX8_moveOne 12 = .ok (.dup2, 1) := by decide +kernel
theorem dX8_moveOne_13 : decode cX8_moveOne 13 = .ok (.iaload, 1) := by decide +kernel
theorem dX8_moveOne_14 : decode cX8_moveOne 14 = .ok (.iconst 1, 1) := by decide +kernel
theorem dX8_moveOne_15 : decode cX8_moveOne 15 = .ok (.isub, 1) := by decide +kernel
theorem dX8_moveOne_16 : decode cX8_moveOne 16 = .ok (.iastore, 1) := by decide +kernel
theorem dX8_moveOne_17 : decode cX8_moveOne 17 = .ok (.aload_n 0, 1) := by decide +kernel
theorem dX8_moveOne_18 : decode cX8_moveOne 18 = .ok (.getfield 9, 3) := by decide +kernel
theorem dX8_moveOne_21 : decode cX8_moveOne 21 = .ok (.bipush 28, 2) := by decide +kernel
theorem dX8_moveOne_23 : decode cX8_moveOne 23 = .ok (.iload_n 2, 1) := by decide +kernel
theorem dX8_moveOne_24 : decode cX8_moveOne 24 = .ok (.iload_n 3, 1) := by decide +kernel
theorem dX8_moveOne_25 : decode cX8_moveOne 25 = .ok (.invokestatic 73, 3) := by decide +kernel
theorem dX8_moveOne_28 : decode cX8_moveOne 28 = .ok (.iadd, 1) := by decide +kernel
theorem dX8_moveOne_29 : decode cX8_moveOne 29 = .ok (.dup2, 1) := by decide +kernel
theorem dX8_moveOne_30 : decode cX8_moveOne 30 = .ok (.iaload, 1) := by decide +kernel
theorem dX8_moveOne_31 : decode cX8_moveOne 31 = .ok (.iconst 1, 1) := by decide +kernel
theorem dX8_moveOne_32 : decode cX8_moveOne 32 = .ok (.iadd, 1) := by decide +kernel
theorem dX8_moveOne_33 : decode cX8_moveOne 33 = .ok (.iastore, 1) := by decide +kernel
theorem dX8_moveOne_34 : decode cX8_moveOne 34 = .ok (.return_, 1) := by decide +kernel
set_option maxHeartbeats 400000 in
theorem c8_moveOne {G : Gl} {l : Launch}  {M : Mem} {h c : Nat} {d : Int → Int} {x t w : Int} (hG : GR M) (hS : SH h c) (hD : M c = d) (hB : SB d) (hx0 : 0 ≤ x) (hx1 : x < 5) (ht0 : 0 ≤ t) (ht1 : t < 5) (hw0 : 0 ≤ w) (hw1 : w < 6) : Ct G LY 57 l 1 m8_moveOne [vR h, vI x, vI t, vI w] M (RV (fun M' => Fr [c] [] M M' ∧ GR M' ∧ M' c = mvR d x t w)) := by
  refine R_start (by decide +kernel) (Nat.le_of_ble_eq_true rfl) (fun C hC hRm hlau => ?_)
  show RZ G LY C (Zn G LY 57 C (RV (fun M' => Fr [c] [] M M' ∧ GR M' ∧ M' c = mvR d x t w))) 0 0 57 0 [some (vR h), some (vI x), some (vI t), some (vI w)] [] M
  have b1 := hB.1 (28 + (x * 6 + w)) (by omega) (by omega)
  have b2 := hB.1 (28 + (t * 6 + w)) (by omega) (by omega)
  refine R_aload_0 hC dX8_moveOne_0 ?_
  refine R_getR hC dX8_moveOne_1 fl_8_9 hS.l hS.k (by decide) (by decide) (fi := 0) rfl (r := c) (hS.r hG) ?_
  refine R_bipush hC dX8_moveOne_4 (by decide +kernel) ⟨by decide, by decide⟩ ?_
  refine R_iload_1 hC dX8_moveOne_6 ?_
  refine R_iload_3 hC dX8_moveOne_7 ?_
  refine R_callSNq (as := [vI _, vI _]) hC dX8_moveOne_8 mo_11_pairOf mn_8_73 (c11_pairOf  (by omega) (by omega) (by omega) (by omega)) rfl rfl hRm (by decide) (by decide) (Nat.le_of_ble_eq_true rfl) ?_
  refine R_iadd hC dX8_moveOne_11 ⟨by omega, by omega⟩ ?_
  refine R_dup2 hC dX8_moveOne_12 rfl rfl ?_
  have e1 : M c (28 + (x * 6 + w)) = d (28 + (x * 6 + w)) := congrFun hD _
  refine R_ialoadE hC dX8_moveOne_13 hS.m hS.a (by omega) (by omega) (congrFun hD _) ?_
  refine R_iconst hC dX8_moveOne_14 ⟨by decide, by decide⟩ ?_
  refine R_isub hC dX8_moveOne_15 ⟨by omega, by omega⟩ ?_
  refine R_iastore hC dX8_moveOne_16 hS.m hS.a (by omega) (by omega) ?_
  refine R_aload_0 hC dX8_moveOne_17 ?_
  have hG1 : GR (uM M c (28 + (x * 6 + w)) ((d (28 + (x * 6 + w))) - 1)) := (GR.uA hG hS.na (.inr ⟨by omega, by omega⟩))
  refine R_getR hC dX8_moveOne_18 fl_8_9 hS.l hS.k (by decide) (by decide) (fi := 0) rfl (r := c) (hS.r hG1) ?_
  refine R_bipush hC dX8_moveOne_21 (by decide +kernel) ⟨by decide, by decide⟩ ?_
  refine R_iload_2 hC dX8_moveOne_23 ?_
  refine R_iload_3 hC dX8_moveOne_24 ?_
  refine R_callSNq (as := [vI _, vI _]) hC dX8_moveOne_25 mo_11_pairOf mn_8_73 (c11_pairOf  (by omega) (by omega) (by omega) (by omega)) rfl rfl hRm (by decide) (by decide) (Nat.le_of_ble_eq_true rfl) ?_
  refine R_iadd hC dX8_moveOne_28 ⟨by omega, by omega⟩ ?_
  refine R_dup2 hC dX8_moveOne_29 rfl rfl ?_
  have q : (uM M c (28 + (x * 6 + w)) ((d (28 + (x * 6 + w))) - 1)) c (28 + (t * 6 + w)) = d (28 + (t * 6 + w)) ∨ (uM M c (28 + (x * 6 + w)) ((d (28 + (x * 6 + w))) - 1)) c (28 + (t * 6 + w)) = d (28 + (x * 6 + w)) - 1 := by
    unfold uM
    split
    · exact .inr rfl
    · exact .inl (congrFun hD _)
  refine R_iaload hC dX8_moveOne_30 hS.m hS.a (by omega) (by omega) ?_
  refine R_iconst hC dX8_moveOne_31 ⟨by decide, by decide⟩ ?_
  refine R_iadd hC dX8_moveOne_32 ⟨by omega, by omega⟩ ?_
  refine R_iastore hC dX8_moveOne_33 hS.m hS.a (by omega) (by omega) ?_
  have hG2 : GR (uM (uM M c (28 + (x * 6 + w)) ((d (28 + (x * 6 + w))) - 1)) c (28 + (t * 6 + w)) (((uM M c (28 + (x * 6 + w)) ((d (28 + (x * 6 + w))) - 1)) c (28 + (t * 6 + w))) + 1)) := (GR.uA hG1 hS.na (.inr ⟨by omega, by omega⟩))
  exact R_return hC dX8_moveOne_34 rfl (ret_V ⟨Fr.uA (Fr.uA Fr.rf (by simp)) (by simp), hG2, by (subst hD; exact mvR_ok)⟩)
theorem dX8_withdraw_0 : decode cX8_withdraw 0 = .ok (.iconst 0, 1) := by decide +kernel
theorem dX8_withdraw_1 : decode cX8_withdraw 1 = .ok (.istore_n 3, 1) := by decide +kernel
theorem dX8_withdraw_2 : decode cX8_withdraw 2 = .ok (.iload_n 3, 1) := by decide +kernel
theorem dX8_withdraw_3 : decode cX8_withdraw 3 = .ok (.bipush 30, 2) := by decide +kernel
theorem dX8_withdraw_5 : decode cX8_withdraw 5 = .ok (.if_icmp .ge 29, 3) := by decide +kernel
theorem dX8_withdraw_8 : decode cX8_withdraw 8 = .ok (.aload_n 0, 1) := by decide +kernel
theorem dX8_withdraw_9 : decode cX8_withdraw 9 = .ok (.getfield 9, 3) := by decide +kernel
theorem dX8_withdraw_12 : decode cX8_withdraw 12 = .ok (.bipush 28, 2) := by decide +kernel
theorem dX8_withdraw_14 : decode cX8_withdraw 14 = .ok (.iload_n 3, 1) := by decide +kernel
theorem dX8_withdraw_15 : decode cX8_withdraw 15 = .ok (.iadd, 1) := by decide +kernel
theorem dX8_withdraw_16 : decode cX8_withdraw 16 = .ok (.dup2, 1) := by decide +kernel
theorem dX8_withdraw_17 : decode cX8_withdraw 17 = .ok (.iaload, 1) := by decide +kernel
theorem dX8_withdraw_18 : decode cX8_withdraw 18 = .ok (.lload_n 1, 1) := by decide +kernel
theorem dX8_withdraw_19 : decode cX8_withdraw 19 = .ok (.iconst 2, 1) := by decide +kernel
theorem dX8_withdraw_20 : decode cX8_withdraw 20 = .ok (.iload_n 3, 1) := by decide +kernel
theorem dX8_withdraw_21 : decode cX8_withdraw 21 = .ok (.imul, 1) := by decide +kernel
theorem dX8_withdraw_22 : decode cX8_withdraw 22 = .ok (.lushr, 1) := by decide +kernel
theorem dX8_withdraw_23 : decode cX8_withdraw 23 = .ok (.l2i, 1) := by decide +kernel
theorem dX8_withdraw_24 : decode cX8_withdraw 24 = .ok (.iconst 3, 1) := by decide +kernel
theorem dX8_withdraw_25 : decode cX8_withdraw 25 = .ok (.iand, 1) := by decide +kernel
theorem dX8_withdraw_26 : decode cX8_withdraw 26 = .ok (.isub, 1) := by decide +kernel
theorem dX8_withdraw_27 : decode cX8_withdraw 27 = .ok (.iastore, 1) := by decide +kernel
theorem dX8_withdraw_28 : decode cX8_withdraw 28 = .ok (.iinc 3 1, 3) := by decide +kernel
theorem dX8_withdraw_31 : decode cX8_withdraw 31 = .ok (.goto (-29), 3) := by decide +kernel
theorem dX8_withdraw_34 : decode cX8_withdraw 34 = .ok (.return_, 1) := by decide +kernel
set_option maxHeartbeats 400000 in
theorem c8_withdraw {G : Gl} {l : Launch}  {M : Mem} {h c : Nat} {d : Int → Int} {v : Int} (hG : GR M) (hS : SH h c) (hD : M c = d) (hB : SB d) : Ct G LY 57 l 0 m8_withdraw [vR h, vL v] M (RV (fun M' => Fr [c] [] M M' ∧ GR M' ∧ M' c = wdR d v (-1))) := by
  refine R_start (by decide +kernel) (Nat.le_of_ble_eq_true rfl) (fun C hC hRm hlau => ?_)
  show RZ G LY C (Zn G LY 57 C (RV (fun M' => Fr [c] [] M M' ∧ GR M' ∧ M' c = wdR d v (-1)))) 0 0 57 0 [some (vR h), some (vL v), none, none] [] M
  refine R_iconst hC dX8_withdraw_0 ⟨by decide, by decide⟩ ?_
  refine R_istore_3 hC dX8_withdraw_1 rfl ?_
  have L2 : ∀ (mq : Nat) (i : Int) (M1 : Mem), (0 ≤ i) → (i ≤ 30) → (GR M1) → (M1 = wdM M c v (-1) i) → (30 - i).toNat < mq → RZ G LY C (Zn G LY 57 C (RV (fun M' => Fr [c] [] M M' ∧ GR M' ∧ M' c = wdR d v (-1)))) 0 0 57 2 [some (vR h), some (vL v), none, some (vI i)] [] M1 := by
    intro mq
    induction mq with
    | zero =>
      intro i M1 hi0 hi1 hg hM hm
      exact absurd hm (Nat.not_lt_zero _)
    | succ mq ih2 =>
      intro i M1 hi0 hi1 hg hM hm2
      refine R_iload_3 hC dX8_withdraw_2 ?_
      refine R_bipush hC dX8_withdraw_3 (by decide +kernel) ⟨by decide, by decide⟩ ?_
      refine R_icmp_ge hC dX8_withdraw_5 (tgt := 34) (by decide) (fun hb5 => ?_) (fun hb5 => ?_)
      · skip
        exact R_return hC dX8_withdraw_34 rfl (ret_V ⟨by (rw [hM]; exact wdM_fr), hg, by (rw [hM, show i = 30 by omega, ← hD]; exact wdM_row)⟩)
      · skip
        refine R_aload_0 hC dX8_withdraw_8 ?_
        refine R_getR hC dX8_withdraw_9 fl_8_9 hS.l hS.k (by decide) (by decide) (fi := 0) rfl (r := c) (hS.r hg) ?_
        refine R_bipush hC dX8_withdraw_12 (by decide +kernel) ⟨by decide, by decide⟩ ?_
        refine R_iload_3 hC dX8_withdraw_14 ?_
        refine R_iadd hC dX8_withdraw_15 ⟨by omega, by omega⟩ ?_
        refine R_dup2 hC dX8_withdraw_16 rfl rfl ?_
        have q17 : M1 c (28 + i) = d (28 + i) := by rw [hM, wdM_ge (by omega), hD]
        have b17 := hB.1 (28 + i) (by omega) (by omega)
        refine R_iaload hC dX8_withdraw_17 hS.m hS.a (by omega) (by omega) ?_
        refine R_lload_1 hC dX8_withdraw_18 ?_
        refine R_iconst hC dX8_withdraw_19 ⟨by decide, by decide⟩ ?_
        refine R_iload_3 hC dX8_withdraw_20 ?_
        refine R_imul hC dX8_withdraw_21 ⟨by omega, by omega⟩ ?_
        refine R_lushr hC dX8_withdraw_22 ?_
        refine R_l2i hC dX8_withdraw_23 ?_
        refine R_iconst hC dX8_withdraw_24 ⟨by decide, by decide⟩ ?_
        refine R_iandm hC dX8_withdraw_25 (m := 2) (by decide) (by decide) ?_
        refine R_isub hC dX8_withdraw_26 ⟨by omega, by omega⟩ ?_
        refine R_iastore hC dX8_withdraw_27 hS.m hS.a (by omega) (by omega) ?_
        refine R_iinc_3 hC dX8_withdraw_28 rfl ⟨by omega, by omega⟩ ?_
        refine R_goto hC dX8_withdraw_31 (tgt := 2) (by decide) ?_
        have hG1 : GR (uM M1 c (28 + i) ((M1 c (28 + i)) - ((((Int64.ofInt v).toUInt64 >>> ((Int32.ofInt (2 * i)).toInt64.toUInt64 &&& Int64.toUInt64 63)).toInt64.toInt.bmod 4294967296) % 2 ^ 2))) := (GR.uA hg hS.na (.inr ⟨by omega, by omega⟩))
        exact ih2 _ _ (by omega) (by omega) hG1 (by rw [hM]; exact wdM_s hi0 (by rw [wdM_ge (by omega)]; simp only [pkd]; omega)) (by omega)
  exact L2 _ _ _ (by omega) (by omega) hG wdM_0.symm (Nat.lt_succ_self _)
theorem dX8_putBack_0 : decode cX8_putBack 0 = .ok (.iconst 0, 1) := by decide +kernel
theorem dX8_putBack_1 : decode cX8_putBack 1 = .ok (.istore_n 3, 1) := by decide +kernel
theorem dX8_putBack_2 : decode cX8_putBack 2 = .ok (.iload_n 3, 1) := by decide +kernel
theorem dX8_putBack_3 : decode cX8_putBack 3 = .ok (.bipush 30, 2) := by decide +kernel
theorem dX8_putBack_5 : decode cX8_putBack 5 = .ok (.if_icmp .ge 29, 3) := by decide +kernel
theorem dX8_putBack_8 : decode cX8_putBack 8 = .ok (.aload_n 0, 1) := by decide +kernel
theorem dX8_putBack_9 : decode cX8_putBack 9 = .ok (.getfield 9, 3) := by decide +kernel
theorem dX8_putBack_12 : decode cX8_putBack 12 = .ok (.bipush 28, 2) := by decide +kernel
theorem dX8_putBack_14 : decode cX8_putBack 14 = .ok (.iload_n 3, 1) := by decide +kernel
theorem dX8_putBack_15 : decode cX8_putBack 15 = .ok (.iadd, 1) := by decide +kernel
theorem dX8_putBack_16 : decode cX8_putBack 16 = .ok (.dup2, 1) := by decide +kernel
theorem dX8_putBack_17 : decode cX8_putBack 17 = .ok (.iaload, 1) := by decide +kernel
theorem dX8_putBack_18 : decode cX8_putBack 18 = .ok (.lload_n 1, 1) := by decide +kernel
theorem dX8_putBack_19 : decode cX8_putBack 19 = .ok (.iconst 2, 1) := by decide +kernel
theorem dX8_putBack_20 : decode cX8_putBack 20 = .ok (.iload_n 3, 1) := by decide +kernel
theorem dX8_putBack_21 : decode cX8_putBack 21 = .ok (.imul, 1) := by decide +kernel
theorem dX8_putBack_22 : decode cX8_putBack 22 = .ok (.lushr, 1) := by decide +kernel
theorem dX8_putBack_23 : decode cX8_putBack 23 = .ok (.l2i, 1) := by decide +kernel
theorem dX8_putBack_24 : decode cX8_putBack 24 = .ok (.iconst 3, 1) := by decide +kernel
theorem dX8_putBack_25 : decode cX8_putBack 25 = .ok (.iand, 1) := by decide +kernel
theorem dX8_putBack_26 : decode cX8_putBack 26 = .ok (.iadd, 1) := by decide +kernel
theorem dX8_putBack_27 : decode cX8_putBack 27 = .ok (.iastore, 1) := by decide +kernel
theorem dX8_putBack_28 : decode cX8_putBack 28 = .ok (.iinc 3 1, 3) := by decide +kernel
theorem dX8_putBack_31 : decode cX8_putBack 31 = .ok (.goto (-29), 3) := by decide +kernel
theorem dX8_putBack_34 : decode cX8_putBack 34 = .ok (.return_, 1) := by decide +kernel
set_option maxHeartbeats 400000 in
theorem c8_putBack {G : Gl} {l : Launch}  {M : Mem} {h c : Nat} {d : Int → Int} {v : Int} (hG : GR M) (hS : SH h c) (hD : M c = d) (hB : SB d) : Ct G LY 57 l 0 m8_putBack [vR h, vL v] M (RV (fun M' => Fr [c] [] M M' ∧ GR M' ∧ M' c = wdR d v (1))) := by
  refine R_start (by decide +kernel) (Nat.le_of_ble_eq_true rfl) (fun C hC hRm hlau => ?_)
  show RZ G LY C (Zn G LY 57 C (RV (fun M' => Fr [c] [] M M' ∧ GR M' ∧ M' c = wdR d v (1)))) 0 0 57 0 [some (vR h), some (vL v), none, none] [] M
  refine R_iconst hC dX8_putBack_0 ⟨by decide, by decide⟩ ?_
  refine R_istore_3 hC dX8_putBack_1 rfl ?_
  have L2 : ∀ (mq : Nat) (i : Int) (M1 : Mem), (0 ≤ i) → (i ≤ 30) → (GR M1) → (M1 = wdM M c v (1) i) → (30 - i).toNat < mq → RZ G LY C (Zn G LY 57 C (RV (fun M' => Fr [c] [] M M' ∧ GR M' ∧ M' c = wdR d v (1)))) 0 0 57 2 [some (vR h), some (vL v), none, some (vI i)] [] M1 := by
    intro mq
    induction mq with
    | zero =>
      intro i M1 hi0 hi1 hg hM hm
      exact absurd hm (Nat.not_lt_zero _)
    | succ mq ih2 =>
      intro i M1 hi0 hi1 hg hM hm2
      refine R_iload_3 hC dX8_putBack_2 ?_
      refine R_bipush hC dX8_putBack_3 (by decide +kernel) ⟨by decide, by decide⟩ ?_
      refine R_icmp_ge hC dX8_putBack_5 (tgt := 34) (by decide) (fun hb5 => ?_) (fun hb5 => ?_)
      · skip
        exact R_return hC dX8_putBack_34 rfl (ret_V ⟨by (rw [hM]; exact wdM_fr), hg, by (rw [hM, show i = 30 by omega, ← hD]; exact wdM_row)⟩)
      · skip
        refine R_aload_0 hC dX8_putBack_8 ?_
        refine R_getR hC dX8_putBack_9 fl_8_9 hS.l hS.k (by decide) (by decide) (fi := 0) rfl (r := c) (hS.r hg) ?_
        refine R_bipush hC dX8_putBack_12 (by decide +kernel) ⟨by decide, by decide⟩ ?_
        refine R_iload_3 hC dX8_putBack_14 ?_
        refine R_iadd hC dX8_putBack_15 ⟨by omega, by omega⟩ ?_
        refine R_dup2 hC dX8_putBack_16 rfl rfl ?_
        have q17 : M1 c (28 + i) = d (28 + i) := by rw [hM, wdM_ge (by omega), hD]
        have b17 := hB.1 (28 + i) (by omega) (by omega)
        refine R_iaload hC dX8_putBack_17 hS.m hS.a (by omega) (by omega) ?_
        refine R_lload_1 hC dX8_putBack_18 ?_
        refine R_iconst hC dX8_putBack_19 ⟨by decide, by decide⟩ ?_
        refine R_iload_3 hC dX8_putBack_20 ?_
        refine R_imul hC dX8_putBack_21 ⟨by omega, by omega⟩ ?_
        refine R_lushr hC dX8_putBack_22 ?_
        refine R_l2i hC dX8_putBack_23 ?_
        refine R_iconst hC dX8_putBack_24 ⟨by decide, by decide⟩ ?_
        refine R_iandm hC dX8_putBack_25 (m := 2) (by decide) (by decide) ?_
        refine R_iadd hC dX8_putBack_26 ⟨by omega, by omega⟩ ?_
        refine R_iastore hC dX8_putBack_27 hS.m hS.a (by omega) (by omega) ?_
        refine R_iinc_3 hC dX8_putBack_28 rfl ⟨by omega, by omega⟩ ?_
        refine R_goto hC dX8_putBack_31 (tgt := 2) (by decide) ?_
        have hG1 : GR (uM M1 c (28 + i) ((M1 c (28 + i)) + ((((Int64.ofInt v).toUInt64 >>> ((Int32.ofInt (2 * i)).toInt64.toUInt64 &&& Int64.toUInt64 63)).toInt64.toInt.bmod 4294967296) % 2 ^ 2))) := (GR.uA hg hS.na (.inr ⟨by omega, by omega⟩))
        exact ih2 _ _ (by omega) (by omega) hG1 (by rw [hM]; exact wdM_s hi0 (by rw [wdM_ge (by omega)]; simp only [pkd]; omega)) (by omega)
  exact L2 _ _ _ (by omega) (by omega) hG wdM_0.symm (Nat.lt_succ_self _)
theorem dX8_clear_0 : decode cX8_clear 0 = .ok (.iconst 0, 1) := by decide +kernel
theorem dX8_clear_1 : decode cX8_clear 1 = .ok (.istore_n 1, 1) := by decide +kernel
theorem dX8_clear_2 : decode cX8_clear 2 = .ok (.iload_n 1, 1) := by decide +kernel
theorem dX8_clear_3 : decode cX8_clear 3 = .ok (.bipush 123, 2) := by decide +kernel
theorem dX8_clear_5 : decode cX8_clear 5 = .ok (.if_icmp .ge 16, 3) := by decide +kernel
theorem dX8_clear_8 : decode cX8_clear 8 = .ok (.aload_n 0, 1) := by decide +kernel
theorem dX8_clear_9 : decode cX8_clear 9 = .ok (.getfield 9, 3) := by decide +kernel
theorem dX8_clear_12 : decode cX8_clear 12 = .ok (.iload_n 1, 1) := by decide +kernel
theorem dX8_clear_13 : decode cX8_clear 13 = .ok (.iconst 0, 1) := by decide +kernel
theorem dX8_clear_14 : decode cX8_clear 14 = .ok (.iastore, 1) := by decide +kernel
theorem dX8_clear_15 : decode cX8_clear 15 = .ok (.iinc 1 1, 3) := by decide +kernel
theorem dX8_clear_18 : decode cX8_clear 18 = .ok (.goto (-16), 3) := by decide +kernel
theorem dX8_clear_21 : decode cX8_clear 21 = .ok (.return_, 1) := by decide +kernel
set_option maxHeartbeats 400000 in
theorem c8_clear {G : Gl} {l : Launch}  {M : Mem} {h c : Nat} {d : Int → Int} (hG : GR M) (hS : SH h c) (hD : M c = d) : Ct G LY 57 l 0 m8_clear [vR h] M (RV (fun M' => Fr [c] [] M M' ∧ GR M' ∧ M' c = fun _ => 0)) := by
  refine R_start (by decide +kernel) (Nat.le_of_ble_eq_true rfl) (fun C hC hRm hlau => ?_)
  show RZ G LY C (Zn G LY 57 C (RV (fun M' => Fr [c] [] M M' ∧ GR M' ∧ M' c = fun _ => 0))) 0 0 57 0 [some (vR h), none] [] M
  refine R_iconst hC dX8_clear_0 ⟨by decide, by decide⟩ ?_
  refine R_istore_1 hC dX8_clear_1 rfl ?_
  have L2 : ∀ (mq : Nat) (i : Int) (M1 : Mem), (0 ≤ i) → (i ≤ 123) → (GR M1) → (M1 = clM M c i) → (123 - i).toNat < mq → RZ G LY C (Zn G LY 57 C (RV (fun M' => Fr [c] [] M M' ∧ GR M' ∧ M' c = fun _ => 0))) 0 0 57 2 [some (vR h), some (vI i)] [] M1 := by
    intro mq
    induction mq with
    | zero =>
      intro i M1 hi0 hi1 hg hM hm
      exact absurd hm (Nat.not_lt_zero _)
    | succ mq ih2 =>
      intro i M1 hi0 hi1 hg hM hm2
      refine R_iload_1 hC dX8_clear_2 ?_
      refine R_bipush hC dX8_clear_3 (by decide +kernel) ⟨by decide, by decide⟩ ?_
      refine R_icmp_ge hC dX8_clear_5 (tgt := 21) (by decide) (fun hb5 => ?_) (fun hb5 => ?_)
      · skip
        exact R_return hC dX8_clear_21 rfl (ret_V ⟨by (rw [hM]; exact clM_fr), hg, by (funext k; by_cases q : 0 ≤ k ∧ k < 123; (rw [hM]; exact if_pos ⟨rfl, q.1, by omega⟩); exact hg.2 c hS.mc k (by omega))⟩)
      · skip
        refine R_aload_0 hC dX8_clear_8 ?_
        refine R_getR hC dX8_clear_9 fl_8_9 hS.l hS.k (by decide) (by decide) (fi := 0) rfl (r := c) (hS.r hg) ?_
        refine R_iload_1 hC dX8_clear_12 ?_
        refine R_iconst hC dX8_clear_13 ⟨by decide, by decide⟩ ?_
        refine R_iastore hC dX8_clear_14 hS.m hS.a (by omega) (by omega) ?_
        refine R_iinc_1 hC dX8_clear_15 rfl ⟨by omega, by omega⟩ ?_
        refine R_goto hC dX8_clear_18 (tgt := 2) (by decide) ?_
        have hG1 : GR (uM M1 c i 0) := (GR.uA hg hS.na (.inr ⟨by omega, by omega⟩))
        exact ih2 _ _ (by omega) (by omega) hG1 (by rw [hM]; exact clM_s hi0) (by omega)
  exact L2 _ _ _ (by omega) (by omega) hG clM_0.symm (Nat.lt_succ_self _)
theorem dX8_copyFrom_0 : decode cX8_copyFrom 0 = .ok (.aload_n 1, 1) := by decide +kernel
theorem dX8_copyFrom_1 : decode cX8_copyFrom 1 = .ok (.getfield 9, 3) := by decide +kernel
theorem dX8_copyFrom_4 : decode cX8_copyFrom 4 = .ok (.iconst 0, 1) := by decide +kernel
theorem dX8_copyFrom_5 : decode cX8_copyFrom 5 = .ok (.aload_n 0, 1) := by decide +kernel
theorem dX8_copyFrom_6 : decode cX8_copyFrom 6 = .ok (.getfield 9, 3) := by decide +kernel
theorem dX8_copyFrom_9 : decode cX8_copyFrom 9 = .ok (.iconst 0, 1) := by decide +kernel
theorem dX8_copyFrom_10 : decode cX8_copyFrom 10 = .ok (.bipush 123, 2) := by decide +kernel
theorem dX8_copyFrom_12 : decode cX8_copyFrom 12 = .ok (.invokestatic 15, 3) := by decide +kernel
theorem dX8_copyFrom_15 : decode cX8_copyFrom 15 = .ok (.return_, 1) := by decide +kernel
set_option maxHeartbeats 400000 in
theorem c8_copyFrom {G : Gl} {l : Launch}  {M : Mem} {h c h2 c2 : Nat} {d : Int → Int} (hG : GR M) (hS : SH h c) (hS2 : SH h2 c2) (hD2 : M c2 = d) : Ct G LY 57 l 1 m8_copyFrom [vR h, vR h2] M (RV (fun M' => Fr [c] [] M M' ∧ GR M' ∧ M' c = d)) := by
  refine R_start (by decide +kernel) (Nat.le_of_ble_eq_true rfl) (fun C hC hRm hlau => ?_)
  show RZ G LY C (Zn G LY 57 C (RV (fun M' => Fr [c] [] M M' ∧ GR M' ∧ M' c = d))) 0 0 57 0 [some (vR h), some (vR h2)] [] M
  refine R_aload_1 hC dX8_copyFrom_0 ?_
  refine R_getR hC dX8_copyFrom_1 fl_8_9 hS2.l hS2.k (by decide) (by decide) (fi := 0) rfl (r := c2) (hS2.r hG) ?_
  refine R_iconst hC dX8_copyFrom_4 ⟨by decide, by decide⟩ ?_
  refine R_aload_0 hC dX8_copyFrom_5 ?_
  refine R_getR hC dX8_copyFrom_6 fl_8_9 hS.l hS.k (by decide) (by decide) (fi := 0) rfl (r := c) (hS.r hG) ?_
  refine R_iconst hC dX8_copyFrom_9 ⟨by decide, by decide⟩ ?_
  refine R_bipush hC dX8_copyFrom_10 (by decide +kernel) ⟨by decide, by decide⟩ ?_
  refine R_copyI hC dX8_copyFrom_12 jl_8_15 hS2.m hS2.a hS.m hS.a (by omega) (by omega) (by omega) (by omega) (by omega) hRm (by decide) (Nat.le_of_ble_eq_true rfl) ?_
  have hG1 : GR (cpM M c 0 c2 0 123) := (GR.cp hG hS.na (.inr ⟨by omega, by omega⟩))
  exact R_return hC dX8_copyFrom_15 rfl (ret_V ⟨cpM_fr (by simp), hG1, cp_row hG hS.mc hS2.mc hD2⟩)
theorem dX8_addLibrary_0 : decode cX8_addLibrary 0 = .ok (.aload_n 0, 1) := by decide +kernel
theorem dX8_addLibrary_1 : decode cX8_addLibrary 1 = .ok (.getfield 9, 3) := by decide +kernel
theorem dX8_addLibrary_4 : decode cX8_addLibrary 4 = .ok (.bipush 121, 2) := by decide +kernel
theorem dX8_addLibrary_6 : decode cX8_addLibrary 6 = .ok (.iaload, 1) := by decide +kernel
theorem dX8_addLibrary_7 : decode cX8_addLibrary 7 = .ok (.istore_n 3, 1) := by decide +kernel
theorem dX8_addLibrary_8 : decode cX8_addLibrary 8 = .ok (.iload_n 3, 1) := by decide +kernel
theorem dX8_addLibrary_9 : decode cX8_addLibrary 9 = .ok (.ifCond .lt 37, 3) := by decide +kernel
theorem dX8_addLibrary_12 : decode cX8_addLibrary 12 = .ok (.iload_n 3, 1) := by decide +kernel
theorem dX8_addLibrary_13 : decode cX8_addLibrary 13 = .ok (.iconst 5, 1) := by decide +kernel
theorem dX8_addLibrary_14 : decode cX8_addLibrary 14 = .ok (.if_icmp .ge 32, 3) := by decide +kernel
theorem dX8_addLibrary_17 : decode cX8_addLibrary 17 = .ok (.aload_n 0, 1) := by decide +kernel
theorem dX8_addLibrary_18 : decode cX8_addLibrary 18 = .ok (.getfield 9, 3) := by decide +kernel
theorem dX8_addLibrary_21 : decode cX8_addLibrary 21 = .ok (.iconst 0, 1) := by decide +kernel
theorem dX8_addLibrary_22 : decode cX8_addLibrary 22 = .ok (.iload_n 3, 1) := by decide +kernel
theorem dX8_addLibrary_23 : decode cX8_addLibrary 23 = .ok (.iadd, 1) := by decide +kernel
theorem dX8_addLibrary_24 : decode cX8_addLibrary 24 = .ok (.iload_n 1, 1) := by decide +kernel
theorem dX8_addLibrary_25 : decode cX8_addLibrary 25 = .ok (.iastore, 1) := by decide +kernel
theorem dX8_addLibrary_26 : decode cX8_addLibrary 26 = .ok (.aload_n 0, 1) := by decide +kernel
theorem dX8_addLibrary_27 : decode cX8_addLibrary 27 = .ok (.getfield 9, 3) := by decide +kernel
theorem dX8_addLibrary_30 : decode cX8_addLibrary 30 = .ok (.iconst 5, 1) := by decide +kernel
theorem dX8_addLibrary_31 : decode cX8_addLibrary 31 = .ok (.iload_n 3, 1) := by decide +kernel
theorem dX8_addLibrary_32 : decode cX8_addLibrary 32 = .ok (.iadd, 1) := by decide +kernel
theorem dX8_addLibrary_33 : decode cX8_addLibrary 33 = .ok (.iload_n 2, 1) := by decide +kernel
theorem dX8_addLibrary_34 : decode cX8_addLibrary 34 = .ok (.iastore, 1) := by decide +kernel
theorem dX8_addLibrary_35 : decode cX8_addLibrary 35 = .ok (.aload_n 0, 1) := by decide +kernel
theorem dX8_addLibrary_36 : decode cX8_addLibrary 36 = .ok (.getfield 9, 3) := by decide +kernel
theorem dX8_addLibrary_39 : decode cX8_addLibrary 39 = .ok (.bipush 121, 2) := by decide +kernel
theorem dX8_addLibrary_41 : decode cX8_addLibrary 41 = .ok (.dup2, 1) := by decide +kernel
theorem dX8_addLibrary_42 : decode cX8_addLibrary 42 = .ok (.iaload, 1) := by decide +kernel
theorem dX8_addLibrary_43 : decode cX8_addLibrary 43 = .ok (.iconst 1, 1) := by decide +kernel
theorem dX8_addLibrary_44 : decode cX8_addLibrary 44 = .ok (.iadd, 1) := by decide +kernel
theorem dX8_addLibrary_45 : decode cX8_addLibrary 45 = .ok (.iastore, 1) := by decide +kernel
theorem dX8_addLibrary_46 : decode cX8_addLibrary 46 = .ok (.return_, 1) := by decide +kernel
set_option maxHeartbeats 400000 in
theorem c8_addLibrary {G : Gl} {l : Launch}  {M : Mem} {h c : Nat} {d : Int → Int} {r s : Int} (hG : GR M) (hS : SH h c) (hD : M c = d) (hn0 : 0 ≤ d 121) (hn1 : d 121 < 5) : Ct G LY 57 l 0 m8_addLibrary [vR h, vI r, vI s] M (RV (fun M' => Fr [c] [] M M' ∧ GR M' ∧ M' c = upd1 (upd1 (upd1 d (0 + d 121) r) (5 + d 121) s) 121 (d 121 + 1))) := by
  refine R_start (by decide +kernel) (Nat.le_of_ble_eq_true rfl) (fun C hC hRm hlau => ?_)
  show RZ G LY C (Zn G LY 57 C (RV (fun M' => Fr [c] [] M M' ∧ GR M' ∧ M' c = upd1 (upd1 (upd1 d (0 + d 121) r) (5 + d 121) s) 121 (d 121 + 1)))) 0 0 57 0 [some (vR h), some (vI r), some (vI s), none] [] M
  have e1 : M c 121 = d 121 := congrFun hD _
  refine R_aload_0 hC dX8_addLibrary_0 ?_
  refine R_getR hC dX8_addLibrary_1 fl_8_9 hS.l hS.k (by decide) (by decide) (fi := 0) rfl (r := c) (hS.r hG) ?_
  refine R_bipush hC dX8_addLibrary_4 (by decide +kernel) ⟨by decide, by decide⟩ ?_
  refine R_ialoadE hC dX8_addLibrary_6 hS.m hS.a (by omega) (by omega) (congrFun hD _) ?_
  refine R_istore_3 hC dX8_addLibrary_7 rfl ?_
  refine R_iload_3 hC dX8_addLibrary_8 ?_
  refine R_if_lt hC dX8_addLibrary_9 (tgt := 46) (by decide) (fun hb9 => ?_) (fun hb9 => ?_)
  · skip
    omega
  · skip
    refine R_iload_3 hC dX8_addLibrary_12 ?_
    refine R_iconst hC dX8_addLibrary_13 ⟨by decide, by decide⟩ ?_
    refine R_icmp_ge hC dX8_addLibrary_14 (tgt := 46) (by decide) (fun hb14 => ?_) (fun hb14 => ?_)
    · skip
      omega
    · skip
      refine R_aload_0 hC dX8_addLibrary_17 ?_
      refine R_getR hC dX8_addLibrary_18 fl_8_9 hS.l hS.k (by decide) (by decide) (fi := 0) rfl (r := c) (hS.r hG) ?_
      refine R_iconst hC dX8_addLibrary_21 ⟨by decide, by decide⟩ ?_
      refine R_iload_3 hC dX8_addLibrary_22 ?_
      refine R_iadd hC dX8_addLibrary_23 ⟨by omega, by omega⟩ ?_
      refine R_iload_1 hC dX8_addLibrary_24 ?_
      refine R_iastore hC dX8_addLibrary_25 hS.m hS.a (by omega) (by omega) ?_
      refine R_aload_0 hC dX8_addLibrary_26 ?_
      have hG1 : GR (uM M c (0 + (d 121)) r) := (GR.uA hG hS.na (.inr ⟨by omega, by omega⟩))
      refine R_getR hC dX8_addLibrary_27 fl_8_9 hS.l hS.k (by decide) (by decide) (fi := 0) rfl (r := c) (hS.r hG1) ?_
      refine R_iconst hC dX8_addLibrary_30 ⟨by decide, by decide⟩ ?_
      refine R_iload_3 hC dX8_addLibrary_31 ?_
      refine R_iadd hC dX8_addLibrary_32 ⟨by omega, by omega⟩ ?_
      refine R_iload_2 hC dX8_addLibrary_33 ?_
      refine R_iastore hC dX8_addLibrary_34 hS.m hS.a (by omega) (by omega) ?_
      refine R_aload_0 hC dX8_addLibrary_35 ?_
      have hG2 : GR (uM (uM M c (0 + (d 121)) r) c (5 + (d 121)) s) := (GR.uA hG1 hS.na (.inr ⟨by omega, by omega⟩))
      refine R_getR hC dX8_addLibrary_36 fl_8_9 hS.l hS.k (by decide) (by decide) (fi := 0) rfl (r := c) (hS.r hG2) ?_
      refine R_bipush hC dX8_addLibrary_39 (by decide +kernel) ⟨by decide, by decide⟩ ?_
      refine R_dup2 hC dX8_addLibrary_41 rfl rfl ?_
      have q : uM (uM M c (0 + d 121) r) c (5 + d 121) s c 121 = d 121 := by rw [uM_k (by omega), uM_k (by omega), e1]
      refine R_iaload hC dX8_addLibrary_42 hS.m hS.a (by omega) (by omega) ?_
      refine R_iconst hC dX8_addLibrary_43 ⟨by decide, by decide⟩ ?_
      refine R_iadd hC dX8_addLibrary_44 ⟨by omega, by omega⟩ ?_
      refine R_iastore hC dX8_addLibrary_45 hS.m hS.a (by omega) (by omega) ?_
      have hG3 : GR (uM (uM (uM M c (0 + (d 121)) r) c (5 + (d 121)) s) c 121 (((uM (uM M c (0 + (d 121)) r) c (5 + (d 121)) s) c 121) + 1)) := (GR.uA hG2 hS.na (.inr ⟨by omega, by omega⟩))
      exact R_return hC dX8_addLibrary_46 rfl (ret_V ⟨Fr.uA (Fr.uA (Fr.uA Fr.rf (by simp)) (by simp)) (by simp), hG3, by (rw [q, uM_row, uM_row, uM_row, hD]; rfl)⟩)
theorem dX8_addWork_0 : decode cX8_addWork 0 = .ok (.aload_n 0, 1) := by decide +kernel
theorem dX8_addWork_1 : decode cX8_addWork 1 = .ok (.getfield 9, 3) := by decide +kernel
theorem dX8_addWork_4 : decode cX8_addWork 4 = .ok (.bipush 122, 2) := by decide +kernel
theorem dX8_addWork_6 : decode cX8_addWork 6 = .ok (.iaload, 1) := by decide +kernel
theorem dX8_addWork_7 : decode cX8_addWork 7 = .ok (.istore_n 3, 1) := by decide +kernel
theorem dX8_addWork_8 : decode cX8_addWork 8 = .ok (.iload_n 3, 1) := by decide +kernel
theorem dX8_addWork_9 : decode cX8_addWork 9 = .ok (.ifCond .lt 40, 3) := by decide +kernel
theorem dX8_addWork_12 : decode cX8_addWork 12 = .ok (.iload_n 3, 1) := by decide +kernel
theorem dX8_addWork_13 : decode cX8_addWork 13 = .ok (.bipush 6, 2) := by decide +kernel
theorem dX8_addWork_15 : decode cX8_addWork 15 = .ok (.if_icmp .ge 34, 3) := by decide +kernel
theorem dX8_addWork_18 : decode cX8_addWork 18 = .ok (.aload_n 0, 1) := by decide +kernel
theorem dX8_addWork_19 : decode cX8_addWork 19 = .ok (.getfield 9, 3) := by decide +kernel
theorem dX8_addWork_22 : decode cX8_addWork 22 = .ok (.bipush 10, 2) := by decide +kernel
theorem dX8_addWork_24 : decode cX8_addWork 24 = .ok (.iload_n 3, 1) := by decide +kernel
theorem dX8_addWork_25 : decode cX8_addWork 25 = .ok (.iadd, 1) := by decide +kernel
theorem dX8_addWork_26 : decode cX8_addWork 26 = .ok (.iload_n 1, 1) := by decide +kernel
theorem dX8_addWork_27 : decode cX8_addWork 27 = .ok (.iastore, 1) := by decide +kernel
theorem dX8_addWork_28 : decode cX8_addWork 28 = .ok (.aload_n 0, 1) := by decide +kernel
theorem dX8_addWork_29 : decode cX8_addWork 29 = .ok (.getfield 9, 3) := by decide +kernel
theorem dX8_addWork_32 : decode cX8_addWork 32 = .ok (.bipush 16, 2) := by decide +kernel
theorem dX8_addWork_34 : decode cX8_addWork 34 = .ok (.iload_n 3, 1) := by decide +kernel
theorem dX8_addWork_35 : decode cX8_addWork 35 = .ok (.iadd, 1) := by decide +kernel
theorem dX8_addWork_36 : decode cX8_addWork 36 = .ok (.iload_n 2, 1) := by decide +kernel
theorem dX8_addWork_37 : decode cX8_addWork 37 = .ok (.iastore, 1) := by decide +kernel
theorem dX8_addWork_38 : decode cX8_addWork 38 = .ok (.aload_n 0, 1) := by decide +kernel
theorem dX8_addWork_39 : decode cX8_addWork 39 = .ok (.getfield 9, 3) := by decide +kernel
theorem dX8_addWork_42 : decode cX8_addWork 42 = .ok (.bipush 122, 2) := by decide +kernel
theorem dX8_addWork_44 : decode cX8_addWork 44 = .ok (.dup2, 1) := by decide +kernel
theorem dX8_addWork_45 : decode cX8_addWork 45 = .ok (.iaload, 1) := by decide +kernel
theorem dX8_addWork_46 : decode cX8_addWork 46 = .ok (.iconst 1, 1) := by decide +kernel
theorem dX8_addWork_47 : decode cX8_addWork 47 = .ok (.iadd, 1) := by decide +kernel
theorem dX8_addWork_48 : decode cX8_addWork 48 = .ok (.iastore, 1) := by decide +kernel
theorem dX8_addWork_49 : decode cX8_addWork 49 = .ok (.return_, 1) := by decide +kernel
set_option maxHeartbeats 400000 in
theorem c8_addWork {G : Gl} {l : Launch}  {M : Mem} {h c : Nat} {d : Int → Int} {r s : Int} (hG : GR M) (hS : SH h c) (hD : M c = d) (hn0 : 0 ≤ d 122) (hn1 : d 122 < 6) : Ct G LY 57 l 0 m8_addWork [vR h, vI r, vI s] M (RV (fun M' => Fr [c] [] M M' ∧ GR M' ∧ M' c = upd1 (upd1 (upd1 d (10 + d 122) r) (16 + d 122) s) 122 (d 122 + 1))) := by
  refine R_start (by decide +kernel) (Nat.le_of_ble_eq_true rfl) (fun C hC hRm hlau => ?_)
  show RZ G LY C (Zn G LY 57 C (RV (fun M' => Fr [c] [] M M' ∧ GR M' ∧ M' c = upd1 (upd1 (upd1 d (10 + d 122) r) (16 + d 122) s) 122 (d 122 + 1)))) 0 0 57 0 [some (vR h), some (vI r), some (vI s), none] [] M
  have e1 : M c 122 = d 122 := congrFun hD _
  refine R_aload_0 hC dX8_addWork_0 ?_
  refine R_getR hC dX8_addWork_1 fl_8_9 hS.l hS.k (by decide) (by decide) (fi := 0) rfl (r := c) (hS.r hG) ?_
  refine R_bipush hC dX8_addWork_4 (by decide +kernel) ⟨by decide, by decide⟩ ?_
  refine R_ialoadE hC dX8_addWork_6 hS.m hS.a (by omega) (by omega) (congrFun hD _) ?_
  refine R_istore_3 hC dX8_addWork_7 rfl ?_
  refine R_iload_3 hC dX8_addWork_8 ?_
  refine R_if_lt hC dX8_addWork_9 (tgt := 49) (by decide) (fun hb9 => ?_) (fun hb9 => ?_)
  · skip
    omega
  · skip
    refine R_iload_3 hC dX8_addWork_12 ?_
    refine R_bipush hC dX8_addWork_13 (by decide +kernel) ⟨by decide, by decide⟩ ?_
    refine R_icmp_ge hC dX8_addWork_15 (tgt := 49) (by decide) (fun hb15 => ?_) (fun hb15 => ?_)
    · skip
      omega
    · skip
      refine R_aload_0 hC dX8_addWork_18 ?_
      refine R_getR hC dX8_addWork_19 fl_8_9 hS.l hS.k (by decide) (by decide) (fi := 0) rfl (r := c) (hS.r hG) ?_
      refine R_bipush hC dX8_addWork_22 (by decide +kernel) ⟨by decide, by decide⟩ ?_
      refine R_iload_3 hC dX8_addWork_24 ?_
      refine R_iadd hC dX8_addWork_25 ⟨by omega, by omega⟩ ?_
      refine R_iload_1 hC dX8_addWork_26 ?_
      refine R_iastore hC dX8_addWork_27 hS.m hS.a (by omega) (by omega) ?_
      refine R_aload_0 hC dX8_addWork_28 ?_
      have hG1 : GR (uM M c (10 + (d 122)) r) := (GR.uA hG hS.na (.inr ⟨by omega, by omega⟩))
      refine R_getR hC dX8_addWork_29 fl_8_9 hS.l hS.k (by decide) (by decide) (fi := 0) rfl (r := c) (hS.r hG1) ?_
      refine R_bipush hC dX8_addWork_32 (by decide +kernel) ⟨by decide, by decide⟩ ?_
      refine R_iload_3 hC dX8_addWork_34 ?_
      refine R_iadd hC dX8_addWork_35 ⟨by omega, by omega⟩ ?_
      refine R_iload_2 hC dX8_addWork_36 ?_
      refine R_iastore hC dX8_addWork_37 hS.m hS.a (by omega) (by omega) ?_
      refine R_aload_0 hC dX8_addWork_38 ?_
      have hG2 : GR (uM (uM M c (10 + (d 122)) r) c (16 + (d 122)) s) := (GR.uA hG1 hS.na (.inr ⟨by omega, by omega⟩))
      refine R_getR hC dX8_addWork_39 fl_8_9 hS.l hS.k (by decide) (by decide) (fi := 0) rfl (r := c) (hS.r hG2) ?_
      refine R_bipush hC dX8_addWork_42 (by decide +kernel) ⟨by decide, by decide⟩ ?_
      refine R_dup2 hC dX8_addWork_44 rfl rfl ?_
      have q : uM (uM M c (10 + d 122) r) c (16 + d 122) s c 122 = d 122 := by rw [uM_k (by omega), uM_k (by omega), e1]
      refine R_iaload hC dX8_addWork_45 hS.m hS.a (by omega) (by omega) ?_
      refine R_iconst hC dX8_addWork_46 ⟨by decide, by decide⟩ ?_
      refine R_iadd hC dX8_addWork_47 ⟨by omega, by omega⟩ ?_
      refine R_iastore hC dX8_addWork_48 hS.m hS.a (by omega) (by omega) ?_
      have hG3 : GR (uM (uM (uM M c (10 + (d 122)) r) c (16 + (d 122)) s) c 122 (((uM (uM M c (10 + (d 122)) r) c (16 + (d 122)) s) c 122) + 1)) := (GR.uA hG2 hS.na (.inr ⟨by omega, by omega⟩))
      exact R_return hC dX8_addWork_49 rfl (ret_V ⟨Fr.uA (Fr.uA (Fr.uA Fr.rf (by simp)) (by simp)) (by simp), hG3, by (rw [q, uM_row, uM_row, uM_row, hD]; rfl)⟩)
