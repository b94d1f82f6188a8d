/-! the plan carried out, YEARS by a seed: the model's way -/
theorem sm_app {T : Int → Int} (m : Nat) : ∀ k : Nat, sm (m + k) T = sm m T + sm k (fun w => T (m + w))
  | 0 => (Int.add_zero _).symm
  | k + 1 => by
    show sm (m + k) T + T ((m + k : Nat) : Int) = sm m T + (sm k (fun w => T (m + w)) + T (m + (k : Int)))
    rw [sm_app m k, show ((m + k : Nat) : Int) = (m : Int) + (k : Int) by omega]
    omega
theorem sm_blk {T : Int → Int} : ∀ n : Nat, sm (6 * n) T = sm n (fun x => sm 6 (fun w => T (6 * x + w)))
  | 0 => rfl
  | n + 1 => by
    show sm (6 * n + 6) T = sm n (fun x => sm 6 (fun w => T (6 * x + w))) + sm 6 (fun w => T (6 * (n : Int) + w))
    rw [sm_app, sm_blk n, show ((6 * n : Nat) : Int) = 6 * (n : Int) by omega]
theorem pl_row {I : Ins} {x : Int} {S : PT} (h : PB I x 0 S) (x0 : 0 ≤ x) (x1 : x < iL I) (x5 : x < 5) (hW : iW I ≤ 6) (e : S.2.2.2 = sm 30 S.2.2.1) : ∀ n : Nat, (n : Int) ≤ iW I → (prow S x n).2.2.2 = sm 30 (prow S x n).2.2.1
  | 0, _ => e
  | n + 1, hn => by
    have r := pl_row h x0 x1 x5 hW e n (by omega)
    have z := (PB.rowN h x0 x1 hW n (by omega)).2.2.2.1 (x * 6 + n) (by omega)
    show (prow S x n).2.2.2 + tk (prow S x n).1 x n (prow S x n).2.1 = sm 30 (up (prow S x n).2.2.1 (x * 6 + n) (tk (prow S x n).1 x n (prow S x n).2.1))
    rw [r]
    refine (sm_chg (a := x * 6 + n) 30 (by omega) (by omega) (fun k _ _ ne => up_ne ne) ?_).symm
    rw [up_same, z]
    omega
theorem pl_all {I : Ins} (h : IB I) : ∀ n : Nat, (n : Int) ≤ iL I → (pall (I, SPC I, fun _ => 0, 0) (iW I) n).2.2.2 = sm 30 (pall (I, SPC I, fun _ => 0, 0) (iW I) n).2.2.1
  | 0, _ => (sm_zero (f := fun _ => 0) 30 (fun _ _ _ => rfl)).symm
  | n + 1, hn => by
    have b := h.1
    have bw := h.2.1
    exact pl_row (x := n) (PB.all h n (by omega)) (by omega) (by omega) (by omega) (by omega) (pl_all h n (by omega)) (iW I).toNat (by omega)
theorem pl_sum {I : Ins} (h : IB I) (hp : planI I) : plC I = sm 30 (plT I) := by
  have e := pl_all h (iL I).toNat (by have := h.1; omega)
  have t : plT I = (pln I).2.2.1 := funext fun q => if_pos hp
  rw [t]
  unfold plC
  rw [if_pos hp]
  exact e
theorem plT_out {I : Ins} (h : IB I) {y u : Int} (y0 : 0 ≤ y) (u0 : 0 ≤ u) (u1 : u < 6) (hq : ¬ (y < iL I ∧ u < iW I)) : plT I (6 * y + u) = 0 := by
  have a := plT_bd h y0 u0 u1
  unfold oIf at a
  rw [if_neg hq, show y * 6 + u = 6 * y + u by omega] at a
  omega
theorem pl_two {I : Ins} (h : IB I) : sm (iL I).toNat (fun x => sm (iW I).toNat (fun w => plT I (6 * x + w))) = sm 30 (plT I) := by
  have b := h.1
  have bw := h.2.1
  rw [sm_blk 5, ← sm_ext (f := fun x => sm (iW I).toNat (fun w => plT I (6 * x + w))) (n := (iL I).toNat) 5 (by omega) (fun x x0 x1 => sm_zero _ (fun w w0 w1 => plT_out h (by omega) w0 (by omega) (by omega)))]
  exact sm_congr 5 (fun x x0 x1 => (sm_ext 6 (by omega) (fun w w0 w1 => plT_out h x0 (by omega) (by omega) (by omega))).symm)
def gsR (c : Int → Int) (x w n : Int) : Int → Int := upd1 (upd1 c (28 + (x * 6 + w)) (c (28 + (x * 6 + w)) - n)) 119 (c 119 + n)
def cQ (c P : Int → Int) (n : Int) : Int → Int := upd1 (fun k => if 28 ≤ k ∧ k < 28 + n then c k - P (k - 28) else c k) 119 (c 119 + sm n.toNat P)
theorem cQ_g {c P : Int → Int} {n : Int} : cQ c P n 119 = c 119 + sm n.toNat P := upd1_e
theorem cQ_o {c P : Int → Int} {n k : Int} (h : k ≠ 119) (h2 : ¬ (28 ≤ k ∧ k < 28 + n)) : cQ c P n k = c k := (upd1_o h).trans (if_neg h2)
theorem cQ_i {c P : Int → Int} {n k : Int} (h : k ≠ 119) (h2 : 28 ≤ k ∧ k < 28 + n) : cQ c P n k = c k - P (k - 28) := (upd1_o h).trans (if_pos h2)
theorem cQ_0 {c P : Int → Int} : cQ c P 0 = c := funext fun k => by
  by_cases e : k = 119
  · rw [e, cQ_g]; exact Int.add_zero _
  · exact cQ_o e (by omega)
theorem cQ_s {c P : Int → Int} {x w n j : Int} (h0 : 0 ≤ n) (h1 : n < 30) (hn : n = 6 * x + w) (hj : j = n + 1) : gsR (cQ c P n) x w (P n) = cQ c P j := funext fun k => by
  subst hj
  unfold gsR
  rw [show 28 + (x * 6 + w) = 28 + n by omega]
  by_cases e : k = 119
  · rw [e, upd1_e, cQ_g, cQ_g, sm_to h0 rfl]; omega
  · rw [upd1_o e]
    by_cases q : k = 28 + n
    · rw [q, upd1_e, cQ_o (by omega) (by omega), cQ_i (by omega) (by omega), show 28 + n - 28 = n by omega]
    · rw [upd1_o q]
      by_cases z : 28 ≤ k ∧ k < 28 + n
      · rw [cQ_i e z, cQ_i e (by omega)]
      · rw [cQ_o e z, cQ_o e (by omega)]
theorem cQ_z {c P : Int → Int} {n m : Int} (h0 : 0 ≤ n) (h1 : n ≤ m) (h : ∀ q, n ≤ q → q < m → P q = 0) : cQ c P n = cQ c P m := funext fun k => by
  by_cases e : k = 119
  · rw [e, cQ_g, cQ_g, sm_ext (n := n.toNat) m.toNat (by omega) (fun q q0 q1 => h q (by omega) (by omega))]
  · by_cases z : 28 ≤ k ∧ k < 28 + n
    · rw [cQ_i e z, cQ_i e (by omega)]
    · by_cases y : 28 ≤ k ∧ k < 28 + m
      · rw [cQ_o e z, cQ_i e y, h (k - 28) (by omega) (by omega), Int.sub_zero]
      · rw [cQ_o e z, cQ_o e y]
theorem cQ_row {c : Int → Int} {I : Ins} (h : IB I) {x : Int} (x0 : 0 ≤ x) : cQ c (plT I) (6 * x + iW I) = cQ c (plT I) (6 * (x + 1)) := by
  have bw := h.2.1
  refine cQ_z (by omega) (by omega) (fun q q0 q1 => ?_)
  have := plT_out h (y := x) (u := q - 6 * x) x0 (by omega) (by omega) (by omega)
  rw [show 6 * x + (q - 6 * x) = q by omega] at this
  exact this
theorem cQ_end {c : Int → Int} (h : IB (insOf c)) (hp : planI (insOf c)) : cQ c (plT (insOf c)) (6 * c 121) = coR c := by
  have b : 0 ≤ c 121 ∧ c 121 ≤ 5 := h.1
  rw [cQ_z (m := 30) (by omega) (by omega) (fun q q0 q1 => by
    have := plT_out h (y := q / 6) (u := q % 6) (by omega) (by omega) (by omega) (by show ¬ (q / 6 < c 121 ∧ _); omega)
    rw [show 6 * (q / 6) + q % 6 = q by omega] at this
    exact this)]
  unfold coR
  rw [if_pos hp, pl_sum h hp]
  funext k
  by_cases e : k = 119
  · rw [e, cQ_g, upd1_e]; rfl
  · rw [upd1_o e]
    unfold coP
    by_cases z : 28 ≤ k ∧ k < 58
    · rw [if_pos z, cQ_i e (by omega)]
    · rw [if_neg z, cQ_o e (by omega)]
noncomputable def dO (c : Int → Int) (s k : Int) : (Int → Int) × Int := @ite _ (0 < c 121 ∧ 0 < c 122) (Classical.propDecidable _) (mcF c s k) (c, s)
theorem dO_t {c : Int → Int} {s k : Int} (h : 0 < c 121 ∧ 0 < c 122) : dO c s k = mcF c s k := if_pos h
theorem dO_f {c : Int → Int} {s k : Int} (h : ¬ (0 < c 121 ∧ 0 < c 122)) : dO c s k = (c, s) := if_neg h
theorem go_R {c : Int → Int} {x w : Int} : gsR c x w 1 = upd1 (upd1 c (28 + (x * 6 + w)) (c (28 + (x * 6 + w)) - 1)) 119 (c 119 + 1) := rfl
theorem whyN_0 {c : Int → Int} (h : SM c) {x w : Int} (x0 : 0 ≤ x) (x1 : x < 5) (w0 : 0 ≤ w) (w1 : w < 6) : whyN c x w = 0 ↔ mayGo c x w := by
  have a := h.off x0 x1 w0 w1
  have b := h.sr w0 w1
  unfold whyN mayGo
  by_cases p : c (28 + x * 6 + w) = 0
  · rw [if_pos p]; constructor <;> intro z <;> omega
  · rw [if_neg p]
    by_cases q : offr c x w = 0
    · rw [if_pos q]; constructor <;> intro z <;> omega
    · rw [if_neg q]
      by_cases r : spr c w = 0
      · rw [if_pos r]; constructor <;> intro z <;> omega
      · rw [if_neg r]; constructor <;> intro z <;> omega
theorem dr_eq (t : Int) : t / 2 ^ Int.toNat 16 % 2 ^ 15 = (t % 4294967296 / 2 ^ Int.toNat 16).bmod 4294967296 % 2 ^ 15 := by
  have e : (2 : Int) ^ Int.toNat 16 = 65536 := rfl
  have e2 : (2 : Int) ^ 15 = 32768 := rfl
  rw [e, e2]
  unfold Int.bmod
  dsimp only
  split <;> omega

theorem dX12_goes_0 : decode cX12_goes 0 = .ok (.aload_n 0, 1) := by decide +kernel
theorem dX12_goes_1 : decode cX12_goes 1 = .ok (.getfield 9, 3) := by decide +kernel
theorem dX12_goes_4 : decode cX12_goes 4 = .ok (.iload_n 1, 1) := by decide +kernel
theorem dX12_goes_5 : decode cX12_goes 5 = .ok (.bipush 10, 2) := by decide +kernel
theorem dX12_goes_7 : decode cX12_goes 7 = .ok (.iadd, 1) := by decide +kernel
theorem dX12_goes_8 : decode cX12_goes 8 = .ok (.iload_n 2, 1) := by decide +kernel
theorem dX12_goes_9 : decode cX12_goes 9 = .ok (.iload_n 3, 1) := by decide +kernel
theorem dX12_goes_10 : decode cX12_goes 10 = .ok (.invokestatic 87, 3) := by decide +kernel
theorem dX12_goes_13 : decode cX12_goes 13 = .ok (.iadd, 1) := by decide +kernel
theorem dX12_goes_14 : decode cX12_goes 14 = .ok (.dup2, 1) := by decide +kernel
theorem dX12_goes_15 : decode cX12_goes 15 = .ok (.iaload, 1) := by decide +kernel
theorem dX12_goes_16 : decode cX12_goes 16 = .ok (.iload 4, 2) := by decide +kernel
theorem dX12_goes_18 : decode cX12_goes 18 = .ok (.isub, 1) := by decide +kernel
theorem dX12_goes_19 : decode cX12_goes 19 = .ok (.iastore, 1) := by decide +kernel
theorem dX12_goes_20 : decode cX12_goes 20 = .ok (.aload_n 0, 1) := by decide +kernel
theorem dX12_goes_21 : decode cX12_goes 21 = .ok (.getfield 9, 3) := by decide +kernel
theorem dX12_goes_24 : decode cX12_goes 24 = .ok (.iload_n 1, 1) := by decide +kernel
theorem dX12_goes_25 : decode cX12_goes 25 = .ok (.bipush 107, 2) := by decide +kernel
theorem dX12_goes_27 : decode cX12_goes 27 = .ok (.iadd, 1) := by decide +kernel
theorem dX12_goes_28 : decode cX12_goes 28 = .ok (.dup2, 1) := by decide +kernel
theorem dX12_goes_29 : decode cX12_goes 29 = .ok (.iaload, 1) := by decide +kernel
theorem dX12_goes_30 : decode cX12_goes 30 = .ok (.iload 4, 2) := by decide +kernel
theorem dX12_goes_32 : decode cX12_goes 32 = .ok (.iadd, 1) := by decide +kernel
theorem dX12_goes_33 : decode cX12_goes 33 = .ok (.iastore, 1) := by decide +kernel
theorem dX12_goes_34 : decode cX12_goes 34 = .ok (.return_, 1) := by decide +kernel
set_option maxHeartbeats 400000 in
theorem c12_goes {G : Gl} {l : Launch}  {M : Mem} {b x w n : Int} {c : Int → Int} (hG : GR M) (hK : RW M b c) (hb0 : 0 ≤ b) (hb1 : b ≤ 9686) (hx0 : 0 ≤ x) (hx1 : x < 5) (hw0 : 0 ≤ w) (hw1 : w < 6) (hn0 : 0 ≤ n) (hn1 : n ≤ 3) (hv0 : 0 ≤ c (28 + (x * 6 + w))) (hv1 : c (28 + (x * 6 + w)) ≤ 3) (hg0 : 0 ≤ c 119) (hg1 : c 119 ≤ 100000) : Ct G LY 82 l 1 m12_goes [vR 57, vI b, vI x, vI w, vI n] M (RV (fun M' => Fr [58] [] M M' ∧ (∀ j : Int, (j < b ∨ b + 114 ≤ j) → M' 58 j = M 58 j) ∧ RW M' b (gsR c x w n))) := by
  refine R_start (by decide +kernel) (Nat.le_of_ble_eq_true rfl) (fun C hC hRm hlau => ?_)
  show RZ G LY C (Zn G LY 82 C (RV (fun M' => Fr [58] [] M M' ∧ (∀ j : Int, (j < b ∨ b + 114 ≤ j) → M' 58 j = M 58 j) ∧ RW M' b (gsR c x w n)))) 0 0 82 0 [some (vR 57), some (vI b), some (vI x), some (vI w), some (vI n)] [] M
  refine R_aload_0 hC dX12_goes_0 ?_
  refine R_getR hC dX12_goes_1 fl_12_9 (by decide) rfl (by decide) (by decide) (fi := 0) rfl (r := 58) (gr_57_0 hG) ?_
  refine R_iload_1 hC dX12_goes_4 ?_
  refine R_bipush hC dX12_goes_5 (by decide +kernel) ⟨by decide, by decide⟩ ?_
  refine R_iadd hC dX12_goes_7 ⟨by omega, by omega⟩ ?_
  refine R_iload_2 hC dX12_goes_8 ?_
  refine R_iload_3 hC dX12_goes_9 ?_
  refine R_callSq (as := [vI _, vI _]) hC dX12_goes_10 mo_12_cell ml_12_87 (c12_cell  (by omega) (by omega) (by omega) (by omega)) rfl rfl hRm (by decide) (by decide) (Nat.le_of_ble_eq_true rfl) ?_
  refine R_iadd hC dX12_goes_13 ⟨by omega, by omega⟩ ?_
  refine R_dup2 hC dX12_goes_14 rfl rfl ?_
  refine R_ialoadE hC dX12_goes_15 (by decide) rfl (by omega) (by omega) (hK.r4 (k := 28 + (x * 6 + w)) (by omega) (by omega) (by omega)) ?_
  refine R_iload_4 hC dX12_goes_16 ?_
  refine R_isub hC dX12_goes_18 ⟨by omega, by omega⟩ ?_
  refine R_iastore hC dX12_goes_19 (by decide) rfl (by omega) (by omega) ?_
  refine R_aload_0 hC dX12_goes_20 ?_
  have hG1 : GR (uM M 58 ((b + 10) + (6 * x + w)) (c (28 + (x * 6 + w)) - n)) := (GR.uA hG (by decide +kernel) (.inl (by decide)))
  refine R_getR hC dX12_goes_21 fl_12_9 (by decide) rfl (by decide) (by decide) (fi := 0) rfl (r := 58) (gr_57_0 hG1) ?_
  refine R_iload_1 hC dX12_goes_24 ?_
  refine R_bipush hC dX12_goes_25 (by decide +kernel) ⟨by decide, by decide⟩ ?_
  refine R_iadd hC dX12_goes_27 ⟨by omega, by omega⟩ ?_
  refine R_dup2 hC dX12_goes_28 rfl rfl ?_
  have hk2 : RW (uM M 58 ((b + 10) + (6 * x + w)) (c (28 + (x * 6 + w)) - n)) b (upd1 c (28 + (x * 6 + w)) (c (28 + (x * 6 + w)) - n)) := (hK.w4 (k := 28 + (x * 6 + w)) (by omega) (by omega) (by omega))
  refine R_ialoadE hC dX12_goes_29 (by decide) rfl (by omega) (by omega) ((hk2.r5 (k := 119) (by omega) (by omega) (by omega)).trans (upd1_o (by omega))) ?_
  refine R_iload_4 hC dX12_goes_30 ?_
  refine R_iadd hC dX12_goes_32 ⟨by omega, by omega⟩ ?_
  refine R_iastore hC dX12_goes_33 (by decide) rfl (by omega) (by omega) ?_
  have hk3 : RW (uM (uM M 58 ((b + 10) + (6 * x + w)) (c (28 + (x * 6 + w)) - n)) 58 (b + 107) (c 119 + n)) b (upd1 (upd1 c (28 + (x * 6 + w)) (c (28 + (x * 6 + w)) - n)) 119 (c 119 + n)) := (hk2.w5 (k := 119) (by omega) (by omega) (by omega))
  exact R_return hC dX12_goes_34 rfl (ret_V ⟨Fr.uA (Fr.uA Fr.rf (by decide)) (by decide), fun j hj => (uM_k (by omega)).trans (uM_k (by omega)), hk3⟩)
theorem dX12_carries_0 : decode cX12_carries 0 = .ok (.aload_n 0, 1) := by decide +kernel
theorem dX12_carries_1 : decode cX12_carries 1 = .ok (.iload_n 1, 1) := by decide +kernel
theorem dX12_carries_2 : decode cX12_carries 2 = .ok (.invokevirtual 190, 3) := by decide +kernel
theorem dX12_carries_5 : decode cX12_carries 5 = .ok (.ifCond .ne 5, 3) := by decide +kernel
theorem dX12_carries_8 : decode cX12_carries 8 = .ok (.iconst (-1), 1) := by decide +kernel
theorem dX12_carries_9 : decode cX12_carries 9 = .ok (.ireturn, 1) := by decide +kernel
theorem dX12_carries_10 : decode cX12_carries 10 = .ok (.iconst 0, 1) := by decide +kernel
theorem dX12_carries_11 : decode cX12_carries 11 = .ok (.istore_n 2, 1) := by decide +kernel
theorem dX12_carries_12 : decode cX12_carries 12 = .ok (.iload_n 2, 1) := by decide +kernel
theorem dX12_carries_13 : decode cX12_carries 13 = .ok (.aload_n 0, 1) := by decide +kernel
theorem dX12_carries_14 : decode cX12_carries 14 = .ok (.getfield 105, 3) := by decide +kernel
theorem dX12_carries_17 : decode cX12_carries 17 = .ok (.if_icmp .ge 42, 3) := by decide +kernel
theorem dX12_carries_20 : decode cX12_carries 20 = .ok (.iconst 0, 1) := by decide +kernel
theorem dX12_carries_21 : decode cX12_carries 21 = .ok (.istore_n 3, 1) := by decide +kernel
theorem dX12_carries_22 : decode cX12_carries 22 = .ok (.iload_n 3, 1) := by decide +kernel
theorem dX12_carries_23 : decode cX12_carries 23 = .ok (.aload_n 0, 1) := by decide +kernel
theorem dX12_carries_24 : decode cX12_carries 24 = .ok (.getfield 102, 3) := by decide +kernel
theorem dX12_carries_27 : decode cX12_carries 27 = .ok (.if_icmp .ge 26, 3) := by decide +kernel
theorem dX12_carries_30 : decode cX12_carries 30 = .ok (.aload_n 0, 1) := by decide +kernel
theorem dX12_carries_31 : decode cX12_carries 31 = .ok (.iload_n 1, 1) := by decide +kernel
theorem dX12_carries_32 : decode cX12_carries 32 = .ok (.iload_n 2, 1) := by decide +kernel
theorem dX12_carries_33 : decode cX12_carries 33 = .ok (.iload_n 3, 1) := by decide +kernel
theorem dX12_carries_34 : decode cX12_carries 34 = .ok (.aload_n 0, 1) := by decide +kernel
theorem dX12_carries_35 : decode cX12_carries 35 = .ok (.getfield 56, 3) := by decide +kernel
theorem dX12_carries_38 : decode cX12_carries 38 = .ok (.iload_n 2, 1) := by decide +kernel
theorem dX12_carries_39 : decode cX12_carries 39 = .ok (.iload_n 3, 1) := by decide +kernel
theorem dX12_carries_40 : decode cX12_carries 40 = .ok (.invokestatic 87, 3) := by decide +kernel
theorem dX12_carries_43 : decode cX12_carries 43 = .ok (.iaload, 1) := by decide +kernel
theorem dX12_carries_44 : decode cX12_carries 44 = .ok (.invokevirtual 424, 3) := by decide +kernel
theorem dX12_carries_47 : decode cX12_carries 47 = .ok (.iinc 3 1, 3) := by decide +kernel
theorem dX12_carries_50 : decode cX12_carries 50 = .ok (.goto (-28), 3) := by decide +kernel
theorem dX12_carries_53 : decode cX12_carries 53 = .ok (.iinc 2 1, 3) := by decide +kernel
theorem dX12_carries_56 : decode cX12_carries 56 = .ok (.goto (-44), 3) := by decide +kernel
theorem dX12_carries_59 : decode cX12_carries 59 = .ok (.aload_n 0, 1) := by decide +kernel
theorem dX12_carries_60 : decode cX12_carries 60 = .ok (.invokevirtual 341, 3) := by decide +kernel
theorem dX12_carries_63 : decode cX12_carries 63 = .ok (.ireturn, 1) := by decide +kernel
set_option maxHeartbeats 2000000 in
theorem c12_carries {G : Gl} {l : Launch}  {M : Mem} {b : Int} {c : Int → Int} (hG : GR M) (hK : RW M b c) (hb0 : 0 ≤ b) (hb1 : b ≤ 9686) (hS : SP c) (hb9 : c 119 ≤ 89900) : Ct G LY 82 l 8 m12_carries [vR 57, vI b] M (RP (fun v M' => Fr [58, 63, 64, 65, 66, 67, 68, 69, 70, 71, 72] [(57, 22), (57, 23), (57, 30)] M M' ∧ (∀ j : Int, (j < b ∨ b + 114 ≤ j) → M' 58 j = M 58 j) ∧ RW M' b (coR c) ∧ v = itc (planI (insOf c)) (plC (insOf c)) (-1))) := by
  refine R_start (by decide +kernel) (Nat.le_of_ble_eq_true rfl) (fun C hC hRm hlau => ?_)
  show RZ G LY C (Zn G LY 82 C (RP (fun v M' => Fr [58, 63, 64, 65, 66, 67, 68, 69, 70, 71, 72] [(57, 22), (57, 23), (57, 30)] M M' ∧ (∀ j : Int, (j < b ∨ b + 114 ≤ j) → M' 58 j = M 58 j) ∧ RW M' b (coR c) ∧ v = itc (planI (insOf c)) (plC (insOf c)) (-1)))) 0 0 82 0 [some (vR 57), some (vI b), none, none] [] M
  have hM := hS.m
  have hI := hM.I
  have hL := hM.1.1
  have hW := hM.1.2
  have b119 := hS.2.2.2.2.1.2.1.1
  refine R_aload_0 hC dX12_carries_0 ?_
  refine R_iload_1 hC dX12_carries_1 ?_
  refine R_callVp (as := [vI _]) hC dX12_carries_2 mo_12_plans ml_12_190 (by decide) rfl rfl (c12_plans  hG hK (by omega) (by omega) hM) rfl rfl hRm (by decide) (by decide) (Nat.le_of_ble_eq_true rfl) (fun v3 Mc1 hq2 => ?_)
  have hF0 : Fr [58, 63, 64, 65, 66, 67, 68, 69, 70, 71, 72] [(57, 22), (57, 23), (57, 30)] M Mc1 := hq2.1.mo (by simp) (by simp)
  have hvp := hq2.2.1
  have hO0 : ∀ j : Int, (j < b ∨ b + 114 ≤ j) → Mc1 58 j = M 58 j := fun j _ => congrFun (hq2.1.row (by decide) (by decide)) j
  refine R_if_ne hC dX12_carries_5 (tgt := 10) (by decide) (fun hb5 => ?_) (fun hb5 => ?_)
  · skip
    have hpl := bP_nz (fun z => hb5 (hvp.trans z))
    refine R_iconst hC dX12_carries_10 ⟨by decide, by decide⟩ ?_
    refine R_istore_2 hC dX12_carries_11 rfl ?_
    have L12 : ∀ (mq : Nat) (x : Int) (M1 : Mem), (0 ≤ x) → (x ≤ c 121) → (GR M1) → (RW M1 b (cQ c (plT (insOf c)) (6 * x))) → (Fr [58, 63, 64, 65, 66, 67, 68, 69, 70, 71, 72] [(57, 22), (57, 23), (57, 30)] M M1) → (∀ j : Int, (j < b ∨ b + 114 ≤ j) → M1 58 j = M 58 j) → (∀ q, 0 ≤ q → q < 30 → M1 72 q = plT (insOf c) q) → (c 121 - x).toNat < mq → RZ G LY C (Zn G LY 82 C (RP (fun v M' => Fr [58, 63, 64, 65, 66, 67, 68, 69, 70, 71, 72] [(57, 22), (57, 23), (57, 30)] M M' ∧ (∀ j : Int, (j < b ∨ b + 114 ≤ j) → M' 58 j = M 58 j) ∧ RW M' b (coR c) ∧ v = itc (planI (insOf c)) (plC (insOf c)) (-1)))) 0 0 82 12 [some (vR 57), some (vI b), some (vI x), none] [] M1 := by
      intro mq
      induction mq with
      | zero =>
        intro x M1 hx0 hx1 hg hk1 hF hO h72 hm
        exact absurd hm (Nat.not_lt_zero _)
      | succ mq ih12 =>
        intro x M1 hx0 hx1 hg hk1 hF hO h72 hm12
        refine R_iload_2 hC dX12_carries_12 ?_
        refine R_aload_0 hC dX12_carries_13 ?_
        refine R_getIE hC dX12_carries_14 fl_12_105 (by decide) rfl (by decide) (by decide) (fi := 5) rfl ((hk1.l).trans (cQ_o (by omega) (by omega))) ?_
        refine R_icmp_ge hC dX12_carries_17 (tgt := 59) (by decide) (fun hb17 => ?_) (fun hb17 => ?_)
        · skip
          have hq : cQ c (plT (insOf c)) (6 * x) = coR c := by (rw [show x = c 121 by omega]; exact cQ_end hI hpl)
          have hMq : SM (cQ c (plT (insOf c)) (6 * x)) := by (rw [hq]; exact (hS.coRr hb9).1.m)
          refine R_aload_0 hC dX12_carries_59 ?_
          refine R_callVq (as := []) hC dX12_carries_60 mo_12_planned ml_12_341 (by decide) rfl rfl (c12_planned (P := (plT (insOf c))) hg hk1 hMq h72 (fun q q0 => plT_3 hI q0)) rfl rfl hRm (by decide) (by decide) (Nat.le_of_ble_eq_true rfl) ?_
          exact R_ireturn hC dX12_carries_63 rfl (ret_P ⟨hF, hO, by (rw [← hq]; exact hk1), by (rw [itc_t hpl, pl_sum hI hpl, ← pl_two hI, cQ_o (by omega) (by omega), cQ_o (by omega) (by omega)]; rfl)⟩)
        · skip
          refine R_iconst hC dX12_carries_20 ⟨by decide, by decide⟩ ?_
          refine R_istore_3 hC dX12_carries_21 rfl ?_
          have L22 : ∀ (mq : Nat) (w : Int) (M2 : Mem), (0 ≤ w) → (w ≤ c 122) → (GR M2) → (RW M2 b (cQ c (plT (insOf c)) (6 * x + w))) → (Fr [58, 63, 64, 65, 66, 67, 68, 69, 70, 71, 72] [(57, 22), (57, 23), (57, 30)] M M2) → (∀ j : Int, (j < b ∨ b + 114 ≤ j) → M2 58 j = M 58 j) → (∀ q, 0 ≤ q → q < 30 → M2 72 q = plT (insOf c) q) → (c 122 - w).toNat < mq → RZ G LY C (Zn G LY 82 C (RP (fun v M' => Fr [58, 63, 64, 65, 66, 67, 68, 69, 70, 71, 72] [(57, 22), (57, 23), (57, 30)] M M' ∧ (∀ j : Int, (j < b ∨ b + 114 ≤ j) → M' 58 j = M 58 j) ∧ RW M' b (coR c) ∧ v = itc (planI (insOf c)) (plC (insOf c)) (-1)))) 0 0 82 22 [some (vR 57), some (vI b), some (vI x), some (vI w)] [] M2 := by
            intro mq
            induction mq with
            | zero =>
              intro w M2 hw0 hw1 hg2 hk2 hF2 hO2 h722 hm
              exact absurd hm (Nat.not_lt_zero _)
            | succ mq ih22 =>
              intro w M2 hw0 hw1 hg2 hk2 hF2 hO2 h722 hm22
              refine R_iload_3 hC dX12_carries_22 ?_
              refine R_aload_0 hC dX12_carries_23 ?_
              refine R_getIE hC dX12_carries_24 fl_12_102 (by decide) rfl (by decide) (by decide) (fi := 6) rfl ((hk2.w).trans (cQ_o (by omega) (by omega))) ?_
              refine R_icmp_ge hC dX12_carries_27 (tgt := 53) (by decide) (fun hb27 => ?_) (fun hb27 => ?_)
              · skip
                refine R_iinc_2 hC dX12_carries_53 rfl ⟨by omega, by omega⟩ ?_
                refine R_goto hC dX12_carries_56 (tgt := 12) (by decide) ?_
                refine R_weak (subL_c (subL_c (subL_c (subL_d subL_n)))) ?_
                exact ih12 _ _ (by omega) (by omega) hg2 (by (rw [← cQ_row hI hx0]; rw [show w = c 122 by omega] at hk2; exact hk2)) hF2 hO2 h722 (by omega)
              · skip
                refine R_aload_0 hC dX12_carries_30 ?_
                refine R_iload_1 hC dX12_carries_31 ?_
                refine R_iload_2 hC dX12_carries_32 ?_
                refine R_iload_3 hC dX12_carries_33 ?_
                refine R_aload_0 hC dX12_carries_34 ?_
                refine R_getR hC dX12_carries_35 fl_12_56 (by decide) rfl (by decide) (by decide) (fi := 29) rfl (r := 72) (gr_57_29 hg2) ?_
                refine R_iload_2 hC dX12_carries_38 ?_
                refine R_iload_3 hC dX12_carries_39 ?_
                refine R_callSq (as := [vI _, vI _]) hC dX12_carries_40 mo_12_cell ml_12_87 (c12_cell  (by omega) (by omega) (by omega) (by omega)) rfl rfl hRm (by decide) (by decide) (Nat.le_of_ble_eq_true rfl) ?_
                refine R_ialoadE hC dX12_carries_43 (by decide) rfl (by omega) (by omega) (h722 _ (by omega) (by omega)) ?_
                have bp := plT_3 hI (show 0 ≤ 6 * x + w by omega)
                have e1 : cQ c (plT (insOf c)) (6 * x + w) (28 + (x * 6 + w)) = c (28 + (x * 6 + w)) := cQ_o (by omega) (by omega)
                have e2 : cQ c (plT (insOf c)) (6 * x + w) 119 = _ := cQ_g
                have bs := sm_bd2 (f := plT (insOf c)) (q := 30) 3 (show 0 ≤ 6 * x + w by omega) (fun q a e => plT_3 hI a) (by decide) (by omega)
                have bc := (hS.2.2.2.1 (x * 6 + w) (by omega) (by omega)).1
                refine R_callVv (as := [vI _, vI _, vI _, vI _]) hC dX12_carries_44 mo_12_goes ml_12_424 (by decide) rfl rfl (c12_goes  hg2 hk2 (by omega) (by omega) (by omega) (by omega) (by omega) (by omega) (by omega) (by omega) (by omega) (by omega) (by omega) (by omega)) rfl rfl hRm (by decide) (by decide) (Nat.le_of_ble_eq_true rfl) (fun Mc4 hq5 => ?_)
                have hF4 : Fr [58, 63, 64, 65, 66, 67, 68, 69, 70, 71, 72] [(57, 22), (57, 23), (57, 30)] M Mc4 := Fr.tt hF2 (hq5.1.mo (by simp) (by simp))
                have hO4 : ∀ j : Int, (j < b ∨ b + 114 ≤ j) → Mc4 58 j = M 58 j := fun j q => (hq5.2.1 j q).trans (hO2 j q)
                have h74 : ∀ q, 0 ≤ q → q < 30 → Mc4 72 q = plT (insOf c) q := fun q a e => (hq5.1 72 q (by decide) (by simp)).trans (h722 q a e)
                refine R_iinc_3 hC dX12_carries_47 rfl ⟨by omega, by omega⟩ ?_
                refine R_goto hC dX12_carries_50 (tgt := 22) (by decide) ?_
                have hG6 : GR Mc4 := (GR.fr hg2 hq5.1 (by decide +kernel))
                have hk7 : RW Mc4 b (gsR (cQ c (plT (insOf c)) (6 * x + w)) x w (plT (insOf c) (6 * x + w))) := (hq5.2.2)
                exact ih22 _ _ (by omega) (by omega) hG6 (by (have z := hk7; rw [cQ_s (j := 6 * x + (w + 1)) (by omega) (by omega) rfl (by omega)] at z; exact z)) hF4 hO4 h74 (by omega)
          exact L22 _ _ _ (by omega) (by omega) hg (by (rw [Int.add_zero]; exact hk1)) hF hO h72 (Nat.lt_succ_self _)
    have hG8 : GR Mc1 := (GR.fr hG hq2.1 (by decide +kernel))
    have hk9 : RW Mc1 b c := (RW.fr hK hq2.1 (by decide +kernel))
    exact L12 _ _ _ (by omega) (by omega) hG8 (by (rw [show (6 : Int) * 0 = 0 by omega, cQ_0]; exact hk9)) hF0 hO0 hq2.2.2 (Nat.lt_succ_self _)
  · skip
    have hnp := bP_z (hvp.symm.trans hb5)
    refine R_iconst hC dX12_carries_8 ⟨by decide, by decide⟩ ?_
    have hk10 : RW Mc1 b c := (RW.fr hK hq2.1 (by decide +kernel))
    exact R_ireturn hC dX12_carries_9 rfl (ret_P ⟨hF0, hO0, by (unfold coR; rw [if_neg hnp]; exact hk10), by (rw [itc_f hnp])⟩)
theorem dX12_draw_0 : decode cX12_draw 0 = .ok (.aload_n 0, 1) := by decide +kernel
theorem dX12_draw_1 : decode cX12_draw 1 = .ok (.aload_n 0, 1) := by decide +kernel
theorem dX12_draw_2 : decode cX12_draw 2 = .ok (.getfield 445, 3) := by decide +kernel
theorem dX12_draw_5 : decode cX12_draw 5 = .ok (.ldc_w 448, 3) := by decide +kernel
theorem dX12_draw_8 : decode cX12_draw 8 = .ok (.imul, 1) := by decide +kernel
theorem dX12_draw_9 : decode cX12_draw 9 = .ok (.sipush 12345, 3) := by decide +kernel
theorem dX12_draw_12 : decode cX12_draw 12 = .ok (.iadd, 1) := by decide +kernel
theorem dX12_draw_13 : decode cX12_draw 13 = .ok (.putfield 445, 3) := by decide +kernel
theorem dX12_draw_16 : decode cX12_draw 16 = .ok (.aload_n 0, 1) := by decide +kernel
theorem dX12_draw_17 : decode cX12_draw 17 = .ok (.getfield 445, 3) := by decide +kernel
theorem dX12_draw_20 : decode cX12_draw 20 = .ok (.bipush 16, 2) := by decide +kernel
theorem dX12_draw_22 : decode cX12_draw 22 = .ok (.ishr, 1) := by decide +kernel
theorem dX12_draw_23 : decode cX12_draw 23 = .ok (.sipush 32767, 3) := by decide +kernel
theorem dX12_draw_26 : decode cX12_draw 26 = .ok (.iand, 1) := by decide +kernel
theorem dX12_draw_27 : decode cX12_draw 27 = .ok (.iload_n 1, 1) := by decide +kernel
theorem dX12_draw_28 : decode cX12_draw 28 = .ok (.irem, 1) := by decide +kernel
theorem dX12_draw_29 : decode cX12_draw 29 = .ok (.ireturn, 1) := by decide +kernel
set_option maxHeartbeats 400000 in
theorem c12_draw {G : Gl} {l : Launch}  {M : Mem} {n : Int} (hG : GR M) (hn : 0 < n) : Ct G LY 82 l 0 m12_draw [vR 57, vI n] M (RP (fun v M' => Fr [] [(57, 53)] M M' ∧ v = drV (M 57 53) n ∧ M' 57 53 = nxS (M 57 53))) := by
  refine R_start (by decide +kernel) (Nat.le_of_ble_eq_true rfl) (fun C hC hRm hlau => ?_)
  show RZ G LY C (Zn G LY 82 C (RP (fun v M' => Fr [] [(57, 53)] M M' ∧ v = drV (M 57 53) n ∧ M' 57 53 = nxS (M 57 53)))) 0 0 82 0 [some (vR 57), some (vI n)] [] M
  refine R_aload_0 hC dX12_draw_0 ?_
  refine R_aload_0 hC dX12_draw_1 ?_
  refine R_getI hC dX12_draw_2 fl_12_445 (by decide) rfl (by decide) (by decide) (fi := 53) rfl ?_
  refine R_ldc_w hC dX12_draw_5 ck_12_448 (c := 1103515245) (by decide +kernel) ⟨by decide, by decide⟩ ?_
  refine R_imulw hC dX12_draw_8 ?_
  refine R_sipush hC dX12_draw_9 (by decide +kernel) ⟨by decide, by decide⟩ ?_
  refine R_iaddw hC dX12_draw_12 ?_
  refine R_putI hC dX12_draw_13 fl_12_445 (by decide) rfl (by decide) (by decide) (fi := 53) rfl ?_
  refine R_aload_0 hC dX12_draw_16 ?_
  refine R_getIE hC dX12_draw_17 fl_12_445 (by decide) rfl (by decide) (by decide) (fi := 53) rfl uM_same ?_
  refine R_bipush hC dX12_draw_20 (by decide +kernel) ⟨by decide, by decide⟩ ?_
  refine R_ishr hC dX12_draw_22 (by omega) (by omega) ?_
  refine R_sipush hC dX12_draw_23 (by decide +kernel) ⟨by decide, by decide⟩ ?_
  refine R_iandm hC dX12_draw_26 (m := 15) (by decide) (by decide) ?_
  refine R_iload_1 hC dX12_draw_27 ?_
  refine R_irem hC dX12_draw_28 (by omega) (by omega) ?_
  exact R_ireturn hC dX12_draw_29 rfl (ret_P ⟨Fr.uB Fr.rf (by decide), by (unfold drV; rw [if_pos hn, ← dr_eq]; rfl), uM_same⟩)
theorem dX12_drawnOnes_0 : decode cX12_drawnOnes 0 = .ok (.aload_n 0, 1) := by decide +kernel
theorem dX12_drawnOnes_1 : decode cX12_drawnOnes 1 = .ok (.getfield 105, 3) := by decide +kernel
theorem dX12_drawnOnes_4 : decode cX12_drawnOnes 4 = .ok (.ifCond .eq 10, 3) := by decide +kernel
theorem dX12_drawnOnes_7 : decode cX12_drawnOnes 7 = .ok (.aload_n 0, 1) := by decide +kernel
theorem dX12_drawnOnes_8 : decode cX12_drawnOnes 8 = .ok (.getfield 102, 3) := by decide +kernel
theorem dX12_drawnOnes_11 : decode cX12_drawnOnes 11 = .ok (.ifCond .ne 4, 3) := by decide +kernel
theorem dX12_drawnOnes_14 : decode cX12_drawnOnes 14 = .ok (.return_, 1) := by decide +kernel
theorem dX12_drawnOnes_15 : decode cX12_drawnOnes 15 = .ok (.aload_n 0, 1) := by decide +kernel
theorem dX12_drawnOnes_16 : decode cX12_drawnOnes 16 = .ok (.aload_n 0, 1) := by decide +kernel
theorem dX12_drawnOnes_17 : decode cX12_drawnOnes 17 = .ok (.getfield 102, 3) := by decide +kernel
theorem dX12_drawnOnes_20 : decode cX12_drawnOnes 20 = .ok (.invokevirtual 449, 3) := by decide +kernel
theorem dX12_drawnOnes_23 : decode cX12_drawnOnes 23 = .ok (.istore_n 2, 1) := by decide +kernel
theorem dX12_drawnOnes_24 : decode cX12_drawnOnes 24 = .ok (.aload_n 0, 1) := by decide +kernel
theorem dX12_drawnOnes_25 : decode cX12_drawnOnes 25 = .ok (.aload_n 0, 1) := by decide +kernel
theorem dX12_drawnOnes_26 : decode cX12_drawnOnes 26 = .ok (.getfield 105, 3) := by decide +kernel
theorem dX12_drawnOnes_29 : decode cX12_drawnOnes 29 = .ok (.invokevirtual 449, 3) := by decide +kernel
theorem dX12_drawnOnes_32 : decode cX12_drawnOnes 32 = .ok (.istore_n 3, 1) := by decide +kernel
theorem dX12_drawnOnes_33 : decode cX12_drawnOnes 33 = .ok (.iload_n 1, 1) := by decide +kernel
theorem dX12_drawnOnes_34 : decode cX12_drawnOnes 34 = .ok (.iconst 2, 1) := by decide +kernel
theorem dX12_drawnOnes_35 : decode cX12_drawnOnes 35 = .ok (.if_icmp .ge 35, 3) := by decide +kernel
theorem dX12_drawnOnes_38 : decode cX12_drawnOnes 38 = .ok (.aload_n 0, 1) := by decide +kernel
theorem dX12_drawnOnes_39 : decode cX12_drawnOnes 39 = .ok (.bipush 114, 2) := by decide +kernel
theorem dX12_drawnOnes_41 : decode cX12_drawnOnes 41 = .ok (.iload_n 3, 1) := by decide +kernel
theorem dX12_drawnOnes_42 : decode cX12_drawnOnes 42 = .ok (.iload_n 2, 1) := by decide +kernel
theorem dX12_drawnOnes_43 : decode cX12_drawnOnes 43 = .ok (.invokevirtual 95, 3) := by decide +kernel
theorem dX12_drawnOnes_46 : decode cX12_drawnOnes 46 = .ok (.iconst 3, 1) := by decide +kernel
theorem dX12_drawnOnes_47 : decode cX12_drawnOnes 47 = .ok (.if_icmp .ge 84, 3) := by decide +kernel
theorem dX12_drawnOnes_50 : decode cX12_drawnOnes 50 = .ok (.aload_n 0, 1) := by decide +kernel
theorem dX12_drawnOnes_51 : decode cX12_drawnOnes 51 = .ok (.getfield 9, 3) := by decide +kernel
theorem dX12_drawnOnes_54 : decode cX12_drawnOnes 54 = .ok (.bipush 124, 2) := by decide +kernel
theorem dX12_drawnOnes_56 : decode cX12_drawnOnes 56 = .ok (.iload_n 3, 1) := by decide +kernel
theorem dX12_drawnOnes_57 : decode cX12_drawnOnes 57 = .ok (.iload_n 2, 1) := by decide +kernel
theorem dX12_drawnOnes_58 : decode cX12_drawnOnes 58 = .ok (.invokestatic 87, 3) := by decide +kernel
theorem dX12_drawnOnes_61 : decode cX12_drawnOnes 61 = .ok (.iadd, 1) := by decide +kernel
theorem dX12_drawnOnes_62 : decode cX12_drawnOnes 62 = .ok (.dup2, 1) := by decide +kernel
theorem dX12_drawnOnes_63 : decode cX12_drawnOnes 63 = .ok (.iaload, 1) := by decide +kernel
theorem dX12_drawnOnes_64 : decode cX12_drawnOnes 64 = .ok (.iconst 1, 1) := by decide +kernel
theorem dX12_drawnOnes_65 : decode cX12_drawnOnes 65 = .ok (.iadd, 1) := by decide +kernel
theorem dX12_drawnOnes_66 : decode cX12_drawnOnes 66 = .ok (.iastore, 1) := by decide +kernel
theorem dX12_drawnOnes_67 : decode cX12_drawnOnes 67 = .ok (.goto 64, 3) := by decide +kernel
theorem dX12_drawnOnes_70 : decode cX12_drawnOnes 70 = .ok (.iload_n 1, 1) := by decide +kernel
theorem dX12_drawnOnes_71 : decode cX12_drawnOnes 71 = .ok (.iconst 2, 1) := by decide +kernel
theorem dX12_drawnOnes_72 : decode cX12_drawnOnes 72 = .ok (.if_icmp .ne 26, 3) := by decide +kernel
theorem dX12_drawnOnes_75 : decode cX12_drawnOnes 75 = .ok (.aload_n 0, 1) := by decide +kernel
theorem dX12_drawnOnes_76 : decode cX12_drawnOnes 76 = .ok (.bipush 114, 2) := by decide +kernel
theorem dX12_drawnOnes_78 : decode cX12_drawnOnes 78 = .ok (.iload_n 3, 1) := by decide +kernel
theorem dX12_drawnOnes_79 : decode cX12_drawnOnes 79 = .ok (.iload_n 2, 1) := by decide +kernel
theorem dX12_drawnOnes_80 : decode cX12_drawnOnes 80 = .ok (.invokevirtual 406, 3) := by decide +kernel
theorem dX12_drawnOnes_83 : decode cX12_drawnOnes 83 = .ok (.ifCond .ne 48, 3) := by decide +kernel
theorem dX12_drawnOnes_86 : decode cX12_drawnOnes 86 = .ok (.aload_n 0, 1) := by decide +kernel
theorem dX12_drawnOnes_87 : decode cX12_drawnOnes 87 = .ok (.bipush 114, 2) := by decide +kernel
theorem dX12_drawnOnes_89 : decode cX12_drawnOnes 89 = .ok (.iload_n 3, 1) := by decide +kernel
theorem dX12_drawnOnes_90 : decode cX12_drawnOnes 90 = .ok (.iload_n 2, 1) := by decide +kernel
theorem dX12_drawnOnes_91 : decode cX12_drawnOnes 91 = .ok (.iconst 1, 1) := by decide +kernel
theorem dX12_drawnOnes_92 : decode cX12_drawnOnes 92 = .ok (.invokevirtual 424, 3) := by decide +kernel
theorem dX12_drawnOnes_95 : decode cX12_drawnOnes 95 = .ok (.goto 36, 3) := by decide +kernel
theorem dX12_drawnOnes_98 : decode cX12_drawnOnes 98 = .ok (.aload_n 0, 1) := by decide +kernel
theorem dX12_drawnOnes_99 : decode cX12_drawnOnes 99 = .ok (.aload_n 0, 1) := by decide +kernel
theorem dX12_drawnOnes_100 : decode cX12_drawnOnes 100 = .ok (.getfield 105, 3) := by decide +kernel
theorem dX12_drawnOnes_103 : decode cX12_drawnOnes 103 = .ok (.invokevirtual 449, 3) := by decide +kernel
theorem dX12_drawnOnes_106 : decode cX12_drawnOnes 106 = .ok (.istore 4, 2) := by decide +kernel
theorem dX12_drawnOnes_108 : decode cX12_drawnOnes 108 = .ok (.aload_n 0, 1) := by decide +kernel
theorem dX12_drawnOnes_109 : decode cX12_drawnOnes 109 = .ok (.bipush 114, 2) := by decide +kernel
theorem dX12_drawnOnes_111 : decode cX12_drawnOnes 111 = .ok (.iload_n 3, 1) := by decide +kernel
theorem dX12_drawnOnes_112 : decode cX12_drawnOnes 112 = .ok (.iload 4, 2) := by decide +kernel
theorem dX12_drawnOnes_114 : decode cX12_drawnOnes 114 = .ok (.iload_n 2, 1) := by decide +kernel
theorem dX12_drawnOnes_115 : decode cX12_drawnOnes 115 = .ok (.invokevirtual 299, 3) := by decide +kernel
theorem dX12_drawnOnes_118 : decode cX12_drawnOnes 118 = .ok (.ifCond .eq 13, 3) := by decide +kernel
theorem dX12_drawnOnes_121 : decode cX12_drawnOnes 121 = .ok (.aload_n 0, 1) := by decide +kernel
theorem dX12_drawnOnes_122 : decode cX12_drawnOnes 122 = .ok (.bipush 114, 2) := by decide +kernel
theorem dX12_drawnOnes_124 : decode cX12_drawnOnes 124 = .ok (.iload_n 3, 1) := by decide +kernel
theorem dX12_drawnOnes_125 : decode cX12_drawnOnes 125 = .ok (.iload 4, 2) := by decide +kernel
theorem dX12_drawnOnes_127 : decode cX12_drawnOnes 127 = .ok (.iload_n 2, 1) := by decide +kernel
theorem dX12_drawnOnes_128 : decode cX12_drawnOnes 128 = .ok (.invokevirtual 303, 3) := by decide +kernel
theorem dX12_drawnOnes_131 : decode cX12_drawnOnes 131 = .ok (.return_, 1) := by decide +kernel
set_option maxHeartbeats 1000000 in
theorem c12_drawnOnes {G : Gl} {l : Launch}  {M : Mem} {k s : Int} {c : Int → Int} (hG : GR M) (hK : RW M 114 c) (hS : SP c) (hs : M 57 53 = s) : Ct G LY 82 l 5 m12_drawnOnes [vR 57, vI k] M (RV (fun M' => Fr [58] [(57, 53)] M M' ∧ TRo M M' ∧ RW M' 114 (dO c s k).1 ∧ M' 57 53 = (dO c s k).2)) := by
  refine R_start (by decide +kernel) (Nat.le_of_ble_eq_true rfl) (fun C hC hRm hlau => ?_)
  show RZ G LY C (Zn G LY 82 C (RV (fun M' => Fr [58] [(57, 53)] M M' ∧ TRo M M' ∧ RW M' 114 (dO c s k).1 ∧ M' 57 53 = (dO c s k).2))) 0 0 82 0 [some (vR 57), some (vI k), none, none, none] [] M
  have hM := hS.m
  have hI := hM.I
  have hL := hM.1.1
  have hW := hM.1.2
  have b119 := hS.2.2.2.2.1.2.1
  refine R_aload_0 hC dX12_drawnOnes_0 ?_
  refine R_getIE hC dX12_drawnOnes_1 fl_12_105 (by decide) rfl (by decide) (by decide) (fi := 5) rfl hK.l ?_
  refine R_if_eq hC dX12_drawnOnes_4 (tgt := 14) (by decide) (fun hb4 => ?_) (fun hb4 => ?_)
  · skip
    exact R_return hC dX12_drawnOnes_14 rfl (ret_V ⟨Fr.rf, TRo.rf, by (rw [dO_f (by omega)]; exact hK), by (rw [dO_f (by omega)]; exact hs)⟩)
  · skip
    refine R_aload_0 hC dX12_drawnOnes_7 ?_
    refine R_getIE hC dX12_drawnOnes_8 fl_12_102 (by decide) rfl (by decide) (by decide) (fi := 6) rfl hK.w ?_
    refine R_if_ne hC dX12_drawnOnes_11 (tgt := 15) (by decide) (fun hb11 => ?_) (fun hb11 => ?_)
    · skip
      refine R_aload_0 hC dX12_drawnOnes_15 ?_
      refine R_aload_0 hC dX12_drawnOnes_16 ?_
      refine R_getIE hC dX12_drawnOnes_17 fl_12_102 (by decide) rfl (by decide) (by decide) (fi := 6) rfl hK.w ?_
      refine R_callVp (as := [vI _]) hC dX12_drawnOnes_20 mo_12_draw ml_12_449 (by decide) rfl rfl (c12_draw  hG (by omega)) rfl rfl hRm (by decide) (by decide) (Nat.le_of_ble_eq_true rfl) (fun v3 Mc1 hq2 => ?_)
      have e1 : M 57 53 = s := hs
      have ew := hq2.2.1
      have es := hq2.2.2
      rw [e1] at ew es
      have hwl : 0 < c 121 ∧ 0 < c 122 := by omega
      have bw := drV_bd (s := s) hwl.2
      rw [← ew] at bw
      refine R_istore_2 hC dX12_drawnOnes_23 rfl ?_
      refine R_aload_0 hC dX12_drawnOnes_24 ?_
      refine R_aload_0 hC dX12_drawnOnes_25 ?_
      have hk4 : RW Mc1 114 c := (RW.fr hK hq2.1 (by decide +kernel))
      refine R_getIE hC dX12_drawnOnes_26 fl_12_105 (by decide) rfl (by decide) (by decide) (fi := 5) rfl hk4.l ?_
      have hG5 : GR Mc1 := (GR.fr hG hq2.1 (by decide +kernel))
      refine R_callVp (as := [vI _]) hC dX12_drawnOnes_29 mo_12_draw ml_12_449 (by decide) rfl rfl (c12_draw  hG5 (by omega)) rfl rfl hRm (by decide) (by decide) (Nat.le_of_ble_eq_true rfl) (fun v8 Mc6 hq7 => ?_)
      have ex := hq7.2.1
      have es2 := hq7.2.2
      rw [es] at ex es2
      have bx := drV_bd (s := nxS s) hwl.1
      rw [← ex] at bx
      have hdm : dO c s k = mcG c (drV s (c 122)) (drV (nxS s) (c 121)) (drV (nxS (nxS s)) (c 121)) k (nxS (nxS s)) (nxS (nxS (nxS s))) := dO_t hwl
      rw [← ew, ← ex] at hdm
      have hFb : Fr [58] [(57, 53)] M Mc6 := Fr.tt (hq2.1.mo (by simp) (by simp)) (hq7.1.mo (by simp) (by simp))
      have hTb : TRo M Mc6 := fun j _ => (hq7.1 58 j (by simp) (by simp)).trans (hq2.1 58 j (by simp) (by simp))
      have ek : c (28 + v8 * 6 + v3) = c (28 + (v8 * 6 + v3)) := congrArg c (by omega)
      have bk := (hM.2.2.2.1 (v8 * 6 + v3) (by omega) (by omega)).1
      refine R_istore_3 hC dX12_drawnOnes_32 rfl ?_
      refine R_iload_1 hC dX12_drawnOnes_33 ?_
      refine R_iconst hC dX12_drawnOnes_34 ⟨by decide, by decide⟩ ?_
      refine R_icmp_ge hC dX12_drawnOnes_35 (tgt := 70) (by decide) (fun hb35 => ?_) (fun hb35 => ?_)
      · skip
        refine R_iload_1 hC dX12_drawnOnes_70 ?_
        refine R_iconst hC dX12_drawnOnes_71 ⟨by decide, by decide⟩ ?_
        refine R_icmp_ne hC dX12_drawnOnes_72 (tgt := 98) (by decide) (fun hb72 => ?_) (fun hb72 => ?_)
        · skip
          refine R_aload_0 hC dX12_drawnOnes_98 ?_
          refine R_aload_0 hC dX12_drawnOnes_99 ?_
          have hk9 : RW Mc6 114 c := (RW.fr hk4 hq7.1 (by decide +kernel))
          refine R_getIE hC dX12_drawnOnes_100 fl_12_105 (by decide) rfl (by decide) (by decide) (fi := 5) rfl hk9.l ?_
          have hG10 : GR Mc6 := (GR.fr hG5 hq7.1 (by decide +kernel))
          refine R_callVp (as := [vI _]) hC dX12_drawnOnes_103 mo_12_draw ml_12_449 (by decide) rfl rfl (c12_draw  hG10 (by omega)) rfl rfl hRm (by decide) (by decide) (Nat.le_of_ble_eq_true rfl) (fun v13 Mc11 hq12 => ?_)
          have et := hq12.2.1
          have es3 := hq12.2.2
          rw [es2] at et es3
          have bt := drV_bd (s := nxS (nxS s)) hwl.1
          rw [← et] at bt
          rw [← et] at hdm
          have hFc : Fr [58] [(57, 53)] M Mc11 := Fr.tt hFb (hq12.1.mo (by simp) (by simp))
          have hTc : TRo M Mc11 := TRo.tr hTb (fun j _ => hq12.1 58 j (by simp) (by simp))
          refine R_istore_4 hC dX12_drawnOnes_106 rfl ?_
          refine R_aload_0 hC dX12_drawnOnes_108 ?_
          refine R_bipush hC dX12_drawnOnes_109 (by decide +kernel) ⟨by decide, by decide⟩ ?_
          refine R_iload_3 hC dX12_drawnOnes_111 ?_
          refine R_iload_4 hC dX12_drawnOnes_112 ?_
          refine R_iload_2 hC dX12_drawnOnes_114 ?_
          have hG14 : GR Mc11 := (GR.fr hG10 hq12.1 (by decide +kernel))
          have hk15 : RW Mc11 114 c := (RW.fr hk9 hq12.1 (by decide +kernel))
          refine R_callVq (as := [vI _, vI _, vI _, vI _]) hC dX12_drawnOnes_115 mo_12_canGive ml_12_299 (by decide) rfl rfl (c12_canGive  hG14 hk15 (by omega) (by omega) hM (by omega) (by omega) (by omega) (by omega) (by omega) (by omega)) rfl rfl hRm (by decide) (by decide) (Nat.le_of_ble_eq_true rfl) ?_
          refine R_if_eq hC dX12_drawnOnes_118 (tgt := 131) (by decide) (fun hb118 => ?_) (fun hb118 => ?_)
          · skip
            replace hb118 := bP_z hb118
            have hng : ¬ mayGive c v8 v13 v3 := hb118
            have hz : Fr [58] [(57, 53)] M Mc11 ∧ TRo M Mc11 ∧ RW Mc11 114 (dO c s k).1 ∧ Mc11 57 53 = (dO c s k).2 := ⟨hFc, hTc, by (rw [hdm, mcG_3f (show 2 < k by omega) hng]; exact hk15), by (rw [hdm, mcG_3f (show 2 < k by omega) hng]; exact es3)⟩
            exact R_return hC dX12_drawnOnes_131 rfl (ret_V hz)
          · skip
            replace hb118 := bP_nz hb118
            have hgv : mayGive c v8 v13 v3 := hb118
            refine R_aload_0 hC dX12_drawnOnes_121 ?_
            refine R_bipush hC dX12_drawnOnes_122 (by decide +kernel) ⟨by decide, by decide⟩ ?_
            refine R_iload_3 hC dX12_drawnOnes_124 ?_
            refine R_iload_4 hC dX12_drawnOnes_125 ?_
            refine R_iload_2 hC dX12_drawnOnes_127 ?_
            refine R_callVv (as := [vI _, vI _, vI _, vI _]) hC dX12_drawnOnes_128 mo_12_gives ml_12_303 (by decide) rfl rfl (c12_gives  hG14 hk15 (by omega) (by omega) hM (by omega) (by omega) (by omega) (by omega) (by omega) (by omega)) rfl rfl hRm (by decide) (by decide) (Nat.le_of_ble_eq_true rfl) (fun Mc16 hq17 => ?_)
            have hk18 : RW Mc16 114 (mvR c v8 v13 v3) := (hq17.2.2)
            have hz : Fr [58] [(57, 53)] M Mc16 ∧ TRo M Mc16 ∧ RW Mc16 114 (dO c s k).1 ∧ Mc16 57 53 = (dO c s k).2 := ⟨Fr.tt hFc (hq17.1.mo (by simp) (by simp)), TRo.tr hTc (fun j q => hq17.2.1 j (by omega)), by (rw [hdm, mcG_3t (show 2 < k by omega) hgv]; exact hk18), by (rw [hdm, mcG_3t (show 2 < k by omega) hgv]; exact (hq17.1 57 53 (by decide) (by simp)).trans es3)⟩
            exact R_return hC dX12_drawnOnes_131 rfl (ret_V hz)
        · skip
          refine R_aload_0 hC dX12_drawnOnes_75 ?_
          refine R_bipush hC dX12_drawnOnes_76 (by decide +kernel) ⟨by decide, by decide⟩ ?_
          refine R_iload_3 hC dX12_drawnOnes_78 ?_
          refine R_iload_2 hC dX12_drawnOnes_79 ?_
          have hG19 : GR Mc6 := (GR.fr hG5 hq7.1 (by decide +kernel))
          have hk20 : RW Mc6 114 c := (RW.fr hk4 hq7.1 (by decide +kernel))
          refine R_callVq (as := [vI _, vI _, vI _]) hC dX12_drawnOnes_80 mo_12_why ml_12_406 (by decide) rfl rfl (c12_why  hG19 hk20 (by omega) (by omega) hM (by omega) (by omega) (by omega) (by omega)) rfl rfl hRm (by decide) (by decide) (Nat.le_of_ble_eq_true rfl) ?_
          refine R_if_ne hC dX12_drawnOnes_83 (tgt := 131) (by decide) (fun hb83 => ?_) (fun hb83 => ?_)
          · skip
            have hng : ¬ mayGo c v8 v3 := fun z => hb83 ((whyN_0 hM bx.1 (by omega) bw.1 (by omega)).mpr z)
            have hz : Fr [58] [(57, 53)] M Mc6 ∧ TRo M Mc6 ∧ RW Mc6 114 (dO c s k).1 ∧ Mc6 57 53 = (dO c s k).2 := ⟨hFb, hTb, by (rw [hdm, mcG_2f (show k = 2 by omega) hng]; exact hk20), by (rw [hdm, mcG_2f (show k = 2 by omega) hng]; exact es2)⟩
            exact R_return hC dX12_drawnOnes_131 rfl (ret_V hz)
          · skip
            have hgo : mayGo c v8 v3 := (whyN_0 hM bx.1 (by omega) bw.1 (by omega)).mp hb83
            refine R_aload_0 hC dX12_drawnOnes_86 ?_
            refine R_bipush hC dX12_drawnOnes_87 (by decide +kernel) ⟨by decide, by decide⟩ ?_
            refine R_iload_3 hC dX12_drawnOnes_89 ?_
            refine R_iload_2 hC dX12_drawnOnes_90 ?_
            refine R_iconst hC dX12_drawnOnes_91 ⟨by decide, by decide⟩ ?_
            refine R_callVv (as := [vI _, vI _, vI _, vI _]) hC dX12_drawnOnes_92 mo_12_goes ml_12_424 (by decide) rfl rfl (c12_goes  hG19 hk20 (by omega) (by omega) (by omega) (by omega) (by omega) (by omega) (by omega) (by omega) (by omega) (by omega) (by omega) (by omega)) rfl rfl hRm (by decide) (by decide) (Nat.le_of_ble_eq_true rfl) (fun Mc21 hq22 => ?_)
            have hz92 := hq22
            have hk23 : RW Mc21 114 (gsR c v8 v3 1) := (hq22.2.2)
            have hz : Fr [58] [(57, 53)] M Mc21 ∧ TRo M Mc21 ∧ RW Mc21 114 (dO c s k).1 ∧ Mc21 57 53 = (dO c s k).2 := ⟨Fr.tt hFb (hq22.1.mo (by simp) (by simp)), TRo.tr hTb (fun j q => hq22.2.1 j (by omega)), by (rw [hdm, mcG_2t (show k = 2 by omega) hgo]; exact hk23), by (rw [hdm, mcG_2t (show k = 2 by omega) hgo]; exact (hq22.1 57 53 (by decide) (by simp)).trans es2)⟩
            refine R_goto hC dX12_drawnOnes_95 (tgt := 131) (by decide) ?_
            exact R_return hC dX12_drawnOnes_131 rfl (ret_V hz)
      · skip
        refine R_aload_0 hC dX12_drawnOnes_38 ?_
        refine R_bipush hC dX12_drawnOnes_39 (by decide +kernel) ⟨by decide, by decide⟩ ?_
        refine R_iload_3 hC dX12_drawnOnes_41 ?_
        refine R_iload_2 hC dX12_drawnOnes_42 ?_
        have hG24 : GR Mc6 := (GR.fr hG5 hq7.1 (by decide +kernel))
        have hk25 : RW Mc6 114 c := (RW.fr hk4 hq7.1 (by decide +kernel))
        refine R_callVq (as := [vI _, vI _, vI _]) hC dX12_drawnOnes_43 mo_12_holds ml_12_95 (by decide) rfl rfl (c12_holds  hG24 hk25 (by omega) (by omega) (by omega) (by omega) (by omega) (by omega)) rfl rfl hRm (by decide) (by decide) (Nat.le_of_ble_eq_true rfl) ?_
        refine R_iconst hC dX12_drawnOnes_46 ⟨by decide, by decide⟩ ?_
        refine R_icmp_ge hC dX12_drawnOnes_47 (tgt := 131) (by decide) (fun hb47 => ?_) (fun hb47 => ?_)
        · skip
          have hz : Fr [58] [(57, 53)] M Mc6 ∧ TRo M Mc6 ∧ RW Mc6 114 (dO c s k).1 ∧ Mc6 57 53 = (dO c s k).2 := ⟨hFb, hTb, by (rw [hdm, mcG_0 (show k < 2 by omega), show min 3 (c (28 + (v8 * 6 + v3)) + 1) = c (28 + (v8 * 6 + v3)) by omega, upd1_sf]; exact hk25), by (rw [hdm, mcG_0 (show k < 2 by omega)]; exact es2)⟩
          exact R_return hC dX12_drawnOnes_131 rfl (ret_V hz)
        · skip
          refine R_aload_0 hC dX12_drawnOnes_50 ?_
          refine R_getR hC dX12_drawnOnes_51 fl_12_9 (by decide) rfl (by decide) (by decide) (fi := 0) rfl (r := 58) (gr_57_0 hG24) ?_
          refine R_bipush hC dX12_drawnOnes_54 (by decide +kernel) ⟨by decide, by decide⟩ ?_
          refine R_iload_3 hC dX12_drawnOnes_56 ?_
          refine R_iload_2 hC dX12_drawnOnes_57 ?_
          refine R_callSq (as := [vI _, vI _]) hC dX12_drawnOnes_58 mo_12_cell ml_12_87 (c12_cell  (by omega) (by omega) (by omega) (by omega)) rfl rfl hRm (by decide) (by decide) (Nat.le_of_ble_eq_true rfl) ?_
          refine R_iadd hC dX12_drawnOnes_61 ⟨by omega, by omega⟩ ?_
          refine R_dup2 hC dX12_drawnOnes_62 rfl rfl ?_
          refine R_ialoadE hC dX12_drawnOnes_63 (by decide) rfl (by omega) (by omega) (hk25.r4 (k := 28 + (v8 * 6 + v3)) (by omega) (by omega) (by omega)) ?_
          refine R_iconst hC dX12_drawnOnes_64 ⟨by decide, by decide⟩ ?_
          refine R_iadd hC dX12_drawnOnes_65 ⟨by omega, by omega⟩ ?_
          refine R_iastore hC dX12_drawnOnes_66 (by decide) rfl (by omega) (by omega) ?_
          have hk26 : RW (uM Mc6 58 (124 + (6 * v8 + v3)) (c (28 + (v8 * 6 + v3)) + 1)) 114 (upd1 c (28 + (v8 * 6 + v3)) (c (28 + (v8 * 6 + v3)) + 1)) := (hk25.w4 (k := 28 + (v8 * 6 + v3)) (by omega) (by omega) (by omega))
          have hz : Fr [58] [(57, 53)] M (uM Mc6 58 (124 + (6 * v8 + v3)) (c (28 + (v8 * 6 + v3)) + 1)) ∧ TRo M (uM Mc6 58 (124 + (6 * v8 + v3)) (c (28 + (v8 * 6 + v3)) + 1)) ∧ RW (uM Mc6 58 (124 + (6 * v8 + v3)) (c (28 + (v8 * 6 + v3)) + 1)) 114 (dO c s k).1 ∧ (uM Mc6 58 (124 + (6 * v8 + v3)) (c (28 + (v8 * 6 + v3)) + 1)) 57 53 = (dO c s k).2 := ⟨Fr.uA hFb (by decide), hTb.u (by omega) (by omega), by (rw [hdm, mcG_0 (show k < 2 by omega), show min 3 (c (28 + (v8 * 6 + v3)) + 1) = c (28 + (v8 * 6 + v3)) + 1 by omega]; exact hk26), by (rw [hdm, mcG_0 (show k < 2 by omega)]; exact (uM_h (by decide)).trans es2)⟩
          refine R_goto hC dX12_drawnOnes_67 (tgt := 131) (by decide) ?_
          exact R_return hC dX12_drawnOnes_131 rfl (ret_V hz)
    · skip
      exact R_return hC dX12_drawnOnes_14 rfl (ret_V ⟨Fr.rf, TRo.rf, by (rw [dO_f (by omega)]; exact hK), by (rw [dO_f (by omega)]; exact hs)⟩)
