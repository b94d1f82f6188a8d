/-! the plan carried out, YEARS by a seed: the model's way -/
theorem sm_app {T : Int → Int} (m : Nat) : ∀ k : Nat, sm (m + k) T = sm m T + sm k (fun w => T (m + w))
  | 0 => (Int.add_zero _).symm
  | k + 1 => by
    show sm (m + k) T + T ((m + k : Nat) : Int) = sm m T + (sm k (fun w => T (m + w)) + T (m + (k : Int)))
    rw [sm_app m k, show ((m + k : Nat) : Int) = (m : Int) + (k : Int) by omega]
    omega
theorem sm_blk {T : Int → Int} : ∀ n : Nat, sm (6 * n) T = sm n (fun x => sm 6 (fun w => T (6 * x + w)))
  | 0 => rfl
  | n + 1 => by
    show sm (6 * n + 6) T = sm n (fun x => sm 6 (fun w => T (6 * x + w))) + sm 6 (fun w => T (6 * (n : Int) + w))
    rw [sm_app, sm_blk n, show ((6 * n : Nat) : Int) = 6 * (n : Int) by omega]
theorem pl_row {I : Ins} {x : Int} {S : PT} (h : PB I x 0 S) (x0 : 0 ≤ x) (x1 : x < iL I) (x5 : x < 5) (hW : iW I ≤ 6) (e : S.2.2.2 = sm 30 S.2.2.1) : ∀ n : Nat, (n : Int) ≤ iW I → (prow S x n).2.2.2 = sm 30 (prow S x n).2.2.1
  | 0, _ => e
  | n + 1, hn => by
    have r := pl_row h x0 x1 x5 hW e n (by omega)
    have z := (PB.rowN h x0 x1 hW n (by omega)).2.2.2.1 (x * 6 + n) (by omega)
    show (prow S x n).2.2.2 + tk (prow S x n).1 x n (prow S x n).2.1 = sm 30 (up (prow S x n).2.2.1 (x * 6 + n) (tk (prow S x n).1 x n (prow S x n).2.1))
    rw [r]
    refine (sm_chg (a := x * 6 + n) 30 (by omega) (by omega) (fun k _ _ ne => up_ne ne) ?_).symm
    rw [up_same, z]
    omega
theorem pl_all {I : Ins} (h : IB I) : ∀ n : Nat, (n : Int) ≤ iL I → (pall (I, SPC I, fun _ => 0, 0) (iW I) n).2.2.2 = sm 30 (pall (I, SPC I, fun _ => 0, 0) (iW I) n).2.2.1
  | 0, _ => (sm_zero (f := fun _ => 0) 30 (fun _ _ _ => rfl)).symm
  | n + 1, hn => by
    have b := h.1
    have bw := h.2.1
    exact pl_row (x := n) (PB.all h n (by omega)) (by omega) (by omega) (by omega) (by omega) (pl_all h n (by omega)) (iW I).toNat (by omega)
theorem pl_sum {I : Ins} (h : IB I) (hp : planI I) : plC I = sm 30 (plT I) := by
  have e := pl_all h (iL I).toNat (by have := h.1; omega)
  have t : plT I = (pln I).2.2.1 := funext fun q => if_pos hp
  rw [t]
  unfold plC
  rw [if_pos hp]
  exact e
theorem plT_out {I : Ins} (h : IB I) {y u : Int} (y0 : 0 ≤ y) (u0 : 0 ≤ u) (u1 : u < 6) (hq : ¬ (y < iL I ∧ u < iW I)) : plT I (6 * y + u) = 0 := by
  have a := plT_bd h y0 u0 u1
  unfold oIf at a
  rw [if_neg hq, show y * 6 + u = 6 * y + u by omega] at a
  omega
theorem pl_two {I : Ins} (h : IB I) : sm (iL I).toNat (fun x => sm (iW I).toNat (fun w => plT I (6 * x + w))) = sm 30 (plT I) := by
  have b := h.1
  have bw := h.2.1
  rw [sm_blk 5, ← sm_ext (f := fun x => sm (iW I).toNat (fun w => plT I (6 * x + w))) (n := (iL I).toNat) 5 (by omega) (fun x x0 x1 => sm_zero _ (fun w w0 w1 => plT_out h (by omega) w0 (by omega) (by omega)))]
  exact sm_congr 5 (fun x x0 x1 => (sm_ext 6 (by omega) (fun w w0 w1 => plT_out h x0 (by omega) (by omega) (by omega))).symm)
def gsR (c : Int → Int) (x w n : Int) : Int → Int := upd1 (upd1 c (28 + (x * 6 + w)) (c (28 + (x * 6 + w)) - n)) 119 (c 119 + n)
def cQ (c P : Int → Int) (n : Int) : Int → Int := upd1 (fun k => if 28 ≤ k ∧ k < 28 + n then c k - P (k - 28) else c k) 119 (c 119 + sm n.toNat P)
theorem cQ_g {c P : Int → Int} {n : Int} : cQ c P n 119 = c 119 + sm n.toNat P := upd1_e
theorem cQ_o {c P : Int → Int} {n k : Int} (h : k ≠ 119) (h2 : ¬ (28 ≤ k ∧ k < 28 + n)) : cQ c P n k = c k := (upd1_o h).trans (if_neg h2)
theorem cQ_i {c P : Int → Int} {n k : Int} (h : k ≠ 119) (h2 : 28 ≤ k ∧ k < 28 + n) : cQ c P n k = c k - P (k - 28) := (upd1_o h).trans (if_pos h2)
theorem cQ_0 {c P : Int → Int} : cQ c P 0 = c := funext fun k => by
  by_cases e : k = 119
  · rw [e, cQ_g]; exact Int.add_zero _
  · exact cQ_o e (by omega)
theorem cQ_s {c P : Int → Int} {x w n j : Int} (h0 : 0 ≤ n) (h1 : n < 30) (hn : n = 6 * x + w) (hj : j = n + 1) : gsR (cQ c P n) x w (P n) = cQ c P j := funext fun k => by
  subst hj
  unfold gsR
  rw [show 28 + (x * 6 + w) = 28 + n by omega]
  by_cases e : k = 119
  · rw [e, upd1_e, cQ_g, cQ_g, sm_to h0 rfl]; omega
  · rw [upd1_o e]
    by_cases q : k = 28 + n
    · rw [q, upd1_e, cQ_o (by omega) (by omega), cQ_i (by omega) (by omega), show 28 + n - 28 = n by omega]
    · rw [upd1_o q]
      by_cases z : 28 ≤ k ∧ k < 28 + n
      · rw [cQ_i e z, cQ_i e (by omega)]
      · rw [cQ_o e z, cQ_o e (by omega)]
theorem cQ_z {c P : Int → Int} {n m : Int} (h0 : 0 ≤ n) (h1 : n ≤ m) (h : ∀ q, n ≤ q → q < m → P q = 0) : cQ c P n = cQ c P m := funext fun k => by
  by_cases e : k = 119
  · rw [e, cQ_g, cQ_g, sm_ext (n := n.toNat) m.toNat (by omega) (fun q q0 q1 => h q (by omega) (by omega))]
  · by_cases z : 28 ≤ k ∧ k < 28 + n
    · rw [cQ_i e z, cQ_i e (by omega)]
    · by_cases y : 28 ≤ k ∧ k < 28 + m
      · rw [cQ_o e z, cQ_i e y, h (k - 28) (by omega) (by omega), Int.sub_zero]
      · rw [cQ_o e z, cQ_o e y]
theorem cQ_row {c : Int → Int} {I : Ins} (h : IB I) {x : Int} (x0 : 0 ≤ x) : cQ c (plT I) (6 * x + iW I) = cQ c (plT I) (6 * (x + 1)) := by
  have bw := h.2.1
  refine cQ_z (by omega) (by omega) (fun q q0 q1 => ?_)
  have := plT_out h (y := x) (u := q - 6 * x) x0 (by omega) (by omega) (by omega)
  rw [show 6 * x + (q - 6 * x) = q by omega] at this
  exact this
theorem go_R {c : Int → Int} {x w : Int} : gsR c x w 1 = upd1 (upd1 c (28 + (x * 6 + w)) (c (28 + (x * 6 + w)) - 1)) 119 (c 119 + 1) := rfl
theorem dr_eq (t : Int) : t / 2 ^ Int.toNat 16 % 2 ^ 15 = (t % 4294967296 / 2 ^ Int.toNat 16).bmod 4294967296 % 2 ^ 15 := by
  have e : (2 : Int) ^ Int.toNat 16 = 65536 := rfl
  have e2 : (2 : Int) ^ 15 = 32768 := rfl
  rw [e, e2]
  unfold Int.bmod
  dsimp only
  split <;> omega
