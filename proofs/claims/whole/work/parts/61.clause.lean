/-! the model's reader: which word -/
/-- the word of m letters from p on in the row of words -/
def wrP (r : Int → Int) (n a z : Int) (p m : Nat) : Prop := a + m = z ∧ ∀ j : Int, 0 ≤ j → j < m → a + j < z ∧ b0 r n (a + j) = knV (p + j)
theorem kw_let {r : Int → Int} {n a z w : Int} {p : Nat} (h : kwF r n a z p = (w, a, 1, -2)) : ∀ m : Nat, (∀ j : Nat, j < m → knV ((p + j : Nat) : Int) ≠ 32) → kwF r n a z (p + m) = (w, a + m, bP (∀ j : Int, 0 ≤ j → j < m → a + j < z ∧ b0 r n (a + j) = knV (p + j)), -2)
  | 0, _ => by
    rw [Nat.add_zero, h, bP_pos (fun j p q => by omega)]
    exact congrArg (fun v => (w, v, (1 : Int), (-2 : Int))) (by omega)
  | m + 1, hk => by
    have r1 := kw_let h m (fun j q => hk j (by omega))
    have e := kwF_s (r := r) (n := n) (a := a) (z := z) (i := ((p + m : Nat) : Int)) (j := ((p + m : Nat) : Int) + 1) (by omega) rfl
    rw [show (((p + m : Nat) : Int) + 1).toNat = p + (m + 1) by omega, show (((p + m : Nat) : Int)).toNat = p + m by omega, r1, wf_3 (hk m (by omega))] at e
    rw [e]
    refine Prod.ext rfl (Prod.ext (by show a + (m : Int) + 1 = a + ((m + 1 : Nat) : Int); omega) (Prod.ext ?_ rfl))
    show (if bP _ ≠ 0 ∧ a + (m : Int) < z ∧ b0 r n (a + (m : Int)) = knV ((p + m : Nat) : Int) then (1 : Int) else 0) = bP _
    by_cases q : ∀ j : Int, 0 ≤ j → j < ((m + 1 : Nat) : Int) → a + j < z ∧ b0 r n (a + j) = knV (p + j)
    · have q2 := q m (by omega) (by omega)
      rw [bP_pos q, bP_pos (fun j j0 j1 => q j j0 (by omega)), if_pos ⟨by decide, q2.1, by rw [q2.2]; exact congrArg knV (by omega)⟩]
    · rw [bP_neg q]
      refine if_neg (fun y => q (fun j j0 j1 => ?_))
      by_cases e2 : j = m
      · rw [e2]
        exact ⟨y.2.1, y.2.2.trans (congrArg knV (by omega))⟩
      · exact bP_nz y.1 j j0 (by omega)
theorem kw_wrd {r : Int → Int} {n a z w : Int} {p m : Nat} (h : kwF r n a z p = (w, a, 1, -2)) (hk : ∀ j : Nat, j < m → knV ((p + j : Nat) : Int) ≠ 32) (h2 : knV ((p + m : Nat) : Int) = 32) :
    (wrP r n a z p m → (kwF r n a z (p + m + 1)).2.2.2 = w) ∧ (¬ wrP r n a z p m → kwF r n a z (p + m + 1) = (w + 1, a, 1, -2)) := by
  have r1 := kw_let h m hk
  have e := kwF_s (r := r) (n := n) (a := a) (z := z) (i := ((p + m : Nat) : Int)) (j := ((p + m : Nat) : Int) + 1) (by omega) rfl
  rw [show (((p + m : Nat) : Int) + 1).toNat = p + m + 1 by omega, show (((p + m : Nat) : Int)).toNat = p + m by omega, r1] at e
  refine ⟨fun q => ?_, fun q => ?_⟩
  · rw [e, wf_1 h2 ⟨by rw [bP_pos q.2]; decide, q.1⟩]
  · rw [e, wf_2 h2 (fun y => q ⟨y.2, bP_nz y.1⟩)]
theorem kwV_is {r : Int → Int} {n a z : Int} : kwV r n a z = itc (wrP r n a z 0 7) 0 (itc (wrP r n a z 8 4) 1 (itc (wrP r n a z 13 5) 2 (itc (wrP r n a z 19 7) 3 (itc (wrP r n a z 27 5) 4 (-1))))) := by
  have w0 := kw_wrd (r := r) (n := n) (a := a) (z := z) (w := 0) (p := 0) (m := 7) rfl (by decide) (by decide)
  by_cases h0 : wrP r n a z 0 7
  · rw [itc_t h0]; exact kwV_f (i := 7) (by decide) (by decide) (w0.1 h0) (by decide)
  have e0 := w0.2 h0
  have w1 := kw_wrd (w := 0 + 1) (p := 8) (m := 4) e0 (by decide) (by decide)
  by_cases h1 : wrP r n a z 8 4
  · rw [itc_f h0, itc_t h1]; exact kwV_f (i := 12) (by decide) (by decide) (w1.1 h1) (by decide)
  have e1 := w1.2 h1
  have w2 := kw_wrd (w := 0 + 1 + 1) (p := 13) (m := 5) e1 (by decide) (by decide)
  by_cases h2 : wrP r n a z 13 5
  · rw [itc_f h0, itc_f h1, itc_t h2]; exact kwV_f (i := 18) (by decide) (by decide) (w2.1 h2) (by decide)
  have e2 := w2.2 h2
  have w3 := kw_wrd (w := 0 + 1 + 1 + 1) (p := 19) (m := 7) e2 (by decide) (by decide)
  by_cases h3 : wrP r n a z 19 7
  · rw [itc_f h0, itc_f h1, itc_f h2, itc_t h3]; exact kwV_f (i := 26) (by decide) (by decide) (w3.1 h3) (by decide)
  have e3 := w3.2 h3
  have w4 := kw_wrd (w := 0 + 1 + 1 + 1 + 1) (p := 27) (m := 5) e3 (by decide) (by decide)
  by_cases h4 : wrP r n a z 27 5
  · rw [itc_f h0, itc_f h1, itc_f h2, itc_f h3, itc_t h4]; exact kwV_f (i := 32) (v := 0 + 1 + 1 + 1 + 1) (by decide) (by decide) (by rw [show ((32 : Int) + 1).toNat = 27 + 5 + 1 from rfl]; exact w4.1 h4) (by decide)
  have e4 := w4.2 h4
  rw [itc_f h0, itc_f h1, itc_f h2, itc_f h3, itc_f h4]
  unfold kwV
  have e5 : kwF r n a z 33 = (0 + 1 + 1 + 1 + 1 + 1, a, 1, -2) := e4
  rw [e5]
  rfl
def wpS (i : Nat) : Nat := [0, 8, 13, 19, 27].getD i 0
theorem wp_tab : ∀ i, i < 5 → ∀ j, j < lnS i → knV ((wpS i + j : Nat) : Int) = bS i (j : Int) % 2 ^ 8 := by decide
theorem wr_wd {r : Int → Int} {n : Int} {S : RT} (hg : RG n S) (k : S.1 = 1) {i : Nat} (hi : i < 5) : wrP r n S.2.1 S.2.2.1 (wpS i) (lnS i) ↔ wdP r n S i := by
  have g2 := hg.2.2
  constructor
  · intro ⟨h1, h2⟩
    refine ⟨k, by omega, fun j j0 j1 => ?_⟩
    have y := h2 j j0 j1
    have t := wp_tab i hi j.toNat (by omega)
    rw [show ((wpS i + j.toNat : Nat) : Int) = (wpS i : Int) + j by omega, Int.toNat_of_nonneg j0] at t
    rw [← t, ← y.2, b0_in (by omega)]
  · intro ⟨_, h1, h2⟩
    refine ⟨by omega, fun j j0 j1 => ⟨by omega, ?_⟩⟩
    have t := wp_tab i hi j.toNat (by omega)
    rw [show ((wpS i + j.toNat : Nat) : Int) = (wpS i : Int) + j by omega, Int.toNat_of_nonneg j0] at t
    rw [t, b0_in (by omega)]
    exact h2 j j0 j1
/-- a clause without its sign -/
noncomputable def hd0 (r : Int → Int) (n : Int) (d : Int → Int) (S : RT) : (Int → Int) × RT := (if (hdC r n d S).2.2.2.2.1 = 0 then upd1 d (28 + (hdL r n d S).1 * 6 + (hdW r n d 28 S).1) (hdC r n d S).1 else d, (hdC r n d S).2)
noncomputable def pm0 (r : Int → Int) (n : Int) (d : Int → Int) (S : RT) : (Int → Int) × RT := (if (pmY r n d S).2.2.2.2.1 = 0 then upd1 (upd1 d (58 + (hdL r n d S).1 * 6 + (hdW r n d 58 S).1) (pmM r n d S).1) (88 + (hdL r n d S).1 * 6 + (hdW r n d 58 S).1) (pmY r n d S).1 else d, (pmY r n d S).2)
noncomputable def st0 (r : Int → Int) (n : Int) (X : RX) : RX :=
  ((if X.2.1 = 0 then upd1 X.1 120 (rnR r n 0 20 (nxR r n X.2.2)).1 else X.1), (if X.2.1 = 0 then 1 else X.2.1), if X.2.1 = 0 then (rnR r n 0 20 (nxR r n X.2.2)).2 else refR 4 X.2.2)
noncomputable def cl0 (r : Int → Int) (n : Int) (X : RX) : RX :=
  itc (wdP r n X.2.2 0) ((lb0 r n X.1 X.2.2).1, X.2.1, (lb0 r n X.1 X.2.2).2) (itc (wdP r n X.2.2 1) ((wk0 r n X.1 X.2.2).1, X.2.1, (wk0 r n X.1 X.2.2).2) (itc (wdP r n X.2.2 2) ((hd0 r n X.1 X.2.2).1, X.2.1, (hd0 r n X.1 X.2.2).2)
    (itc (wdP r n X.2.2 3) ((pm0 r n X.1 X.2.2).1, X.2.1, (pm0 r n X.1 X.2.2).2) (itc (wdP r n X.2.2 4) (st0 r n X) (X.1, X.2.1, refR 1 X.2.2)))))
def wdC (r : Int → Int) (n : Int) (S : RT) : Int := if S.1 = 1 then kwV r n S.2.1 S.2.2.1 else -1
section CW
variable {r d : Int → Int} {n s : Int} {S : RT}
theorem cw_n (k : S.1 ≠ 1) {i : Nat} : ¬ wdP r n S i := fun h => k h.1
theorem cw_is (hg : RG n S) : wdC r n S = itc (wdP r n S 0) 0 (itc (wdP r n S 1) 1 (itc (wdP r n S 2) 2 (itc (wdP r n S 3) 3 (itc (wdP r n S 4) 4 (-1))))) := by
  unfold wdC
  by_cases k : S.1 = 1
  · rw [if_pos k, kwV_is]
    have e : ∀ i : Nat, i < 5 → wrP r n S.2.1 S.2.2.1 (wpS i) (lnS i) = wdP r n S i := fun i hi => propext (wr_wd hg k hi)
    rw [← e 0 (by decide), ← e 1 (by decide), ← e 2 (by decide), ← e 3 (by decide), ← e 4 (by decide)]
    rfl
  · rw [if_neg k, itc_f (cw_n k), itc_f (cw_n k), itc_f (cw_n k), itc_f (cw_n k), itc_f (cw_n k)]
theorem cl_by (hg : RG n S) : (wdC r n S = 0 → cl0 r n (d, s, S) = ((lb0 r n d S).1, s, (lb0 r n d S).2)) ∧ (wdC r n S = 1 → cl0 r n (d, s, S) = ((wk0 r n d S).1, s, (wk0 r n d S).2)) ∧ (wdC r n S = 2 → cl0 r n (d, s, S) = ((hd0 r n d S).1, s, (hd0 r n d S).2)) ∧ (wdC r n S = 3 → cl0 r n (d, s, S) = ((pm0 r n d S).1, s, (pm0 r n d S).2)) ∧ (wdC r n S = 4 → cl0 r n (d, s, S) = st0 r n (d, s, S)) ∧ ((wdC r n S ≠ 0 ∧ wdC r n S ≠ 1 ∧ wdC r n S ≠ 2 ∧ wdC r n S ≠ 3 ∧ wdC r n S ≠ 4) → cl0 r n (d, s, S) = (d, s, refR 1 S)) := by
  have e := cw_is (r := r) hg
  by_cases h0 : wdP r n S 0
  · rw [itc_t h0] at e
    rw [e]
    exact ⟨fun _ => itc_t h0, fun z => absurd z (by decide), fun z => absurd z (by decide), fun z => absurd z (by decide), fun z => absurd z (by decide), fun z => absurd rfl z.1⟩
  rw [itc_f h0] at e
  by_cases h1 : wdP r n S 1
  · rw [itc_t h1] at e
    rw [e]
    exact ⟨fun z => absurd z (by decide), fun _ => (itc_f h0).trans (itc_t h1), fun z => absurd z (by decide), fun z => absurd z (by decide), fun z => absurd z (by decide), fun z => absurd rfl z.2.1⟩
  rw [itc_f h1] at e
  by_cases h2 : wdP r n S 2
  · rw [itc_t h2] at e
    rw [e]
    exact ⟨fun z => absurd z (by decide), fun z => absurd z (by decide), fun _ => (itc_f h0).trans ((itc_f h1).trans (itc_t h2)), fun z => absurd z (by decide), fun z => absurd z (by decide), fun z => absurd rfl z.2.2.1⟩
  rw [itc_f h2] at e
  by_cases h3 : wdP r n S 3
  · rw [itc_t h3] at e
    rw [e]
    exact ⟨fun z => absurd z (by decide), fun z => absurd z (by decide), fun z => absurd z (by decide), fun _ => (itc_f h0).trans ((itc_f h1).trans ((itc_f h2).trans (itc_t h3))), fun z => absurd z (by decide), fun z => absurd rfl z.2.2.2.1⟩
  rw [itc_f h3] at e
  by_cases h4 : wdP r n S 4
  · rw [itc_t h4] at e
    rw [e]
    exact ⟨fun z => absurd z (by decide), fun z => absurd z (by decide), fun z => absurd z (by decide), fun z => absurd z (by decide), fun _ => (itc_f h0).trans ((itc_f h1).trans ((itc_f h2).trans ((itc_f h3).trans (itc_t h4)))), fun z => absurd rfl z.2.2.2.2⟩
  rw [itc_f h4] at e
  rw [e]
  exact ⟨fun z => absurd z (by decide), fun z => absurd z (by decide), fun z => absurd z (by decide), fun z => absurd z (by decide), fun z => absurd z (by decide), fun _ => (itc_f h0).trans ((itc_f h1).trans ((itc_f h2).trans ((itc_f h3).trans (itc_f h4))))⟩
end CW

