/-! the model's reader: a clause -/
def ALd (M : Mem) (h : Nat) (row : Int) (d : Int → Int) : Prop := ∀ q, 0 ≤ q → q < 30 → M h q = bP (0 < d (row + q))
def flS (x : Int) : Int := if x = -1 then 0 else 1
theorem ALd.of {M M' : Mem} {h : Nat} {row : Int} {d e : Int → Int} (g : ALd M h row d) (hr : row = 28 ∨ row = 58) (hM : ∀ q, M' h q = M h q) (he : ∀ k, 28 ≤ k → k < 88 → e k = d k) : ALd M' h row e := fun q q0 q1 => by
  rw [hM, g q q0 q1, he (row + q) (by omega) (by omega)]
theorem lb0_o {r d : Int → Int} {n k : Int} {S : RT} (h0 : 0 ≤ d 121) (k0 : 28 ≤ k) (k1 : k < 118) : (lb0 r n d S).1 k = d k := by
  unfold lb0
  by_cases q : d 121 < 5
  · rw [itc_t q]
    show upd1 _ _ _ k = _
    rw [upd1_o (by omega), upd1_o (by omega), upd1_o (by omega)]
  · rw [itc_f q]
theorem wk0_o {r d : Int → Int} {n k : Int} {S : RT} (h0 : 0 ≤ d 122) (k0 : 28 ≤ k) (k1 : k < 118) : (wk0 r n d S).1 k = d k := by
  unfold wk0
  by_cases q : d 122 < 6
  · rw [itc_t q]
    show upd1 _ _ _ k = _
    rw [upd1_o (by omega), upd1_o (by omega), upd1_o (by omega)]
  · rw [itc_f q]
theorem rn_f0 {r : Int → Int} {n a b : Int} {S : RT} (h : (rnR r n a b S).2.2.2.2.1 = 0) : S.2.2.2.1 = 0 := Classical.byContradiction (fun z => by
  rw [rn_bad z] at h
  exact z h)
theorem hdL_b {r d : Int → Int} {n : Int} {S : RT} : 0 ≤ (hdL r n d S).1 ∧ (hdL r n d S).1 ≤ 4 := noR_bd (by decide)
theorem hdW_b {r d : Int → Int} {n b : Int} {S : RT} : 0 ≤ (hdW r n d b S).1 ∧ (hdW r n d b S).1 ≤ 5 := noR_bd (by decide)

