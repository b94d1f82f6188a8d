/-! changes: by pairs of works, and by sums -/
theorem bP_b (p : Prop) : 0 ≤ bP p ∧ bP p ≤ 1 := by rcases bP_01 p with z | z <;> rw [z] <;> exact ⟨by decide, by decide⟩
theorem bP_and (p q : Prop) : bP (p ∧ q) = bP p * bP q := by
  by_cases a : p
  · by_cases b : q
    · rw [bP_pos a, bP_pos b, bP_pos ⟨a, b⟩]; rfl
    · rw [bP_neg b, bP_neg (fun z => b z.2)]; simp
  · rw [bP_neg a, bP_neg (fun z => a z.1)]; simp
theorem ch_ij {T d : Int → Int} {a b : Int} : sm (d 122).toNat (fun i => sm (d 122).toNat (fun j => bP (i ≠ j ∧ mvP T d a b i ∧ mvP T d b a j))) = chg T d a b := by
  unfold chg
  have e : ∀ i : Int, 0 ≤ i → i < (d 122).toNat → sm (d 122).toNat (fun j => bP (i ≠ j ∧ mvP T d a b i ∧ mvP T d b a j)) = sm (d 122).toNat (fun j => bP (mvP T d b a j)) * bP (mvP T d a b i) - bP (mvP T d a b i ∧ mvP T d b a i) := by
    intro i i0 i1
    have s := sm_chg (f := fun j => bP (mvP T d a b i) * bP (mvP T d b a j)) (g := fun j => bP (i ≠ j ∧ mvP T d a b i ∧ mvP T d b a j)) (a := i) (d := - bP (mvP T d a b i ∧ mvP T d b a i)) _ i0 i1 (fun k _ _ ne => by
      rw [← bP_and]
      exact bP_iff ⟨fun z => z.2, fun z => ⟨Ne.symm ne, z⟩⟩) (by
      rw [bP_neg (fun z => z.1 rfl), ← bP_and]
      omega)
    rw [s, sm_mul, Int.mul_comm]
    omega
  rw [sm_congr _ e]
  have h1 := sm_add (fun i => sm (d 122).toNat (fun j => bP (mvP T d b a j)) * bP (mvP T d a b i) - bP (mvP T d a b i ∧ mvP T d b a i)) (fun i => bP (mvP T d a b i ∧ mvP T d b a i)) (d 122).toNat
  rw [sm_congr (g := fun i => sm (d 122).toNat (fun j => bP (mvP T d b a j)) * bP (mvP T d a b i)) _ (fun k _ _ => by omega), sm_mul] at h1
  rw [Int.mul_comm (sm _ fun w => bP (mvP T d a b w))]
  omega
theorem chgs_m {T d : Int → Int} (hL : 0 ≤ d 121) : sm (d 121).toNat (fun a => sm (d 121).toNat (fun b => if a < b then chg T d a b else 0)) = chgs T d := by
  unfold chgs
  rw [sm_swap]
  refine sm_congr _ (fun b b0 b1 => ?_)
  exact sm_cut (fun a => chg T d a b) b b0 _ (by omega)
theorem chI_bd {T d : Int → Int} (h : (0 ≤ d 121 ∧ d 121 ≤ 5) ∧ 0 ≤ d 122 ∧ d 122 ≤ 6) (a b : Int) : 0 ≤ (if a < b then chg T d a b else 0) ∧ (if a < b then chg T d a b else 0) ≤ 36 := by
  split
  · rw [← ch_ij]
    exact sm_bd2 (q := 6) 6 h.2.1 (fun k _ _ => sm_bd2 (q := 6) 1 h.2.1 (fun j _ _ => bP_b _) (by decide) h.2.2) (by decide) h.2.2
  · exact ⟨by decide, by decide⟩
theorem chS_bd {T d : Int → Int} {I : Ins} (_ : IB I) (h : (0 ≤ d 121 ∧ d 121 ≤ 5) ∧ 0 ≤ d 122 ∧ d 122 ≤ 6) (a : Int) : 0 ≤ sm (d 121).toNat (fun b => if a < b then chg T d a b else 0) ∧ sm (d 121).toNat (fun b => if a < b then chg T d a b else 0) ≤ 180 :=
  sm_bd2 (q := 5) 36 h.1.1 (fun k _ _ => chI_bd h a k) (by decide) h.1.2
section CHN
variable {T d : Int → Int} {a b i j : Int}
theorem ch_n1 (h : i = j) : ¬ (i ≠ j ∧ mvP T d a b i ∧ mvP T d b a j) := fun z => z.1 h
theorem ch_n2 (h : T (6 * a + i) ≤ 0) : ¬ (i ≠ j ∧ mvP T d a b i ∧ mvP T d b a j) := fun z => by
  have := z.2.1.1
  rw [show a * 6 + i = 6 * a + i by omega] at this
  omega
theorem ch_n3 (h : T (6 * b + j) ≤ 0) : ¬ (i ≠ j ∧ mvP T d a b i ∧ mvP T d b a j) := fun z => by
  have := z.2.2.1
  rw [show b * 6 + j = 6 * b + j by omega] at this
  omega
theorem ch_n4 (h : ¬ T (6 * a + j) < offr d a j) : ¬ (i ≠ j ∧ mvP T d a b i ∧ mvP T d b a j) := fun z => by
  have := z.2.2.2
  rw [show a * 6 + j = 6 * a + j by omega] at this
  exact h this
theorem ch_n5 (h : ¬ T (6 * b + i) < offr d b i) : ¬ (i ≠ j ∧ mvP T d a b i ∧ mvP T d b a j) := fun z => by
  have := z.2.1.2
  rw [show b * 6 + i = 6 * b + i by omega] at this
  exact h this
theorem ch_p (h1 : i ≠ j) (h2 : 0 < T (6 * a + i)) (h3 : 0 < T (6 * b + j)) (h4 : T (6 * a + j) < offr d a j) (h5 : T (6 * b + i) < offr d b i) : i ≠ j ∧ mvP T d a b i ∧ mvP T d b a j := by
  refine ⟨h1, ⟨?_, ?_⟩, ?_, ?_⟩
  · rw [show a * 6 + i = 6 * a + i by omega]; exact h2
  · rw [show b * 6 + i = 6 * b + i by omega]; exact h5
  · rw [show b * 6 + j = 6 * b + j by omega]; exact h3
  · rw [show a * 6 + j = 6 * a + j by omega]; exact h4
end CHN
