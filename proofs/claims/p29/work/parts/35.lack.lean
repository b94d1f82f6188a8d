/-! sums over sets; the set that lacks the most -/
theorem sm_ext {f : Int → Int} {n : Nat} : ∀ m : Nat, n ≤ m → (∀ k : Int, n ≤ k → k < m → f k = 0) → sm m f = sm n f
  | 0, h, _ => by rw [show n = 0 by omega]
  | m + 1, h, e => by
    by_cases q : n = m + 1
    · rw [q]
    · rw [sm, sm_ext m (by omega) (fun k a b => e k a (by omega)), e m (by omega) (by omega), Int.add_zero]
theorem ss_L {f : Int → Int} {L t : Int} (h0 : 0 ≤ L) (h1 : L ≤ 5) (t0 : 0 ≤ t) (t1 : t < 2 ^ L.toNat) : ss f t = sm L.toNat (fun x => t / 2 ^ x.toNat % 2 * f x) := by
  unfold ss
  refine sm_ext 5 (by omega) (fun k a b => ?_)
  have := pw_le (i := L) (j := k) h0 (by omega)
  rw [Int.ediv_eq_zero_of_lt t0 (by omega)]
  simp
theorem bc_6 {t : Int} (t0 : 0 ≤ t) (t1 : t < 32) : sm 6 (fun x => t / 2 ^ x.toNat % 2) = bc t := by
  unfold bc ss
  rw [sm_ext (f := fun x => t / 2 ^ x.toNat % 2) (n := 5) 6 (by decide) (fun k a b => by
    rw [show k = 5 by omega]
    show t / 32 % 2 = 0
    omega)]
  exact sm_congr 5 (fun k _ _ => (Int.mul_one _).symm)
theorem lack0 {I : Ins} (h : IB I) : lackI I 0 = 0 := by
  unfold lackI canI
  rw [ss_0, sm_zero _ (fun w w0 w1 => by
    unfold canw
    rw [ss_0]
    have := (h.2.2.2.1 w w0 (by omega)).1
    omega)]
  rfl
theorem wsF_2 {I : Ins} (h : IB I) : ∀ n : Nat, (wsF I n).2 = lackI I (wsF I n).1
  | 0 => (lack0 h).symm
  | n + 1 => by
    rw [wsF]
    split
    · rfl
    · exact wsF_2 h n
theorem wsF_m {I : Ins} (h : IB I) : ∀ (n : Nat) (t : Int), 0 ≤ t → t ≤ n → lackI I t ≤ (wsF I n).2
  | 0, t, a, b => by
    rw [show t = 0 by omega, lack0 h]
    exact Int.le_refl _
  | n + 1, t, a, b => by
    rw [wsF]
    by_cases q : t = ((n + 1 : Nat) : Int)
    · subst q
      split
      · exact Int.le_refl _
      · omega
    · have := wsF_m h n t a (by omega)
      split
      · show _ ≤ lackI I _
        omega
      · exact this
theorem IB.wp {I : Ins} (h : IB I) : lackI I (worst I) = 0 ↔ planI I := by
  have e : lackI I (worst I) = (wsF I (fullS I).toNat).2 := (wsF_2 h _).symm
  have hf := h.fs
  constructor
  · intro z t t0 t1
    have := wsF_m h (fullS I).toNat t t0 (by unfold fullS at *; omega)
    omega
  · intro p
    have w := h.wb
    have a := p (worst I) w.1 w.2
    have b := wsF_m h (fullS I).toNat 0 (Int.le_refl _) (by omega)
    rw [lack0 h] at b
    omega
theorem worst_end {I : Ins} (h : IB I) {i : Int} (e : i = 2 ^ (iL I).toNat) : (wsF I (i - 1).toNat).2 = lackI I (worst I) ∧ (wsF I (i - 1).toNat).1 = worst I := by
  have e2 : (wsF I (i - 1).toNat).1 = worst I := by unfold worst fullS; rw [e]
  exact ⟨(wsF_2 h _).trans (by rw [e2]), e2⟩
