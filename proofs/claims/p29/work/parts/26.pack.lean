/-! thirty pairs in a long, taken out again -/
theorem pkz_nat {x : Nat} (h : x < 2 ^ 63) : (Int64.ofInt (x : Int)).toBitVec.toNat = x := by
  rw [Int64.toBitVec_ofInt, BitVec.ofInt_natCast, BitVec.toNat_ofNat]
  exact Nat.mod_eq_of_lt (by omega)
theorem pkz_int {y : Int64} (h : y.toBitVec.toNat < 2 ^ 63) : y.toInt = (y.toBitVec.toNat : Int) := by
  rw [← Int64.toInt_toBitVec]
  exact BitVec.toInt_eq_toNat_of_lt (by omega)
theorem pkz_or {x y : Nat} (hx : x < 2 ^ 63) (hy : y < 2 ^ 63) : (Int64.ofInt (x : Int) ||| Int64.ofInt (y : Int)).toInt = ((x ||| y : Nat) : Int) := by
  have e : (Int64.ofInt (x : Int) ||| Int64.ofInt (y : Int)).toBitVec.toNat = x ||| y := by
    rw [Int64.toBitVec_or, BitVec.toNat_or, pkz_nat hx, pkz_nat hy]
  rw [pkz_int (by rw [e]; exact Nat.or_lt_two_pow hx hy), e]
theorem pkz_tl : ∀ n : Fin 30, (((Int32.ofInt (2 * ((n : Nat) : Int))).toInt64 &&& 63).toBitVec.smod 64).toNat = 2 * (n : Nat) := by decide +kernel
theorem pkz_tr : ∀ n : Fin 30, (((Int32.ofInt (2 * ((n : Nat) : Int))).toInt64.toUInt64 &&& Int64.toUInt64 63).toBitVec % 64).toNat = 2 * (n : Nat) := by decide +kernel
theorem pkz_shl {a n : Nat} (ha : a < 4) (hn : n < 30) : (Int64.ofInt (a : Int) <<< ((Int32.ofInt (2 * (n : Int))).toInt64 &&& 63)).toInt = ((a * 4 ^ n : Nat) : Int) := by
  have hb : a * 4 ^ n < 2 ^ 63 := by
    have : 4 ^ n ≤ 4 ^ 29 := Nat.pow_le_pow_right (by decide) (by omega)
    have h2 : a * 4 ^ n ≤ 3 * 4 ^ 29 := Nat.mul_le_mul (by omega) this
    exact Nat.lt_of_le_of_lt h2 (by decide)
  have e : (Int64.ofInt (a : Int) <<< ((Int32.ofInt (2 * (n : Int))).toInt64 &&& 63)).toBitVec.toNat = a * 4 ^ n := by
    rw [Int64.toBitVec_shiftLeft, BitVec.shiftLeft_eq', pkz_tl ⟨n, hn⟩, BitVec.toNat_shiftLeft, pkz_nat (by omega), Nat.shiftLeft_eq, Nat.pow_mul]
    exact Nat.mod_eq_of_lt (Nat.lt_trans hb (by decide))
  rw [pkz_int (by rw [e]; exact hb), e]
theorem pkz_get {v : Nat} {p : Nat} (hv : v < 2 ^ 63) (hp : p < 30) : pkd (v : Int) (p : Int) = ((v / 4 ^ p % 4 : Nat) : Int) := by
  have e : ((Int64.ofInt (v : Int)).toUInt64 >>> ((Int32.ofInt (2 * (p : Int))).toInt64.toUInt64 &&& Int64.toUInt64 63)).toInt64.toBitVec.toNat = v / 4 ^ p := by
    rw [UInt64.toBitVec_toInt64, UInt64.toBitVec_shiftRight, BitVec.ushiftRight_eq', pkz_tr ⟨p, hp⟩, BitVec.toNat_ushiftRight, Int64.toBitVec_toUInt64, pkz_nat hv, Nat.shiftRight_eq_div_pow, Nat.pow_mul]
  have hl : v / 4 ^ p < 2 ^ 63 := Nat.lt_of_le_of_lt (Nat.div_le_self _ _) hv
  unfold pkd
  rw [pkz_int (by rw [e]; exact hl), e]
  generalize v / 4 ^ p = u
  have := Int.bmod_emod (x := (u : Int)) (m := 4294967296)
  omega
def pN (T : Int → Int) : Nat → Nat
  | 0 => 0
  | n + 1 => pN T n + (T n).toNat * 4 ^ n
theorem pkF_nat {T : Int → Int} (hT : ∀ q, 0 ≤ q → q < 30 → 0 ≤ T q ∧ T q ≤ 3) : ∀ n : Nat, n ≤ 30 → pkF T n = (pN T n : Int) ∧ pN T n < 4 ^ n
  | 0, _ => ⟨rfl, Nat.one_pos⟩
  | n + 1, h => by
    obtain ⟨e, l⟩ := pkF_nat hT n (by omega)
    have ht := hT n (by omega) (by omega)
    have et : T n % 2 ^ 2 = (((T n).toNat : Nat) : Int) := by omega
    have l4 : (T n).toNat < 4 := by omega
    have hm : (T n).toNat * 4 ^ n ≤ 3 * 4 ^ n := Nat.mul_le_mul (by omega) (Nat.le_refl _)
    have hp : 4 ^ n ≤ 4 ^ 29 := Nat.pow_le_pow_right (by decide) (by omega)
    have e2 : (2 : Nat) ^ (2 * n) = 4 ^ n := by rw [Nat.pow_mul]
    have e3 : pN T n ||| (T n).toNat * 4 ^ n = pN T n + (T n).toNat * 4 ^ n := by
      have := Nat.two_pow_add_eq_or_of_lt (i := 2 * n) (b := pN T n) (by rw [e2]; exact l) (T n).toNat
      rw [e2] at this
      rw [Nat.or_comm, Nat.mul_comm, ← this, Nat.add_comm]
    constructor
    · rw [pkF, e, et, pkz_shl l4 (by omega), pkz_or (by omega) (by omega), e3]
      rfl
    · show pN T n + (T n).toNat * 4 ^ n < 4 ^ (n + 1)
      rw [Nat.pow_succ]
      omega
theorem pN_get {T : Int → Int} (hT : ∀ q, 0 ≤ q → q < 30 → 0 ≤ T q ∧ T q ≤ 3) {p : Nat} : ∀ n : Nat, n ≤ 30 → p < n → pN T n / 4 ^ p % 4 = (T p).toNat
  | 0, _, h => absurd h (by omega)
  | n + 1, h, hp => by
    have h4 : 0 < 4 ^ p := Nat.pow_pos (by decide)
    show (pN T n + (T n).toNat * 4 ^ n) / 4 ^ p % 4 = _
    by_cases q : p = n
    · subst q
      have l := (pkF_nat hT p (by omega)).2
      have ht := hT p (by omega) (by omega)
      rw [Nat.add_mul_div_right _ _ h4, Nat.div_eq_of_lt l]
      omega
    · have ih := pN_get hT (p := p) n (by omega) (by omega)
      have e : (T n).toNat * 4 ^ n = (4 * ((T n).toNat * 4 ^ (n - p - 1))) * 4 ^ p := by
        rw [show n = (n - p - 1) + 1 + p by omega, Nat.pow_add, Nat.pow_succ]
        rw [show n - p - 1 + 1 + p - p - 1 = n - p - 1 by omega]
        simp only [Nat.mul_comm, Nat.mul_left_comm, Nat.mul_assoc]
      rw [e, Nat.add_mul_div_right _ _ h4]
      omega
theorem pkd_F {T : Int → Int} (hT : ∀ q, 0 ≤ q → q < 30 → 0 ≤ T q ∧ T q ≤ 3) {p : Int} (p0 : 0 ≤ p) (p1 : p < 30) : pkd (pkF T 30) p = T p := by
  obtain ⟨m, rfl⟩ := Int.eq_ofNat_of_zero_le p0
  have h := pkF_nat hT 30 (by decide)
  have hg := pN_get hT (p := m) 30 (by decide) (by omega)
  have ht := hT m (by omega) (by omega)
  rw [h.1, pkz_get (Nat.lt_trans h.2 (by decide)) (by omega), hg]
  omega
/-- the plan is carried out -/
theorem wdR_F {T d : Int → Int} (hT : ∀ q, 0 ≤ q → q < 30 → 0 ≤ T q ∧ T q ≤ 3) : wdR d (pkF T 30) (-1) = fun b => if 28 ≤ b ∧ b < 58 then d b - T (b - 28) else d b := funext (fun b => by
  unfold wdR
  by_cases q : 28 ≤ b ∧ b < 58
  · rw [if_pos q, if_pos q, pkd_F hT (by omega) (by omega)]
    omega
  · rw [if_neg q, if_neg q])
/-- what the plan takes is offered -/
def oIf (I : Ins) (y u : Int) : Int := if y < iL I ∧ u < iW I then iO I y u else 0
def PB (I : Ins) (x j : Int) (S : PT) : Prop := PI I x S.1 ∧ RO S.1 x j ∧ (∀ y u, x < y ∨ (y = x ∧ j ≤ u) → iO S.1 y u = iO I y u) ∧ (∀ q, x * 6 + j ≤ q → S.2.2.1 q = 0) ∧
  (∀ y u, 0 ≤ y → 0 ≤ u → u < 6 → 0 ≤ S.2.2.1 (y * 6 + u) ∧ S.2.2.1 (y * 6 + u) ≤ oIf I y u) ∧ 0 ≤ S.2.2.2 ∧ S.2.2.2 ≤ 3 * (x * 6 + j)
theorem PB.step {I : Ins} {x j : Int} {S : PT} (h : PB I x j S) (x0 : 0 ≤ x) (x1 : x < iL I) (j0 : 0 ≤ j) (j1 : j < iW I) (j6 : j < 6) : PB I x (j + 1) (stepT S x j) := by
  obtain ⟨hP, hR, hO, hZ, hB, n0, n1⟩ := h
  have hL : iL S.1 = iL I := congrArg Prod.fst hP.1
  have hW : iW S.1 = iW I := congrArg Prod.snd hP.1
  have hb := tk_bd hP.2.2.1 S.2.1 x0 (by omega) j0 (show j < iW S.1 by omega)
  rw [hO x j (.inr ⟨rfl, Int.le_refl _⟩)] at hb
  refine ⟨hP.step x0 x1 j0 j1, RO.step hR, fun y u h => ?_, fun q hq => ?_, fun y u y0 u0 u1 => ?_, ?_, ?_⟩
  · show (if y = x ∧ u = j then (0 : Int) else iO S.1 y u) = _
    rw [if_neg (by omega)]
    exact hO y u (by omega)
  · show up S.2.2.1 (x * 6 + j) _ q = 0
    rw [up_ne (by omega)]
    exact hZ q (by omega)
  · show 0 ≤ up S.2.2.1 (x * 6 + j) _ (y * 6 + u) ∧ up S.2.2.1 (x * 6 + j) _ (y * 6 + u) ≤ _
    by_cases q : y = x ∧ u = j
    · rw [q.1, q.2, up_same]
      unfold oIf
      rw [if_pos ⟨x1, j1⟩]
      exact ⟨hb.1, hb.2.2.2.2⟩
    · rw [up_ne (by omega)]
      exact hB y u y0 u0 u1
  · show 0 ≤ S.2.2.2 + _
    omega
  · show S.2.2.2 + _ ≤ _
    omega
theorem PB.rowN {I : Ins} {x : Int} {S : PT} (h : PB I x 0 S) (x0 : 0 ≤ x) (x1 : x < iL I) (hW : iW I ≤ 6) : ∀ n : Nat, (n : Int) ≤ iW I → PB I x n (prow S x n)
  | 0, _ => h
  | n + 1, hn => by
    have := (PB.rowN h x0 x1 hW n (by omega)).step x0 x1 (by omega) (by omega) (by omega)
    rw [prow, show ((n + 1 : Nat) : Int) = (n : Int) + 1 by omega]
    exact this
theorem PB.fin {I : Ins} {x : Int} {S : PT} (h : PB I x (iW I) S) (x0 : 0 ≤ x) (hW : iW I ≤ 6) : PB I (x + 1) 0 (endR S x) := by
  obtain ⟨hP, hR, hO, hZ, hB, n0, n1⟩ := h
  refine ⟨hP.row hR, fun u u0 u1 => by omega, fun y u h => hO y u (.inl (by omega)), fun q hq => hZ q (by omega), hB, n0, ?_⟩
  show S.2.2.2 ≤ _
  omega
theorem PB.all {I : Ins} (h : IB I) : ∀ n : Nat, (n : Int) ≤ iL I → PB I n 0 (pall (I, SPC I, fun _ => 0, 0) (iW I) n)
  | 0, _ => ⟨⟨rfl, rfl, h, fun y a b => by omega⟩, fun u a b => by omega, fun _ _ _ => rfl, fun _ _ => rfl, fun y u y0 u0 u1 => ⟨Int.le_refl _, by
      show (0 : Int) ≤ oIf I y u
      unfold oIf
      by_cases q : y < iL I ∧ u < iW I
      · rw [if_pos q]; exact (h.2.2.1 y u y0 q.1 u0 q.2).1
      · rw [if_neg q]; exact Int.le_refl _⟩, Int.le_refl _, by show (0 : Int) ≤ 3 * (0 * 6 + 0); decide⟩
  | n + 1, hn => by
    have h1 := PB.all h n (by omega)
    have h2 := h1.rowN (by omega) (by omega) h.2.1.2 (iW I).toNat (by have := h.2.1.1; omega)
    rw [show (((iW I).toNat : Nat) : Int) = iW I from Int.toNat_of_nonneg h.2.1.1] at h2
    have h3 := h2.fin (by omega) h.2.1.2
    rw [pall, show ((n + 1 : Nat) : Int) = (n : Int) + 1 by omega]
    exact h3
theorem plT_bd {I : Ins} (h : IB I) {y u : Int} (y0 : 0 ≤ y) (u0 : 0 ≤ u) (u1 : u < 6) : 0 ≤ plT I (y * 6 + u) ∧ plT I (y * 6 + u) ≤ oIf I y u := by
  have hp := PB.all h (iL I).toNat (by have := h.1.1; omega)
  have hb := hp.2.2.2.2.1 y u y0 u0 u1
  unfold plT
  by_cases q : planI I
  · rw [if_pos q]
    exact hb
  · rw [if_neg q]
    exact ⟨Int.le_refl _, Int.le_trans hb.1 hb.2⟩
theorem oIf_bd {I : Ins} (h : IB I) {y u : Int} (y0 : 0 ≤ y) (u0 : 0 ≤ u) : 0 ≤ oIf I y u ∧ oIf I y u ≤ 3 := by
  unfold oIf
  by_cases q : y < iL I ∧ u < iW I
  · rw [if_pos q]; exact h.2.2.1 y u y0 q.1 u0 q.2
  · rw [if_neg q]; exact ⟨by decide, by decide⟩
theorem plT_3 {I : Ins} (h : IB I) {q : Int} (q0 : 0 ≤ q) : 0 ≤ plT I q ∧ plT I q ≤ 3 := by
  have a := plT_bd h (y := q / 6) (u := q % 6) (by omega) (by omega) (by omega)
  have b := oIf_bd h (y := q / 6) (u := q % 6) (by omega) (by omega)
  rw [show q / 6 * 6 + q % 6 = q by omega] at a
  omega
theorem plC_bd {I : Ins} (h : IB I) : 0 ≤ plC I ∧ plC I ≤ 90 := by
  have hp := PB.all h (iL I).toNat (by have := h.1.1; omega)
  have hb := hp.2.2.2.2.2
  have := h.1
  unfold plC
  by_cases q : planI I
  · rw [if_pos q]
    have e : (pln I).2.2.2 = (pall (I, SPC I, fun _ => 0, 0) (iW I) (iL I).toNat).2.2.2 := rfl
    rw [e]
    omega
  · rw [if_neg q]; exact ⟨by decide, by decide⟩

