/-! the most SPACE, by least cuts -/
theorem sm_le {f g : Int → Int} : ∀ n : Nat, (∀ k : Int, 0 ≤ k → k < n → f k ≤ g k) → sm n f ≤ sm n g
  | 0, _ => Int.le_refl _
  | n + 1, h => by
    have h1 := sm_le n (fun k a b => h k a (by omega))
    have h2 := h n (by omega) (by omega)
    rw [sm, sm]
    omega
theorem sm_add (f g : Int → Int) : ∀ n : Nat, sm n (fun k => f k + g k) = sm n f + sm n g
  | 0 => rfl
  | n + 1 => by rw [sm, sm, sm, sm_add f g n]; omega
theorem sm_mul (c : Int) (f : Int → Int) : ∀ n : Nat, sm n (fun k => c * f k) = c * sm n f
  | 0 => by simp [sm]
  | n + 1 => by rw [sm, sm, sm_mul c f n, Int.mul_add]
theorem sm_zero {f : Int → Int} (n : Nat) (h : ∀ k : Int, 0 ≤ k → k < n → f k = 0) : sm n f = 0 := by
  rw [sm_congr n h]
  induction n with
  | zero => rfl
  | succ n ih => rw [sm, ih (fun k a b => h k a (by omega))]; rfl
theorem sm_swap (f : Int → Int → Int) (m : Nat) : ∀ n : Nat, sm n (fun i => sm m (fun j => f i j)) = sm m (fun j => sm n (fun i => f i j))
  | 0 => (sm_zero m (fun _ _ _ => rfl)).symm
  | n + 1 => by
    rw [sm, sm_swap f m n, ← sm_add]
    rfl
def mnn : Nat → (Int → Int) → Int
  | 0, f => f 0
  | n + 1, f => min (mnn n f) (f ((n + 1 : Nat) : Int))
theorem mnn_le (f : Int → Int) : ∀ (n : Nat) (k : Int), 0 ≤ k → k ≤ n → mnn n f ≤ f k
  | 0, k, h0, h1 => by
    have : k = 0 := by omega
    subst this
    exact Int.le_refl _
  | n + 1, k, h0, h1 => by
    rw [mnn]
    by_cases e : k = ((n + 1 : Nat) : Int)
    · rw [e]; omega
    · have := mnn_le f n k h0 (by omega)
      omega
theorem mnn_ex (f : Int → Int) : ∀ n : Nat, ∃ k : Int, 0 ≤ k ∧ k ≤ n ∧ mnn n f = f k
  | 0 => ⟨0, by omega, by omega, rfl⟩
  | n + 1 => by
    obtain ⟨k, h0, h1, h2⟩ := mnn_ex f n
    rw [mnn]
    by_cases e : mnn n f ≤ f ((n + 1 : Nat) : Int)
    · exact ⟨k, h0, by omega, by omega⟩
    · exact ⟨((n + 1 : Nat) : Int), by omega, by omega, by omega⟩
theorem mnn_eq {f : Int → Int} {n : Nat} {v : Int} (h : ∀ k : Int, 0 ≤ k → k ≤ n → v ≤ f k) (he : ∃ k : Int, 0 ≤ k ∧ k ≤ n ∧ v = f k) : v = mnn n f := by
  obtain ⟨k, h0, h1, h2⟩ := he
  obtain ⟨j, j0, j1, j2⟩ := mnn_ex f n
  have := mnn_le f n k h0 h1
  have := h j j0 j1
  omega
theorem mnn_congr {f g : Int → Int} {n : Nat} (h : ∀ k : Int, 0 ≤ k → k ≤ n → f k = g k) : mnn n f = mnn n g := by
  obtain ⟨j, j0, j1, j2⟩ := mnn_ex f n
  exact mnn_eq (fun k a b => by rw [← h k a b]; exact mnn_le f n k a b) ⟨j, j0, j1, by rw [j2, h j j0 j1]⟩
def fullS (I : Ins) : Int := 2 ^ (iL I).toNat - 1
def lsum (I : Ins) : Int := ss (iM I) (fullS I)
/-- a cut of the works of size s and above -/
def cutS (I : Ins) (s t : Int) : Int := lsum I - ss (iM I) t + sm (iW I).toNat (fun w => if s ≤ iZ I w then canw I w t else 0)
def MC (I : Ins) (s : Int) : Int := mnn (fullS I).toNat (cutS I s)
def sumMC (I : Ins) : Int := sm 9 (fun s => MC I (s + 1))
noncomputable def SPC (I : Ins) : Int := @ite Int (planI I) (Classical.propDecidable _) (sumMC I) (-1)
theorem SPC_t {I : Ins} (h : planI I) : SPC I = sumMC I := by unfold SPC; rw [if_pos h]
theorem SPC_f {I : Ins} (h : ¬ planI I) : SPC I = -1 := by unfold SPC; rw [if_neg h]
/-- a cut of the first k works in order b -/
def cutP (I : Ins) (b : Int → Int) (k t : Int) : Int := lsum I - ss (iM I) t + sm k.toNat (fun j => canw I (b j) t)
def MP (I : Ins) (b : Int → Int) (k : Int) : Int := mnn (fullS I).toNat (cutP I b k)
theorem ss_full {f : Int → Int} {L t : Int} (h0 : 0 ≤ L) (h1 : L ≤ 5) (t0 : 0 ≤ t) (t1 : t < 2 ^ L.toNat) (h : ∀ x, 0 ≤ x → x < L → 0 ≤ f x) : ss f t ≤ ss f (2 ^ L.toNat - 1) := by
  have hp := pw_le6 h0 h1
  have e : ∀ u, 0 ≤ u → u < 2 ^ L.toNat → ss f u = ss (fun x => if x < L then f x else 0) u := fun u a b => ss_congr h0 h1 a b (fun x _ hx => by simp [hx])
  rw [e t t0 t1, e (2 ^ L.toNat - 1) (by omega) (by omega)]
  refine sm_le 5 (fun x x0 x1 => ?_)
  show _ * (if x < L then f x else 0) ≤ _ * (if x < L then f x else 0)
  by_cases q : x < L
  · rw [if_pos q]
    have hb : (2 ^ L.toNat - 1) / 2 ^ x.toNat % 2 = (1 : Int) := by
      rcases pw_cases h0 h1 with ⟨a, b⟩ | ⟨a, b⟩ | ⟨a, b⟩ | ⟨a, b⟩ | ⟨a, b⟩ | ⟨a, b⟩
      all_goals
        rw [b]
        have hx : x = 0 ∨ x = 1 ∨ x = 2 ∨ x = 3 ∨ x = 4 := by omega
        rcases hx with r | r | r | r | r <;> subst r <;> first | decide | (exfalso; omega)
    rw [hb]
    have := h x x0 q
    rcases bt_01 t x.toNat with r | r <;> rw [r] <;> omega
  · rw [if_neg q]
    simp
theorem ss_low {f : Int → Int} {r t u p : Int} (r0 : 0 ≤ r) (r1 : r ≤ 5) (hp : p = 2 ^ r.toNat) (t0 : 0 ≤ t) (ht : t % p = 0) (u0 : t ≤ u) (u1 : u < t + p) (h : ∀ x, 0 ≤ x → x < r → f x = 0) : ss f u = ss f t := by
  rw [ss_e, ss_e]
  have z : ∀ x, x < r → 0 ≤ x → f x = 0 := fun x a b => h x b a
  rcases pw_cases r0 r1 with ⟨a, b⟩ | ⟨a, b⟩ | ⟨a, b⟩ | ⟨a, b⟩ | ⟨a, b⟩ | ⟨a, b⟩
  · rw [b] at hp; subst hp
    rw [show u = t by omega]
  · rw [b] at hp; subst hp
    rw [z 0 (by omega) (by omega), show u / 2 % 2 = t / 2 % 2 by omega, show u / 4 % 2 = t / 4 % 2 by omega, show u / 8 % 2 = t / 8 % 2 by omega, show u / 16 % 2 = t / 16 % 2 by omega]
    simp
  · rw [b] at hp; subst hp
    rw [z 0 (by omega) (by omega), z 1 (by omega) (by omega), show u / 4 % 2 = t / 4 % 2 by omega, show u / 8 % 2 = t / 8 % 2 by omega, show u / 16 % 2 = t / 16 % 2 by omega]
    simp
  · rw [b] at hp; subst hp
    rw [z 0 (by omega) (by omega), z 1 (by omega) (by omega), z 2 (by omega) (by omega), show u / 8 % 2 = t / 8 % 2 by omega, show u / 16 % 2 = t / 16 % 2 by omega]
    simp
  · rw [b] at hp; subst hp
    rw [z 0 (by omega) (by omega), z 1 (by omega) (by omega), z 2 (by omega) (by omega), z 3 (by omega) (by omega), show u / 16 % 2 = t / 16 % 2 by omega]
    simp
  · rw [z 0 (by omega) (by omega), z 1 (by omega) (by omega), z 2 (by omega) (by omega), z 3 (by omega) (by omega), z 4 (by omega) (by omega)]
    simp
theorem IB.fs {I : Ins} (h : IB I) : 0 ≤ fullS I ∧ fullS I < 2 ^ (iL I).toNat ∧ ((fullS I).toNat : Int) = fullS I := by
  have := h.pw
  unfold fullS
  omega
theorem IB.lm {I : Ins} (h : IB I) {t : Int} (t0 : 0 ≤ t) (t1 : t < 2 ^ (iL I).toNat) : ss (iM I) t ≤ lsum I ∧ lsum I ≤ 500 :=
  ⟨ss_full h.1.1 h.1.2 t0 t1 (fun x a b => by have := h.2.2.2.2 x a b; omega), (h.ssM h.fs.1 h.fs.2.1).2⟩
theorem IB.ct {I : Ins} (h : IB I) {b : Int → Int} (hb : RK (iW I) (iZ I) b) {k t : Int} (k0 : 0 ≤ k) (k1 : k ≤ iW I) (t0 : 0 ≤ t) (t1 : t < 2 ^ (iL I).toNat) : 0 ≤ cutP I b k t ∧ cutP I b k t ≤ 590 := by
  have h1 := h.lm t0 t1
  have h2 := h.ssM t0 t1
  have h3 := sm_bd2 (f := fun j => canw I (b j) t) (q := 6) 15 k0 (fun j a c => h.cw (hb.1 j a (by omega)).1 (hb.1 j a (by omega)).2 t0 t1) (by decide) (by have := h.2.1.2; omega)
  unfold cutP
  omega
theorem MP_bd {I : Ins} (h : IB I) {b : Int → Int} (hb : RK (iW I) (iZ I) b) {k : Int} (k0 : 0 ≤ k) (k1 : k ≤ iW I) : 0 ≤ MP I b k ∧ MP I b k ≤ 590 := by
  obtain ⟨j, j0, j1, j2⟩ := mnn_ex (cutP I b k) (fullS I).toNat
  have hf := h.fs
  have := h.ct hb k0 k1 j0 (show j < 2 ^ (iL I).toNat by omega)
  unfold MP
  omega
theorem MP_0 {I : Ins} (h : IB I) (b : Int → Int) : MP I b 0 = 0 := by
  have hf := h.fs
  refine (mnn_eq (fun t t0 t1 => ?_) ⟨fullS I, hf.1, by omega, ?_⟩).symm
  · have := (h.lm t0 (show t < 2 ^ (iL I).toNat by omega)).1
    show 0 ≤ lsum I - ss (iM I) t + 0
    omega
  · show 0 = lsum I - ss (iM I) (fullS I) + 0
    unfold lsum
    omega
/-- how many of the first in order have size s or more -/
theorem cnt_ex (a : Int → Int) (s : Int) : ∀ n : Nat, (∀ i, 0 ≤ i → i + 1 < (n : Int) → a (i + 1) ≤ a i) → ∃ k : Int, 0 ≤ k ∧ k ≤ n ∧ (∀ i, 0 ≤ i → i < k → s ≤ a i) ∧ ∀ i, k ≤ i → i < n → a i < s
  | 0, _ => ⟨0, by omega, by omega, fun i a b => by omega, fun i a b => by omega⟩
  | n + 1, h => by
    obtain ⟨k, k0, k1, k2, k3⟩ := cnt_ex a s n (fun i a b => h i a (by omega))
    by_cases e : k = n ∧ s ≤ a n
    · refine ⟨n + 1, by omega, by omega, fun i a b => ?_, fun i a b => by omega⟩
      by_cases q : i = n
      · rw [q]; exact e.2
      · exact k2 i a (by omega)
    · refine ⟨k, k0, by omega, k2, fun i i0 i1 => ?_⟩
      by_cases q : i = n
      · subst q
        by_cases q2 : k = n
        · exact Int.not_le.mp (fun z => e ⟨q2, z⟩)
        · have h1 := k3 (n - 1) (by omega) (by omega)
          have h2 := h (n - 1) (by omega) (by omega)
          rw [show (n : Int) - 1 + 1 = n by omega] at h2
          omega
      · exact k3 i i0 (by omega)
theorem sm_cut (f : Int → Int) (k : Int) (k0 : 0 ≤ k) : ∀ n : Nat, k ≤ n → sm n (fun i => if i < k then f i else 0) = sm k.toNat f
  | 0, h => by
    have : k = 0 := by omega
    subst this
    rfl
  | n + 1, h => by
    by_cases e : k = ((n + 1 : Nat) : Int)
    · rw [e]
      exact sm_congr _ (fun i a b => if_pos b)
    · rw [sm, sm_cut f k k0 n (by omega)]
      rw [if_neg (by omega), Int.add_zero]
theorem cutS_P {I : Ins} (hW : 0 ≤ iW I) {b : Int → Int} (hb : RK (iW I) (iZ I) b) {s k : Int} (k0 : 0 ≤ k) (k1 : k ≤ iW I) (k2 : ∀ i, 0 ≤ i → i < k → s ≤ iZ I (b i)) (k3 : ∀ i, k ≤ i → i < iW I → iZ I (b i) < s) (t : Int) : cutS I s t = cutP I b k t := by
  unfold cutS cutP
  congr 1
  rw [← hb.2.2.1 (fun w => if s ≤ iZ I w then canw I w t else 0), ← sm_cut (fun j => canw I (b j) t) k k0 (iW I).toNat (by omega)]
  refine sm_congr _ (fun i i0 i1 => ?_)
  by_cases q : i < k
  · rw [if_pos (k2 i i0 q), if_pos q]
  · rw [if_neg (by have := k3 i (by omega) (by omega); omega), if_neg q]
theorem MC_P {I : Ins} (hW : 0 ≤ iW I) {b : Int → Int} (hb : RK (iW I) (iZ I) b) (s : Int) : ∃ k : Int, 0 ≤ k ∧ k ≤ iW I ∧ (∀ i, 0 ≤ i → i < k → s ≤ iZ I (b i)) ∧ (∀ i, k ≤ i → i < iW I → iZ I (b i) < s) ∧ MC I s = MP I b k := by
  obtain ⟨k, k0, k1, k2, k3⟩ := cnt_ex (fun i => iZ I (b i)) s (iW I).toNat (fun i i0 i1 => hb.2.1 i i0 (by omega))
  exact ⟨k, k0, by omega, k2, fun i a c => k3 i a (by omega), mnn_congr (fun t _ _ => cutS_P hW hb k0 (by omega) k2 (fun i a c => k3 i a (by omega)) t)⟩
theorem tel (F : Int → Int) (k : Int) (k0 : 0 ≤ k) : sm k.toNat (fun i => F (i + 1) - F i) = F k - F 0 := by
  obtain ⟨n, rfl⟩ := Int.eq_ofNat_of_zero_le k0
  show sm n _ = F n - F 0
  clear k0
  induction n with
  | zero => simp [sm]
  | succ n ih =>
    rw [sm, ih]
    have : ((n + 1 : Nat) : Int) = n + 1 := by omega
    rw [this]
    omega
theorem sm9 {v D : Int} (h0 : 0 ≤ v) (h1 : v ≤ 9) : sm 9 (fun s => if s + 1 ≤ v then D else 0) = v * D := by
  have hv : v = 0 ∨ v = 1 ∨ v = 2 ∨ v = 3 ∨ v = 4 ∨ v = 5 ∨ v = 6 ∨ v = 7 ∨ v = 8 ∨ v = 9 := by omega
  rcases hv with e | e | e | e | e | e | e | e | e | e <;> subst e <;> simp [sm] <;> omega
/-- SPACE as sizes times what each work adds -/
theorem sumMC_inc {I : Ins} (h : IB I) {b : Int → Int} (hb : RK (iW I) (iZ I) b) : sumMC I = sm (iW I).toNat (fun i => iZ I (b i) * (MP I b (i + 1) - MP I b i)) := by
  have hW := h.2.1.1
  have e : sumMC I = sm 9 (fun s => sm (iW I).toNat (fun i => if s + 1 ≤ iZ I (b i) then MP I b (i + 1) - MP I b i else 0)) := by
    refine sm_congr 9 (fun s _ _ => ?_)
    obtain ⟨k, k0, k1, k2, k3, k4⟩ := MC_P hW hb (s + 1)
    rw [k4]
    have := tel (MP I b) k k0
    rw [MP_0 h, Int.sub_zero] at this
    rw [← this, ← sm_cut (fun i => MP I b (i + 1) - MP I b i) k k0 (iW I).toNat (by omega)]
    refine sm_congr _ (fun i i0 i1 => ?_)
    by_cases q : i < k
    · rw [if_pos q, if_pos (k2 i i0 q)]
    · rw [if_neg q, if_neg (by have := k3 i (by omega) (by omega); omega)]
  rw [e, sm_swap (fun s i => if s + 1 ≤ iZ I (b i) then MP I b (i + 1) - MP I b i else 0)]
  refine sm_congr _ (fun i i0 i1 => ?_)
  have hz := h.2.2.2.1 (b i) (hb.1 i i0 (by omega)).1 (hb.1 i i0 (by omega)).2
  exact sm9 (by omega) (by omega)
theorem abel (a F : Int → Int) : ∀ n : Nat, sm n (fun i => a i * (F (i + 1) - F i)) = sm n (fun i => (a i - a (i + 1)) * F (i + 1)) + a n * F n - a 0 * F 0
  | 0 => by simp [sm]
  | n + 1 => by
    rw [sm, sm, abel a F n]
    have e : ((n + 1 : Nat) : Int) = n + 1 := by omega
    rw [e, Int.mul_sub, Int.sub_mul]
    omega
theorem sumMC_w {I : Ins} (h : IB I) {b : Int → Int} (hb : RK (iW I) (iZ I) b) : sumMC I = sm (iW I).toNat (fun i => (iZ I (b i) - (if i + 1 < iW I then iZ I (b (i + 1)) else 0)) * MP I b (i + 1)) := by
  rw [sumMC_inc h hb]
  have hW := h.2.1.1
  have e1 : sm (iW I).toNat (fun i => iZ I (b i) * (MP I b (i + 1) - MP I b i)) = sm (iW I).toNat (fun i => (fun i => if i < iW I then iZ I (b i) else 0) i * (MP I b (i + 1) - MP I b i)) :=
    sm_congr _ (fun i i0 i1 => by simp only; rw [if_pos (by omega)])
  rw [e1, abel (fun i => if i < iW I then iZ I (b i) else 0) (MP I b), MP_0 h]
  rw [if_neg (by omega), Int.zero_mul, Int.mul_zero, Int.add_zero, Int.sub_zero]
  exact sm_congr _ (fun i i0 i1 => by rw [if_pos (show i < iW I by omega)])
theorem MC_1 {I : Ins} (h : IB I) {b : Int → Int} (hb : RK (iW I) (iZ I) b) : MC I 1 = MP I b (iW I) :=
  mnn_congr (fun t _ _ => cutS_P h.2.1.1 hb h.2.1.1 (Int.le_refl _) (fun i i0 i1 => (h.2.2.2.1 (b i) (hb.1 i i0 i1).1 (hb.1 i i0 i1).2).2.1) (fun i a c => by omega) t)
theorem cutP_all {I : Ins} {b : Int → Int} (hb : RK (iW I) (iZ I) b) (t : Int) : cutP I b (iW I) t = lsum I - ss (iM I) t + canI I t := by
  unfold cutP canI
  rw [hb.2.2.1 (fun w => canw I w t)]
theorem cutP_s {I : Ins} {b : Int → Int} {i j t : Int} (h : 0 ≤ i) (hj : j = i + 1) : cutP I b j t = cutP I b i t + canw I (b i) t := by
  unfold cutP
  rw [sm_to h hj]
  omega
theorem mul_bd {a b p q : Int} (a0 : 0 ≤ a) (a1 : a ≤ p) (b0 : 0 ≤ b) (b1 : b ≤ q) : 0 ≤ a * b ∧ a * b ≤ p * q :=
  ⟨Int.mul_nonneg a0 b0, Int.mul_le_mul a1 b1 b0 (by omega)⟩
theorem pstep {f L t p q : Int} (h0 : 0 ≤ f) (h1 : f ≤ L) (h2 : L ≤ 5) (hp : p = 2 ^ f.toNat) (hq : q = 2 ^ L.toNat) (ht : t % p = 0) (h3 : t < q) : t + p ≤ q := by
  rcases pw_cases h0 (show f ≤ 5 by omega) with ⟨a, b⟩ | ⟨a, b⟩ | ⟨a, b⟩ | ⟨a, b⟩ | ⟨a, b⟩ | ⟨a, b⟩ <;> rcases pw_cases (show 0 ≤ L by omega) h2 with ⟨a2, b2⟩ | ⟨a2, b2⟩ | ⟨a2, b2⟩ | ⟨a2, b2⟩ | ⟨a2, b2⟩ | ⟨a2, b2⟩ <;> rw [b] at hp <;> rw [b2] at hq <;> subst hp <;> subst hq <;> omega
theorem pmod {t p : Int} (h : t % p = 0) : (t + p) % p = 0 := by rw [Int.add_emod_right]; exact h

theorem dX6_weighMost_0 : decode cX6_weighMost 0 = .ok (.iconst 0, 1) := by decide +kernel
theorem dX6_weighMost_1 : decode cX6_weighMost 1 = .ok (.istore_n 1, 1) := by decide +kernel
theorem dX6_weighMost_2 : decode cX6_weighMost 2 = .ok (.iconst 0, 1) := by decide +kernel
theorem dX6_weighMost_3 : decode cX6_weighMost 3 = .ok (.istore_n 2, 1) := by decide +kernel
theorem dX6_weighMost_4 : decode cX6_weighMost 4 = .ok (.aload_n 0, 1) := by decide +kernel
theorem dX6_weighMost_5 : decode cX6_weighMost 5 = .ok (.getfield 66, 3) := by decide +kernel
theorem dX6_weighMost_8 : decode cX6_weighMost 8 = .ok (.iconst 1, 1) := by decide +kernel
theorem dX6_weighMost_9 : decode cX6_weighMost 9 = .ok (.isub, 1) := by decide +kernel
theorem dX6_weighMost_10 : decode cX6_weighMost 10 = .ok (.istore_n 3, 1) := by decide +kernel
theorem dX6_weighMost_11 : decode cX6_weighMost 11 = .ok (.iload_n 3, 1) := by decide +kernel
theorem dX6_weighMost_12 : decode cX6_weighMost 12 = .ok (.ifCond .lt 39, 3) := by decide +kernel
theorem dX6_weighMost_15 : decode cX6_weighMost 15 = .ok (.aload_n 0, 1) := by decide +kernel
theorem dX6_weighMost_16 : decode cX6_weighMost 16 = .ok (.getfield 24, 3) := by decide +kernel
theorem dX6_weighMost_19 : decode cX6_weighMost 19 = .ok (.aload_n 0, 1) := by decide +kernel
theorem dX6_weighMost_20 : decode cX6_weighMost 20 = .ok (.getfield 27, 3) := by decide +kernel
theorem dX6_weighMost_23 : decode cX6_weighMost 23 = .ok (.iload_n 3, 1) := by decide +kernel
theorem dX6_weighMost_24 : decode cX6_weighMost 24 = .ok (.iaload, 1) := by decide +kernel
theorem dX6_weighMost_25 : decode cX6_weighMost 25 = .ok (.iaload, 1) := by decide +kernel
theorem dX6_weighMost_26 : decode cX6_weighMost 26 = .ok (.istore 4, 2) := by decide +kernel
theorem dX6_weighMost_28 : decode cX6_weighMost 28 = .ok (.iload_n 1, 1) := by decide +kernel
theorem dX6_weighMost_29 : decode cX6_weighMost 29 = .ok (.iload 4, 2) := by decide +kernel
theorem dX6_weighMost_31 : decode cX6_weighMost 31 = .ok (.iload_n 2, 1) := by decide +kernel
theorem dX6_weighMost_32 : decode cX6_weighMost 32 = .ok (.isub, 1) := by decide +kernel
theorem dX6_weighMost_33 : decode cX6_weighMost 33 = .ok (.aload_n 0, 1) := by decide +kernel
theorem dX6_weighMost_34 : decode cX6_weighMost 34 = .ok (.getfield 42, 3) := by decide +kernel
theorem dX6_weighMost_37 : decode cX6_weighMost 37 = .ok (.iload_n 3, 1) := by decide +kernel
theorem dX6_weighMost_38 : decode cX6_weighMost 38 = .ok (.iaload, 1) := by decide +kernel
theorem dX6_weighMost_39 : decode cX6_weighMost 39 = .ok (.imul, 1) := by decide +kernel
theorem dX6_weighMost_40 : decode cX6_weighMost 40 = .ok (.iadd, 1) := by decide +kernel
theorem dX6_weighMost_41 : decode cX6_weighMost 41 = .ok (.istore_n 1, 1) := by decide +kernel
theorem dX6_weighMost_42 : decode cX6_weighMost 42 = .ok (.iload 4, 2) := by decide +kernel
theorem dX6_weighMost_44 : decode cX6_weighMost 44 = .ok (.istore_n 2, 1) := by decide +kernel
theorem dX6_weighMost_45 : decode cX6_weighMost 45 = .ok (.iinc 3 (-1), 3) := by decide +kernel
theorem dX6_weighMost_48 : decode cX6_weighMost 48 = .ok (.goto (-37), 3) := by decide +kernel
theorem dX6_weighMost_51 : decode cX6_weighMost 51 = .ok (.iload_n 1, 1) := by decide +kernel
theorem dX6_weighMost_52 : decode cX6_weighMost 52 = .ok (.ireturn, 1) := by decide +kernel
set_option maxHeartbeats 400000 in
theorem c6_weighMost {G : Gl} {l : Launch}  {M : Mem} {I : Ins} (hG : GR M) (hI : SC M I) (hIb : IB I) (hm : ∀ i, 0 ≤ i → i < iW I → 0 ≤ M 35 i ∧ M 35 i ≤ 1000) : Ct G LY 57 l 0 m6_weighMost [vR 24] M (Ret (vI (sm (iW I).toNat (fun i => (iZ I (M 30 i) - (if i + 1 < iW I then iZ I (M 30 (i + 1)) else 0)) * M 35 i))) M) := by
  refine R_start (by decide +kernel) (Nat.le_of_ble_eq_true rfl) (fun C hC hRm hlau => ?_)
  show RZ G LY C (Zn G LY 57 C (Ret (vI (sm (iW I).toNat (fun i => (iZ I (M 30 i) - (if i + 1 < iW I then iZ I (M 30 (i + 1)) else 0)) * M 35 i))) M)) 0 0 57 0 [some (vR 24), none, none, none, none] [] M
  have hLb := hIb.1
  have hWb := hIb.2.1
  have h11 := hI.1.1
  have h12 := hI.1.2.1
  have h13 := hI.1.2.2
  have hpw := hIb.pw
  have hb := hI.2.2.2.2.2.2
  refine R_iconst hC dX6_weighMost_0 ⟨by decide, by decide⟩ ?_
  refine R_istore_1 hC dX6_weighMost_1 rfl ?_
  refine R_iconst hC dX6_weighMost_2 ⟨by decide, by decide⟩ ?_
  refine R_istore_2 hC dX6_weighMost_3 rfl ?_
  refine R_aload_0 hC dX6_weighMost_4 ?_
  refine R_getI hC dX6_weighMost_5 fl_6_66 (by decide) rfl (by decide) (by decide) (fi := 12) rfl ?_
  refine R_iconst hC dX6_weighMost_8 ⟨by decide, by decide⟩ ?_
  refine R_isub hC dX6_weighMost_9 ⟨by omega, by omega⟩ ?_
  refine R_istore_3 hC dX6_weighMost_10 rfl ?_
  have L11 : ∀ (mq : Nat) (acc : Int) (lig : Int) (k : Int), (-1 ≤ k) → (k < iW I) → (lig = if k + 1 < iW I then iZ I (M 30 (k + 1)) else 0) → (acc = sm (iW I).toNat (fun i => (iZ I (M 30 i) - (if i + 1 < iW I then iZ I (M 30 (i + 1)) else 0)) * M 35 i) - sm (k + 1).toNat (fun i => (iZ I (M 30 i) - (if i + 1 < iW I then iZ I (M 30 (i + 1)) else 0)) * M 35 i)) → (k + 1).toNat < mq → RZ G LY C (Zn G LY 57 C (Ret (vI (sm (iW I).toNat (fun i => (iZ I (M 30 i) - (if i + 1 < iW I then iZ I (M 30 (i + 1)) else 0)) * M 35 i))) M)) 0 0 57 11 [some (vR 24), some (vI acc), some (vI lig), some (vI k), none] [] M := by
    intro mq
    induction mq with
    | zero =>
      intro acc lig k hk0 hk1 hl0 ha hm
      exact absurd hm (Nat.not_lt_zero _)
    | succ mq ih11 =>
      intro acc lig k hk0 hk1 hl0 ha hm11
      refine R_iload_3 hC dX6_weighMost_11 ?_
      refine R_if_lt hC dX6_weighMost_12 (tgt := 51) (by decide) (fun hb12 => ?_) (fun hb12 => ?_)
      · skip
        refine R_iload_1 hC dX6_weighMost_51 ?_
        exact R_ireturn hC dX6_weighMost_52 rfl (ret_I (by rw [ha, show k + 1 = 0 by omega]; simp [sm]))
      · skip
        have bb := hb.1 k (by omega) (by omega)
        have q25 := (hI.2.2.2.1 (M 30 k) bb.1 bb.2).2
        have bz := (hIb.2.2.2.1 (M 30 k) bb.1 bb.2).2
        have bm := hm k (by omega) (by omega)
        have bl : 0 ≤ iZ I (M 30 k) - lig ∧ iZ I (M 30 k) - lig ≤ 9 := by
                  rw [hl0]
                  split
                  · rename_i q
                    have b1 := hb.1 (k + 1) (by omega) q
                    have := (hIb.2.2.2.1 (M 30 (k + 1)) b1.1 b1.2).2
                    have := hb.2.1 k (by omega) q
                    omega
                  · omega
        have bp := mul_bd bl.1 bl.2 bm.1 bm.2
        have bs : ∀ j : Int, 0 ≤ j → j ≤ iW I → 0 ≤ sm j.toNat (fun i => (iZ I (M 30 i) - (if i + 1 < iW I then iZ I (M 30 (i + 1)) else 0)) * M 35 i) ∧ sm j.toNat (fun i => (iZ I (M 30 i) - (if i + 1 < iW I then iZ I (M 30 (i + 1)) else 0)) * M 35 i) ≤ 6 * (9 * 1000) := fun j j0 j1 => sm_bd2 (q := 6) (9 * 1000) j0 (fun i i0 i1 => by
                      have bb := hb.1 i i0 (by omega)
                      have bz := (hIb.2.2.2.1 (M 30 i) bb.1 bb.2).2
                      have bm := hm i i0 (by omega)
                      refine mul_bd ?_ ?_ bm.1 bm.2
                      · split
                        · rename_i q
                          have := hb.2.1 i i0 q
                          omega
                        · omega
                      · split
                        · rename_i q
                          have b1 := hb.1 (i + 1) (by omega) q
                          have := (hIb.2.2.2.1 (M 30 (i + 1)) b1.1 b1.2).2
                          omega
                        · omega) (by decide) (by omega)
        have bs1 := bs (iW I) (by omega) (by omega)
        have bs2 := bs (k + 1) (by omega) (by omega)
        refine R_aload_0 hC dX6_weighMost_15 ?_
        refine R_getR hC dX6_weighMost_16 fl_6_24 (by decide) rfl (by decide) (by decide) (fi := 4) rfl (r := 29) (gr_24_4 hG) ?_
        refine R_aload_0 hC dX6_weighMost_19 ?_
        refine R_getR hC dX6_weighMost_20 fl_6_27 (by decide) rfl (by decide) (by decide) (fi := 5) rfl (r := 30) (gr_24_5 hG) ?_
        refine R_iload_3 hC dX6_weighMost_23 ?_
        refine R_iaload hC dX6_weighMost_24 (by decide) rfl (by omega) (by omega) ?_
        refine R_iaload hC dX6_weighMost_25 (by decide) rfl (by omega) (by omega) ?_
        refine R_istore_4 hC dX6_weighMost_26 rfl ?_
        refine R_iload_1 hC dX6_weighMost_28 ?_
        refine R_iload_4 hC dX6_weighMost_29 ?_
        refine R_iload_2 hC dX6_weighMost_31 ?_
        refine R_isub hC dX6_weighMost_32 (⟨by rw [q25]; omega, by rw [q25]; omega⟩) ?_
        refine R_aload_0 hC dX6_weighMost_33 ?_
        refine R_getR hC dX6_weighMost_34 fl_6_42 (by decide) rfl (by decide) (by decide) (fi := 10) rfl (r := 35) (gr_24_10 hG) ?_
        refine R_iload_3 hC dX6_weighMost_37 ?_
        refine R_iaload hC dX6_weighMost_38 (by decide) rfl (by omega) (by omega) ?_
        refine R_imul hC dX6_weighMost_39 (⟨by rw [q25]; omega, by rw [q25]; omega⟩) ?_
        refine R_iadd hC dX6_weighMost_40 (⟨by rw [q25]; omega, by rw [q25]; omega⟩) ?_
        refine R_istore_1 hC dX6_weighMost_41 rfl ?_
        refine R_iload_4 hC dX6_weighMost_42 ?_
        refine R_istore_2 hC dX6_weighMost_44 rfl ?_
        refine R_iinc_3 hC dX6_weighMost_45 rfl ⟨by omega, by omega⟩ ?_
        refine R_goto hC dX6_weighMost_48 (tgt := 11) (by decide) ?_
        refine R_weak (subL_c (subL_c (subL_c (subL_c (subL_d subL_n))))) ?_
        exact ih11 _ _ _ (by omega) (by omega) (by rw [if_pos (by omega), show k + -1 + 1 = k by omega, q25]) (by rw [ha, q25, hl0, show k + -1 + 1 = k by omega, sm_to (i := k) (j := k + 1) (by omega) rfl]; omega) (by omega)
  exact L11 _ _ _ _ (by omega) (by omega) (by rw [if_neg (by omega)]) (by rw [h12, show iW I - 1 + 1 = iW I by omega]; omega) (Nat.lt_succ_self _)
theorem dX6_space_0 : decode cX6_space 0 = .ok (.iconst 0, 1) := by decide +kernel
theorem dX6_space_1 : decode cX6_space 1 = .ok (.istore_n 2, 1) := by decide +kernel
theorem dX6_space_2 : decode cX6_space 2 = .ok (.iload_n 2, 1) := by decide +kernel
theorem dX6_space_3 : decode cX6_space 3 = .ok (.aload_n 0, 1) := by decide +kernel
theorem dX6_space_4 : decode cX6_space 4 = .ok (.getfield 66, 3) := by decide +kernel
theorem dX6_space_7 : decode cX6_space 7 = .ok (.if_icmp .ge 18, 3) := by decide +kernel
theorem dX6_space_10 : decode cX6_space 10 = .ok (.aload_n 0, 1) := by decide +kernel
theorem dX6_space_11 : decode cX6_space 11 = .ok (.getfield 42, 3) := by decide +kernel
theorem dX6_space_14 : decode cX6_space 14 = .ok (.iload_n 2, 1) := by decide +kernel
theorem dX6_space_15 : decode cX6_space 15 = .ok (.sipush 1000, 3) := by decide +kernel
theorem dX6_space_18 : decode cX6_space 18 = .ok (.iastore, 1) := by decide +kernel
theorem dX6_space_19 : decode cX6_space 19 = .ok (.iinc 2 1, 3) := by decide +kernel
theorem dX6_space_22 : decode cX6_space 22 = .ok (.goto (-20), 3) := by decide +kernel
theorem dX6_space_25 : decode cX6_space 25 = .ok (.iconst 1, 1) := by decide +kernel
theorem dX6_space_26 : decode cX6_space 26 = .ok (.iload_n 1, 1) := by decide +kernel
theorem dX6_space_27 : decode cX6_space 27 = .ok (.ishl, 1) := by decide +kernel
theorem dX6_space_28 : decode cX6_space 28 = .ok (.istore_n 2, 1) := by decide +kernel
theorem dX6_space_29 : decode cX6_space 29 = .ok (.aload_n 0, 1) := by decide +kernel
theorem dX6_space_30 : decode cX6_space 30 = .ok (.getfield 39, 3) := by decide +kernel
theorem dX6_space_33 : decode cX6_space 33 = .ok (.aload_n 0, 1) := by decide +kernel
theorem dX6_space_34 : decode cX6_space 34 = .ok (.getfield 45, 3) := by decide +kernel
theorem dX6_space_37 : decode cX6_space 37 = .ok (.iconst 1, 1) := by decide +kernel
theorem dX6_space_38 : decode cX6_space 38 = .ok (.isub, 1) := by decide +kernel
theorem dX6_space_39 : decode cX6_space 39 = .ok (.iaload, 1) := by decide +kernel
theorem dX6_space_40 : decode cX6_space 40 = .ok (.istore_n 3, 1) := by decide +kernel
theorem dX6_space_41 : decode cX6_space 41 = .ok (.iconst 0, 1) := by decide +kernel
theorem dX6_space_42 : decode cX6_space 42 = .ok (.istore 4, 2) := by decide +kernel
theorem dX6_space_44 : decode cX6_space 44 = .ok (.iload 4, 2) := by decide +kernel
theorem dX6_space_46 : decode cX6_space 46 = .ok (.aload_n 0, 1) := by decide +kernel
theorem dX6_space_47 : decode cX6_space 47 = .ok (.getfield 45, 3) := by decide +kernel
theorem dX6_space_50 : decode cX6_space 50 = .ok (.if_icmp .ge 106, 3) := by decide +kernel
theorem dX6_space_53 : decode cX6_space 53 = .ok (.iload_n 3, 1) := by decide +kernel
theorem dX6_space_54 : decode cX6_space 54 = .ok (.aload_n 0, 1) := by decide +kernel
theorem dX6_space_55 : decode cX6_space 55 = .ok (.getfield 39, 3) := by decide +kernel
theorem dX6_space_58 : decode cX6_space 58 = .ok (.iload 4, 2) := by decide +kernel
theorem dX6_space_60 : decode cX6_space 60 = .ok (.iaload, 1) := by decide +kernel
theorem dX6_space_61 : decode cX6_space 61 = .ok (.isub, 1) := by decide +kernel
theorem dX6_space_62 : decode cX6_space 62 = .ok (.istore 5, 2) := by decide +kernel
theorem dX6_space_64 : decode cX6_space 64 = .ok (.iload 5, 2) := by decide +kernel
theorem dX6_space_66 : decode cX6_space 66 = .ok (.aload_n 0, 1) := by decide +kernel
theorem dX6_space_67 : decode cX6_space 67 = .ok (.getfield 36, 3) := by decide +kernel
theorem dX6_space_70 : decode cX6_space 70 = .ok (.iload 4, 2) := by decide +kernel
theorem dX6_space_72 : decode cX6_space 72 = .ok (.iaload, 1) := by decide +kernel
theorem dX6_space_73 : decode cX6_space 73 = .ok (.iadd, 1) := by decide +kernel
theorem dX6_space_74 : decode cX6_space 74 = .ok (.istore 6, 2) := by decide +kernel
theorem dX6_space_76 : decode cX6_space 76 = .ok (.iconst 0, 1) := by decide +kernel
theorem dX6_space_77 : decode cX6_space 77 = .ok (.istore 7, 2) := by decide +kernel
theorem dX6_space_79 : decode cX6_space 79 = .ok (.iload 7, 2) := by decide +kernel
theorem dX6_space_81 : decode cX6_space 81 = .ok (.aload_n 0, 1) := by decide +kernel
theorem dX6_space_82 : decode cX6_space 82 = .ok (.getfield 66, 3) := by decide +kernel
theorem dX6_space_85 : decode cX6_space 85 = .ok (.if_icmp .ge 53, 3) := by decide +kernel
theorem dX6_space_88 : decode cX6_space 88 = .ok (.iload 5, 2) := by decide +kernel
theorem dX6_space_90 : decode cX6_space 90 = .ok (.aload_n 0, 1) := by decide +kernel
theorem dX6_space_91 : decode cX6_space 91 = .ok (.getfield 33, 3) := by decide +kernel
theorem dX6_space_94 : decode cX6_space 94 = .ok (.aload_n 0, 1) := by decide +kernel
theorem dX6_space_95 : decode cX6_space 95 = .ok (.getfield 27, 3) := by decide +kernel
theorem dX6_space_98 : decode cX6_space 98 = .ok (.iload 7, 2) := by decide +kernel
theorem dX6_space_100 : decode cX6_space 100 = .ok (.iaload, 1) := by decide +kernel
theorem dX6_space_101 : decode cX6_space 101 = .ok (.bipush 32, 2) := by decide +kernel
theorem dX6_space_103 : decode cX6_space 103 = .ok (.imul, 1) := by decide +kernel
theorem dX6_space_104 : decode cX6_space 104 = .ok (.iload 4, 2) := by decide +kernel
theorem dX6_space_106 : decode cX6_space 106 = .ok (.iadd, 1) := by decide +kernel
theorem dX6_space_107 : decode cX6_space 107 = .ok (.iaload, 1) := by decide +kernel
theorem dX6_space_108 : decode cX6_space 108 = .ok (.iadd, 1) := by decide +kernel
theorem dX6_space_109 : decode cX6_space 109 = .ok (.istore 5, 2) := by decide +kernel
theorem dX6_space_111 : decode cX6_space 111 = .ok (.iload 5, 2) := by decide +kernel
theorem dX6_space_113 : decode cX6_space 113 = .ok (.aload_n 0, 1) := by decide +kernel
theorem dX6_space_114 : decode cX6_space 114 = .ok (.getfield 42, 3) := by decide +kernel
theorem dX6_space_117 : decode cX6_space 117 = .ok (.iload 7, 2) := by decide +kernel
theorem dX6_space_119 : decode cX6_space 119 = .ok (.iaload, 1) := by decide +kernel
theorem dX6_space_120 : decode cX6_space 120 = .ok (.if_icmp .ge 12, 3) := by decide +kernel
theorem dX6_space_123 : decode cX6_space 123 = .ok (.aload_n 0, 1) := by decide +kernel
theorem dX6_space_124 : decode cX6_space 124 = .ok (.getfield 42, 3) := by decide +kernel
theorem dX6_space_127 : decode cX6_space 127 = .ok (.iload 7, 2) := by decide +kernel
theorem dX6_space_129 : decode cX6_space 129 = .ok (.iload 5, 2) := by decide +kernel
theorem dX6_space_131 : decode cX6_space 131 = .ok (.iastore, 1) := by decide +kernel
theorem dX6_space_132 : decode cX6_space 132 = .ok (.iinc 7 1, 3) := by decide +kernel
theorem dX6_space_135 : decode cX6_space 135 = .ok (.goto (-56), 3) := by decide +kernel
theorem dX6_space_138 : decode cX6_space 138 = .ok (.iload 5, 2) := by decide +kernel
theorem dX6_space_140 : decode cX6_space 140 = .ok (.iload 6, 2) := by decide +kernel
theorem dX6_space_142 : decode cX6_space 142 = .ok (.if_icmp .ge 5, 3) := by decide +kernel
theorem dX6_space_145 : decode cX6_space 145 = .ok (.iconst (-1), 1) := by decide +kernel
theorem dX6_space_146 : decode cX6_space 146 = .ok (.ireturn, 1) := by decide +kernel
theorem dX6_space_147 : decode cX6_space 147 = .ok (.iload 4, 2) := by decide +kernel
theorem dX6_space_149 : decode cX6_space 149 = .ok (.iload_n 2, 1) := by decide +kernel
theorem dX6_space_150 : decode cX6_space 150 = .ok (.iadd, 1) := by decide +kernel
theorem dX6_space_151 : decode cX6_space 151 = .ok (.istore 4, 2) := by decide +kernel
theorem dX6_space_153 : decode cX6_space 153 = .ok (.goto (-109), 3) := by decide +kernel
theorem dX6_space_156 : decode cX6_space 156 = .ok (.aload_n 0, 1) := by decide +kernel
theorem dX6_space_157 : decode cX6_space 157 = .ok (.invokevirtual 108, 3) := by decide +kernel
theorem dX6_space_160 : decode cX6_space 160 = .ok (.ireturn, 1) := by decide +kernel
set_option maxHeartbeats 2000000 in
theorem c6_space {G : Gl} {l : Launch}  {M : Mem} {I : Ins} {f : Int} (hG : GR M) (hI : SC M I) (hIb : IB I) (hf0 : 0 ≤ f) (hf1 : f ≤ iL I) (hz : ∀ x, 0 ≤ x → x < f → iN I x = 0 ∧ iM I x = 0 ∧ ∀ w, 0 ≤ w → w < iW I → iO I x w = 0) : Ct G LY 57 l 1 m6_space [vR 24, vI f] M (RP (fun v M' => Fr [35] [] M M' ∧ v = SPC I ∧ (planI I → 0 < iW I → M' 35 (iW I - 1) = MC I 1))) := by
  refine R_start (by decide +kernel) (Nat.le_of_ble_eq_true rfl) (fun C hC hRm hlau => ?_)
  show RZ G LY C (Zn G LY 57 C (RP (fun v M' => Fr [35] [] M M' ∧ v = SPC I ∧ (planI I → 0 < iW I → M' 35 (iW I - 1) = MC I 1)))) 0 0 57 0 [some (vR 24), some (vI f), none, none, none, none, none, none] [] M
  have hLb := hIb.1
  have hWb := hIb.2.1
  have h11 := hI.1.1
  have h12 := hI.1.2.1
  have h13 := hI.1.2.2
  have hpw := hIb.pw
  have hb := hI.2.2.2.2.2.2
  refine R_iconst hC dX6_space_0 ⟨by decide, by decide⟩ ?_
  refine R_istore_2 hC dX6_space_1 rfl ?_
  have L2 : ∀ (mq : Nat) (k : Int) (M1 : Mem), (0 ≤ k) → (k ≤ iW I) → (GR M1) → (Fr [35] [] M M1) → (∀ i, 0 ≤ i → i < k → M1 35 i = 1000) → (iW I - k).toNat < mq → RZ G LY C (Zn G LY 57 C (RP (fun v M' => Fr [35] [] M M' ∧ v = SPC I ∧ (planI I → 0 < iW I → M' 35 (iW I - 1) = MC I 1)))) 0 0 57 2 [some (vR 24), some (vI f), some (vI k), none, none, none, none, none] [] M1 := by
    intro mq
    induction mq with
    | zero =>
      intro k M1 hk0 hk1 hg hF hA hm
      exact absurd hm (Nat.not_lt_zero _)
    | succ mq ih2 =>
      intro k M1 hk0 hk1 hg hF hA hm2
      have q12 : M1 24 12 = iW I := (hF.at (by decide)).trans h12
      refine R_iload_2 hC dX6_space_2 ?_
      refine R_aload_0 hC dX6_space_3 ?_
      refine R_getI hC dX6_space_4 fl_6_66 (by decide) rfl (by decide) (by decide) (fi := 12) rfl ?_
      refine R_icmp_ge hC dX6_space_7 (tgt := 25) (by decide) (fun hb7 => ?_) (fun hb7 => ?_)
      · skip
        refine R_iconst hC dX6_space_25 ⟨by decide, by decide⟩ ?_
        refine R_iload_1 hC dX6_space_26 ?_
        refine R_shl1 hC dX6_space_27 (by omega) (by omega) ?_
        refine R_istore_2 hC dX6_space_28 rfl ?_
        have hpf := pw_le6 hf0 (show f ≤ 5 by omega)
        have hpfl := pw_le hf0 hf1
        have q34 : M1 34 = M 34 := hF.row (by decide) (by decide)
        have q13 : M1 24 13 = 2 ^ (iL I).toNat := (hF.at (by decide)).trans h13
        have qls : M1 34 (M1 24 13 - 1) = lsum I := by rw [q34, q13]; exact (hI.2.2.2.2.1 _ (by omega) (by omega)).2
        have bls := (hIb.lm hIb.fs.1 hIb.fs.2.1).2
        have bl0 := (hIb.ssM hIb.fs.1 hIb.fs.2.1).1
        have bl0 : 0 ≤ lsum I := bl0
        refine R_aload_0 hC dX6_space_29 ?_
        refine R_getR hC dX6_space_30 fl_6_39 (by decide) rfl (by decide) (by decide) (fi := 9) rfl (r := 34) (gr_24_9 hg) ?_
        refine R_aload_0 hC dX6_space_33 ?_
        refine R_getI hC dX6_space_34 fl_6_45 (by decide) rfl (by decide) (by decide) (fi := 13) rfl ?_
        refine R_iconst hC dX6_space_37 ⟨by decide, by decide⟩ ?_
        refine R_isub hC dX6_space_38 ⟨by omega, by omega⟩ ?_
        refine R_iaload hC dX6_space_39 (by decide) rfl (by omega) (by omega) ?_
        rw [qls]
        refine R_istore_3 hC dX6_space_40 rfl ?_
        refine R_iconst hC dX6_space_41 ⟨by decide, by decide⟩ ?_
        refine R_istore_4 hC dX6_space_42 rfl ?_
        have L44 : ∀ (mq : Nat) (t : Int) (M2 : Mem), (0 ≤ t) → (t ≤ 2 ^ (iL I).toNat) → (t % 2 ^ f.toNat = 0) → (GR M2) → (Fr [35] [] M M2) → (∀ i, 0 ≤ i → i < iW I → ∀ u, 0 ≤ u → u < t → M2 35 i ≤ cutP I (M 30) (i + 1) u) → (∀ i, 0 ≤ i → i < iW I → M2 35 i = 1000 ∨ ∃ u, 0 ≤ u ∧ u < 2 ^ (iL I).toNat ∧ M2 35 i = cutP I (M 30) (i + 1) u) → (∀ u, 0 ≤ u → u < t → lackI I u ≤ 0) → (2 ^ (iL I).toNat - t).toNat < mq → RZ G LY C (Zn G LY 57 C (RP (fun v M' => Fr [35] [] M M' ∧ v = SPC I ∧ (planI I → 0 < iW I → M' 35 (iW I - 1) = MC I 1)))) 0 0 57 44 [some (vR 24), some (vI f), some (vI ((2 : Int) ^ f.toNat)), some (vI (lsum I)), some (vI t), none, none, none] [] M2 := by
          intro mq
          induction mq with
          | zero =>
            intro t M2 ht0 ht1 htm hg2 hF2 hA2 hE2 hP2 hm
            exact absurd hm (Nat.not_lt_zero _)
          | succ mq ih44 =>
            intro t M2 ht0 ht1 htm hg2 hF2 hA2 hE2 hP2 hm44
            have q13 : M2 24 13 = 2 ^ (iL I).toNat := (hF2.at (by decide)).trans h13
            have q12 : M2 24 12 = iW I := (hF2.at (by decide)).trans h12
            refine R_iload_4 hC dX6_space_44 ?_
            refine R_aload_0 hC dX6_space_46 ?_
            refine R_getI hC dX6_space_47 fl_6_45 (by decide) rfl (by decide) (by decide) (fi := 13) rfl ?_
            refine R_icmp_ge hC dX6_space_50 (tgt := 156) (by decide) (fun hb50 => ?_) (fun hb50 => ?_)
            · skip
              have qt : t = 2 ^ (iL I).toNat := by omega
              have hpl : planI I := fun u u0 u1 => hP2 u u0 (by omega)
              have hM : ∀ i, 0 ≤ i → i < iW I → M2 35 i = MP I (M 30) (i + 1) := fun i i0 i1 => by
                    have hf := hIb.fs
                    refine mnn_eq (fun u u0 u1 => hA2 i i0 i1 u u0 (by omega)) ?_
                    rcases hE2 i i0 i1 with e | ⟨u, u0, u1, e⟩
                    · have h1 := hA2 i i0 i1 0 (by omega) (by omega)
                      have h2 := (hIb.ct hb (show 0 ≤ i + 1 by omega) (by omega) (show (0 : Int) ≤ 0 by omega) (by omega)).2
                      omega
                    · exact ⟨u, u0, by unfold fullS at *; omega, e⟩
              have hI2 : SC M2 I := hI.fr hF2 (by decide) (by decide)
              have q30 : M2 30 = M 30 := hF2.row (by decide) (by decide)
              refine R_aload_0 hC dX6_space_156 ?_
              refine R_callVq (as := []) hC dX6_space_157 mo_6_weighMost ml_6_108 (by decide) rfl rfl (c6_weighMost  hg2 hI2 hIb (fun i i0 i1 => by (rw [hM i i0 i1]; have := MP_bd hIb hb (show 0 ≤ i + 1 by omega) (by omega); omega))) rfl rfl hRm (by decide) (by decide) (Nat.le_of_ble_eq_true rfl) ?_
              exact R_ireturn hC dX6_space_160 rfl (ret_P ⟨hF2, by (rw [SPC_t hpl, sumMC_w hIb hb, q30]; exact sm_congr _ (fun i i0 i1 => by rw [hM i i0 (by omega)])), fun _ hw => by rw [hM _ (by omega) (by omega), MC_1 hIb hb, show iW I - 1 + 1 = iW I by omega]⟩)
            · skip
              have q34t : M2 34 t = ss (iM I) t := (hF2.at (by decide)).trans (hI.2.2.2.2.1 t ht0 (by omega)).2
              have bmt := hIb.ssM ht0 (show t < 2 ^ (iL I).toNat by omega)
              have blt := (hIb.lm ht0 (show t < 2 ^ (iL I).toNat by omega)).1
              have q33 : M2 33 t = ss (iN I) t := (hF2.at (by decide)).trans (hI.2.2.2.2.1 t ht0 (by omega)).1
              have bnt := hIb.ssN ht0 (show t < 2 ^ (iL I).toNat by omega)
              have qcut : lsum I - M2 34 t = cutP I (M 30) (0) t := by rw [q34t]; show _ = _ + 0; omega
              refine R_iload_3 hC dX6_space_53 ?_
              refine R_aload_0 hC dX6_space_54 ?_
              refine R_getR hC dX6_space_55 fl_6_39 (by decide) rfl (by decide) (by decide) (fi := 9) rfl (r := 34) (gr_24_9 hg2) ?_
              refine R_iload_4 hC dX6_space_58 ?_
              refine R_iaload hC dX6_space_60 (by decide) rfl (by omega) (by omega) ?_
              refine R_isub hC dX6_space_61 ⟨by omega, by omega⟩ ?_
              refine R_istore_5 hC dX6_space_62 rfl ?_
              refine R_iload_5 hC dX6_space_64 ?_
              refine R_aload_0 hC dX6_space_66 ?_
              refine R_getR hC dX6_space_67 fl_6_36 (by decide) rfl (by decide) (by decide) (fi := 8) rfl (r := 33) (gr_24_8 hg2) ?_
              refine R_iload_4 hC dX6_space_70 ?_
              refine R_iaload hC dX6_space_72 (by decide) rfl (by omega) (by omega) ?_
              refine R_iadd hC dX6_space_73 ⟨by omega, by omega⟩ ?_
              refine R_istore_6 hC dX6_space_74 rfl ?_
              refine R_iconst hC dX6_space_76 ⟨by decide, by decide⟩ ?_
              refine R_istore_7 hC dX6_space_77 rfl ?_
              have L79 : ∀ (mq : Nat) (cut : Int) (i : Int) (M3 : Mem), (0 ≤ i) → (i ≤ iW I) → (GR M3) → (Fr [35] [] M M3) → (cut = cutP I (M 30) (i) t) → (∀ i, 0 ≤ i → i < iW I → ∀ u, 0 ≤ u → u < t → M3 35 i ≤ cutP I (M 30) (i + 1) u) → (∀ j, 0 ≤ j → j < i → M3 35 j ≤ cutP I (M 30) (j + 1) t) → (∀ i, 0 ≤ i → i < iW I → M3 35 i = 1000 ∨ ∃ u, 0 ≤ u ∧ u < 2 ^ (iL I).toNat ∧ M3 35 i = cutP I (M 30) (i + 1) u) → (iW I - i).toNat < mq → RZ G LY C (Zn G LY 57 C (RP (fun v M' => Fr [35] [] M M' ∧ v = SPC I ∧ (planI I → 0 < iW I → M' 35 (iW I - 1) = MC I 1)))) 0 0 57 79 [some (vR 24), some (vI f), some (vI ((2 : Int) ^ f.toNat)), some (vI (lsum I)), some (vI t), some (vI cut), some (vI ((lsum I - (M2 34 t)) + (M2 33 t))), some (vI i)] [] M3 := by
                intro mq
                induction mq with
                | zero =>
                  intro cut i M3 hi0 hi1 hg3 hF3 hc3 hA3 hT3 hE3 hm
                  exact absurd hm (Nat.not_lt_zero _)
                | succ mq ih79 =>
                  intro cut i M3 hi0 hi1 hg3 hF3 hc3 hA3 hT3 hE3 hm79
                  have q12 : M3 24 12 = iW I := (hF3.at (by decide)).trans h12
                  refine R_iload_7 hC dX6_space_79 ?_
                  refine R_aload_0 hC dX6_space_81 ?_
                  refine R_getI hC dX6_space_82 fl_6_66 (by decide) rfl (by decide) (by decide) (fi := 12) rfl ?_
                  refine R_icmp_ge hC dX6_space_85 (tgt := 138) (by decide) (fun hb85 => ?_) (fun hb85 => ?_)
                  · skip
                    have qi : i = iW I := by omega
                    refine R_iload_5 hC dX6_space_138 ?_
                    refine R_iload_6 hC dX6_space_140 ?_
                    refine R_icmp_ge hC dX6_space_142 (tgt := 147) (by decide) (fun hb142 => ?_) (fun hb142 => ?_)
                    · skip
                      have htp : t < 2 ^ (iL I).toNat := by omega
                      have hstep : t + 2 ^ f.toNat ≤ 2 ^ (iL I).toNat := pstep hf0 hf1 hLb.2 rfl rfl htm htp
                      have hsame : ∀ k, 0 ≤ k → k ≤ iW I → ∀ u, t ≤ u → u < t + 2 ^ f.toNat → cutP I (M 30) (k) u = cutP I (M 30) (k) t ∧ lackI I u = lackI I t := fun k k0 k1 u u0 u1 => by
                            have z1 : ss (iM I) u = ss (iM I) t := ss_low hf0 (by omega) rfl ht0 htm u0 u1 (fun x x0 x1 => (hz x x0 x1).2.1)
                            have z2 : ss (iN I) u = ss (iN I) t := ss_low hf0 (by omega) rfl ht0 htm u0 u1 (fun x x0 x1 => (hz x x0 x1).1)
                            have z3 : ∀ w, 0 ≤ w → w < iW I → canw I w u = canw I w t := fun w w0 w1 => by
                              unfold canw
                              rw [ss_low (f := fun x => iO I x w) hf0 (by omega) rfl ht0 htm u0 u1 (fun x x0 x1 => (hz x x0 x1).2.2 w w0 w1)]
                            refine ⟨?_, ?_⟩
                            · unfold cutP
                              rw [z1, sm_congr k.toNat (fun j j0 j1 => z3 _ (hb.1 j j0 (by omega)).1 (hb.1 j j0 (by omega)).2)]
                            · unfold lackI canI
                              rw [z2, sm_congr (iW I).toNat (fun w w0 w1 => z3 w w0 (by omega))]
                      refine R_iload_4 hC dX6_space_147 ?_
                      refine R_iload_2 hC dX6_space_149 ?_
                      refine R_iadd hC dX6_space_150 ⟨by omega, by omega⟩ ?_
                      refine R_istore_4 hC dX6_space_151 rfl ?_
                      refine R_goto hC dX6_space_153 (tgt := 44) (by decide) ?_
                      refine R_weak (subL_c (subL_c (subL_c (subL_c (subL_c (subL_d (subL_d (subL_d subL_n)))))))) ?_
                      exact ih44 _ _ (by omega) hstep (pmod htm) hg3 hF3 (fun i a b u u0 u1 => by (by_cases q : u < t; exact hA3 i a b u u0 q); rw [(hsame (i + 1) (by omega) (by omega) u (by omega) u1).1]; exact hT3 i a (by omega)) hE3 (fun u u0 u1 => by (by_cases q : u < t; exact hP2 u u0 q); rw [(hsame (iW I) (by omega) (by omega) u (by omega) u1).2]; rw [hc3, qi, cutP_all hb] at hb142; rw [q33] at hb142; unfold lackI; omega) (by omega)
                    · skip
                      refine R_iconst hC dX6_space_145 ⟨by decide, by decide⟩ ?_
                      exact R_ireturn hC dX6_space_146 rfl (ret_P ⟨hF3, (SPC_f (fun q => by (have := q t ht0 (by omega); rw [hc3, qi, cutP_all hb] at hb142; rw [q33] at hb142; unfold lackI at this; omega))).symm, fun q => by (exfalso; have := q t ht0 (by omega); rw [hc3, qi, cutP_all hb] at hb142; rw [q33] at hb142; unfold lackI at this; omega)⟩)
                  · skip
                    have bi := hb.1 i hi0 (by omega)
                    have q30 : M3 30 i = M 30 i := hF3.at (by decide)
                    have q107 : M3 32 (M3 30 i * 32 + t) = canw I (M 30 i) t := by rw [q30, hF3.at (by decide)]; exact (hI.2.2.2.2.2.1 _ bi.1 bi.2 t ht0 (by omega)).2
                    have b107 := hIb.cw bi.1 bi.2 ht0 (show t < 2 ^ (iL I).toNat by omega)
                    have bc3 := hIb.ct hb hi0 hi1 ht0 (show t < 2 ^ (iL I).toNat by omega)
                    refine R_iload_5 hC dX6_space_88 ?_
                    refine R_aload_0 hC dX6_space_90 ?_
                    refine R_getR hC dX6_space_91 fl_6_33 (by decide) rfl (by decide) (by decide) (fi := 7) rfl (r := 32) (gr_24_7 hg3) ?_
                    refine R_aload_0 hC dX6_space_94 ?_
                    refine R_getR hC dX6_space_95 fl_6_27 (by decide) rfl (by decide) (by decide) (fi := 5) rfl (r := 30) (gr_24_5 hg3) ?_
                    refine R_iload_7 hC dX6_space_98 ?_
                    refine R_iaload hC dX6_space_100 (by decide) rfl (by omega) (by omega) ?_
                    refine R_bipush hC dX6_space_101 (by decide +kernel) ⟨by decide, by decide⟩ ?_
                    refine R_imul hC dX6_space_103 ⟨by omega, by omega⟩ ?_
                    refine R_iload_4 hC dX6_space_104 ?_
                    refine R_iadd hC dX6_space_106 ⟨by omega, by omega⟩ ?_
                    refine R_iaload hC dX6_space_107 (by decide) rfl (by omega) (by omega) ?_
                    refine R_iadd hC dX6_space_108 ⟨by omega, by omega⟩ ?_
                    refine R_istore_5 hC dX6_space_109 rfl ?_
                    refine R_iload_5 hC dX6_space_111 ?_
                    refine R_aload_0 hC dX6_space_113 ?_
                    refine R_getR hC dX6_space_114 fl_6_42 (by decide) rfl (by decide) (by decide) (fi := 10) rfl (r := 35) (gr_24_10 hg3) ?_
                    refine R_iload_7 hC dX6_space_117 ?_
                    refine R_iaload hC dX6_space_119 (by decide) rfl (by omega) (by omega) ?_
                    refine R_icmp_ge hC dX6_space_120 (tgt := 132) (by decide) (fun hb120 => ?_) (fun hb120 => ?_)
                    · skip
                      refine R_iinc_7 hC dX6_space_132 rfl ⟨by omega, by omega⟩ ?_
                      refine R_goto hC dX6_space_135 (tgt := 79) (by decide) ?_
                      exact ih79 _ _ _ (by omega) (by omega) hg3 (by first | exact Fr.uA hF3 (by decide) | exact hF3) (by rw [hc3, q107, cutP_s hi0 rfl]) (by first | exact hA3 | exact (fun j a b u u0 u1 => by (by_cases q : j = i; (rw [uM_at q]; have := hA3 i hi0 (by omega) u u0 u1; subst q; omega)); rw [uM_k q]; exact hA3 j a b u u0 u1)) (by first | exact (fun j a b => by (by_cases q : j = i; (rw [uM_at q, q, cutP_s hi0 rfl, hc3, q107]; omega)); rw [uM_k q]; exact hT3 j a (by omega)) | exact (fun j a b => by (by_cases q : j = i; (rw [q, cutP_s hi0 rfl]; rw [hc3, q107] at hb120; omega)); exact hT3 j a (by omega))) (by first | exact hE3 | exact (fun j a b => by (by_cases q : j = i; (rw [uM_at q]; exact .inr ⟨t, ht0, by omega, by rw [q, cutP_s hi0 rfl, hc3, q107]⟩)); rw [uM_k q]; exact hE3 j a b)) (by omega)
                    · skip
                      refine R_aload_0 hC dX6_space_123 ?_
                      refine R_getR hC dX6_space_124 fl_6_42 (by decide) rfl (by decide) (by decide) (fi := 10) rfl (r := 35) (gr_24_10 hg3) ?_
                      refine R_iload_7 hC dX6_space_127 ?_
                      refine R_iload_5 hC dX6_space_129 ?_
                      refine R_iastore hC dX6_space_131 (by decide) rfl (by omega) (by omega) ?_
                      refine R_iinc_7 hC dX6_space_132 rfl ⟨by omega, by omega⟩ ?_
                      refine R_goto hC dX6_space_135 (tgt := 79) (by decide) ?_
                      have hG1 : GR (uM M3 35 i (cut + (M3 32 (((M3 30 i) * 32) + t)))) := (GR.uA hg3 (by decide +kernel) (.inl (by decide)))
                      exact ih79 _ _ _ (by omega) (by omega) hG1 (by first | exact Fr.uA hF3 (by decide) | exact hF3) (by rw [hc3, q107, cutP_s hi0 rfl]) (by first | exact hA3 | exact (fun j a b u u0 u1 => by (by_cases q : j = i; (rw [uM_at q]; have := hA3 i hi0 (by omega) u u0 u1; subst q; omega)); rw [uM_k q]; exact hA3 j a b u u0 u1)) (by first | exact (fun j a b => by (by_cases q : j = i; (rw [uM_at q, q, cutP_s hi0 rfl, hc3, q107]; omega)); rw [uM_k q]; exact hT3 j a (by omega)) | exact (fun j a b => by (by_cases q : j = i; (rw [q, cutP_s hi0 rfl]; rw [hc3, q107] at hb120; omega)); exact hT3 j a (by omega))) (by first | exact hE3 | exact (fun j a b => by (by_cases q : j = i; (rw [uM_at q]; exact .inr ⟨t, ht0, by omega, by rw [q, cutP_s hi0 rfl, hc3, q107]⟩)); rw [uM_k q]; exact hE3 j a b)) (by omega)
              exact L79 _ _ _ _ (by omega) (by omega) hg2 hF2 qcut hA2 (fun j a b => by omega) hE2 (Nat.lt_succ_self _)
        have qk : k = iW I := by omega
        have q34 : M1 34 = M 34 := hF.row (by decide) (by decide)
        have q13 : M1 24 13 = 2 ^ (iL I).toNat := (hF.at (by decide)).trans h13
        exact L44 _ _ _ (by omega) (by omega) (by simp) hg hF (fun i a b u c e => by omega) (fun i a b => .inl (hA i a (by omega))) (fun u a b => by omega) (Nat.lt_succ_self _)
      · skip
        refine R_aload_0 hC dX6_space_10 ?_
        refine R_getR hC dX6_space_11 fl_6_42 (by decide) rfl (by decide) (by decide) (fi := 10) rfl (r := 35) (gr_24_10 hg) ?_
        refine R_iload_2 hC dX6_space_14 ?_
        refine R_sipush hC dX6_space_15 (by decide +kernel) ⟨by decide, by decide⟩ ?_
        refine R_iastore hC dX6_space_18 (by decide) rfl (by omega) (by omega) ?_
        refine R_iinc_2 hC dX6_space_19 rfl ⟨by omega, by omega⟩ ?_
        refine R_goto hC dX6_space_22 (tgt := 2) (by decide) ?_
        have hG2 : GR (uM M1 35 k 1000) := (GR.uA hg (by decide +kernel) (.inl (by decide)))
        exact ih2 _ _ (by omega) (by omega) hG2 (Fr.uA hF (by decide)) (row_set hA rfl rfl) (by omega)
  exact L2 _ _ _ (by omega) (by omega) hG Fr.rf (fun i a b => by omega) (Nat.lt_succ_self _)
theorem dX6_copiesOfPlan_0 : decode cX6_copiesOfPlan 0 = .ok (.aload_n 0, 1) := by decide +kernel
theorem dX6_copiesOfPlan_1 : decode cX6_copiesOfPlan 1 = .ok (.getfield 66, 3) := by decide +kernel
theorem dX6_copiesOfPlan_4 : decode cX6_copiesOfPlan 4 = .ok (.ifCond .ne 7, 3) := by decide +kernel
theorem dX6_copiesOfPlan_7 : decode cX6_copiesOfPlan 7 = .ok (.iconst 0, 1) := by decide +kernel
theorem dX6_copiesOfPlan_8 : decode cX6_copiesOfPlan 8 = .ok (.goto 14, 3) := by decide +kernel
theorem dX6_copiesOfPlan_11 : decode cX6_copiesOfPlan 11 = .ok (.aload_n 0, 1) := by decide +kernel
theorem dX6_copiesOfPlan_12 : decode cX6_copiesOfPlan 12 = .ok (.getfield 42, 3) := by decide +kernel
theorem dX6_copiesOfPlan_15 : decode cX6_copiesOfPlan 15 = .ok (.aload_n 0, 1) := by decide +kernel
theorem dX6_copiesOfPlan_16 : decode cX6_copiesOfPlan 16 = .ok (.getfield 66, 3) := by decide +kernel
theorem dX6_copiesOfPlan_19 : decode cX6_copiesOfPlan 19 = .ok (.iconst 1, 1) := by decide +kernel
theorem dX6_copiesOfPlan_20 : decode cX6_copiesOfPlan 20 = .ok (.isub, 1) := by decide +kernel
theorem dX6_copiesOfPlan_21 : decode cX6_copiesOfPlan 21 = .ok (.iaload, 1) := by decide +kernel
theorem dX6_copiesOfPlan_22 : decode cX6_copiesOfPlan 22 = .ok (.ireturn, 1) := by decide +kernel
set_option maxHeartbeats 400000 in
theorem c6_copiesOfPlan {G : Gl} {l : Launch}  {M : Mem} {I : Ins} (hG : GR M) (hI : SC M I) (hIb : IB I) (hm : 0 < iW I → M 35 (iW I - 1) = MC I 1) : Ct G LY 57 l 0 m6_copiesOfPlan [vR 24] M (Ret (vI (if iW I = 0 then 0 else MC I 1)) M) := by
  refine R_start (by decide +kernel) (Nat.le_of_ble_eq_true rfl) (fun C hC hRm hlau => ?_)
  show RZ G LY C (Zn G LY 57 C (Ret (vI (if iW I = 0 then 0 else MC I 1)) M)) 0 0 57 0 [some (vR 24)] [] M
  have hLb := hIb.1
  have hWb := hIb.2.1
  have h11 := hI.1.1
  have h12 := hI.1.2.1
  have h13 := hI.1.2.2
  have hpw := hIb.pw
  refine R_aload_0 hC dX6_copiesOfPlan_0 ?_
  refine R_getI hC dX6_copiesOfPlan_1 fl_6_66 (by decide) rfl (by decide) (by decide) (fi := 12) rfl ?_
  refine R_if_ne hC dX6_copiesOfPlan_4 (tgt := 11) (by decide) (fun hb4 => ?_) (fun hb4 => ?_)
  · skip
    refine R_aload_0 hC dX6_copiesOfPlan_11 ?_
    refine R_getR hC dX6_copiesOfPlan_12 fl_6_42 (by decide) rfl (by decide) (by decide) (fi := 10) rfl (r := 35) (gr_24_10 hG) ?_
    refine R_aload_0 hC dX6_copiesOfPlan_15 ?_
    refine R_getI hC dX6_copiesOfPlan_16 fl_6_66 (by decide) rfl (by decide) (by decide) (fi := 12) rfl ?_
    refine R_iconst hC dX6_copiesOfPlan_19 ⟨by decide, by decide⟩ ?_
    refine R_isub hC dX6_copiesOfPlan_20 ⟨by omega, by omega⟩ ?_
    refine R_iaload hC dX6_copiesOfPlan_21 (by decide) rfl (by omega) (by omega) ?_
    exact R_ireturn hC dX6_copiesOfPlan_22 rfl (ret_I (by first | (rw [if_pos (by omega)]) | (rw [if_neg (by omega), h12]; exact hm (by omega))))
  · skip
    refine R_iconst hC dX6_copiesOfPlan_7 ⟨by decide, by decide⟩ ?_
    refine R_goto hC dX6_copiesOfPlan_8 (tgt := 22) (by decide) ?_
    exact R_ireturn hC dX6_copiesOfPlan_22 rfl (ret_I (by first | (rw [if_pos (by omega)]) | (rw [if_neg (by omega), h12]; exact hm (by omega))))
