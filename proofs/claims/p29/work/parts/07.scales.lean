/-! Scales: sums over sets, an instance, the order by size -/
def ss (f : Int → Int) (t : Int) : Int := sm 5 (fun x => t / 2 ^ x.toNat % 2 * f x)
theorem ss_e (f : Int → Int) (t : Int) : ss f t = t % 2 * f 0 + t / 2 % 2 * f 1 + t / 4 % 2 * f 2 + t / 8 % 2 * f 3 + t / 16 % 2 * f 4 := by
  show 0 + t / 2 ^ 0 % 2 * f 0 + t / 2 ^ 1 % 2 * f 1 + t / 2 ^ 2 % 2 * f 2 + t / 2 ^ 3 % 2 * f 3 + t / 2 ^ 4 % 2 * f 4 = _
  simp
theorem ss_0 (f : Int → Int) : ss f 0 = 0 := by rw [ss_e]; simp
theorem ss_add (f : Int → Int) {l s p : Int} (h0 : 0 ≤ l) (h1 : l < 5) (hp : p = 2 ^ l.toNat) (h2 : 0 ≤ s) (h3 : s < p) : ss f (p + s) = ss f s + f l := by
  rw [ss_e, ss_e]
  have hl : l = 0 ∨ l = 1 ∨ l = 2 ∨ l = 3 ∨ l = 4 := by omega
  rcases hl with rfl | rfl | rfl | rfl | rfl
  · have hp : p = 1 := hp
    subst hp
    have : s = 0 := by omega
    subst this
    simp
  · have hp : p = 2 := hp
    subst hp
    have e0 : (2 + s) % 2 = s % 2 := by omega
    have e1 : (2 + s) / 2 % 2 = 1 := by omega
    have e1' : s / 2 % 2 = 0 := by omega
    have e2 : (2 + s) / 4 % 2 = s / 4 % 2 := by omega
    have e3 : (2 + s) / 8 % 2 = s / 8 % 2 := by omega
    have e4 : (2 + s) / 16 % 2 = s / 16 % 2 := by omega
    rw [e0, e1, e1', e2, e3, e4]
    omega
  · have hp : p = 4 := hp
    subst hp
    have e0 : (4 + s) % 2 = s % 2 := by omega
    have e1 : (4 + s) / 2 % 2 = s / 2 % 2 := by omega
    have e2 : (4 + s) / 4 % 2 = 1 := by omega
    have e2' : s / 4 % 2 = 0 := by omega
    have e3 : (4 + s) / 8 % 2 = s / 8 % 2 := by omega
    have e4 : (4 + s) / 16 % 2 = s / 16 % 2 := by omega
    rw [e0, e1, e2, e2', e3, e4]
    omega
  · have hp : p = 8 := hp
    subst hp
    have e0 : (8 + s) % 2 = s % 2 := by omega
    have e1 : (8 + s) / 2 % 2 = s / 2 % 2 := by omega
    have e2 : (8 + s) / 4 % 2 = s / 4 % 2 := by omega
    have e3 : (8 + s) / 8 % 2 = 1 := by omega
    have e3' : s / 8 % 2 = 0 := by omega
    have e4 : (8 + s) / 16 % 2 = s / 16 % 2 := by omega
    rw [e0, e1, e2, e3, e3', e4]
    omega
  · have hp : p = 16 := hp
    subst hp
    have e0 : (16 + s) % 2 = s % 2 := by omega
    have e1 : (16 + s) / 2 % 2 = s / 2 % 2 := by omega
    have e2 : (16 + s) / 4 % 2 = s / 4 % 2 := by omega
    have e3 : (16 + s) / 8 % 2 = s / 8 % 2 := by omega
    have e4 : (16 + s) / 16 % 2 = 1 := by omega
    have e4' : s / 16 % 2 = 0 := by omega
    rw [e0, e1, e2, e3, e4, e4']
    omega
theorem pw_cases {L : Int} (h0 : 0 ≤ L) (h1 : L ≤ 5) : (L = 0 ∧ (2 : Int) ^ L.toNat = 1) ∨ (L = 1 ∧ (2 : Int) ^ L.toNat = 2) ∨ (L = 2 ∧ (2 : Int) ^ L.toNat = 4) ∨ (L = 3 ∧ (2 : Int) ^ L.toNat = 8) ∨ (L = 4 ∧ (2 : Int) ^ L.toNat = 16) ∨ (L = 5 ∧ (2 : Int) ^ L.toNat = 32) := by
  have hl : L = 0 ∨ L = 1 ∨ L = 2 ∨ L = 3 ∨ L = 4 ∨ L = 5 := by omega
  rcases hl with rfl | rfl | rfl | rfl | rfl | rfl <;> decide
theorem ss_congr {f g : Int → Int} {L t : Int} (h0 : 0 ≤ L) (h1 : L ≤ 5) (h2 : 0 ≤ t) (h3 : t < 2 ^ L.toNat) (h : ∀ x, 0 ≤ x → x < L → f x = g x) : ss f t = ss g t := by
  unfold ss
  refine sm_congr 5 (fun x hx0 hx1 => ?_)
  by_cases e : x < L
  · show _ * f x = _ * g x
    rw [h x hx0 e]
  · have hx : t / 2 ^ x.toNat = 0 := by
      have : (2 : Int) ^ L.toNat ≤ 2 ^ x.toNat := by
        have := Nat.pow_le_pow_right (show 0 < 2 by decide) (show L.toNat ≤ x.toNat by omega)
        have h5 : ((2 ^ L.toNat : Nat) : Int) ≤ ((2 ^ x.toNat : Nat) : Int) := Int.ofNat_le.mpr this
        rwa [p2c, p2c] at h5
      exact Int.ediv_eq_zero_of_lt h2 (by omega)
    rw [hx]
    simp
theorem bt_01 (t : Int) (n : Nat) : t / 2 ^ n % 2 = 0 ∨ t / 2 ^ n % 2 = 1 := by omega
theorem ss_bd {f : Int → Int} {t b L : Int} (h0 : 0 ≤ L) (h1 : L ≤ 5) (h2 : 0 ≤ t) (h3 : t < 2 ^ L.toNat) (h : ∀ x, 0 ≤ x → x < L → 0 ≤ f x ∧ f x ≤ b) (hb : 0 ≤ b) : 0 ≤ ss f t ∧ ss f t ≤ 5 * b := by
  have e : ss f t = ss (fun x => if x < L then f x else 0) t := ss_congr h0 h1 h2 h3 (fun x _ hx => by simp [hx])
  rw [e]
  have := sm_bd (f := fun x => t / 2 ^ x.toNat % 2 * (if x < L then f x else 0)) (b := b) 5 (fun x hx _ => by
    have hv : 0 ≤ (if x < L then f x else 0) ∧ (if x < L then f x else 0) ≤ b := by
      split
      · rename_i q
        exact h x hx q
      · omega
    rcases bt_01 t x.toNat with q | q
    · show 0 ≤ _ * _ ∧ _ * _ ≤ b
      rw [q]; omega
    · show 0 ≤ _ * _ ∧ _ * _ ≤ b
      rw [q]; omega)
  exact this
/-- an order of 0 .. n-1 by z, the greatest first -/
def RK (n : Int) (z b : Int → Int) : Prop := (∀ i, 0 ≤ i → i < n → 0 ≤ b i ∧ b i < n) ∧ (∀ i, 0 ≤ i → i + 1 < n → z (b (i + 1)) ≤ z (b i)) ∧ (∀ g : Int → Int, sm n.toNat (fun i => g (b i)) = sm n.toNat g) ∧ ∀ i, 0 ≤ i → i + 1 < n → z (b (i + 1)) = z (b i) → b i < b (i + 1)
def ins (b : Int → Int) (a v : Int) : Int → Int := fun i => if i < a then b i else if i = a then v else b (i - 1)
theorem sm_ins (g b : Int → Int) (a v : Int) (h0 : 0 ≤ a) : ∀ n : Nat, a ≤ n → sm (n + 1) (fun i => g (ins b a v i)) = sm n (fun i => g (b i)) + g v
  | 0, h => by
    have : a = 0 := by omega
    subst this
    simp [sm, ins]
  | n + 1, h => by
    by_cases e : a = ((n + 1 : Nat) : Int)
    · rw [sm]
      have e1 : sm (n + 1) (fun i => g (ins b a v i)) = sm (n + 1) (fun i => g (b i)) := sm_congr _ (fun k _ hk => by simp [ins, show k < a by omega])
      rw [e1]
      simp [ins, e]
    · rw [sm, sm_ins g b a v h0 n (by omega), sm]
      have : ins b a v ((n + 1 : Nat) : Int) = b n := by
        unfold ins
        rw [if_neg (by omega), if_neg (by omega)]
        congr 1
        omega
      rw [this]
      omega
theorem RK_ins {w a : Int} {z b : Int → Int} (h : RK w z b) (h0 : 0 ≤ a) (h1 : a ≤ w) (hl : ∀ i, a ≤ i → i < w → z (b i) < z w) (hg : 0 < a → z w ≤ z (b (a - 1))) : RK (w + 1) z (ins b a w) := by
  refine ⟨fun i i0 i1 => ?_, fun i i0 i1 => ?_, fun g => ?_, fun i i0 i1 => ?_⟩
  · unfold ins
    split
    · have := h.1 i i0 (by omega); omega
    split
    · omega
    · have := h.1 (i - 1) (by omega) (by omega); omega
  · unfold ins
    by_cases e1 : i + 1 < a
    · rw [if_pos e1, if_pos (by omega)]
      exact h.2.1 i i0 (by omega)
    · by_cases e2 : i + 1 = a
      · rw [if_neg e1, if_pos e2, if_pos (by omega)]
        have := hg (by omega)
        rwa [show a - 1 = i by omega] at this
      · rw [if_neg e1, if_neg e2, if_neg (by omega)]
        by_cases e3 : i = a
        · rw [if_pos e3, show i + 1 - 1 = i by omega]
          exact Int.le_of_lt (hl i (by omega) (by omega))
        · rw [if_neg e3]
          have := h.2.1 (i - 1) (by omega) (by omega)
          rwa [show i - 1 + 1 = i + 1 - 1 by omega] at this
  · have e : (w + 1).toNat = w.toNat + 1 := by omega
    rw [e, sm_ins g b a w h0 w.toNat (by omega), h.2.2.1 g, sm]
    congr 2
    omega
  · unfold ins
    by_cases e1 : i + 1 < a
    · rw [if_pos e1, if_pos (by omega)]
      exact h.2.2.2 i i0 (by omega)
    · by_cases e2 : i + 1 = a
      · rw [if_neg e1, if_pos e2, if_pos (by omega)]
        intro _
        exact (h.1 i i0 (by omega)).2
      · rw [if_neg e1, if_neg e2, if_neg (by omega)]
        by_cases e3 : i = a
        · rw [if_pos e3, show i + 1 - 1 = i by omega]
          intro q
          have := hl i (by omega) (by omega)
          omega
        · rw [if_neg e3]
          have := h.2.2.2 (i - 1) (by omega) (by omega)
          rwa [show i - 1 + 1 = i + 1 - 1 by omega] at this
theorem RK_congr {n : Int} {z z' b b' : Int → Int} (h : RK n z b) (hb : ∀ i, 0 ≤ i → i < n → b' i = b i) (hz : ∀ i, 0 ≤ i → i < n → z' i = z i) : RK n z' b' := by
  refine ⟨fun i i0 i1 => by rw [hb i i0 i1]; exact h.1 i i0 i1, fun i i0 i1 => ?_, fun g => ?_, fun i i0 i1 => ?_⟩
  · rw [hb i i0 (by omega), hb (i + 1) (by omega) i1, hz _ (h.1 i i0 (by omega)).1 (h.1 i i0 (by omega)).2, hz _ (h.1 (i + 1) (by omega) i1).1 (h.1 (i + 1) (by omega) i1).2]
    exact h.2.1 i i0 i1
  · rw [← h.2.2.1 g]
    exact sm_congr _ (fun k k0 k1 => by rw [hb k k0 (by omega)])
  · rw [hb i i0 (by omega), hb (i + 1) (by omega) i1, hz _ (h.1 i i0 (by omega)).1 (h.1 i i0 (by omega)).2, hz _ (h.1 (i + 1) (by omega) i1).1 (h.1 (i + 1) (by omega) i1).2]
    exact h.2.2.2 i i0 i1
theorem RK_0 (z b : Int → Int) : RK 0 z b := ⟨fun i h0 h1 => by omega, fun i h0 h1 => by omega, fun g => rfl, fun i h0 h1 => by omega⟩
/-- what THE PLAN depends on: how many LIBRARIES, WORKS, then offers, spares, needs, limits, sizes -/
abbrev Ins : Type := (Int × Int) × (Int → Int → Int) × (Int → Int) × (Int → Int) × (Int → Int) × (Int → Int)
def iL (I : Ins) : Int := I.1.1
def iW (I : Ins) : Int := I.1.2
def iO (I : Ins) : Int → Int → Int := I.2.1
def iS (I : Ins) : Int → Int := I.2.2.1
def iN (I : Ins) : Int → Int := I.2.2.2.1
def iM (I : Ins) : Int → Int := I.2.2.2.2.1
def iZ (I : Ins) : Int → Int := I.2.2.2.2.2
def up (f : Int → Int) (k v : Int) : Int → Int := fun j => if j = k then v else f j
def setS (I : Ins) (w v : Int) : Ins := (I.1, iO I, up (iS I) w v, iN I, iM I, iZ I)
def setO (I : Ins) (x w v : Int) : Ins := (I.1, fun a b => if a = x ∧ b = w then v else iO I a b, iS I, iN I, iM I, iZ I)
def setNM (I : Ins) (x a b : Int) : Ins := (I.1, iO I, iS I, up (iN I) x a, up (iM I) x b, iZ I)
/-- of a Stock -/
def insOf (c : Int → Int) : Ins := ((c 121, c 122), offr c, spr c, nee c, fun x => max (nee c x) (c (5 + x)), fun w => c (10 + w))
def IB (I : Ins) : Prop := (0 ≤ iL I ∧ iL I ≤ 5) ∧ (0 ≤ iW I ∧ iW I ≤ 6) ∧ (∀ x w, 0 ≤ x → x < iL I → 0 ≤ w → w < iW I → 0 ≤ iO I x w ∧ iO I x w ≤ 3) ∧ (∀ w, 0 ≤ w → w < iW I → (0 ≤ iS I w ∧ iS I w ≤ 1000) ∧ 1 ≤ iZ I w ∧ iZ I w ≤ 9) ∧ ∀ x, 0 ≤ x → x < iL I → (0 ≤ iN I x ∧ iN I x ≤ iM I x) ∧ iM I x ≤ 100
/-- the Scales hold an instance -/
def SC (M : Mem) (I : Ins) : Prop := (M 24 11 = iL I ∧ M 24 12 = iW I ∧ M 24 13 = 2 ^ (iL I).toNat) ∧
  (∀ x, 0 ≤ x → x < iL I → M 27 x = iN I x ∧ M 28 x = iM I x) ∧ (∀ x w, 0 ≤ x → x < iL I → 0 ≤ w → w < iW I → M 25 (x * 6 + w) = iO I x w) ∧ (∀ w, 0 ≤ w → w < iW I → M 26 w = iS I w ∧ M 29 w = iZ I w) ∧
  (∀ t, 0 ≤ t → t < 2 ^ (iL I).toNat → M 33 t = ss (iN I) t ∧ M 34 t = ss (iM I) t) ∧
  (∀ w, 0 ≤ w → w < iW I → ∀ t, 0 ≤ t → t < 2 ^ (iL I).toNat → M 31 (w * 32 + t) = ss (fun x => iO I x w) t ∧ M 32 (w * 32 + t) = min (ss (fun x => iO I x w) t) (iS I w)) ∧ RK (iW I) (iZ I) (M 30)
theorem lt1 {t : Int} (h0 : 0 ≤ t) (h1 : t < 2 ^ (0 : Int).toNat) : t = 0 := by
  have : (2 : Int) ^ (0 : Int).toNat = 1 := by decide
  omega
theorem lt2 {a t : Int} (h0 : a ≤ t) (h1 : t < a + 2 ^ (0 : Int).toNat) : t = a := by
  have : (2 : Int) ^ (0 : Int).toNat = 1 := by decide
  omega
theorem pw_s {i : Int} (h : 0 ≤ i) : (2 : Int) ^ (i + 1).toNat = 2 ^ i.toNat + 2 ^ i.toNat := by
  rw [show (i + 1).toNat = i.toNat + 1 by omega, Int.pow_succ]
  omega
theorem pw_le {i j : Int} (h : 0 ≤ i) (h1 : i ≤ j) : (2 : Int) ^ i.toNat ≤ 2 ^ j.toNat := by
  have := Nat.pow_le_pow_right (show 0 < 2 by decide) (show i.toNat ≤ j.toNat by omega)
  have h5 : ((2 ^ i.toNat : Nat) : Int) ≤ ((2 ^ j.toNat : Nat) : Int) := Int.ofNat_le.mpr this
  rwa [p2c, p2c] at h5
theorem pw_le5 {i : Int} (h : 0 ≤ i) (h1 : i < 5) : (2 : Int) ^ i.toNat ≤ 16 := by
  have : ∀ n : Nat, n < 5 → (2 : Int) ^ n ≤ 16 := by decide
  exact this i.toNat (by omega)
theorem pw_le6 {i : Int} (h : 0 ≤ i) (h1 : i ≤ 5) : (1 : Int) ≤ 2 ^ i.toNat ∧ (2 : Int) ^ i.toNat ≤ 32 := by
  have : ∀ n : Nat, n < 6 → (1 : Int) ≤ 2 ^ n ∧ (2 : Int) ^ n ≤ 32 := by decide
  exact this i.toNat (by omega)

theorem dX6_sumNeeds_0 : decode cX6_sumNeeds 0 = .ok (.aload_n 0, 1) := by decide +kernel
theorem dX6_sumNeeds_1 : decode cX6_sumNeeds 1 = .ok (.getfield 36, 3) := by decide +kernel
theorem dX6_sumNeeds_4 : decode cX6_sumNeeds 4 = .ok (.iconst 0, 1) := by decide +kernel
theorem dX6_sumNeeds_5 : decode cX6_sumNeeds 5 = .ok (.iconst 0, 1) := by decide +kernel
theorem dX6_sumNeeds_6 : decode cX6_sumNeeds 6 = .ok (.iastore, 1) := by decide +kernel
theorem dX6_sumNeeds_7 : decode cX6_sumNeeds 7 = .ok (.aload_n 0, 1) := by decide +kernel
theorem dX6_sumNeeds_8 : decode cX6_sumNeeds 8 = .ok (.getfield 39, 3) := by decide +kernel
theorem dX6_sumNeeds_11 : decode cX6_sumNeeds 11 = .ok (.iconst 0, 1) := by decide +kernel
theorem dX6_sumNeeds_12 : decode cX6_sumNeeds 12 = .ok (.iconst 0, 1) := by decide +kernel
theorem dX6_sumNeeds_13 : decode cX6_sumNeeds 13 = .ok (.iastore, 1) := by decide +kernel
theorem dX6_sumNeeds_14 : decode cX6_sumNeeds 14 = .ok (.iconst 0, 1) := by decide +kernel
theorem dX6_sumNeeds_15 : decode cX6_sumNeeds 15 = .ok (.istore_n 1, 1) := by decide +kernel
theorem dX6_sumNeeds_16 : decode cX6_sumNeeds 16 = .ok (.iload_n 1, 1) := by decide +kernel
theorem dX6_sumNeeds_17 : decode cX6_sumNeeds 17 = .ok (.aload_n 0, 1) := by decide +kernel
theorem dX6_sumNeeds_18 : decode cX6_sumNeeds 18 = .ok (.getfield 61, 3) := by decide +kernel
theorem dX6_sumNeeds_21 : decode cX6_sumNeeds 21 = .ok (.if_icmp .ge 68, 3) := by decide +kernel
theorem dX6_sumNeeds_24 : decode cX6_sumNeeds 24 = .ok (.iconst 1, 1) := by decide +kernel
theorem dX6_sumNeeds_25 : decode cX6_sumNeeds 25 = .ok (.iload_n 1, 1) := by decide +kernel
theorem dX6_sumNeeds_26 : decode cX6_sumNeeds 26 = .ok (.ishl, 1) := by decide +kernel
theorem dX6_sumNeeds_27 : decode cX6_sumNeeds 27 = .ok (.istore_n 2, 1) := by decide +kernel
theorem dX6_sumNeeds_28 : decode cX6_sumNeeds 28 = .ok (.iconst 0, 1) := by decide +kernel
theorem dX6_sumNeeds_29 : decode cX6_sumNeeds 29 = .ok (.istore_n 3, 1) := by decide +kernel
theorem dX6_sumNeeds_30 : decode cX6_sumNeeds 30 = .ok (.iload_n 3, 1) := by decide +kernel
theorem dX6_sumNeeds_31 : decode cX6_sumNeeds 31 = .ok (.iload_n 2, 1) := by decide +kernel
theorem dX6_sumNeeds_32 : decode cX6_sumNeeds 32 = .ok (.if_icmp .ge 51, 3) := by decide +kernel
theorem dX6_sumNeeds_35 : decode cX6_sumNeeds 35 = .ok (.aload_n 0, 1) := by decide +kernel
theorem dX6_sumNeeds_36 : decode cX6_sumNeeds 36 = .ok (.getfield 36, 3) := by decide +kernel
theorem dX6_sumNeeds_39 : decode cX6_sumNeeds 39 = .ok (.iload_n 2, 1) := by decide +kernel
theorem dX6_sumNeeds_40 : decode cX6_sumNeeds 40 = .ok (.iload_n 3, 1) := by decide +kernel
theorem dX6_sumNeeds_41 : decode cX6_sumNeeds 41 = .ok (.iadd, 1) := by decide +kernel
theorem dX6_sumNeeds_42 : decode cX6_sumNeeds 42 = .ok (.aload_n 0, 1) := by decide +kernel
theorem dX6_sumNeeds_43 : decode cX6_sumNeeds 43 = .ok (.getfield 36, 3) := by decide +kernel
theorem dX6_sumNeeds_46 : decode cX6_sumNeeds 46 = .ok (.iload_n 3, 1) := by decide +kernel
theorem dX6_sumNeeds_47 : decode cX6_sumNeeds 47 = .ok (.iaload, 1) := by decide +kernel
theorem dX6_sumNeeds_48 : decode cX6_sumNeeds 48 = .ok (.aload_n 0, 1) := by decide +kernel
theorem dX6_sumNeeds_49 : decode cX6_sumNeeds 49 = .ok (.getfield 18, 3) := by decide +kernel
theorem dX6_sumNeeds_52 : decode cX6_sumNeeds 52 = .ok (.iload_n 1, 1) := by decide +kernel
theorem dX6_sumNeeds_53 : decode cX6_sumNeeds 53 = .ok (.iaload, 1) := by decide +kernel
theorem dX6_sumNeeds_54 : decode cX6_sumNeeds 54 = .ok (.iadd, 1) := by decide +kernel
theorem dX6_sumNeeds_55 : decode cX6_sumNeeds 55 = .ok (.iastore, 1) := by decide +kernel
theorem dX6_sumNeeds_56 : decode cX6_sumNeeds 56 = .ok (.aload_n 0, 1) := by decide +kernel
theorem dX6_sumNeeds_57 : decode cX6_sumNeeds 57 = .ok (.getfield 39, 3) := by decide +kernel
theorem dX6_sumNeeds_60 : decode cX6_sumNeeds 60 = .ok (.iload_n 2, 1) := by decide +kernel
theorem dX6_sumNeeds_61 : decode cX6_sumNeeds 61 = .ok (.iload_n 3, 1) := by decide +kernel
theorem dX6_sumNeeds_62 : decode cX6_sumNeeds 62 = .ok (.iadd, 1) := by decide +kernel
theorem dX6_sumNeeds_63 : decode cX6_sumNeeds 63 = .ok (.aload_n 0, 1) := by decide +kernel
theorem dX6_sumNeeds_64 : decode cX6_sumNeeds 64 = .ok (.getfield 39, 3) := by decide +kernel
theorem dX6_sumNeeds_67 : decode cX6_sumNeeds 67 = .ok (.iload_n 3, 1) := by decide +kernel
theorem dX6_sumNeeds_68 : decode cX6_sumNeeds 68 = .ok (.iaload, 1) := by decide +kernel
theorem dX6_sumNeeds_69 : decode cX6_sumNeeds 69 = .ok (.aload_n 0, 1) := by decide +kernel
theorem dX6_sumNeeds_70 : decode cX6_sumNeeds 70 = .ok (.getfield 21, 3) := by decide +kernel
theorem dX6_sumNeeds_73 : decode cX6_sumNeeds 73 = .ok (.iload_n 1, 1) := by decide +kernel
theorem dX6_sumNeeds_74 : decode cX6_sumNeeds 74 = .ok (.iaload, 1) := by decide +kernel
theorem dX6_sumNeeds_75 : decode cX6_sumNeeds 75 = .ok (.iadd, 1) := by decide +kernel
theorem dX6_sumNeeds_76 : decode cX6_sumNeeds 76 = .ok (.iastore, 1) := by decide +kernel
theorem dX6_sumNeeds_77 : decode cX6_sumNeeds 77 = .ok (.iinc 3 1, 3) := by decide +kernel
theorem dX6_sumNeeds_80 : decode cX6_sumNeeds 80 = .ok (.goto (-50), 3) := by decide +kernel
theorem dX6_sumNeeds_83 : decode cX6_sumNeeds 83 = .ok (.iinc 1 1, 3) := by decide +kernel
theorem dX6_sumNeeds_86 : decode cX6_sumNeeds 86 = .ok (.goto (-70), 3) := by decide +kernel
theorem dX6_sumNeeds_89 : decode cX6_sumNeeds 89 = .ok (.return_, 1) := by decide +kernel
set_option maxHeartbeats 400000 in
theorem c6_sumNeeds {G : Gl} {l : Launch}  {M : Mem} (hG : GR M) (hl : 0 ≤ M 24 11 ∧ M 24 11 ≤ 5) (hb : ∀ x, 0 ≤ x → x < M 24 11 → (0 ≤ M 27 x ∧ M 27 x ≤ 600000) ∧ 0 ≤ M 28 x ∧ M 28 x ≤ 600000) : Ct G LY 57 l 0 m6_sumNeeds [vR 24] M (RV (fun M' => Fr [33, 34] [] M M' ∧ (∀ t, 0 ≤ t → t < 2 ^ (M 24 11).toNat → M' 33 t = ss (M 27) t ∧ M' 34 t = ss (M 28) t))) := by
  refine R_start (by decide +kernel) (Nat.le_of_ble_eq_true rfl) (fun C hC hRm hlau => ?_)
  show RZ G LY C (Zn G LY 57 C (RV (fun M' => Fr [33, 34] [] M M' ∧ (∀ t, 0 ≤ t → t < 2 ^ (M 24 11).toNat → M' 33 t = ss (M 27) t ∧ M' 34 t = ss (M 28) t)))) 0 0 57 0 [some (vR 24), none, none, none] [] M
  refine R_aload_0 hC dX6_sumNeeds_0 ?_
  refine R_getR hC dX6_sumNeeds_1 fl_6_36 (by decide) rfl (by decide) (by decide) (fi := 8) rfl (r := 33) (gr_24_8 hG) ?_
  refine R_iconst hC dX6_sumNeeds_4 ⟨by decide, by decide⟩ ?_
  refine R_iconst hC dX6_sumNeeds_5 ⟨by decide, by decide⟩ ?_
  refine R_iastore hC dX6_sumNeeds_6 (by decide) rfl (by omega) (by omega) ?_
  refine R_aload_0 hC dX6_sumNeeds_7 ?_
  have hG1 : GR (uM M 33 0 0) := (GR.uA hG (by decide +kernel) (.inl (by decide)))
  refine R_getR hC dX6_sumNeeds_8 fl_6_39 (by decide) rfl (by decide) (by decide) (fi := 9) rfl (r := 34) (gr_24_9 hG1) ?_
  refine R_iconst hC dX6_sumNeeds_11 ⟨by decide, by decide⟩ ?_
  refine R_iconst hC dX6_sumNeeds_12 ⟨by decide, by decide⟩ ?_
  refine R_iastore hC dX6_sumNeeds_13 (by decide) rfl (by omega) (by omega) ?_
  refine R_iconst hC dX6_sumNeeds_14 ⟨by decide, by decide⟩ ?_
  refine R_istore_1 hC dX6_sumNeeds_15 rfl ?_
  have L16 : ∀ (mq : Nat) (i : Int) (M1 : Mem), (0 ≤ i) → (i ≤ M 24 11) → (GR M1) → (Fr [33, 34] [] M M1) → (∀ t, 0 ≤ t → t < 2 ^ i.toNat → M1 33 t = ss (M 27) t) → (∀ t, 0 ≤ t → t < 2 ^ i.toNat → M1 34 t = ss (M 28) t) → (M 24 11 - i).toNat < mq → RZ G LY C (Zn G LY 57 C (RV (fun M' => Fr [33, 34] [] M M' ∧ (∀ t, 0 ≤ t → t < 2 ^ (M 24 11).toNat → M' 33 t = ss (M 27) t ∧ M' 34 t = ss (M 28) t)))) 0 0 57 16 [some (vR 24), some (vI i), none, none] [] M1 := by
    intro mq
    induction mq with
    | zero =>
      intro i M1 hi0 hi1 hg hF hA hB hm
      exact absurd hm (Nat.not_lt_zero _)
    | succ mq ih16 =>
      intro i M1 hi0 hi1 hg hF hA hB hm16
      have q11 : M1 24 11 = M 24 11 := hF 24 11 (by decide) (by decide)
      have hp := pw_bd hi0 (by omega)
      refine R_iload_1 hC dX6_sumNeeds_16 ?_
      refine R_aload_0 hC dX6_sumNeeds_17 ?_
      refine R_getI hC dX6_sumNeeds_18 fl_6_61 (by decide) rfl (by decide) (by decide) (fi := 11) rfl ?_
      refine R_icmp_ge hC dX6_sumNeeds_21 (tgt := 89) (by decide) (fun hb21 => ?_) (fun hb21 => ?_)
      · skip
        exact R_return hC dX6_sumNeeds_89 rfl (ret_V ⟨hF, fun t h0 h1 => ⟨hA t h0 (by rw [show i = M 24 11 by omega]; exact h1), hB t h0 (by rw [show i = M 24 11 by omega]; exact h1)⟩⟩)
      · skip
        refine R_iconst hC dX6_sumNeeds_24 ⟨by decide, by decide⟩ ?_
        refine R_iload_1 hC dX6_sumNeeds_25 ?_
        refine R_shl1 hC dX6_sumNeeds_26 (by omega) (by omega) ?_
        refine R_istore_2 hC dX6_sumNeeds_27 rfl ?_
        refine R_iconst hC dX6_sumNeeds_28 ⟨by decide, by decide⟩ ?_
        refine R_istore_3 hC dX6_sumNeeds_29 rfl ?_
        have L30 : ∀ (mq : Nat) (j : Int) (M2 : Mem), (0 ≤ j) → (j ≤ 2 ^ i.toNat) → (GR M2) → (Fr [33, 34] [] M M2) → (∀ t, 0 ≤ t → t < 2 ^ i.toNat + j → M2 33 t = ss (M 27) t) → (∀ t, 0 ≤ t → t < 2 ^ i.toNat + j → M2 34 t = ss (M 28) t) → (2 ^ i.toNat - j).toNat < mq → RZ G LY C (Zn G LY 57 C (RV (fun M' => Fr [33, 34] [] M M' ∧ (∀ t, 0 ≤ t → t < 2 ^ (M 24 11).toNat → M' 33 t = ss (M 27) t ∧ M' 34 t = ss (M 28) t)))) 0 0 57 30 [some (vR 24), some (vI i), some (vI ((2 : Int) ^ i.toNat)), some (vI j)] [] M2 := by
          intro mq
          induction mq with
          | zero =>
            intro j M2 hj0 hj1 hg2 hF2 hA2 hB2 hm
            exact absurd hm (Nat.not_lt_zero _)
          | succ mq ih30 =>
            intro j M2 hj0 hj1 hg2 hF2 hA2 hB2 hm30
            refine R_iload_3 hC dX6_sumNeeds_30 ?_
            refine R_iload_2 hC dX6_sumNeeds_31 ?_
            refine R_icmp_ge hC dX6_sumNeeds_32 (tgt := 83) (by decide) (fun hb32 => ?_) (fun hb32 => ?_)
            · skip
              refine R_iinc_1 hC dX6_sumNeeds_83 rfl ⟨by omega, by omega⟩ ?_
              refine R_goto hC dX6_sumNeeds_86 (tgt := 16) (by decide) ?_
              refine R_weak (subL_c (subL_c (subL_d (subL_d subL_n)))) ?_
              exact ih16 _ _ (by omega) (by omega) hg2 hF2 (by intro t h0 h1; exact hA2 t h0 (by have := pw_s hi0; omega)) (by intro t h0 h1; exact hB2 t h0 (by have := pw_s hi0; omega)) (by omega)
            · skip
              have qA : M2 27 i = M 27 i := hF2.at (by decide)
              have qB : M2 28 i = M 28 i := hF2.at (by decide)
              have bA := hb i hi0 (by omega)
              have cA := ss_bd (f := M 27) (b := 600000) (by omega) hl.2 hj0 (show j < 2 ^ (M 24 11).toNat by have := pw_le hi0 (show i ≤ M 24 11 by omega); omega) (fun x a b => (hb x a b).1) (by decide)
              have cB := ss_bd (f := M 28) (b := 600000) (by omega) hl.2 hj0 (show j < 2 ^ (M 24 11).toNat by have := pw_le hi0 (show i ≤ M 24 11 by omega); omega) (fun x a b => (hb x a b).2) (by decide)
              have dA := hA2 j hj0 (by omega)
              have dB := hB2 j hj0 (by omega)
              have hp5 := pw_le5 hi0 (show i < 5 by omega)
              refine R_aload_0 hC dX6_sumNeeds_35 ?_
              refine R_getR hC dX6_sumNeeds_36 fl_6_36 (by decide) rfl (by decide) (by decide) (fi := 8) rfl (r := 33) (gr_24_8 hg2) ?_
              refine R_iload_2 hC dX6_sumNeeds_39 ?_
              refine R_iload_3 hC dX6_sumNeeds_40 ?_
              refine R_iadd hC dX6_sumNeeds_41 ⟨by omega, by omega⟩ ?_
              refine R_aload_0 hC dX6_sumNeeds_42 ?_
              refine R_getR hC dX6_sumNeeds_43 fl_6_36 (by decide) rfl (by decide) (by decide) (fi := 8) rfl (r := 33) (gr_24_8 hg2) ?_
              refine R_iload_3 hC dX6_sumNeeds_46 ?_
              refine R_iaload hC dX6_sumNeeds_47 (by decide) rfl (by omega) (by omega) ?_
              refine R_aload_0 hC dX6_sumNeeds_48 ?_
              refine R_getR hC dX6_sumNeeds_49 fl_6_18 (by decide) rfl (by decide) (by decide) (fi := 2) rfl (r := 27) (gr_24_2 hg2) ?_
              refine R_iload_1 hC dX6_sumNeeds_52 ?_
              refine R_iaload hC dX6_sumNeeds_53 (by decide) rfl (by omega) (by omega) ?_
              refine R_iadd hC dX6_sumNeeds_54 ⟨by omega, by omega⟩ ?_
              refine R_iastore hC dX6_sumNeeds_55 (by decide) rfl (by omega) (by omega) ?_
              refine R_aload_0 hC dX6_sumNeeds_56 ?_
              have hG2 : GR (uM M2 33 (((2 : Int) ^ i.toNat) + j) ((M2 33 j) + (M2 27 i))) := (GR.uA hg2 (by decide +kernel) (.inl (by decide)))
              refine R_getR hC dX6_sumNeeds_57 fl_6_39 (by decide) rfl (by decide) (by decide) (fi := 9) rfl (r := 34) (gr_24_9 hG2) ?_
              refine R_iload_2 hC dX6_sumNeeds_60 ?_
              refine R_iload_3 hC dX6_sumNeeds_61 ?_
              refine R_iadd hC dX6_sumNeeds_62 ⟨by omega, by omega⟩ ?_
              refine R_aload_0 hC dX6_sumNeeds_63 ?_
              refine R_getR hC dX6_sumNeeds_64 fl_6_39 (by decide) rfl (by decide) (by decide) (fi := 9) rfl (r := 34) (gr_24_9 hG2) ?_
              refine R_iload_3 hC dX6_sumNeeds_67 ?_
              refine R_ialoadE hC dX6_sumNeeds_68 (by decide) rfl (by omega) (by omega) (uM_h (by decide)) ?_
              refine R_aload_0 hC dX6_sumNeeds_69 ?_
              refine R_getR hC dX6_sumNeeds_70 fl_6_21 (by decide) rfl (by decide) (by decide) (fi := 3) rfl (r := 28) (gr_24_3 hG2) ?_
              refine R_iload_1 hC dX6_sumNeeds_73 ?_
              refine R_ialoadE hC dX6_sumNeeds_74 (by decide) rfl (by omega) (by omega) (uM_h (by decide)) ?_
              refine R_iadd hC dX6_sumNeeds_75 ⟨by omega, by omega⟩ ?_
              refine R_iastore hC dX6_sumNeeds_76 (by decide) rfl (by omega) (by omega) ?_
              refine R_iinc_3 hC dX6_sumNeeds_77 rfl ⟨by omega, by omega⟩ ?_
              refine R_goto hC dX6_sumNeeds_80 (tgt := 30) (by decide) ?_
              have hG3 : GR (uM (uM M2 33 (((2 : Int) ^ i.toNat) + j) ((M2 33 j) + (M2 27 i))) 34 (((2 : Int) ^ i.toNat) + j) ((M2 34 j) + (M2 28 i))) := (GR.uA hG2 (by decide +kernel) (.inl (by decide)))
              exact ih30 _ _ (by omega) (by omega) hG3 (Fr.uA (Fr.uA hF2 (by decide)) (by decide)) (by rw [uM_ne (by decide)]; exact row_set hA2 (by omega) (by rw [hA2 j hj0 (by omega), qA, ← ss_add (M 27) hi0 (by omega) rfl hj0 (by omega)])) (by exact row_set (fun t a b => (uM_h (by decide)).trans (hB2 t a b)) (by omega) (by rw [hB2 j hj0 (by omega), qB, ← ss_add (M 28) hi0 (by omega) rfl hj0 (by omega)])) (by omega)
        exact L30 _ _ _ (by omega) (by omega) hg hF (by intro t h0 h1; exact hA t h0 (by omega)) (by intro t h0 h1; exact hB t h0 (by omega)) (Nat.lt_succ_self _)
  have hG4 : GR (uM (uM M 33 0 0) 34 0 0) := (GR.uA hG1 (by decide +kernel) (.inl (by decide)))
  exact L16 _ _ _ (by omega) (by omega) hG4 (Fr.uA (Fr.uA Fr.rf (by decide)) (by decide)) (fun t h0 h1 => by rw [lt1 h0 h1, uM_h (by decide), uM_same, ss_0]) (fun t h0 h1 => by rw [lt1 h0 h1, uM_same, ss_0]) (Nat.lt_succ_self _)
theorem dX6_sumOffers_0 : decode cX6_sumOffers 0 = .ok (.iload_n 1, 1) := by decide +kernel
theorem dX6_sumOffers_1 : decode cX6_sumOffers 1 = .ok (.bipush 32, 2) := by decide +kernel
theorem dX6_sumOffers_3 : decode cX6_sumOffers 3 = .ok (.imul, 1) := by decide +kernel
theorem dX6_sumOffers_4 : decode cX6_sumOffers 4 = .ok (.istore_n 2, 1) := by decide +kernel
theorem dX6_sumOffers_5 : decode cX6_sumOffers 5 = .ok (.aload_n 0, 1) := by decide +kernel
theorem dX6_sumOffers_6 : decode cX6_sumOffers 6 = .ok (.getfield 15, 3) := by decide +kernel
theorem dX6_sumOffers_9 : decode cX6_sumOffers 9 = .ok (.iload_n 1, 1) := by decide +kernel
theorem dX6_sumOffers_10 : decode cX6_sumOffers 10 = .ok (.iaload, 1) := by decide +kernel
theorem dX6_sumOffers_11 : decode cX6_sumOffers 11 = .ok (.istore_n 3, 1) := by decide +kernel
theorem dX6_sumOffers_12 : decode cX6_sumOffers 12 = .ok (.aload_n 0, 1) := by decide +kernel
theorem dX6_sumOffers_13 : decode cX6_sumOffers 13 = .ok (.getfield 30, 3) := by decide +kernel
theorem dX6_sumOffers_16 : decode cX6_sumOffers 16 = .ok (.iload_n 2, 1) := by decide +kernel
theorem dX6_sumOffers_17 : decode cX6_sumOffers 17 = .ok (.iconst 0, 1) := by decide +kernel
theorem dX6_sumOffers_18 : decode cX6_sumOffers 18 = .ok (.iastore, 1) := by decide +kernel
theorem dX6_sumOffers_19 : decode cX6_sumOffers 19 = .ok (.aload_n 0, 1) := by decide +kernel
theorem dX6_sumOffers_20 : decode cX6_sumOffers 20 = .ok (.getfield 33, 3) := by decide +kernel
theorem dX6_sumOffers_23 : decode cX6_sumOffers 23 = .ok (.iload_n 2, 1) := by decide +kernel
theorem dX6_sumOffers_24 : decode cX6_sumOffers 24 = .ok (.iconst 0, 1) := by decide +kernel
theorem dX6_sumOffers_25 : decode cX6_sumOffers 25 = .ok (.iastore, 1) := by decide +kernel
theorem dX6_sumOffers_26 : decode cX6_sumOffers 26 = .ok (.iconst 0, 1) := by decide +kernel
theorem dX6_sumOffers_27 : decode cX6_sumOffers 27 = .ok (.istore 4, 2) := by decide +kernel
theorem dX6_sumOffers_29 : decode cX6_sumOffers 29 = .ok (.iload 4, 2) := by decide +kernel
theorem dX6_sumOffers_31 : decode cX6_sumOffers 31 = .ok (.aload_n 0, 1) := by decide +kernel
theorem dX6_sumOffers_32 : decode cX6_sumOffers 32 = .ok (.getfield 61, 3) := by decide +kernel
theorem dX6_sumOffers_35 : decode cX6_sumOffers 35 = .ok (.if_icmp .ge 97, 3) := by decide +kernel
theorem dX6_sumOffers_38 : decode cX6_sumOffers 38 = .ok (.iconst 1, 1) := by decide +kernel
theorem dX6_sumOffers_39 : decode cX6_sumOffers 39 = .ok (.iload 4, 2) := by decide +kernel
theorem dX6_sumOffers_41 : decode cX6_sumOffers 41 = .ok (.ishl, 1) := by decide +kernel
theorem dX6_sumOffers_42 : decode cX6_sumOffers 42 = .ok (.istore 5, 2) := by decide +kernel
theorem dX6_sumOffers_44 : decode cX6_sumOffers 44 = .ok (.aload_n 0, 1) := by decide +kernel
theorem dX6_sumOffers_45 : decode cX6_sumOffers 45 = .ok (.getfield 9, 3) := by decide +kernel
theorem dX6_sumOffers_48 : decode cX6_sumOffers 48 = .ok (.iload 4, 2) := by decide +kernel
theorem dX6_sumOffers_50 : decode cX6_sumOffers 50 = .ok (.bipush 6, 2) := by decide +kernel
theorem dX6_sumOffers_52 : decode cX6_sumOffers 52 = .ok (.imul, 1) := by decide +kernel
theorem dX6_sumOffers_53 : decode cX6_sumOffers 53 = .ok (.iload_n 1, 1) := by decide +kernel
theorem dX6_sumOffers_54 : decode cX6_sumOffers 54 = .ok (.iadd, 1) := by decide +kernel
theorem dX6_sumOffers_55 : decode cX6_sumOffers 55 = .ok (.iaload, 1) := by decide +kernel
theorem dX6_sumOffers_56 : decode cX6_sumOffers 56 = .ok (.istore 6, 2) := by decide +kernel
theorem dX6_sumOffers_58 : decode cX6_sumOffers 58 = .ok (.iconst 0, 1) := by decide +kernel
theorem dX6_sumOffers_59 : decode cX6_sumOffers 59 = .ok (.istore 7, 2) := by decide +kernel
theorem dX6_sumOffers_61 : decode cX6_sumOffers 61 = .ok (.iload 7, 2) := by decide +kernel
theorem dX6_sumOffers_63 : decode cX6_sumOffers 63 = .ok (.iload 5, 2) := by decide +kernel
theorem dX6_sumOffers_65 : decode cX6_sumOffers 65 = .ok (.if_icmp .ge 61, 3) := by decide +kernel
theorem dX6_sumOffers_68 : decode cX6_sumOffers 68 = .ok (.aload_n 0, 1) := by decide +kernel
theorem dX6_sumOffers_69 : decode cX6_sumOffers 69 = .ok (.getfield 30, 3) := by decide +kernel
theorem dX6_sumOffers_72 : decode cX6_sumOffers 72 = .ok (.iload_n 2, 1) := by decide +kernel
theorem dX6_sumOffers_73 : decode cX6_sumOffers 73 = .ok (.iload 7, 2) := by decide +kernel
theorem dX6_sumOffers_75 : decode cX6_sumOffers 75 = .ok (.iadd, 1) := by decide +kernel
theorem dX6_sumOffers_76 : decode cX6_sumOffers 76 = .ok (.iaload, 1) := by decide +kernel
theorem dX6_sumOffers_77 : decode cX6_sumOffers 77 = .ok (.iload 6, 2) := by decide +kernel
theorem dX6_sumOffers_79 : decode cX6_sumOffers 79 = .ok (.iadd, 1) := by decide +kernel
theorem dX6_sumOffers_80 : decode cX6_sumOffers 80 = .ok (.istore 8, 2) := by decide +kernel
theorem dX6_sumOffers_82 : decode cX6_sumOffers 82 = .ok (.aload_n 0, 1) := by decide +kernel
theorem dX6_sumOffers_83 : decode cX6_sumOffers 83 = .ok (.getfield 30, 3) := by decide +kernel
theorem dX6_sumOffers_86 : decode cX6_sumOffers 86 = .ok (.iload_n 2, 1) := by decide +kernel
theorem dX6_sumOffers_87 : decode cX6_sumOffers 87 = .ok (.iload 5, 2) := by decide +kernel
theorem dX6_sumOffers_89 : decode cX6_sumOffers 89 = .ok (.iadd, 1) := by decide +kernel
theorem dX6_sumOffers_90 : decode cX6_sumOffers 90 = .ok (.iload 7, 2) := by decide +kernel
theorem dX6_sumOffers_92 : decode cX6_sumOffers 92 = .ok (.iadd, 1) := by decide +kernel
theorem dX6_sumOffers_93 : decode cX6_sumOffers 93 = .ok (.iload 8, 2) := by decide +kernel
theorem dX6_sumOffers_95 : decode cX6_sumOffers 95 = .ok (.iastore, 1) := by decide +kernel
theorem dX6_sumOffers_96 : decode cX6_sumOffers 96 = .ok (.aload_n 0, 1) := by decide +kernel
theorem dX6_sumOffers_97 : decode cX6_sumOffers 97 = .ok (.getfield 33, 3) := by decide +kernel
theorem dX6_sumOffers_100 : decode cX6_sumOffers 100 = .ok (.iload_n 2, 1) := by decide +kernel
theorem dX6_sumOffers_101 : decode cX6_sumOffers 101 = .ok (.iload 5, 2) := by decide +kernel
theorem dX6_sumOffers_103 : decode cX6_sumOffers 103 = .ok (.iadd, 1) := by decide +kernel
theorem dX6_sumOffers_104 : decode cX6_sumOffers 104 = .ok (.iload 7, 2) := by decide +kernel
theorem dX6_sumOffers_106 : decode cX6_sumOffers 106 = .ok (.iadd, 1) := by decide +kernel
theorem dX6_sumOffers_107 : decode cX6_sumOffers 107 = .ok (.iload 8, 2) := by decide +kernel
theorem dX6_sumOffers_109 : decode cX6_sumOffers 109 = .ok (.iload_n 3, 1) := by decide +kernel
theorem dX6_sumOffers_110 : decode cX6_sumOffers 110 = .ok (.if_icmp .ge 8, 3) := by decide +kernel
theorem dX6_sumOffers_113 : decode cX6_sumOffers 113 = .ok (.iload 8, 2) := by decide +kernel
theorem dX6_sumOffers_115 : decode cX6_sumOffers 115 = .ok (.goto 4, 3) := by decide +kernel
theorem dX6_sumOffers_118 : decode cX6_sumOffers 118 = .ok (.iload_n 3, 1) := by decide +kernel
theorem dX6_sumOffers_119 : decode cX6_sumOffers 119 = .ok (.iastore, 1) := by decide +kernel
theorem dX6_sumOffers_120 : decode cX6_sumOffers 120 = .ok (.iinc 7 1, 3) := by decide +kernel
theorem dX6_sumOffers_123 : decode cX6_sumOffers 123 = .ok (.goto (-62), 3) := by decide +kernel
theorem dX6_sumOffers_126 : decode cX6_sumOffers 126 = .ok (.iinc 4 1, 3) := by decide +kernel
theorem dX6_sumOffers_129 : decode cX6_sumOffers 129 = .ok (.goto (-100), 3) := by decide +kernel
theorem dX6_sumOffers_132 : decode cX6_sumOffers 132 = .ok (.return_, 1) := by decide +kernel
set_option maxHeartbeats 400000 in
theorem c6_sumOffers {G : Gl} {l : Launch}  {M : Mem} {w : Int} (hG : GR M) (hl : 0 ≤ M 24 11 ∧ M 24 11 ≤ 5) (hb : ∀ x, 0 ≤ x → x < M 24 11 → 0 ≤ M 25 (x * 6 + w) ∧ M 25 (x * 6 + w) ≤ 100000) (hs : 0 ≤ M 26 w ∧ M 26 w ≤ 600000) (hw0 : 0 ≤ w) (hw1 : w < 6) : Ct G LY 57 l 0 m6_sumOffers [vR 24, vI w] M (RV (fun M' => Fr [31, 32] [] M M' ∧ (∀ t, 0 ≤ t → t < 2 ^ (M 24 11).toNat → M' 31 (w * 32 + t) = ss (fun x => M 25 (x * 6 + w)) t ∧ M' 32 (w * 32 + t) = min (ss (fun x => M 25 (x * 6 + w)) t) (M 26 w)) ∧ ∀ k, k < w * 32 ∨ w * 32 + 32 ≤ k → M' 31 k = M 31 k ∧ M' 32 k = M 32 k)) := by
  refine R_start (by decide +kernel) (Nat.le_of_ble_eq_true rfl) (fun C hC hRm hlau => ?_)
  show RZ G LY C (Zn G LY 57 C (RV (fun M' => Fr [31, 32] [] M M' ∧ (∀ t, 0 ≤ t → t < 2 ^ (M 24 11).toNat → M' 31 (w * 32 + t) = ss (fun x => M 25 (x * 6 + w)) t ∧ M' 32 (w * 32 + t) = min (ss (fun x => M 25 (x * 6 + w)) t) (M 26 w)) ∧ ∀ k, k < w * 32 ∨ w * 32 + 32 ≤ k → M' 31 k = M 31 k ∧ M' 32 k = M 32 k))) 0 0 57 0 [some (vR 24), some (vI w), none, none, none, none, none, none, none] [] M
  refine R_iload_1 hC dX6_sumOffers_0 ?_
  refine R_bipush hC dX6_sumOffers_1 (by decide +kernel) ⟨by decide, by decide⟩ ?_
  refine R_imul hC dX6_sumOffers_3 ⟨by omega, by omega⟩ ?_
  refine R_istore_2 hC dX6_sumOffers_4 rfl ?_
  refine R_aload_0 hC dX6_sumOffers_5 ?_
  refine R_getR hC dX6_sumOffers_6 fl_6_15 (by decide) rfl (by decide) (by decide) (fi := 1) rfl (r := 26) (gr_24_1 hG) ?_
  refine R_iload_1 hC dX6_sumOffers_9 ?_
  refine R_iaload hC dX6_sumOffers_10 (by decide) rfl (by omega) (by omega) ?_
  refine R_istore_3 hC dX6_sumOffers_11 rfl ?_
  refine R_aload_0 hC dX6_sumOffers_12 ?_
  refine R_getR hC dX6_sumOffers_13 fl_6_30 (by decide) rfl (by decide) (by decide) (fi := 6) rfl (r := 31) (gr_24_6 hG) ?_
  refine R_iload_2 hC dX6_sumOffers_16 ?_
  refine R_iconst hC dX6_sumOffers_17 ⟨by decide, by decide⟩ ?_
  refine R_iastore hC dX6_sumOffers_18 (by decide) rfl (by omega) (by omega) ?_
  refine R_aload_0 hC dX6_sumOffers_19 ?_
  have hG1 : GR (uM M 31 (w * 32) 0) := (GR.uA hG (by decide +kernel) (.inl (by decide)))
  refine R_getR hC dX6_sumOffers_20 fl_6_33 (by decide) rfl (by decide) (by decide) (fi := 7) rfl (r := 32) (gr_24_7 hG1) ?_
  refine R_iload_2 hC dX6_sumOffers_23 ?_
  refine R_iconst hC dX6_sumOffers_24 ⟨by decide, by decide⟩ ?_
  refine R_iastore hC dX6_sumOffers_25 (by decide) rfl (by omega) (by omega) ?_
  refine R_iconst hC dX6_sumOffers_26 ⟨by decide, by decide⟩ ?_
  refine R_istore_4 hC dX6_sumOffers_27 rfl ?_
  have L29 : ∀ (mq : Nat) (i : Int) (M1 : Mem), (0 ≤ i) → (i ≤ M 24 11) → (GR M1) → (Fr [31, 32] [] M M1) → (∀ t, w * 32 ≤ t → t < w * 32 + 2 ^ i.toNat → M1 31 t = ss (fun x => M 25 (x * 6 + w)) (t - w * 32)) → (∀ t, w * 32 ≤ t → t < w * 32 + 2 ^ i.toNat → M1 32 t = min (ss (fun x => M 25 (x * 6 + w)) (t - w * 32)) (M 26 w)) → (∀ k, k < w * 32 ∨ w * 32 + 32 ≤ k → M1 31 k = M 31 k ∧ M1 32 k = M 32 k) → (M 24 11 - i).toNat < mq → RZ G LY C (Zn G LY 57 C (RV (fun M' => Fr [31, 32] [] M M' ∧ (∀ t, 0 ≤ t → t < 2 ^ (M 24 11).toNat → M' 31 (w * 32 + t) = ss (fun x => M 25 (x * 6 + w)) t ∧ M' 32 (w * 32 + t) = min (ss (fun x => M 25 (x * 6 + w)) t) (M 26 w)) ∧ ∀ k, k < w * 32 ∨ w * 32 + 32 ≤ k → M' 31 k = M 31 k ∧ M' 32 k = M 32 k))) 0 0 57 29 [some (vR 24), some (vI w), some (vI (w * 32)), some (vI (M 26 w)), some (vI i), none, none, none, none] [] M1 := by
    intro mq
    induction mq with
    | zero =>
      intro i M1 hi0 hi1 hg hF hA hB hO hm
      exact absurd hm (Nat.not_lt_zero _)
    | succ mq ih29 =>
      intro i M1 hi0 hi1 hg hF hA hB hO hm29
      have q11 : M1 24 11 = M 24 11 := hF 24 11 (by decide) (by decide)
      have hp := pw_bd hi0 (by omega)
      refine R_iload_4 hC dX6_sumOffers_29 ?_
      refine R_aload_0 hC dX6_sumOffers_31 ?_
      refine R_getI hC dX6_sumOffers_32 fl_6_61 (by decide) rfl (by decide) (by decide) (fi := 11) rfl ?_
      refine R_icmp_ge hC dX6_sumOffers_35 (tgt := 132) (by decide) (fun hb35 => ?_) (fun hb35 => ?_)
      · skip
        exact R_return hC dX6_sumOffers_132 rfl (ret_V ⟨hF, fun t h0 h1 => ⟨by rw [hA _ (by omega) (by rw [show i = M 24 11 by omega]; omega), show w * 32 + t - w * 32 = t by omega], by rw [hB _ (by omega) (by rw [show i = M 24 11 by omega]; omega), show w * 32 + t - w * 32 = t by omega]⟩, hO⟩)
      · skip
        refine R_iconst hC dX6_sumOffers_38 ⟨by decide, by decide⟩ ?_
        refine R_iload_4 hC dX6_sumOffers_39 ?_
        refine R_shl1 hC dX6_sumOffers_41 (by omega) (by omega) ?_
        refine R_istore_5 hC dX6_sumOffers_42 rfl ?_
        have qA : M1 25 (i * 6 + w) = M 25 (i * 6 + w) := hF.at (by decide)
        have bA := hb i hi0 (by omega)
        have hp5 := pw_le5 hi0 (show i < 5 by omega)
        have qO := pw_le hi0 (show i ≤ M 24 11 by omega)
        refine R_aload_0 hC dX6_sumOffers_44 ?_
        refine R_getR hC dX6_sumOffers_45 fl_6_9 (by decide) rfl (by decide) (by decide) (fi := 0) rfl (r := 25) (gr_24_0 hg) ?_
        refine R_iload_4 hC dX6_sumOffers_48 ?_
        refine R_bipush hC dX6_sumOffers_50 (by decide +kernel) ⟨by decide, by decide⟩ ?_
        refine R_imul hC dX6_sumOffers_52 ⟨by omega, by omega⟩ ?_
        refine R_iload_1 hC dX6_sumOffers_53 ?_
        refine R_iadd hC dX6_sumOffers_54 ⟨by omega, by omega⟩ ?_
        refine R_iaload hC dX6_sumOffers_55 (by decide) rfl (by omega) (by omega) ?_
        rw [qA]
        refine R_istore_6 hC dX6_sumOffers_56 rfl ?_
        refine R_iconst hC dX6_sumOffers_58 ⟨by decide, by decide⟩ ?_
        refine R_istore_7 hC dX6_sumOffers_59 rfl ?_
        have L61 : ∀ (mq : Nat) (j : Int) (M2 : Mem), (0 ≤ j) → (j ≤ 2 ^ i.toNat) → (GR M2) → (Fr [31, 32] [] M M2) → (∀ t, w * 32 ≤ t → t < w * 32 + 2 ^ i.toNat + j → M2 31 t = ss (fun x => M 25 (x * 6 + w)) (t - w * 32)) → (∀ t, w * 32 ≤ t → t < w * 32 + 2 ^ i.toNat + j → M2 32 t = min (ss (fun x => M 25 (x * 6 + w)) (t - w * 32)) (M 26 w)) → (∀ k, k < w * 32 ∨ w * 32 + 32 ≤ k → M2 31 k = M 31 k ∧ M2 32 k = M 32 k) → (2 ^ i.toNat - j).toNat < mq → RZ G LY C (Zn G LY 57 C (RV (fun M' => Fr [31, 32] [] M M' ∧ (∀ t, 0 ≤ t → t < 2 ^ (M 24 11).toNat → M' 31 (w * 32 + t) = ss (fun x => M 25 (x * 6 + w)) t ∧ M' 32 (w * 32 + t) = min (ss (fun x => M 25 (x * 6 + w)) t) (M 26 w)) ∧ ∀ k, k < w * 32 ∨ w * 32 + 32 ≤ k → M' 31 k = M 31 k ∧ M' 32 k = M 32 k))) 0 0 57 61 [some (vR 24), some (vI w), some (vI (w * 32)), some (vI (M 26 w)), some (vI i), some (vI ((2 : Int) ^ i.toNat)), some (vI (M 25 (i * 6 + w))), some (vI j), none] [] M2 := by
          intro mq
          induction mq with
          | zero =>
            intro j M2 hj0 hj1 hg2 hF2 hA2 hB2 hO2 hm
            exact absurd hm (Nat.not_lt_zero _)
          | succ mq ih61 =>
            intro j M2 hj0 hj1 hg2 hF2 hA2 hB2 hO2 hm61
            refine R_iload_7 hC dX6_sumOffers_61 ?_
            refine R_iload_5 hC dX6_sumOffers_63 ?_
            refine R_icmp_ge hC dX6_sumOffers_65 (tgt := 126) (by decide) (fun hb65 => ?_) (fun hb65 => ?_)
            · skip
              refine R_iinc_4 hC dX6_sumOffers_126 rfl ⟨by omega, by omega⟩ ?_
              refine R_goto hC dX6_sumOffers_129 (tgt := 29) (by decide) ?_
              refine R_weak (subL_c (subL_c (subL_c (subL_c (subL_c (subL_d (subL_d (subL_d (subL_c subL_n))))))))) ?_
              exact ih29 _ _ (by omega) (by omega) hg2 hF2 (by intro t h0 h1; exact hA2 t h0 (by have := pw_s hi0; omega)) (by intro t h0 h1; exact hB2 t h0 (by have := pw_s hi0; omega)) hO2 (by omega)
            · skip
              have cA := ss_bd (f := (fun x => M 25 (x * 6 + w))) (b := 100000) (by omega) hl.2 hj0 (show j < 2 ^ (M 24 11).toNat by omega) hb (by decide)
              have dA := hA2 (w * 32 + j) (by omega) (by omega)
              rw [show w * 32 + j - w * 32 = j by omega] at dA
              have dS : ss (fun x => M 25 (x * 6 + w)) j + M 25 (i * 6 + w) = ss (fun x => M 25 (x * 6 + w)) (w * 32 + 2 ^ i.toNat + j - w * 32) := by rw [show w * 32 + 2 ^ i.toNat + j - w * 32 = 2 ^ i.toNat + j by omega, ss_add (fun x => M 25 (x * 6 + w)) hi0 (by omega) rfl hj0 (by omega)]
              refine R_aload_0 hC dX6_sumOffers_68 ?_
              refine R_getR hC dX6_sumOffers_69 fl_6_30 (by decide) rfl (by decide) (by decide) (fi := 6) rfl (r := 31) (gr_24_6 hg2) ?_
              refine R_iload_2 hC dX6_sumOffers_72 ?_
              refine R_iload_7 hC dX6_sumOffers_73 ?_
              refine R_iadd hC dX6_sumOffers_75 ⟨by omega, by omega⟩ ?_
              refine R_iaload hC dX6_sumOffers_76 (by decide) rfl (by omega) (by omega) ?_
              refine R_iload_6 hC dX6_sumOffers_77 ?_
              refine R_iadd hC dX6_sumOffers_79 ⟨by omega, by omega⟩ ?_
              refine R_istore_8 hC dX6_sumOffers_80 rfl ?_
              refine R_aload_0 hC dX6_sumOffers_82 ?_
              refine R_getR hC dX6_sumOffers_83 fl_6_30 (by decide) rfl (by decide) (by decide) (fi := 6) rfl (r := 31) (gr_24_6 hg2) ?_
              refine R_iload_2 hC dX6_sumOffers_86 ?_
              refine R_iload_5 hC dX6_sumOffers_87 ?_
              refine R_iadd hC dX6_sumOffers_89 ⟨by omega, by omega⟩ ?_
              refine R_iload_7 hC dX6_sumOffers_90 ?_
              refine R_iadd hC dX6_sumOffers_92 ⟨by omega, by omega⟩ ?_
              refine R_iload_8 hC dX6_sumOffers_93 ?_
              refine R_iastore hC dX6_sumOffers_95 (by decide) rfl (by omega) (by omega) ?_
              refine R_aload_0 hC dX6_sumOffers_96 ?_
              have hG2 : GR (uM M2 31 (((w * 32) + ((2 : Int) ^ i.toNat)) + j) ((M2 31 ((w * 32) + j)) + M 25 (i * 6 + w))) := (GR.uA hg2 (by decide +kernel) (.inl (by decide)))
              refine R_getR hC dX6_sumOffers_97 fl_6_33 (by decide) rfl (by decide) (by decide) (fi := 7) rfl (r := 32) (gr_24_7 hG2) ?_
              refine R_iload_2 hC dX6_sumOffers_100 ?_
              refine R_iload_5 hC dX6_sumOffers_101 ?_
              refine R_iadd hC dX6_sumOffers_103 ⟨by omega, by omega⟩ ?_
              refine R_iload_7 hC dX6_sumOffers_104 ?_
              refine R_iadd hC dX6_sumOffers_106 ⟨by omega, by omega⟩ ?_
              refine R_iload_8 hC dX6_sumOffers_107 ?_
              refine R_iload_3 hC dX6_sumOffers_109 ?_
              refine R_icmp_ge hC dX6_sumOffers_110 (tgt := 118) (by decide) (fun hb110 => ?_) (fun hb110 => ?_)
              · skip
                refine R_iload_3 hC dX6_sumOffers_118 ?_
                refine R_iastore hC dX6_sumOffers_119 (by decide) rfl (by omega) (by omega) ?_
                refine R_iinc_7 hC dX6_sumOffers_120 rfl ⟨by omega, by omega⟩ ?_
                refine R_goto hC dX6_sumOffers_123 (tgt := 61) (by decide) ?_
                refine R_weak (subL_c (subL_c (subL_c (subL_c (subL_c (subL_c (subL_c (subL_c (subL_d subL_n))))))))) ?_
                have hG3 : GR (uM (uM M2 31 (((w * 32) + ((2 : Int) ^ i.toNat)) + j) ((M2 31 ((w * 32) + j)) + M 25 (i * 6 + w))) 32 (((w * 32) + ((2 : Int) ^ i.toNat)) + j) (M 26 w)) := (GR.uA hG2 (by decide +kernel) (.inl (by decide)))
                exact ih61 _ _ (by omega) (by omega) hG3 (Fr.uA (Fr.uA hF2 (by decide)) (by decide)) (by rw [uM_ne (by decide)]; exact row_set (F := fun t => ss (fun x => M 25 (x * 6 + w)) (t - w * 32)) hA2 (by omega) (by rw [dA]; exact dS)) (by exact row_set (F := fun t => min (ss (fun x => M 25 (x * 6 + w)) (t - w * 32)) (M 26 w)) (fun t a b => (uM_h (by decide)).trans (hB2 t a b)) (by omega) (by rw [dA] at *; show _ = min _ _; rw [← dS]; omega)) (fun k hk => ⟨(uM_h (by decide)).trans ((uM_k (by omega)).trans (hO2 k hk).1), (uM_k (by omega)).trans ((uM_h (by decide)).trans (hO2 k hk).2)⟩) (by omega)
              · skip
                refine R_iload_8 hC dX6_sumOffers_113 ?_
                refine R_goto hC dX6_sumOffers_115 (tgt := 119) (by decide) ?_
                refine R_iastore hC dX6_sumOffers_119 (by decide) rfl (by omega) (by omega) ?_
                refine R_iinc_7 hC dX6_sumOffers_120 rfl ⟨by omega, by omega⟩ ?_
                refine R_goto hC dX6_sumOffers_123 (tgt := 61) (by decide) ?_
                refine R_weak (subL_c (subL_c (subL_c (subL_c (subL_c (subL_c (subL_c (subL_c (subL_d subL_n))))))))) ?_
                have hG4 : GR (uM (uM M2 31 (((w * 32) + ((2 : Int) ^ i.toNat)) + j) ((M2 31 ((w * 32) + j)) + M 25 (i * 6 + w))) 32 (((w * 32) + ((2 : Int) ^ i.toNat)) + j) ((M2 31 ((w * 32) + j)) + M 25 (i * 6 + w))) := (GR.uA hG2 (by decide +kernel) (.inl (by decide)))
                exact ih61 _ _ (by omega) (by omega) hG4 (Fr.uA (Fr.uA hF2 (by decide)) (by decide)) (by rw [uM_ne (by decide)]; exact row_set (F := fun t => ss (fun x => M 25 (x * 6 + w)) (t - w * 32)) hA2 (by omega) (by rw [dA]; exact dS)) (by exact row_set (F := fun t => min (ss (fun x => M 25 (x * 6 + w)) (t - w * 32)) (M 26 w)) (fun t a b => (uM_h (by decide)).trans (hB2 t a b)) (by omega) (by rw [dA] at *; show _ = min _ _; rw [← dS]; omega)) (fun k hk => ⟨(uM_h (by decide)).trans ((uM_k (by omega)).trans (hO2 k hk).1), (uM_k (by omega)).trans ((uM_h (by decide)).trans (hO2 k hk).2)⟩) (by omega)
        exact L61 _ _ _ (by omega) (by omega) hg hF (by intro t h0 h1; exact hA t h0 (by omega)) (by intro t h0 h1; exact hB t h0 (by omega)) hO (Nat.lt_succ_self _)
  have hG5 : GR (uM (uM M 31 (w * 32) 0) 32 (w * 32) 0) := (GR.uA hG1 (by decide +kernel) (.inl (by decide)))
  exact L29 _ _ _ (by omega) (by omega) hG5 (Fr.uA (Fr.uA Fr.rf (by decide)) (by decide)) (fun t h0 h1 => by rw [lt2 h0 h1, Int.sub_self, ss_0, uM_h (by decide), uM_same]) (fun t h0 h1 => by rw [lt2 h0 h1, Int.sub_self, ss_0, uM_same, Int.min_eq_left hs.1]) (fun k hk => ⟨(uM_h (by decide)).trans (uM_k (by omega)), (uM_k (by omega)).trans (uM_h (by decide))⟩) (Nat.lt_succ_self _)
theorem dX6_rank_0 : decode cX6_rank 0 = .ok (.iload_n 1, 1) := by decide +kernel
theorem dX6_rank_1 : decode cX6_rank 1 = .ok (.istore_n 2, 1) := by decide +kernel
theorem dX6_rank_2 : decode cX6_rank 2 = .ok (.iload_n 2, 1) := by decide +kernel
theorem dX6_rank_3 : decode cX6_rank 3 = .ok (.ifCond .le 45, 3) := by decide +kernel
theorem dX6_rank_6 : decode cX6_rank 6 = .ok (.aload_n 0, 1) := by decide +kernel
theorem dX6_rank_7 : decode cX6_rank 7 = .ok (.getfield 24, 3) := by decide +kernel
theorem dX6_rank_10 : decode cX6_rank 10 = .ok (.aload_n 0, 1) := by decide +kernel
theorem dX6_rank_11 : decode cX6_rank 11 = .ok (.getfield 27, 3) := by decide +kernel
theorem dX6_rank_14 : decode cX6_rank 14 = .ok (.iload_n 2, 1) := by decide +kernel
theorem dX6_rank_15 : decode cX6_rank 15 = .ok (.iconst 1, 1) := by decide +kernel
theorem dX6_rank_16 : decode cX6_rank 16 = .ok (.isub, 1) := by decide +kernel
theorem dX6_rank_17 : decode cX6_rank 17 = .ok (.iaload, 1) := by decide +kernel
theorem dX6_rank_18 : decode cX6_rank 18 = .ok (.iaload, 1) := by decide +kernel
theorem dX6_rank_19 : decode cX6_rank 19 = .ok (.aload_n 0, 1) := by decide +kernel
theorem dX6_rank_20 : decode cX6_rank 20 = .ok (.getfield 24, 3) := by decide +kernel
theorem dX6_rank_23 : decode cX6_rank 23 = .ok (.iload_n 1, 1) := by decide +kernel
theorem dX6_rank_24 : decode cX6_rank 24 = .ok (.iaload, 1) := by decide +kernel
theorem dX6_rank_25 : decode cX6_rank 25 = .ok (.if_icmp .ge 23, 3) := by decide +kernel
theorem dX6_rank_28 : decode cX6_rank 28 = .ok (.aload_n 0, 1) := by decide +kernel
theorem dX6_rank_29 : decode cX6_rank 29 = .ok (.getfield 27, 3) := by decide +kernel
theorem dX6_rank_32 : decode cX6_rank 32 = .ok (.iload_n 2, 1) := by decide +kernel
theorem dX6_rank_33 : decode cX6_rank 33 = .ok (.aload_n 0, 1) := by decide +kernel
theorem dX6_rank_34 : decode cX6_rank 34 = .ok (.getfield 27, 3) := by decide +kernel
theorem dX6_rank_37 : decode cX6_rank 37 = .ok (.iload_n 2, 1) := by decide +kernel
theorem dX6_rank_38 : decode cX6_rank 38 = .ok (.iconst 1, 1) := by decide +kernel
theorem dX6_rank_39 : decode cX6_rank 39 = .ok (.isub, 1) := by decide +kernel
theorem dX6_rank_40 : decode cX6_rank 40 = .ok (.iaload, 1) := by decide +kernel
theorem dX6_rank_41 : decode cX6_rank 41 = .ok (.iastore, 1) := by decide +kernel
theorem dX6_rank_42 : decode cX6_rank 42 = .ok (.iinc 2 (-1), 3) := by decide +kernel
theorem dX6_rank_45 : decode cX6_rank 45 = .ok (.goto (-43), 3) := by decide +kernel
theorem dX6_rank_48 : decode cX6_rank 48 = .ok (.aload_n 0, 1) := by decide +kernel
theorem dX6_rank_49 : decode cX6_rank 49 = .ok (.getfield 27, 3) := by decide +kernel
theorem dX6_rank_52 : decode cX6_rank 52 = .ok (.iload_n 2, 1) := by decide +kernel
theorem dX6_rank_53 : decode cX6_rank 53 = .ok (.iload_n 1, 1) := by decide +kernel
theorem dX6_rank_54 : decode cX6_rank 54 = .ok (.iastore, 1) := by decide +kernel
theorem dX6_rank_55 : decode cX6_rank 55 = .ok (.return_, 1) := by decide +kernel
set_option maxHeartbeats 400000 in
theorem c6_rank {G : Gl} {l : Launch}  {M : Mem} {w : Int} (hG : GR M) (hR : RK w (M 29) (M 30)) (hw0 : 0 ≤ w) (hw1 : w < 6) : Ct G LY 57 l 0 m6_rank [vR 24, vI w] M (RV (fun M' => Fr [30] [] M M' ∧ RK (w + 1) (M 29) (M' 30))) := by
  refine R_start (by decide +kernel) (Nat.le_of_ble_eq_true rfl) (fun C hC hRm hlau => ?_)
  show RZ G LY C (Zn G LY 57 C (RV (fun M' => Fr [30] [] M M' ∧ RK (w + 1) (M 29) (M' 30)))) 0 0 57 0 [some (vR 24), some (vI w), none] [] M
  refine R_iload_1 hC dX6_rank_0 ?_
  refine R_istore_2 hC dX6_rank_1 rfl ?_
  have L2 : ∀ (mq : Nat) (a : Int) (M1 : Mem), (0 ≤ a) → (a ≤ w) → (GR M1) → (Fr [30] [] M M1) → (∀ i, i ≤ w → M1 30 i = if a < i then M 30 (i - 1) else M 30 i) → (∀ i, a ≤ i → i < w → M 29 (M 30 i) < M 29 w) → (a).toNat < mq → RZ G LY C (Zn G LY 57 C (RV (fun M' => Fr [30] [] M M' ∧ RK (w + 1) (M 29) (M' 30)))) 0 0 57 2 [some (vR 24), some (vI w), some (vI a)] [] M1 := by
    intro mq
    induction mq with
    | zero =>
      intro a M1 ha0 ha1 hg hF hA hL hm
      exact absurd hm (Nat.not_lt_zero _)
    | succ mq ih2 =>
      intro a M1 ha0 ha1 hg hF hA hL hm2
      refine R_iload_2 hC dX6_rank_2 ?_
      refine R_if_le hC dX6_rank_3 (tgt := 48) (by decide) (fun hb3 => ?_) (fun hb3 => ?_)
      · skip
        refine R_aload_0 hC dX6_rank_48 ?_
        refine R_getR hC dX6_rank_49 fl_6_27 (by decide) rfl (by decide) (by decide) (fi := 5) rfl (r := 30) (gr_24_5 hg) ?_
        refine R_iload_2 hC dX6_rank_52 ?_
        refine R_iload_1 hC dX6_rank_53 ?_
        refine R_iastore hC dX6_rank_54 (by decide) rfl (by omega) (by omega) ?_
        exact R_return hC dX6_rank_55 rfl (ret_V ⟨Fr.uA hF (by decide), RK_congr (z := M 29) (b := ins (M 30) a w) (RK_ins hR ha0 ha1 hL (fun h => by
                  have qz : M1 29 = M 29 := hF.row (by decide) (by decide)
                  have q30 : M1 30 (a - 1) = M 30 (a - 1) := by rw [hA (a - 1) (by omega), if_neg (by omega)]
                  first | omega | (rw [qz, q30] at hb25; exact hb25))) (fun i i0 i1 => by
                  unfold ins
                  by_cases e : i = a
                  · rw [uM_at e, if_neg (by omega), if_pos e]
                  · rw [uM_k e, hA i (by omega)]
                    by_cases e2 : a < i
                    · rw [if_pos e2, if_neg (by omega), if_neg e]
                    · rw [if_neg e2, if_pos (by omega)]) (fun i _ _ => rfl)⟩)
      · skip
        have qz : M1 29 = M 29 := hF.row (by decide) (by decide)
        have q30 : M1 30 (a - 1) = M 30 (a - 1) := by rw [hA (a - 1) (by omega), if_neg (by omega)]
        have bR := hR.1 (a - 1) (by omega) (by omega)
        refine R_aload_0 hC dX6_rank_6 ?_
        refine R_getR hC dX6_rank_7 fl_6_24 (by decide) rfl (by decide) (by decide) (fi := 4) rfl (r := 29) (gr_24_4 hg) ?_
        refine R_aload_0 hC dX6_rank_10 ?_
        refine R_getR hC dX6_rank_11 fl_6_27 (by decide) rfl (by decide) (by decide) (fi := 5) rfl (r := 30) (gr_24_5 hg) ?_
        refine R_iload_2 hC dX6_rank_14 ?_
        refine R_iconst hC dX6_rank_15 ⟨by decide, by decide⟩ ?_
        refine R_isub hC dX6_rank_16 ⟨by omega, by omega⟩ ?_
        refine R_iaload hC dX6_rank_17 (by decide) rfl (by omega) (by omega) ?_
        refine R_iaload hC dX6_rank_18 (by decide) rfl (by omega) (by omega) ?_
        refine R_aload_0 hC dX6_rank_19 ?_
        refine R_getR hC dX6_rank_20 fl_6_24 (by decide) rfl (by decide) (by decide) (fi := 4) rfl (r := 29) (gr_24_4 hg) ?_
        refine R_iload_1 hC dX6_rank_23 ?_
        refine R_iaload hC dX6_rank_24 (by decide) rfl (by omega) (by omega) ?_
        refine R_icmp_ge hC dX6_rank_25 (tgt := 48) (by decide) (fun hb25 => ?_) (fun hb25 => ?_)
        · skip
          refine R_aload_0 hC dX6_rank_48 ?_
          refine R_getR hC dX6_rank_49 fl_6_27 (by decide) rfl (by decide) (by decide) (fi := 5) rfl (r := 30) (gr_24_5 hg) ?_
          refine R_iload_2 hC dX6_rank_52 ?_
          refine R_iload_1 hC dX6_rank_53 ?_
          refine R_iastore hC dX6_rank_54 (by decide) rfl (by omega) (by omega) ?_
          exact R_return hC dX6_rank_55 rfl (ret_V ⟨Fr.uA hF (by decide), RK_congr (z := M 29) (b := ins (M 30) a w) (RK_ins hR ha0 ha1 hL (fun h => by
                    have qz : M1 29 = M 29 := hF.row (by decide) (by decide)
                    have q30 : M1 30 (a - 1) = M 30 (a - 1) := by rw [hA (a - 1) (by omega), if_neg (by omega)]
                    first | omega | (rw [qz, q30] at hb25; exact hb25))) (fun i i0 i1 => by
                    unfold ins
                    by_cases e : i = a
                    · rw [uM_at e, if_neg (by omega), if_pos e]
                    · rw [uM_k e, hA i (by omega)]
                      by_cases e2 : a < i
                      · rw [if_pos e2, if_neg (by omega), if_neg e]
                      · rw [if_neg e2, if_pos (by omega)]) (fun i _ _ => rfl)⟩)
        · skip
          have qq : M 29 (M 30 (a + -1)) < M 29 w := by rw [qz, q30] at hb25; exact hb25
          refine R_aload_0 hC dX6_rank_28 ?_
          refine R_getR hC dX6_rank_29 fl_6_27 (by decide) rfl (by decide) (by decide) (fi := 5) rfl (r := 30) (gr_24_5 hg) ?_
          refine R_iload_2 hC dX6_rank_32 ?_
          refine R_aload_0 hC dX6_rank_33 ?_
          refine R_getR hC dX6_rank_34 fl_6_27 (by decide) rfl (by decide) (by decide) (fi := 5) rfl (r := 30) (gr_24_5 hg) ?_
          refine R_iload_2 hC dX6_rank_37 ?_
          refine R_iconst hC dX6_rank_38 ⟨by decide, by decide⟩ ?_
          refine R_isub hC dX6_rank_39 ⟨by omega, by omega⟩ ?_
          refine R_iaload hC dX6_rank_40 (by decide) rfl (by omega) (by omega) ?_
          refine R_iastore hC dX6_rank_41 (by decide) rfl (by omega) (by omega) ?_
          refine R_iinc_2 hC dX6_rank_42 rfl ⟨by omega, by omega⟩ ?_
          refine R_goto hC dX6_rank_45 (tgt := 2) (by decide) ?_
          have hG1 : GR (uM M1 30 a (M1 30 (a - 1))) := (GR.uA hg (by decide +kernel) (.inl (by decide)))
          exact ih2 _ _ (by omega) (by omega) hG1 (Fr.uA hF (by decide)) (fun i hi => by
                        by_cases e : i = a
                        · rw [uM_at e, if_pos (by omega), e]; exact q30
                        · rw [uM_k e, hA i hi]
                          by_cases e2 : a < i
                          · rw [if_pos e2, if_pos (by omega)]
                          · rw [if_neg e2, if_neg (by omega)]) (fun i h0 h1 => by
                        by_cases e : i = a + -1
                        · subst e; omega
                        · exact hL i (by omega) h1) (by omega)
  exact L2 _ _ _ (by omega) (by omega) hG Fr.rf (fun i hi => by rw [if_neg (by omega)]) (fun i h0 h1 => by omega) (Nat.lt_succ_self _)
