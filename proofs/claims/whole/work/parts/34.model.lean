/-! the model's rows: a Stock's numbers in another order; what is asked for -/
def SM (d : Int → Int) : Prop := ((0 ≤ d 121 ∧ d 121 ≤ 5) ∧ 0 ≤ d 122 ∧ d 122 ≤ 6) ∧ (∀ x, 0 ≤ x → x < 5 → (0 ≤ d x ∧ d x ≤ 20) ∧ 0 ≤ d (5 + x) ∧ d (5 + x) ≤ 20) ∧
  (∀ w, 0 ≤ w → w < 6 → (0 ≤ d (10 + w) ∧ d (10 + w) ≤ 9) ∧ (0 ≤ d (16 + w) ∧ d (16 + w) ≤ 45) ∧ 0 ≤ d (22 + w) ∧ d (22 + w) ≤ 20) ∧
  (∀ p, 0 ≤ p → p < 30 → (0 ≤ d (28 + p) ∧ d (28 + p) ≤ 3) ∧ (0 ≤ d (58 + p) ∧ d (58 + p) ≤ 3) ∧ 0 ≤ d (88 + p) ∧ d (88 + p) ≤ 60) ∧
  ((0 ≤ d 118 ∧ d 118 ≤ 61) ∧ (0 ≤ d 119 ∧ d 119 ≤ 95000) ∧ 0 ≤ d 120 ∧ d 120 ≤ 20) ∧ ∀ w, 0 ≤ w → w < d 122 → 1 ≤ d (10 + w)
theorem SP.m {d : Int → Int} (h : SP d) : SM d := ⟨h.1, h.2.1, fun w a b => by have := h.2.2.1 w a b; omega, h.2.2.2.1, by have := h.2.2.2.2.1; omega, h.2.2.2.2.2⟩
theorem SM.B {d : Int → Int} (h : SM d) : SB d := by
  refine ⟨fun k k0 k1 => ?_, h.1.1.2, h.1.2.2⟩
  by_cases a1 : k < 5
  · have := h.2.1 k k0 a1; omega
  by_cases a2 : k < 10
  · have := h.2.1 (k - 5) (by omega) (by omega)
    rw [show 5 + (k - 5) = k by omega] at this
    omega
  by_cases a3 : k < 16
  · have := h.2.2.1 (k - 10) (by omega) (by omega)
    rw [show 10 + (k - 10) = k by omega] at this
    omega
  by_cases a4 : k < 22
  · have := h.2.2.1 (k - 16) (by omega) (by omega)
    rw [show 16 + (k - 16) = k by omega] at this
    omega
  by_cases a5 : k < 28
  · have := h.2.2.1 (k - 22) (by omega) (by omega)
    rw [show 22 + (k - 22) = k by omega] at this
    omega
  by_cases a6 : k < 58
  · have := h.2.2.2.1 (k - 28) (by omega) (by omega)
    rw [show 28 + (k - 28) = k by omega] at this
    omega
  by_cases a7 : k < 88
  · have := h.2.2.2.1 (k - 58) (by omega) (by omega)
    rw [show 58 + (k - 58) = k by omega] at this
    omega
  by_cases a8 : k < 118
  · have := h.2.2.2.1 (k - 88) (by omega) (by omega)
    rw [show 88 + (k - 88) = k by omega] at this
    omega
  have h5 := h.2.2.2.2.1
  have h1 := h.1
  have e : k = 118 ∨ k = 119 ∨ k = 120 ∨ k = 121 ∨ k = 122 := by omega
  rcases e with rfl | rfl | rfl | rfl | rfl <;> omega
theorem SM.h {d : Int → Int} (h : SM d) {x w : Int} (x0 : 0 ≤ x) (x1 : x < 5) (w0 : 0 ≤ w) (w1 : w < 6) : (0 ≤ d (28 + x * 6 + w) ∧ d (28 + x * 6 + w) ≤ 3) ∧ (0 ≤ d (58 + x * 6 + w) ∧ d (58 + x * 6 + w) ≤ 3) ∧ 0 ≤ d (88 + x * 6 + w) ∧ d (88 + x * 6 + w) ≤ 60 := by
  have := h.2.2.2.1 (x * 6 + w) (by omega) (by omega)
  rw [← Int.add_assoc, ← Int.add_assoc, ← Int.add_assoc] at this
  exact this
theorem SM.inA {d : Int → Int} (h : SM d) {x : Int} (x0 : 0 ≤ x) (x1 : x < 5) : 0 ≤ inAll d x ∧ inAll d x ≤ 18 :=
  sm_bd2 (q := 6) 3 h.1.2.1 (fun k a b => (h.h x0 x1 a (by have := h.1.2.2; omega)).1) (by decide) h.1.2.2
theorem SM.all {d : Int → Int} (h : SM d) {w : Int} (w0 : 0 ≤ w) (w1 : w < 6) : 0 ≤ allOf d w ∧ allOf d w ≤ 35 := by
  have h2 := sm_bd2 (f := fun x => d (28 + x * 6 + w)) (q := 5) 3 h.1.1.1 (fun k a b => (h.h a (by have := h.1.1.2; omega) w0 w1).1) (by decide) h.1.1.2
  have := h.2.2.1 w w0 w1
  unfold allOf
  omega
theorem SM.ne {d : Int → Int} (h : SM d) {x : Int} (x0 : 0 ≤ x) (x1 : x < 5) : 0 ≤ nee d x ∧ nee d x ≤ 18 := by
  have h1 := h.inA x0 x1
  have h2 := h.2.1 x x0 x1
  show 0 ≤ max 0 (inAll d x - d x) ∧ max 0 (inAll d x - d x) ≤ 18
  omega
theorem SM.off {d : Int → Int} (h : SM d) {x w : Int} (x0 : 0 ≤ x) (x1 : x < 5) (w0 : 0 ≤ w) (w1 : w < 6) : 0 ≤ offr d x w ∧ offr d x w ≤ d (28 + x * 6 + w) := by
  have := h.h x0 x1 w0 w1
  unfold offr
  split <;> omega
theorem SM.sr {d : Int → Int} (h : SM d) {w : Int} (w0 : 0 ≤ w) (w1 : w < 6) : 0 ≤ spr d w ∧ spr d w ≤ 35 := by
  have h1 := h.all w0 w1
  have h2 := h.2.2.1 w w0 w1
  show 0 ≤ max 0 (allOf d w - d (16 + w)) ∧ max 0 (allOf d w - d (16 + w)) ≤ 35
  omega
theorem SM.I {d : Int → Int} (h : SM d) : IB (insOf d) := by
  refine ⟨h.1.1, h.1.2, fun x w x0 x1 w0 w1 => ?_, fun w w0 w1 => ?_, fun x x0 x1 => ?_⟩
  · have e1 : x < d 121 := x1
    have e2 : w < d 122 := w1
    have a := h.1
    have b := h.off x0 (show x < 5 by omega) w0 (show w < 6 by omega)
    have c := h.h x0 (show x < 5 by omega) w0 (show w < 6 by omega)
    show 0 ≤ offr d x w ∧ offr d x w ≤ 3
    omega
  · have e2 : w < d 122 := w1
    have a := h.1
    have b := h.sr w0 (show w < 6 by omega)
    have c := h.2.2.1 w w0 (by omega)
    have f := h.2.2.2.2.2 w w0 e2
    show (0 ≤ spr d w ∧ spr d w ≤ 1000) ∧ 1 ≤ d (10 + w) ∧ d (10 + w) ≤ 9
    omega
  · have e1 : x < d 121 := x1
    have a := h.1
    have b := h.ne x0 (show x < 5 by omega)
    have c := h.2.1 x x0 (by omega)
    show (0 ≤ nee d x ∧ nee d x ≤ max (nee d x) (d (5 + x))) ∧ max (nee d x) (d (5 + x)) ≤ 100
    omega
def ms (M : Mem) (b : Int) : Int → Int := fun k =>
  if k < 10 then M 58 (b + k) else if k < 16 then (if k - 10 < M 57 6 then M 59 (k - 10) else 0) else if k < 22 then M 58 (b + k + 84) else if k < 28 then M 58 (b + k + 86) else if k < 118 then M 58 (b + k - 18) else if k < 120 then M 58 (b + k - 12) else if k = 120 then M 57 14 else if k = 121 then M 57 5 else M 57 6
def RW (M : Mem) (b : Int) (c : Int → Int) : Prop := ∀ k, 0 ≤ k → k < 123 → ms M b k = c k
section RWS
variable {M M' : Mem} {b : Int} {c : Int → Int}
theorem RW.r1 (h : RW M b c) {i k : Int} (k0 : 0 ≤ k) (k1 : k < 10) (e : i = b + k) : M 58 i = c k := by
  subst e
  have := h k k0 (by omega)
  unfold ms at this
  rwa [if_pos k1] at this
theorem RW.rs (h : RW M b c) (w : Int) (k0 : 0 ≤ w) (k1 : w < 6) (k2 : w < c 122) : M 59 w = c (10 + w) := by
  have h6 : M 57 6 = c 122 := h 122 (by decide) (by decide)
  have := h (10 + w) (by omega) (by omega)
  unfold ms at this
  rw [if_neg (by omega), if_pos (by omega), show 10 + w - 10 = w by omega, h6, if_pos k2] at this
  exact this
theorem RW.r2 (h : RW M b c) {i k : Int} (k0 : 16 ≤ k) (k1 : k < 22) (e : i = b + k + 84) : M 58 i = c k := by
  subst e
  have := h k (by omega) (by omega)
  unfold ms at this
  rwa [if_neg (by omega), if_neg (by omega), if_pos k1] at this
theorem RW.r3 (h : RW M b c) {i k : Int} (k0 : 22 ≤ k) (k1 : k < 28) (e : i = b + k + 86) : M 58 i = c k := by
  subst e
  have := h k (by omega) (by omega)
  unfold ms at this
  rwa [if_neg (by omega), if_neg (by omega), if_neg (by omega), if_pos k1] at this
theorem RW.r4 (h : RW M b c) {i k : Int} (k0 : 28 ≤ k) (k1 : k < 118) (e : i = b + k - 18) : M 58 i = c k := by
  subst e
  have := h k (by omega) (by omega)
  unfold ms at this
  rwa [if_neg (by omega), if_neg (by omega), if_neg (by omega), if_neg (by omega), if_pos k1] at this
theorem RW.r5 (h : RW M b c) {i k : Int} (k0 : 118 ≤ k) (k1 : k < 120) (e : i = b + k - 12) : M 58 i = c k := by
  subst e
  have := h k (by omega) (by omega)
  unfold ms at this
  rwa [if_neg (by omega), if_neg (by omega), if_neg (by omega), if_neg (by omega), if_neg (by omega), if_pos k1] at this
theorem RW.o (h : RW M b c) : M 57 14 = c 120 := h 120 (by decide) (by decide)
theorem RW.l (h : RW M b c) : M 57 5 = c 121 := h 121 (by decide) (by decide)
theorem RW.w (h : RW M b c) : M 57 6 = c 122 := h 122 (by decide) (by decide)
theorem ms_fr (e8 : ∀ j, b ≤ j → j < b + 114 → M' 58 j = M 58 j) (e9 : ∀ j, M' 59 j = M 59 j) (a : M' 57 14 = M 57 14) (a1 : M' 57 5 = M 57 5) (a2 : M' 57 6 = M 57 6) (h : RW M b c) : RW M' b c := by
  intro k k0 k1
  rw [← h k k0 k1]
  unfold ms
  by_cases q1 : k < 10
  · rw [if_pos q1, if_pos q1]; exact e8 _ (by omega) (by omega)
  rw [if_neg q1, if_neg q1]
  by_cases q2 : k < 16
  · rw [if_pos q2, if_pos q2, a2, e9]
  rw [if_neg q2, if_neg q2]
  by_cases q3 : k < 22
  · rw [if_pos q3, if_pos q3]; exact e8 _ (by omega) (by omega)
  rw [if_neg q3, if_neg q3]
  by_cases q4 : k < 28
  · rw [if_pos q4, if_pos q4]; exact e8 _ (by omega) (by omega)
  rw [if_neg q4, if_neg q4]
  by_cases q5 : k < 118
  · rw [if_pos q5, if_pos q5]; exact e8 _ (by omega) (by omega)
  rw [if_neg q5, if_neg q5]
  by_cases q6 : k < 120
  · rw [if_pos q6, if_pos q6]; exact e8 _ (by omega) (by omega)
  rw [if_neg q6, if_neg q6]
  by_cases q7 : k = 120
  · rw [if_pos q7, if_pos q7]; exact a
  rw [if_neg q7, if_neg q7]
  by_cases q8 : k = 121
  · rw [if_pos q8, if_pos q8]; exact a1
  rw [if_neg q8, if_neg q8]
  exact a2
def rwOK (A : List Nat) (B : List (Nat × Int)) : Bool := !A.contains 57 && !A.contains 58 && !A.contains 59 && B.all (fun q => !(q.1 == 58) && !(q.1 == 59) && !(q.1 == 57 && (q.2 == 5 || q.2 == 6 || q.2 == 14)))
theorem RW.fr {A : List Nat} {B : List (Nat × Int)} (h : RW M b c) (hF : Fr A B M M') (e : rwOK A B = true) : RW M' b c := by
  unfold rwOK at e
  simp only [Bool.and_eq_true, Bool.not_eq_true'] at e
  obtain ⟨⟨⟨e7, e8⟩, e9⟩, eB⟩ := e
  have nA : ∀ k : Nat, A.contains k = false → k ∉ A := fun k q z => by rw [List.contains_iff_mem.mpr z] at q; cases q
  have nB : ∀ (a : Nat) (j : Int), (!(a == 58) && !(a == 59) && !(a == 57 && (j == 5 || j == 6 || j == 14))) = false → (a, j) ∉ B := fun a j q z => by
    have := List.all_eq_true.mp eB _ z
    rw [q] at this
    cases this
  exact ms_fr (fun j _ _ => hF 58 j (nA _ e8) (nB _ _ rfl)) (fun j => hF 59 j (nA _ e9) (nB _ _ rfl)) (hF 57 14 (nA _ e7) (nB _ _ rfl)) (hF 57 5 (nA _ e7) (nB _ _ rfl)) (hF 57 6 (nA _ e7) (nB _ _ rfl)) h
theorem RW.u (h : RW M b c) {a : Nat} {j x : Int} (e : a ≠ 57 ∧ a ≠ 58 ∧ a ≠ 59) : RW (uM M a j x) b c :=
  ms_fr (fun _ _ _ => uM_h (Ne.symm e.2.1)) (fun _ => uM_h (Ne.symm e.2.2)) (uM_h (Ne.symm e.1)) (uM_h (Ne.symm e.1)) (uM_h (Ne.symm e.1)) h
theorem RW.uf (h : RW M b c) {j x : Int} (e : j ≠ 5 ∧ j ≠ 6 ∧ j ≠ 14) : RW (uM M 57 j x) b c :=
  ms_fr (fun _ _ _ => uM_h (by decide)) (fun _ => uM_h (by decide)) (uM_k (Ne.symm e.2.2)) (uM_k (Ne.symm e.1)) (uM_k (Ne.symm e.2.1)) h
theorem RW.ot (h : RW M b c) {i v : Int} (e : i < b ∨ b + 114 ≤ i) : RW (uM M 58 i v) b c :=
  ms_fr (fun _ _ _ => uM_k (by omega)) (fun _ => uM_h (by decide)) (uM_h (by decide)) (uM_h (by decide)) (uM_h (by decide)) h
/-- a class number's place in a model's row -/
def mj (k : Int) : Int := if k < 10 then k else if k < 22 then k + 84 else if k < 28 then k + 86 else if k < 118 then k - 18 else k - 12
theorem RW.wr (h : RW M b c) {i k v : Int} (k0 : (0 ≤ k ∧ k < 10) ∨ (16 ≤ k ∧ k < 120)) (e : i = b + mj k) : RW (uM M 58 i v) b (upd1 c k v) := by
  intro j j0 j1
  have o : ∀ z, z ≠ i → uM M 58 i v 58 z = M 58 z := fun z q => uM_k q
  have s : ∀ z, z = i → uM M 58 i v 58 z = v := fun z q => uM_at q
  have hj := h j j0 j1
  unfold mj at e
  unfold ms at hj ⊢
  by_cases q : j = k
  · rw [show upd1 c k v j = v from if_pos q]
    by_cases q1 : j < 10
    · rw [if_pos q1]; rw [if_pos (by omega)] at e; exact s _ (by omega)
    rw [if_neg (by omega)] at e
    by_cases q3 : j < 22
    · rw [if_neg q1, if_neg (by omega), if_pos q3]; rw [if_pos (by omega)] at e; exact s _ (by omega)
    rw [if_neg (by omega)] at e
    by_cases q4 : j < 28
    · rw [if_neg q1, if_neg (by omega), if_neg q3, if_pos q4]; rw [if_pos (by omega)] at e; exact s _ (by omega)
    rw [if_neg (by omega)] at e
    by_cases q5 : j < 118
    · rw [if_neg q1, if_neg (by omega), if_neg q3, if_neg q4, if_pos q5]; rw [if_pos (by omega)] at e; exact s _ (by omega)
    rw [if_neg (by omega)] at e
    rw [if_neg q1, if_neg (by omega), if_neg q3, if_neg q4, if_neg q5, if_pos (by omega)]
    exact s _ (by omega)
  · rw [show upd1 c k v j = c j from if_neg q, ← hj]
    have e' : i = b + k ∧ k < 10 ∨ i = b + k + 84 ∧ 10 ≤ k ∧ k < 22 ∨ i = b + k + 86 ∧ 22 ≤ k ∧ k < 28 ∨ i = b + k - 18 ∧ 28 ≤ k ∧ k < 118 ∨ i = b + k - 12 ∧ 118 ≤ k := by
      split at e
      · omega
      split at e
      · omega
      split at e
      · omega
      split at e <;> omega
    by_cases q1 : j < 10
    · rw [if_pos q1, if_pos q1]; exact o _ (by omega)
    rw [if_neg q1, if_neg q1]
    by_cases q2 : j < 16
    · rw [if_pos q2, if_pos q2, show uM M 58 i v 57 6 = M 57 6 from uM_h (by decide), show uM M 58 i v 59 (j - 10) = M 59 (j - 10) from uM_h (by decide)]
    rw [if_neg q2, if_neg q2]
    by_cases q3 : j < 22
    · rw [if_pos q3, if_pos q3]; exact o _ (by omega)
    rw [if_neg q3, if_neg q3]
    by_cases q4 : j < 28
    · rw [if_pos q4, if_pos q4]; exact o _ (by omega)
    rw [if_neg q4, if_neg q4]
    by_cases q5 : j < 118
    · rw [if_pos q5, if_pos q5]; exact o _ (by omega)
    rw [if_neg q5, if_neg q5]
    by_cases q6 : j < 120
    · rw [if_pos q6, if_pos q6]; exact o _ (by omega)
    rw [if_neg q6, if_neg q6]
    by_cases q7 : j = 120
    · rw [if_pos q7, if_pos q7]; exact uM_h (by decide)
    rw [if_neg q7, if_neg q7]
    by_cases q8 : j = 121
    · rw [if_pos q8, if_pos q8]; exact uM_h (by decide)
    rw [if_neg q8, if_neg q8]
    exact uM_h (by decide)
theorem mj1 {k : Int} (h : k < 10) : mj k = k := if_pos h
theorem mj2 {k : Int} (h : 10 ≤ k) (h1 : k < 22) : mj k = k + 84 := by unfold mj; rw [if_neg (by omega), if_pos h1]
theorem mj3 {k : Int} (h : 22 ≤ k) (h1 : k < 28) : mj k = k + 86 := by unfold mj; rw [if_neg (by omega), if_neg (by omega), if_pos h1]
theorem mj4 {k : Int} (h : 28 ≤ k) (h1 : k < 118) : mj k = k - 18 := by unfold mj; rw [if_neg (by omega), if_neg (by omega), if_neg (by omega), if_pos h1]
theorem mj5 {k : Int} (h : 118 ≤ k) : mj k = k - 12 := by unfold mj; rw [if_neg (by omega), if_neg (by omega), if_neg (by omega), if_neg (by omega)]
theorem RW.w1 (h : RW M b c) {i k v : Int} (k0 : 0 ≤ k) (k1 : k < 10) (e : i = b + k) : RW (uM M 58 i v) b (upd1 c k v) := h.wr (.inl ⟨k0, k1⟩) (by rw [mj1 k1]; exact e)
theorem RW.w2 (h : RW M b c) {i k v : Int} (k0 : 16 ≤ k) (k1 : k < 22) (e : i = b + k + 84) : RW (uM M 58 i v) b (upd1 c k v) := h.wr (.inr ⟨k0, by omega⟩) (by rw [mj2 (by omega) k1]; omega)
theorem RW.w3 (h : RW M b c) {i k v : Int} (k0 : 22 ≤ k) (k1 : k < 28) (e : i = b + k + 86) : RW (uM M 58 i v) b (upd1 c k v) := h.wr (.inr ⟨by omega, by omega⟩) (by rw [mj3 (by omega) k1]; omega)
theorem RW.w4 (h : RW M b c) {i k v : Int} (k0 : 28 ≤ k) (k1 : k < 118) (e : i = b + k - 18) : RW (uM M 58 i v) b (upd1 c k v) := h.wr (.inr ⟨by omega, by omega⟩) (by rw [mj4 (by omega) k1]; omega)
theorem RW.w5 (h : RW M b c) {i k v : Int} (k0 : 118 ≤ k) (k1 : k < 120) (e : i = b + k - 12) : RW (uM M 58 i v) b (upd1 c k v) := h.wr (.inr ⟨by omega, by omega⟩) (by rw [mj5 k0]; omega)
/-- a row copied -/
theorem RW.cp (h : RW M b c) (t : Int) : RW (cpM M 58 t 58 b 114) t c := by
  intro k k0 k1
  rw [← h k k0 k1]
  have o : ∀ z y, t ≤ z → z < t + 114 → y = b + (z - t) → cpM M 58 t 58 b 114 58 z = M 58 y := fun z y q1 q2 q3 => by rw [q3]; exact if_pos ⟨rfl, q1, q2⟩
  have s : ∀ (a : Nat) z, a ≠ 58 → cpM M 58 t 58 b 114 a z = M a z := fun a z q => if_neg (fun e => q e.1)
  unfold ms
  by_cases q1 : k < 10
  · rw [if_pos q1, if_pos q1]; exact o _ _ (by omega) (by omega) (by omega)
  rw [if_neg q1, if_neg q1]
  by_cases q2 : k < 16
  · rw [if_pos q2, if_pos q2, s 57 6 (by decide), s 59 _ (by decide)]
  rw [if_neg q2, if_neg q2]
  by_cases q3 : k < 22
  · rw [if_pos q3, if_pos q3]; exact o _ _ (by omega) (by omega) (by omega)
  rw [if_neg q3, if_neg q3]
  by_cases q4 : k < 28
  · rw [if_pos q4, if_pos q4]; exact o _ _ (by omega) (by omega) (by omega)
  rw [if_neg q4, if_neg q4]
  by_cases q5 : k < 118
  · rw [if_pos q5, if_pos q5]; exact o _ _ (by omega) (by omega) (by omega)
  rw [if_neg q5, if_neg q5]
  by_cases q6 : k < 120
  · rw [if_pos q6, if_pos q6]; exact o _ _ (by omega) (by omega) (by omega)
  rw [if_neg q6, if_neg q6, s _ _ (by decide), s _ _ (by decide), s _ _ (by decide)]
theorem RW.cpo (h : RW M b c) {t f n : Int} (e : t + n ≤ b ∨ b + 114 ≤ t) : RW (cpM M 58 t 58 f n) b c :=
  ms_fr (fun j j0 j1 => if_neg (fun q => by omega)) (fun j => if_neg (fun q => by cases q.1)) (if_neg (fun q => by cases q.1)) (if_neg (fun q => by cases q.1)) (if_neg (fun q => by cases q.1)) h
end RWS
/-- what is asked for, in the model's rows -/
def MA (M : Mem) (I : Ins) : Prop := (M 57 5 = iL I ∧ M 57 6 = iW I) ∧ (∀ x, 0 ≤ x → x < iL I → (M 63 x = iN I x ∧ M 64 x = iM I x) ∧ ∀ w, 0 ≤ w → w < iW I → M 66 (6 * x + w) = iO I x w) ∧ ∀ w, 0 ≤ w → w < iW I → M 65 w = iS I w ∧ M 59 w = iZ I w
section MAS
variable {M M' : Mem} {I : Ins}
theorem MA.n (h : MA M I) (x : Int) (x0 : 0 ≤ x) (x1 : x < iL I) : M 63 x = iN I x := (h.2.1 x x0 x1).1.1
theorem MA.m (h : MA M I) (x : Int) (x0 : 0 ≤ x) (x1 : x < iL I) : M 64 x = iM I x := (h.2.1 x x0 x1).1.2
theorem MA.o (h : MA M I) (x w : Int) (x0 : 0 ≤ x) (x1 : x < iL I) (w0 : 0 ≤ w) (w1 : w < iW I) : M 66 (6 * x + w) = iO I x w := (h.2.1 x x0 x1).2 w w0 w1
theorem MA.s (h : MA M I) (w : Int) (w0 : 0 ≤ w) (w1 : w < iW I) : M 65 w = iS I w := (h.2.2 w w0 w1).1
theorem MA.z (h : MA M I) (w : Int) (w0 : 0 ≤ w) (w1 : w < iW I) : M 59 w = iZ I w := (h.2.2 w w0 w1).2
theorem ma_fr (h : MA M I) (e : ∀ (a : Nat) j, (a = 59 ∨ a = 63 ∨ a = 64 ∨ a = 65 ∨ a = 66 ∨ (a = 57 ∧ (j = 5 ∨ j = 6))) → M' a j = M a j) : MA M' I := by
  refine ⟨⟨(e 57 5 (by omega)).trans h.1.1, (e 57 6 (by omega)).trans h.1.2⟩, fun x x0 x1 => ⟨⟨(e 63 x (by omega)).trans (h.n x x0 x1), (e 64 x (by omega)).trans (h.m x x0 x1)⟩, fun w w0 w1 => (e 66 _ (by omega)).trans (h.o x w x0 x1 w0 w1)⟩, fun w w0 w1 => ⟨(e 65 w (by omega)).trans (h.s w w0 w1), (e 59 w (by omega)).trans (h.z w w0 w1)⟩⟩
def maOK (A : List Nat) (B : List (Nat × Int)) : Bool := A.all (fun a => !(a == 57) && !(a == 59) && !(a == 63) && !(a == 64) && !(a == 65) && !(a == 66)) && B.all (fun q => !(q.1 == 59) && !(q.1 == 63) && !(q.1 == 64) && !(q.1 == 65) && !(q.1 == 66) && !(q.1 == 57 && (q.2 == 5 || q.2 == 6)))
theorem MA.fr {A : List Nat} {B : List (Nat × Int)} (h : MA M I) (hF : Fr A B M M') (e : maOK A B = true) : MA M' I := by
  unfold maOK at e
  rw [Bool.and_eq_true] at e
  refine ma_fr h (fun a j q => hF a j (fun z => ?_) (fun z => ?_))
  · have := List.all_eq_true.mp e.1 _ z
    rcases q with rfl | rfl | rfl | rfl | rfl | ⟨rfl, q⟩ <;> simp at this
  · have := List.all_eq_true.mp e.2 _ z
    rcases q with rfl | rfl | rfl | rfl | rfl | ⟨rfl, rfl | rfl⟩ <;> simp at this
theorem MA.u (h : MA M I) {a : Nat} {j x : Int} (e : a ≠ 57 ∧ a ≠ 59 ∧ a ≠ 63 ∧ a ≠ 64 ∧ a ≠ 65 ∧ a ≠ 66) : MA (uM M a j x) I :=
  ma_fr h (fun a' j' q => uM_h (by omega))
theorem MA.uf (h : MA M I) {j x : Int} (e : j ≠ 5 ∧ j ≠ 6) : MA (uM M 57 j x) I :=
  ma_fr h (fun a' j' q => uM_oth (by omega))
theorem MA.q {J : Ins} (h : MA M I) (e : IQ I J) : MA M J := by
  have eL := e.L
  have eW := e.W
  refine ⟨⟨h.1.1.trans eL, h.1.2.trans eW⟩, fun x x0 x1 => ⟨⟨(h.n x x0 (by omega)).trans (e.2.2.2 x x0 (by omega)).1, (h.m x x0 (by omega)).trans (e.2.2.2 x x0 (by omega)).2⟩, fun w w0 w1 => (h.o x w x0 (by omega) w0 (by omega)).trans (e.2.1 x w x0 (by omega) w0 (by omega))⟩, fun w w0 w1 => ⟨(h.s w w0 (by omega)).trans (e.2.2.1 w w0 (by omega)).1, (h.z w w0 (by omega)).trans (e.2.2.1 w w0 (by omega)).2⟩⟩
end MAS
/-- what is asked for, without one library -/
def apI (c : Int → Int) (q : Int) : Ins := ((c 121, c 122), fun x w => if x = q then 0 else offr c x w, spr c, fun x => if x = q then 0 else nee c x, fun x => max (c (5 + x)) (if x = q then 0 else nee c x), fun w => c (10 + w))
theorem apI_n {c : Int → Int} {q : Int} (h : q < 0) : IQ (apI c q) (insOf c) := by
  refine ⟨rfl, fun x w x0 _ _ _ => if_neg (by omega), fun w _ _ => ⟨rfl, rfl⟩, fun x x0 _ => ⟨if_neg (by omega), ?_⟩⟩
  show max (c (5 + x)) (if x = q then 0 else nee c x) = max (nee c x) (c (5 + x))
  rw [if_neg (by omega)]
  exact Int.max_comm _ _
theorem apI_IB {c : Int → Int} (h : SM c) (q : Int) : IB (apI c q) := by
  have hI := h.I
  refine ⟨hI.1, hI.2.1, fun x w x0 x1 w0 w1 => ?_, fun w w0 w1 => hI.2.2.2.1 w w0 w1, fun x x0 x1 => ?_⟩
  · show 0 ≤ (if x = q then 0 else offr c x w) ∧ (if x = q then 0 else offr c x w) ≤ 3
    have : 0 ≤ offr c x w ∧ offr c x w ≤ 3 := hI.2.2.1 x w x0 x1 w0 w1
    split <;> omega
  · show (0 ≤ (if x = q then 0 else nee c x) ∧ (if x = q then 0 else nee c x) ≤ max (c (5 + x)) (if x = q then 0 else nee c x)) ∧ max (c (5 + x)) (if x = q then 0 else nee c x) ≤ 100
    have e1 : x < c 121 := x1
    have a := h.1
    have b := h.ne x0 (show x < 5 by omega)
    have c := h.2.1 x x0 (by omega)
    split <;> omega
theorem cpM_0 {M : Mem} {h s : Nat} {a b : Int} : cpM M h a s b 0 = M := by
  funext x k
  exact if_neg (fun q => by omega)
theorem cpM_s {M : Mem} {t f i n : Int} (h : 0 ≤ i) (d : f + n ≤ t ∨ t + n ≤ f) (hn : i ≤ n) (hi : i < n := by omega) : uM (cpM M 58 t 58 f i) 58 (t + i) (cpM M 58 t 58 f i 58 (f + i)) = cpM M 58 t 58 f (i + 1) := by
  funext a k
  unfold uM
  by_cases q : a = 58 ∧ k = t + i
  · rw [if_pos q]
    show (if 58 = 58 ∧ t ≤ f + i ∧ f + i < t + i then _ else _) = (if a = 58 ∧ t ≤ k ∧ k < t + (i + 1) then M 58 (f + (k - t)) else _)
    rw [if_neg (by omega), if_pos ⟨q.1, by omega, by omega⟩, q.2]
    congr 1
    omega
  · rw [if_neg q]
    show (if a = 58 ∧ t ≤ k ∧ k < t + i then _ else _) = (if a = 58 ∧ t ≤ k ∧ k < t + (i + 1) then _ else _)
    by_cases q2 : a = 58 ∧ t ≤ k ∧ k < t + i
    · rw [if_pos q2, if_pos ⟨q2.1, q2.2.1, by omega⟩]
    · rw [if_neg q2, if_neg (fun z => by
        by_cases e : k = t + i
        · exact q ⟨z.1, e⟩
        · exact q2 ⟨z.1, z.2.1, by omega⟩)]

theorem dX12_within_0 : decode cX12_within 0 = .ok (.iload_n 0, 1) := by decide +kernel
theorem dX12_within_1 : decode cX12_within 1 = .ok (.iload_n 1, 1) := by decide +kernel
theorem dX12_within_2 : decode cX12_within 2 = .ok (.if_icmp .lt 12, 3) := by decide +kernel
theorem dX12_within_5 : decode cX12_within 5 = .ok (.iload_n 0, 1) := by decide +kernel
theorem dX12_within_6 : decode cX12_within 6 = .ok (.iload_n 2, 1) := by decide +kernel
theorem dX12_within_7 : decode cX12_within 7 = .ok (.if_icmp .gt 7, 3) := by decide +kernel
theorem dX12_within_10 : decode cX12_within 10 = .ok (.iconst 1, 1) := by decide +kernel
theorem dX12_within_11 : decode cX12_within 11 = .ok (.goto 4, 3) := by decide +kernel
theorem dX12_within_14 : decode cX12_within 14 = .ok (.iconst 0, 1) := by decide +kernel
theorem dX12_within_15 : decode cX12_within 15 = .ok (.ireturn, 1) := by decide +kernel
set_option maxHeartbeats 400000 in
theorem c12_within {G : Gl} {l : Launch}  {M : Mem} {v lo hi : Int}  : Ct G LY 82 l 0 m12_within [vI v, vI lo, vI hi] M (Ret (vI (bP (lo ≤ v ∧ v ≤ hi))) M) := by
  refine R_start (by decide +kernel) (Nat.le_of_ble_eq_true rfl) (fun C hC hRm hlau => ?_)
  show RZ G LY C (Zn G LY 82 C (Ret (vI (bP (lo ≤ v ∧ v ≤ hi))) M)) 0 0 82 0 [some (vI v), some (vI lo), some (vI hi)] [] M
  refine R_iload_0 hC dX12_within_0 ?_
  refine R_iload_1 hC dX12_within_1 ?_
  refine R_icmp_lt hC dX12_within_2 (tgt := 14) (by decide) (fun hb2 => ?_) (fun hb2 => ?_)
  · skip
    refine R_iconst hC dX12_within_14 ⟨by decide, by decide⟩ ?_
    exact R_zreturn hC dX12_within_15 rfl (.inl rfl) (ret_f (by omega))
  · skip
    refine R_iload_0 hC dX12_within_5 ?_
    refine R_iload_2 hC dX12_within_6 ?_
    refine R_icmp_gt hC dX12_within_7 (tgt := 14) (by decide) (fun hb7 => ?_) (fun hb7 => ?_)
    · skip
      refine R_iconst hC dX12_within_14 ⟨by decide, by decide⟩ ?_
      exact R_zreturn hC dX12_within_15 rfl (.inl rfl) (ret_f (by omega))
    · skip
      refine R_iconst hC dX12_within_10 ⟨by decide, by decide⟩ ?_
      refine R_goto hC dX12_within_11 (tgt := 15) (by decide) ?_
      exact R_zreturn hC dX12_within_15 rfl (.inr rfl) (ret_t (by omega))
theorem dX12_greater_0 : decode cX12_greater 0 = .ok (.iload_n 0, 1) := by decide +kernel
theorem dX12_greater_1 : decode cX12_greater 1 = .ok (.iload_n 1, 1) := by decide +kernel
theorem dX12_greater_2 : decode cX12_greater 2 = .ok (.if_icmp .le 7, 3) := by decide +kernel
theorem dX12_greater_5 : decode cX12_greater 5 = .ok (.iload_n 0, 1) := by decide +kernel
theorem dX12_greater_6 : decode cX12_greater 6 = .ok (.goto 4, 3) := by decide +kernel
theorem dX12_greater_9 : decode cX12_greater 9 = .ok (.iload_n 1, 1) := by decide +kernel
theorem dX12_greater_10 : decode cX12_greater 10 = .ok (.ireturn, 1) := by decide +kernel
set_option maxHeartbeats 400000 in
theorem c12_greater {G : Gl} {l : Launch}  {M : Mem} {p q : Int}  : Ct G LY 82 l 0 m12_greater [vI p, vI q] M (Ret (vI (max p q)) M) := by
  refine R_start (by decide +kernel) (Nat.le_of_ble_eq_true rfl) (fun C hC hRm hlau => ?_)
  show RZ G LY C (Zn G LY 82 C (Ret (vI (max p q)) M)) 0 0 82 0 [some (vI p), some (vI q)] [] M
  refine R_iload_0 hC dX12_greater_0 ?_
  refine R_iload_1 hC dX12_greater_1 ?_
  refine R_icmp_le hC dX12_greater_2 (tgt := 9) (by decide) (fun hb2 => ?_) (fun hb2 => ?_)
  · skip
    refine R_iload_1 hC dX12_greater_9 ?_
    exact R_ireturn hC dX12_greater_10 rfl (ret_I (by omega))
  · skip
    refine R_iload_0 hC dX12_greater_5 ?_
    refine R_goto hC dX12_greater_6 (tgt := 10) (by decide) ?_
    exact R_ireturn hC dX12_greater_10 rfl (ret_I (by omega))
theorem dX12_lesser_0 : decode cX12_lesser 0 = .ok (.iload_n 0, 1) := by decide +kernel
theorem dX12_lesser_1 : decode cX12_lesser 1 = .ok (.iload_n 1, 1) := by decide +kernel
theorem dX12_lesser_2 : decode cX12_lesser 2 = .ok (.if_icmp .ge 7, 3) := by decide +kernel
theorem dX12_lesser_5 : decode cX12_lesser 5 = .ok (.iload_n 0, 1) := by decide +kernel
theorem dX12_lesser_6 : decode cX12_lesser 6 = .ok (.goto 4, 3) := by decide +kernel
theorem dX12_lesser_9 : decode cX12_lesser 9 = .ok (.iload_n 1, 1) := by decide +kernel
theorem dX12_lesser_10 : decode cX12_lesser 10 = .ok (.ireturn, 1) := by decide +kernel
set_option maxHeartbeats 400000 in
theorem c12_lesser {G : Gl} {l : Launch}  {M : Mem} {p q : Int}  : Ct G LY 82 l 0 m12_lesser [vI p, vI q] M (Ret (vI (min p q)) M) := by
  refine R_start (by decide +kernel) (Nat.le_of_ble_eq_true rfl) (fun C hC hRm hlau => ?_)
  show RZ G LY C (Zn G LY 82 C (Ret (vI (min p q)) M)) 0 0 82 0 [some (vI p), some (vI q)] [] M
  refine R_iload_0 hC dX12_lesser_0 ?_
  refine R_iload_1 hC dX12_lesser_1 ?_
  refine R_icmp_ge hC dX12_lesser_2 (tgt := 9) (by decide) (fun hb2 => ?_) (fun hb2 => ?_)
  · skip
    refine R_iload_1 hC dX12_lesser_9 ?_
    exact R_ireturn hC dX12_lesser_10 rfl (ret_I (by omega))
  · skip
    refine R_iload_0 hC dX12_lesser_5 ?_
    refine R_goto hC dX12_lesser_6 (tgt := 10) (by decide) ?_
    exact R_ireturn hC dX12_lesser_10 rfl (ret_I (by omega))
theorem dX12_cell_0 : decode cX12_cell 0 = .ok (.bipush 6, 2) := by decide +kernel
theorem dX12_cell_2 : decode cX12_cell 2 = .ok (.iload_n 0, 1) := by decide +kernel
theorem dX12_cell_3 : decode cX12_cell 3 = .ok (.imul, 1) := by decide +kernel
theorem dX12_cell_4 : decode cX12_cell 4 = .ok (.iload_n 1, 1) := by decide +kernel
theorem dX12_cell_5 : decode cX12_cell 5 = .ok (.iadd, 1) := by decide +kernel
theorem dX12_cell_6 : decode cX12_cell 6 = .ok (.ireturn, 1) := by decide +kernel
set_option maxHeartbeats 400000 in
theorem c12_cell {G : Gl} {l : Launch}  {M : Mem} {x w : Int} (hx0 : 0 ≤ x) (hx1 : x ≤ 1000) (hw0 : 0 ≤ w) (hw1 : w ≤ 1000) : Ct G LY 82 l 0 m12_cell [vI x, vI w] M (Ret (vI (6 * x + w)) M) := by
  refine R_start (by decide +kernel) (Nat.le_of_ble_eq_true rfl) (fun C hC hRm hlau => ?_)
  show RZ G LY C (Zn G LY 82 C (Ret (vI (6 * x + w)) M)) 0 0 82 0 [some (vI x), some (vI w)] [] M
  refine R_bipush hC dX12_cell_0 (by decide +kernel) ⟨by decide, by decide⟩ ?_
  refine R_iload_0 hC dX12_cell_2 ?_
  refine R_imul hC dX12_cell_3 ⟨by omega, by omega⟩ ?_
  refine R_iload_1 hC dX12_cell_4 ?_
  refine R_iadd hC dX12_cell_5 ⟨by omega, by omega⟩ ?_
  exact R_ireturn hC dX12_cell_6 rfl (ret_I (by first | rfl | omega))
theorem dX12_right_0 : decode cX12_right 0 = .ok (.aload_n 0, 1) := by decide +kernel
theorem dX12_right_1 : decode cX12_right 1 = .ok (.getfield 84, 3) := by decide +kernel
theorem dX12_right_4 : decode cX12_right 4 = .ok (.ifCond .ne 12, 3) := by decide +kernel
theorem dX12_right_7 : decode cX12_right 7 = .ok (.iload_n 1, 1) := by decide +kernel
theorem dX12_right_8 : decode cX12_right 8 = .ok (.ifCond .ne 8, 3) := by decide +kernel
theorem dX12_right_11 : decode cX12_right 11 = .ok (.aload_n 0, 1) := by decide +kernel
theorem dX12_right_12 : decode cX12_right 12 = .ok (.iload_n 2, 1) := by decide +kernel
theorem dX12_right_13 : decode cX12_right 13 = .ok (.putfield 84, 3) := by decide +kernel
theorem dX12_right_16 : decode cX12_right 16 = .ok (.aload_n 0, 1) := by decide +kernel
theorem dX12_right_17 : decode cX12_right 17 = .ok (.getfield 84, 3) := by decide +kernel
theorem dX12_right_20 : decode cX12_right 20 = .ok (.ifCond .ne 7, 3) := by decide +kernel
theorem dX12_right_23 : decode cX12_right 23 = .ok (.iconst 1, 1) := by decide +kernel
theorem dX12_right_24 : decode cX12_right 24 = .ok (.goto 4, 3) := by decide +kernel
theorem dX12_right_27 : decode cX12_right 27 = .ok (.iconst 0, 1) := by decide +kernel
theorem dX12_right_28 : decode cX12_right 28 = .ok (.ireturn, 1) := by decide +kernel
set_option maxHeartbeats 400000 in
theorem c12_right {G : Gl} {l : Launch}  {M : Mem} {t q : Int}  : Ct G LY 82 l 0 m12_right [vR 57, vI t, vI q] M (RP (fun v M' => Fr [] [(57, 4)] M M' ∧ M' 57 4 = (if M 57 4 = 0 ∧ t = 0 then q else M 57 4) ∧ v = bP (M' 57 4 = 0))) := by
  refine R_start (by decide +kernel) (Nat.le_of_ble_eq_true rfl) (fun C hC hRm hlau => ?_)
  show RZ G LY C (Zn G LY 82 C (RP (fun v M' => Fr [] [(57, 4)] M M' ∧ M' 57 4 = (if M 57 4 = 0 ∧ t = 0 then q else M 57 4) ∧ v = bP (M' 57 4 = 0)))) 0 0 82 0 [some (vR 57), some (vI t), some (vI q)] [] M
  have L16 : ∀  (M2 : Mem), (Fr [] [(57, 4)] M M2) → (M2 57 4 = (if M 57 4 = 0 ∧ t = 0 then q else M 57 4)) → RZ G LY C (Zn G LY 82 C (RP (fun v M' => Fr [] [(57, 4)] M M' ∧ M' 57 4 = (if M 57 4 = 0 ∧ t = 0 then q else M 57 4) ∧ v = bP (M' 57 4 = 0)))) 0 0 82 16 [some (vR 57), some (vI t), some (vI q)] [] M2 := by
    intro M2 hF h4
    refine R_aload_0 hC dX12_right_16 ?_
    refine R_getI hC dX12_right_17 fl_12_84 (by decide) rfl (by decide) (by decide) (fi := 4) rfl ?_
    refine R_if_ne hC dX12_right_20 (tgt := 27) (by decide) (fun hb20 => ?_) (fun hb20 => ?_)
    · skip
      refine R_iconst hC dX12_right_27 ⟨by decide, by decide⟩ ?_
      exact R_zreturn hC dX12_right_28 rfl (.inl rfl) (ret_P ⟨hF, h4, by first | exact (bP_pos hb20).symm | exact (bP_neg hb20).symm⟩)
    · skip
      refine R_iconst hC dX12_right_23 ⟨by decide, by decide⟩ ?_
      refine R_goto hC dX12_right_24 (tgt := 28) (by decide) ?_
      exact R_zreturn hC dX12_right_28 rfl (.inr rfl) (ret_P ⟨hF, h4, by first | exact (bP_pos hb20).symm | exact (bP_neg hb20).symm⟩)
  refine R_aload_0 hC dX12_right_0 ?_
  refine R_getI hC dX12_right_1 fl_12_84 (by decide) rfl (by decide) (by decide) (fi := 4) rfl ?_
  refine R_if_ne hC dX12_right_4 (tgt := 16) (by decide) (fun hb4 => ?_) (fun hb4 => ?_)
  · skip
    exact L16 _ (by first | exact Fr.rf | exact Fr.uB Fr.rf (by decide)) (by first | (rw [if_pos (by omega)]; exact uM_same) | (rw [if_neg (by omega)]))
  · skip
    refine R_iload_1 hC dX12_right_7 ?_
    refine R_if_ne hC dX12_right_8 (tgt := 16) (by decide) (fun hb8 => ?_) (fun hb8 => ?_)
    · skip
      exact L16 _ (by first | exact Fr.rf | exact Fr.uB Fr.rf (by decide)) (by first | (rw [if_pos (by omega)]; exact uM_same) | (rw [if_neg (by omega)]))
    · skip
      refine R_aload_0 hC dX12_right_11 ?_
      refine R_iload_2 hC dX12_right_12 ?_
      refine R_putI hC dX12_right_13 fl_12_84 (by decide) rfl (by decide) (by decide) (fi := 4) rfl ?_
      exact L16 _ (by first | exact Fr.rf | exact Fr.uB Fr.rf (by decide)) (by first | (rw [if_pos (by omega)]; exact uM_same) | (rw [if_neg (by omega)]))
theorem dX12_copies_0 : decode cX12_copies 0 = .ok (.iconst 0, 1) := by decide +kernel
theorem dX12_copies_1 : decode cX12_copies 1 = .ok (.istore 4, 2) := by decide +kernel
theorem dX12_copies_3 : decode cX12_copies 3 = .ok (.iload 4, 2) := by decide +kernel
theorem dX12_copies_5 : decode cX12_copies 5 = .ok (.iload_n 3, 1) := by decide +kernel
theorem dX12_copies_6 : decode cX12_copies 6 = .ok (.if_icmp .ge 27, 3) := by decide +kernel
theorem dX12_copies_9 : decode cX12_copies 9 = .ok (.aload_n 0, 1) := by decide +kernel
theorem dX12_copies_10 : decode cX12_copies 10 = .ok (.getfield 9, 3) := by decide +kernel
theorem dX12_copies_13 : decode cX12_copies 13 = .ok (.iload_n 2, 1) := by decide +kernel
theorem dX12_copies_14 : decode cX12_copies 14 = .ok (.iload 4, 2) := by decide +kernel
theorem dX12_copies_16 : decode cX12_copies 16 = .ok (.iadd, 1) := by decide +kernel
theorem dX12_copies_17 : decode cX12_copies 17 = .ok (.aload_n 0, 1) := by decide +kernel
theorem dX12_copies_18 : decode cX12_copies 18 = .ok (.getfield 9, 3) := by decide +kernel
theorem dX12_copies_21 : decode cX12_copies 21 = .ok (.iload_n 1, 1) := by decide +kernel
theorem dX12_copies_22 : decode cX12_copies 22 = .ok (.iload 4, 2) := by decide +kernel
theorem dX12_copies_24 : decode cX12_copies 24 = .ok (.iadd, 1) := by decide +kernel
theorem dX12_copies_25 : decode cX12_copies 25 = .ok (.iaload, 1) := by decide +kernel
theorem dX12_copies_26 : decode cX12_copies 26 = .ok (.iastore, 1) := by decide +kernel
theorem dX12_copies_27 : decode cX12_copies 27 = .ok (.iinc 4 1, 3) := by decide +kernel
theorem dX12_copies_30 : decode cX12_copies 30 = .ok (.goto (-27), 3) := by decide +kernel
theorem dX12_copies_33 : decode cX12_copies 33 = .ok (.return_, 1) := by decide +kernel
set_option maxHeartbeats 400000 in
theorem c12_copies {G : Gl} {l : Launch}  {M : Mem} {f t n : Int} (hG : GR M) (hf0 : 0 ≤ f) (ht0 : 0 ≤ t) (hn0 : 0 ≤ n) (hf1 : f + n ≤ 9800) (ht1 : t + n ≤ 9800) (hft : f + n ≤ t ∨ t + n ≤ f) : Ct G LY 82 l 0 m12_copies [vR 57, vI f, vI t, vI n] M (RV (fun M' => M' = cpM M 58 t 58 f n)) := by
  refine R_start (by decide +kernel) (Nat.le_of_ble_eq_true rfl) (fun C hC hRm hlau => ?_)
  show RZ G LY C (Zn G LY 82 C (RV (fun M' => M' = cpM M 58 t 58 f n))) 0 0 82 0 [some (vR 57), some (vI f), some (vI t), some (vI n), none] [] M
  refine R_iconst hC dX12_copies_0 ⟨by decide, by decide⟩ ?_
  refine R_istore_4 hC dX12_copies_1 rfl ?_
  have L3 : ∀ (mq : Nat) (i : Int) (M2 : Mem), (0 ≤ i) → (i ≤ n) → (GR M2) → (M2 = cpM M 58 t 58 f i) → (n - i).toNat < mq → RZ G LY C (Zn G LY 82 C (RV (fun M' => M' = cpM M 58 t 58 f n))) 0 0 82 3 [some (vR 57), some (vI f), some (vI t), some (vI n), some (vI i)] [] M2 := by
    intro mq
    induction mq with
    | zero =>
      intro i M2 hi0 hi1 hg hM hm
      exact absurd hm (Nat.not_lt_zero _)
    | succ mq ih3 =>
      intro i M2 hi0 hi1 hg hM hm3
      refine R_iload_4 hC dX12_copies_3 ?_
      refine R_iload_3 hC dX12_copies_5 ?_
      refine R_icmp_ge hC dX12_copies_6 (tgt := 33) (by decide) (fun hb6 => ?_) (fun hb6 => ?_)
      · skip
        exact R_return hC dX12_copies_33 rfl (ret_V (by rw [hM, show i = n by omega]))
      · skip
        refine R_aload_0 hC dX12_copies_9 ?_
        refine R_getR hC dX12_copies_10 fl_12_9 (by decide) rfl (by decide) (by decide) (fi := 0) rfl (r := 58) (gr_57_0 hg) ?_
        refine R_iload_2 hC dX12_copies_13 ?_
        refine R_iload_4 hC dX12_copies_14 ?_
        refine R_iadd hC dX12_copies_16 ⟨by omega, by omega⟩ ?_
        refine R_aload_0 hC dX12_copies_17 ?_
        refine R_getR hC dX12_copies_18 fl_12_9 (by decide) rfl (by decide) (by decide) (fi := 0) rfl (r := 58) (gr_57_0 hg) ?_
        refine R_iload_1 hC dX12_copies_21 ?_
        refine R_iload_4 hC dX12_copies_22 ?_
        refine R_iadd hC dX12_copies_24 ⟨by omega, by omega⟩ ?_
        refine R_iaload hC dX12_copies_25 (by decide) rfl (by omega) (by omega) ?_
        refine R_iastore hC dX12_copies_26 (by decide) rfl (by omega) (by omega) ?_
        refine R_iinc_4 hC dX12_copies_27 rfl ⟨by omega, by omega⟩ ?_
        refine R_goto hC dX12_copies_30 (tgt := 3) (by decide) ?_
        have hG1 : GR (uM M2 58 (t + i) (M2 58 (f + i))) := (GR.uA hg (by decide +kernel) (.inl (by decide)))
        exact ih3 _ _ (by omega) (by omega) hG1 (by rw [hM]; exact cpM_s hi0 hft hi1) (by omega)
  exact L3 _ _ _ (by omega) (by omega) hG cpM_0.symm (Nat.lt_succ_self _)
theorem dX12_holds_0 : decode cX12_holds 0 = .ok (.aload_n 0, 1) := by decide +kernel
theorem dX12_holds_1 : decode cX12_holds 1 = .ok (.getfield 9, 3) := by decide +kernel
theorem dX12_holds_4 : decode cX12_holds 4 = .ok (.iload_n 1, 1) := by decide +kernel
theorem dX12_holds_5 : decode cX12_holds 5 = .ok (.bipush 10, 2) := by decide +kernel
theorem dX12_holds_7 : decode cX12_holds 7 = .ok (.iadd, 1) := by decide +kernel
theorem dX12_holds_8 : decode cX12_holds 8 = .ok (.iload_n 2, 1) := by decide +kernel
theorem dX12_holds_9 : decode cX12_holds 9 = .ok (.iload_n 3, 1) := by decide +kernel
theorem dX12_holds_10 : decode cX12_holds 10 = .ok (.invokestatic 87, 3) := by decide +kernel
theorem dX12_holds_13 : decode cX12_holds 13 = .ok (.iadd, 1) := by decide +kernel
theorem dX12_holds_14 : decode cX12_holds 14 = .ok (.iaload, 1) := by decide +kernel
theorem dX12_holds_15 : decode cX12_holds 15 = .ok (.ireturn, 1) := by decide +kernel
set_option maxHeartbeats 400000 in
theorem c12_holds {G : Gl} {l : Launch}  {M : Mem} {b : Int} {c : Int → Int} {x w : Int} (hG : GR M) (hK : RW M b c) (hb0 : 0 ≤ b) (hb1 : b ≤ 9686) (hx0 : 0 ≤ x) (hx1 : x < 5) (hw0 : 0 ≤ w) (hw1 : w < 6) : Ct G LY 82 l 1 m12_holds [vR 57, vI b, vI x, vI w] M (Ret (vI (c (28 + x * 6 + w))) M) := by
  refine R_start (by decide +kernel) (Nat.le_of_ble_eq_true rfl) (fun C hC hRm hlau => ?_)
  show RZ G LY C (Zn G LY 82 C (Ret (vI (c (28 + x * 6 + w))) M)) 0 0 82 0 [some (vR 57), some (vI b), some (vI x), some (vI w)] [] M
  refine R_aload_0 hC dX12_holds_0 ?_
  refine R_getR hC dX12_holds_1 fl_12_9 (by decide) rfl (by decide) (by decide) (fi := 0) rfl (r := 58) (gr_57_0 hG) ?_
  refine R_iload_1 hC dX12_holds_4 ?_
  refine R_bipush hC dX12_holds_5 (by decide +kernel) ⟨by decide, by decide⟩ ?_
  refine R_iadd hC dX12_holds_7 ⟨by omega, by omega⟩ ?_
  refine R_iload_2 hC dX12_holds_8 ?_
  refine R_iload_3 hC dX12_holds_9 ?_
  refine R_callSq (as := [vI _, vI _]) hC dX12_holds_10 mo_12_cell ml_12_87 (c12_cell  (by omega) (by omega) (by omega) (by omega)) rfl rfl hRm (by decide) (by decide) (Nat.le_of_ble_eq_true rfl) ?_
  refine R_iadd hC dX12_holds_13 ⟨by omega, by omega⟩ ?_
  refine R_ialoadE hC dX12_holds_14 (by decide) rfl (by omega) (by omega) (hK.r4 (k := 28 + x * 6 + w) (by omega) (by omega) (by omega)) ?_
  exact R_ireturn hC dX12_holds_15 rfl (ret_I (by first | rfl | omega))
theorem dX12_counts_0 : decode cX12_counts 0 = .ok (.aload_n 0, 1) := by decide +kernel
theorem dX12_counts_1 : decode cX12_counts 1 = .ok (.getfield 9, 3) := by decide +kernel
theorem dX12_counts_4 : decode cX12_counts 4 = .ok (.iload_n 1, 1) := by decide +kernel
theorem dX12_counts_5 : decode cX12_counts 5 = .ok (.bipush 40, 2) := by decide +kernel
theorem dX12_counts_7 : decode cX12_counts 7 = .ok (.iadd, 1) := by decide +kernel
theorem dX12_counts_8 : decode cX12_counts 8 = .ok (.iload_n 2, 1) := by decide +kernel
theorem dX12_counts_9 : decode cX12_counts 9 = .ok (.iload_n 3, 1) := by decide +kernel
theorem dX12_counts_10 : decode cX12_counts 10 = .ok (.invokestatic 87, 3) := by decide +kernel
theorem dX12_counts_13 : decode cX12_counts 13 = .ok (.iadd, 1) := by decide +kernel
theorem dX12_counts_14 : decode cX12_counts 14 = .ok (.iaload, 1) := by decide +kernel
theorem dX12_counts_15 : decode cX12_counts 15 = .ok (.ifCond .le 34, 3) := by decide +kernel
theorem dX12_counts_18 : decode cX12_counts 18 = .ok (.aload_n 0, 1) := by decide +kernel
theorem dX12_counts_19 : decode cX12_counts 19 = .ok (.getfield 9, 3) := by decide +kernel
theorem dX12_counts_22 : decode cX12_counts 22 = .ok (.iload_n 1, 1) := by decide +kernel
theorem dX12_counts_23 : decode cX12_counts 23 = .ok (.bipush 106, 2) := by decide +kernel
theorem dX12_counts_25 : decode cX12_counts 25 = .ok (.iadd, 1) := by decide +kernel
theorem dX12_counts_26 : decode cX12_counts 26 = .ok (.iaload, 1) := by decide +kernel
theorem dX12_counts_27 : decode cX12_counts 27 = .ok (.aload_n 0, 1) := by decide +kernel
theorem dX12_counts_28 : decode cX12_counts 28 = .ok (.getfield 9, 3) := by decide +kernel
theorem dX12_counts_31 : decode cX12_counts 31 = .ok (.iload_n 1, 1) := by decide +kernel
theorem dX12_counts_32 : decode cX12_counts 32 = .ok (.bipush 70, 2) := by decide +kernel
theorem dX12_counts_34 : decode cX12_counts 34 = .ok (.iadd, 1) := by decide +kernel
theorem dX12_counts_35 : decode cX12_counts 35 = .ok (.iload_n 2, 1) := by decide +kernel
theorem dX12_counts_36 : decode cX12_counts 36 = .ok (.iload_n 3, 1) := by decide +kernel
theorem dX12_counts_37 : decode cX12_counts 37 = .ok (.invokestatic 87, 3) := by decide +kernel
theorem dX12_counts_40 : decode cX12_counts 40 = .ok (.iadd, 1) := by decide +kernel
theorem dX12_counts_41 : decode cX12_counts 41 = .ok (.iaload, 1) := by decide +kernel
theorem dX12_counts_42 : decode cX12_counts 42 = .ok (.if_icmp .gt 7, 3) := by decide +kernel
theorem dX12_counts_45 : decode cX12_counts 45 = .ok (.iconst 1, 1) := by decide +kernel
theorem dX12_counts_46 : decode cX12_counts 46 = .ok (.goto 4, 3) := by decide +kernel
theorem dX12_counts_49 : decode cX12_counts 49 = .ok (.iconst 0, 1) := by decide +kernel
theorem dX12_counts_50 : decode cX12_counts 50 = .ok (.ireturn, 1) := by decide +kernel
set_option maxHeartbeats 400000 in
theorem c12_counts {G : Gl} {l : Launch}  {M : Mem} {b : Int} {c : Int → Int} {x w : Int} (hG : GR M) (hK : RW M b c) (hb0 : 0 ≤ b) (hb1 : b ≤ 9686) (hx0 : 0 ≤ x) (hx1 : x < 5) (hw0 : 0 ≤ w) (hw1 : w < 6) : Ct G LY 82 l 1 m12_counts [vR 57, vI b, vI x, vI w] M (Ret (vI (bP (0 < c (58 + x * 6 + w) ∧ c 118 ≤ c (88 + x * 6 + w)))) M) := by
  refine R_start (by decide +kernel) (Nat.le_of_ble_eq_true rfl) (fun C hC hRm hlau => ?_)
  show RZ G LY C (Zn G LY 82 C (Ret (vI (bP (0 < c (58 + x * 6 + w) ∧ c 118 ≤ c (88 + x * 6 + w)))) M)) 0 0 82 0 [some (vR 57), some (vI b), some (vI x), some (vI w)] [] M
  refine R_aload_0 hC dX12_counts_0 ?_
  refine R_getR hC dX12_counts_1 fl_12_9 (by decide) rfl (by decide) (by decide) (fi := 0) rfl (r := 58) (gr_57_0 hG) ?_
  refine R_iload_1 hC dX12_counts_4 ?_
  refine R_bipush hC dX12_counts_5 (by decide +kernel) ⟨by decide, by decide⟩ ?_
  refine R_iadd hC dX12_counts_7 ⟨by omega, by omega⟩ ?_
  refine R_iload_2 hC dX12_counts_8 ?_
  refine R_iload_3 hC dX12_counts_9 ?_
  refine R_callSq (as := [vI _, vI _]) hC dX12_counts_10 mo_12_cell ml_12_87 (c12_cell  (by omega) (by omega) (by omega) (by omega)) rfl rfl hRm (by decide) (by decide) (Nat.le_of_ble_eq_true rfl) ?_
  refine R_iadd hC dX12_counts_13 ⟨by omega, by omega⟩ ?_
  refine R_ialoadE hC dX12_counts_14 (by decide) rfl (by omega) (by omega) (hK.r4 (k := 58 + x * 6 + w) (by omega) (by omega) (by omega)) ?_
  refine R_if_le hC dX12_counts_15 (tgt := 49) (by decide) (fun hb15 => ?_) (fun hb15 => ?_)
  · skip
    refine R_iconst hC dX12_counts_49 ⟨by decide, by decide⟩ ?_
    exact R_zreturn hC dX12_counts_50 rfl (.inl rfl) (ret_f (by omega))
  · skip
    refine R_aload_0 hC dX12_counts_18 ?_
    refine R_getR hC dX12_counts_19 fl_12_9 (by decide) rfl (by decide) (by decide) (fi := 0) rfl (r := 58) (gr_57_0 hG) ?_
    refine R_iload_1 hC dX12_counts_22 ?_
    refine R_bipush hC dX12_counts_23 (by decide +kernel) ⟨by decide, by decide⟩ ?_
    refine R_iadd hC dX12_counts_25 ⟨by omega, by omega⟩ ?_
    refine R_ialoadE hC dX12_counts_26 (by decide) rfl (by omega) (by omega) (hK.r5 (k := 118) (by omega) (by omega) (by omega)) ?_
    refine R_aload_0 hC dX12_counts_27 ?_
    refine R_getR hC dX12_counts_28 fl_12_9 (by decide) rfl (by decide) (by decide) (fi := 0) rfl (r := 58) (gr_57_0 hG) ?_
    refine R_iload_1 hC dX12_counts_31 ?_
    refine R_bipush hC dX12_counts_32 (by decide +kernel) ⟨by decide, by decide⟩ ?_
    refine R_iadd hC dX12_counts_34 ⟨by omega, by omega⟩ ?_
    refine R_iload_2 hC dX12_counts_35 ?_
    refine R_iload_3 hC dX12_counts_36 ?_
    refine R_callSq (as := [vI _, vI _]) hC dX12_counts_37 mo_12_cell ml_12_87 (c12_cell  (by omega) (by omega) (by omega) (by omega)) rfl rfl hRm (by decide) (by decide) (Nat.le_of_ble_eq_true rfl) ?_
    refine R_iadd hC dX12_counts_40 ⟨by omega, by omega⟩ ?_
    refine R_ialoadE hC dX12_counts_41 (by decide) rfl (by omega) (by omega) (hK.r4 (k := 88 + x * 6 + w) (by omega) (by omega) (by omega)) ?_
    refine R_icmp_gt hC dX12_counts_42 (tgt := 49) (by decide) (fun hb42 => ?_) (fun hb42 => ?_)
    · skip
      refine R_iconst hC dX12_counts_49 ⟨by decide, by decide⟩ ?_
      exact R_zreturn hC dX12_counts_50 rfl (.inl rfl) (ret_f (by omega))
    · skip
      refine R_iconst hC dX12_counts_45 ⟨by decide, by decide⟩ ?_
      refine R_goto hC dX12_counts_46 (tgt := 50) (by decide) ?_
      exact R_zreturn hC dX12_counts_50 rfl (.inr rfl) (ret_t (by omega))
theorem dX12_offerOf_0 : decode cX12_offerOf 0 = .ok (.aload_n 0, 1) := by decide +kernel
theorem dX12_offerOf_1 : decode cX12_offerOf 1 = .ok (.iload_n 1, 1) := by decide +kernel
theorem dX12_offerOf_2 : decode cX12_offerOf 2 = .ok (.iload_n 2, 1) := by decide +kernel
theorem dX12_offerOf_3 : decode cX12_offerOf 3 = .ok (.iload_n 3, 1) := by decide +kernel
theorem dX12_offerOf_4 : decode cX12_offerOf 4 = .ok (.invokevirtual 91, 3) := by decide +kernel
theorem dX12_offerOf_7 : decode cX12_offerOf 7 = .ok (.ifCond .eq 21, 3) := by decide +kernel
theorem dX12_offerOf_10 : decode cX12_offerOf 10 = .ok (.aload_n 0, 1) := by decide +kernel
theorem dX12_offerOf_11 : decode cX12_offerOf 11 = .ok (.getfield 9, 3) := by decide +kernel
theorem dX12_offerOf_14 : decode cX12_offerOf 14 = .ok (.iload_n 1, 1) := by decide +kernel
theorem dX12_offerOf_15 : decode cX12_offerOf 15 = .ok (.bipush 40, 2) := by decide +kernel
theorem dX12_offerOf_17 : decode cX12_offerOf 17 = .ok (.iadd, 1) := by decide +kernel
theorem dX12_offerOf_18 : decode cX12_offerOf 18 = .ok (.iload_n 2, 1) := by decide +kernel
theorem dX12_offerOf_19 : decode cX12_offerOf 19 = .ok (.iload_n 3, 1) := by decide +kernel
theorem dX12_offerOf_20 : decode cX12_offerOf 20 = .ok (.invokestatic 87, 3) := by decide +kernel
theorem dX12_offerOf_23 : decode cX12_offerOf 23 = .ok (.iadd, 1) := by decide +kernel
theorem dX12_offerOf_24 : decode cX12_offerOf 24 = .ok (.iaload, 1) := by decide +kernel
theorem dX12_offerOf_25 : decode cX12_offerOf 25 = .ok (.goto 4, 3) := by decide +kernel
theorem dX12_offerOf_28 : decode cX12_offerOf 28 = .ok (.iconst 0, 1) := by decide +kernel
theorem dX12_offerOf_29 : decode cX12_offerOf 29 = .ok (.istore 4, 2) := by decide +kernel
theorem dX12_offerOf_31 : decode cX12_offerOf 31 = .ok (.iconst 0, 1) := by decide +kernel
theorem dX12_offerOf_32 : decode cX12_offerOf 32 = .ok (.aload_n 0, 1) := by decide +kernel
theorem dX12_offerOf_33 : decode cX12_offerOf 33 = .ok (.iload_n 1, 1) := by decide +kernel
theorem dX12_offerOf_34 : decode cX12_offerOf 34 = .ok (.iload_n 2, 1) := by decide +kernel
theorem dX12_offerOf_35 : decode cX12_offerOf 35 = .ok (.iload_n 3, 1) := by decide +kernel
theorem dX12_offerOf_36 : decode cX12_offerOf 36 = .ok (.invokevirtual 95, 3) := by decide +kernel
theorem dX12_offerOf_39 : decode cX12_offerOf 39 = .ok (.iload 4, 2) := by decide +kernel
theorem dX12_offerOf_41 : decode cX12_offerOf 41 = .ok (.isub, 1) := by decide +kernel
theorem dX12_offerOf_42 : decode cX12_offerOf 42 = .ok (.invokestatic 99, 3) := by decide +kernel
theorem dX12_offerOf_45 : decode cX12_offerOf 45 = .ok (.ireturn, 1) := by decide +kernel
set_option maxHeartbeats 400000 in
theorem c12_offerOf {G : Gl} {l : Launch}  {M : Mem} {b : Int} {c : Int → Int} {x w : Int} (hG : GR M) (hK : RW M b c) (hb0 : 0 ≤ b) (hb1 : b ≤ 9686) (hx0 : 0 ≤ x) (hx1 : x < 5) (hw0 : 0 ≤ w) (hw1 : w < 6) (hM : SM c) : Ct G LY 82 l 2 m12_offerOf [vR 57, vI b, vI x, vI w] M (Ret (vI (offr c x w)) M) := by
  refine R_start (by decide +kernel) (Nat.le_of_ble_eq_true rfl) (fun C hC hRm hlau => ?_)
  show RZ G LY C (Zn G LY 82 C (Ret (vI (offr c x w)) M)) 0 0 82 0 [some (vR 57), some (vI b), some (vI x), some (vI w), none] [] M
  have b1 := hM.h hx0 hx1 hw0 hw1
  refine R_aload_0 hC dX12_offerOf_0 ?_
  refine R_iload_1 hC dX12_offerOf_1 ?_
  refine R_iload_2 hC dX12_offerOf_2 ?_
  refine R_iload_3 hC dX12_offerOf_3 ?_
  refine R_callVq (as := [vI _, vI _, vI _]) hC dX12_offerOf_4 mo_12_counts ml_12_91 (by decide) rfl rfl (c12_counts  hG hK (by omega) (by omega) (by omega) (by omega) (by omega) (by omega)) rfl rfl hRm (by decide) (by decide) (Nat.le_of_ble_eq_true rfl) ?_
  refine R_if_eq hC dX12_offerOf_7 (tgt := 28) (by decide) (fun hb7 => ?_) (fun hb7 => ?_)
  · skip
    replace hb7 := bP_z hb7
    refine R_iconst hC dX12_offerOf_28 ⟨by decide, by decide⟩ ?_
    refine R_istore_4 hC dX12_offerOf_29 rfl ?_
    refine R_iconst hC dX12_offerOf_31 ⟨by decide, by decide⟩ ?_
    refine R_aload_0 hC dX12_offerOf_32 ?_
    refine R_iload_1 hC dX12_offerOf_33 ?_
    refine R_iload_2 hC dX12_offerOf_34 ?_
    refine R_iload_3 hC dX12_offerOf_35 ?_
    refine R_callVq (as := [vI _, vI _, vI _]) hC dX12_offerOf_36 mo_12_holds ml_12_95 (by decide) rfl rfl (c12_holds  hG hK (by omega) (by omega) (by omega) (by omega) (by omega) (by omega)) rfl rfl hRm (by decide) (by decide) (Nat.le_of_ble_eq_true rfl) ?_
    refine R_iload_4 hC dX12_offerOf_39 ?_
    refine R_isub hC dX12_offerOf_41 ⟨by omega, by omega⟩ ?_
    refine R_callSq (as := [vI _, vI _]) hC dX12_offerOf_42 mo_12_greater ml_12_99 (c12_greater  ) rfl rfl hRm (by decide) (by decide) (Nat.le_of_ble_eq_true rfl) ?_
    exact R_ireturn hC dX12_offerOf_45 rfl (ret_I (by unfold offr; first | (rw [if_pos hb7]) | (rw [if_neg hb7])))
  · skip
    replace hb7 := bP_nz hb7
    refine R_aload_0 hC dX12_offerOf_10 ?_
    refine R_getR hC dX12_offerOf_11 fl_12_9 (by decide) rfl (by decide) (by decide) (fi := 0) rfl (r := 58) (gr_57_0 hG) ?_
    refine R_iload_1 hC dX12_offerOf_14 ?_
    refine R_bipush hC dX12_offerOf_15 (by decide +kernel) ⟨by decide, by decide⟩ ?_
    refine R_iadd hC dX12_offerOf_17 ⟨by omega, by omega⟩ ?_
    refine R_iload_2 hC dX12_offerOf_18 ?_
    refine R_iload_3 hC dX12_offerOf_19 ?_
    refine R_callSq (as := [vI _, vI _]) hC dX12_offerOf_20 mo_12_cell ml_12_87 (c12_cell  (by omega) (by omega) (by omega) (by omega)) rfl rfl hRm (by decide) (by decide) (Nat.le_of_ble_eq_true rfl) ?_
    refine R_iadd hC dX12_offerOf_23 ⟨by omega, by omega⟩ ?_
    refine R_ialoadE hC dX12_offerOf_24 (by decide) rfl (by omega) (by omega) (hK.r4 (k := 58 + x * 6 + w) (by omega) (by omega) (by omega)) ?_
    refine R_goto hC dX12_offerOf_25 (tgt := 29) (by decide) ?_
    refine R_istore_4 hC dX12_offerOf_29 rfl ?_
    refine R_iconst hC dX12_offerOf_31 ⟨by decide, by decide⟩ ?_
    refine R_aload_0 hC dX12_offerOf_32 ?_
    refine R_iload_1 hC dX12_offerOf_33 ?_
    refine R_iload_2 hC dX12_offerOf_34 ?_
    refine R_iload_3 hC dX12_offerOf_35 ?_
    refine R_callVq (as := [vI _, vI _, vI _]) hC dX12_offerOf_36 mo_12_holds ml_12_95 (by decide) rfl rfl (c12_holds  hG hK (by omega) (by omega) (by omega) (by omega) (by omega) (by omega)) rfl rfl hRm (by decide) (by decide) (Nat.le_of_ble_eq_true rfl) ?_
    refine R_iload_4 hC dX12_offerOf_39 ?_
    refine R_isub hC dX12_offerOf_41 ⟨by omega, by omega⟩ ?_
    refine R_callSq (as := [vI _, vI _]) hC dX12_offerOf_42 mo_12_greater ml_12_99 (c12_greater  ) rfl rfl hRm (by decide) (by decide) (Nat.le_of_ble_eq_true rfl) ?_
    exact R_ireturn hC dX12_offerOf_45 rfl (ret_I (by unfold offr; first | (rw [if_pos hb7]) | (rw [if_neg hb7])))
theorem dX12_stored_0 : decode cX12_stored 0 = .ok (.iconst 0, 1) := by decide +kernel
theorem dX12_stored_1 : decode cX12_stored 1 = .ok (.istore_n 2, 1) := by decide +kernel
theorem dX12_stored_2 : decode cX12_stored 2 = .ok (.iconst 0, 1) := by decide +kernel
theorem dX12_stored_3 : decode cX12_stored 3 = .ok (.istore_n 3, 1) := by decide +kernel
theorem dX12_stored_4 : decode cX12_stored 4 = .ok (.iload_n 3, 1) := by decide +kernel
theorem dX12_stored_5 : decode cX12_stored 5 = .ok (.aload_n 0, 1) := by decide +kernel
theorem dX12_stored_6 : decode cX12_stored 6 = .ok (.getfield 102, 3) := by decide +kernel
theorem dX12_stored_9 : decode cX12_stored 9 = .ok (.if_icmp .ge 23, 3) := by decide +kernel
theorem dX12_stored_12 : decode cX12_stored 12 = .ok (.iload_n 2, 1) := by decide +kernel
theorem dX12_stored_13 : decode cX12_stored 13 = .ok (.aload_n 0, 1) := by decide +kernel
theorem dX12_stored_14 : decode cX12_stored 14 = .ok (.getfield 9, 3) := by decide +kernel
theorem dX12_stored_17 : decode cX12_stored 17 = .ok (.iload_n 1, 1) := by decide +kernel
theorem dX12_stored_18 : decode cX12_stored 18 = .ok (.bipush 108, 2) := by decide +kernel
theorem dX12_stored_20 : decode cX12_stored 20 = .ok (.iadd, 1) := by decide +kernel
theorem dX12_stored_21 : decode cX12_stored 21 = .ok (.iload_n 3, 1) := by decide +kernel
theorem dX12_stored_22 : decode cX12_stored 22 = .ok (.iadd, 1) := by decide +kernel
theorem dX12_stored_23 : decode cX12_stored 23 = .ok (.iaload, 1) := by decide +kernel
theorem dX12_stored_24 : decode cX12_stored 24 = .ok (.iadd, 1) := by decide +kernel
theorem dX12_stored_25 : decode cX12_stored 25 = .ok (.istore_n 2, 1) := by decide +kernel
theorem dX12_stored_26 : decode cX12_stored 26 = .ok (.iinc 3 1, 3) := by decide +kernel
theorem dX12_stored_29 : decode cX12_stored 29 = .ok (.goto (-25), 3) := by decide +kernel
theorem dX12_stored_32 : decode cX12_stored 32 = .ok (.iload_n 2, 1) := by decide +kernel
theorem dX12_stored_33 : decode cX12_stored 33 = .ok (.ireturn, 1) := by decide +kernel
set_option maxHeartbeats 400000 in
theorem c12_stored {G : Gl} {l : Launch}  {M : Mem} {b : Int} {c : Int → Int} (hG : GR M) (hK : RW M b c) (hb0 : 0 ≤ b) (hb1 : b ≤ 9686) (hM : SM c) : Ct G LY 82 l 0 m12_stored [vR 57, vI b] M (Ret (vI (stor c)) M) := by
  refine R_start (by decide +kernel) (Nat.le_of_ble_eq_true rfl) (fun C hC hRm hlau => ?_)
  show RZ G LY C (Zn G LY 82 C (Ret (vI (stor c)) M)) 0 0 82 0 [some (vR 57), some (vI b), none, none] [] M
  have hL := hM.1.1
  have hW := hM.1.2
  refine R_iconst hC dX12_stored_0 ⟨by decide, by decide⟩ ?_
  refine R_istore_2 hC dX12_stored_1 rfl ?_
  refine R_iconst hC dX12_stored_2 ⟨by decide, by decide⟩ ?_
  refine R_istore_3 hC dX12_stored_3 rfl ?_
  have L4 : ∀ (mq : Nat) (acc : Int) (i : Int), (0 ≤ i) → (i ≤ c 122) → (acc = sm i.toNat (fun w => c (22 + w))) → (c 122 - i).toNat < mq → RZ G LY C (Zn G LY 82 C (Ret (vI (stor c)) M)) 0 0 82 4 [some (vR 57), some (vI b), some (vI acc), some (vI i)] [] M := by
    intro mq
    induction mq with
    | zero =>
      intro acc i hi0 hi1 ha hm
      exact absurd hm (Nat.not_lt_zero _)
    | succ mq ih4 =>
      intro acc i hi0 hi1 ha hm4
      have hs := sm_bd2 (f := fun w => c (22 + w)) (q := 6) 20 hi0 (fun k a b => (hM.2.2.1 k a (by omega)).2.2) (by decide) (by omega)
      refine R_iload_3 hC dX12_stored_4 ?_
      refine R_aload_0 hC dX12_stored_5 ?_
      refine R_getIE hC dX12_stored_6 fl_12_102 (by decide) rfl (by decide) (by decide) (fi := 6) rfl hK.w ?_
      refine R_icmp_ge hC dX12_stored_9 (tgt := 32) (by decide) (fun hb9 => ?_) (fun hb9 => ?_)
      · skip
        refine R_iload_2 hC dX12_stored_32 ?_
        exact R_ireturn hC dX12_stored_33 rfl (ret_I (by rw [ha, show i = c 122 by omega]; rfl))
      · skip
        refine R_iload_2 hC dX12_stored_12 ?_
        refine R_aload_0 hC dX12_stored_13 ?_
        refine R_getR hC dX12_stored_14 fl_12_9 (by decide) rfl (by decide) (by decide) (fi := 0) rfl (r := 58) (gr_57_0 hG) ?_
        refine R_iload_1 hC dX12_stored_17 ?_
        refine R_bipush hC dX12_stored_18 (by decide +kernel) ⟨by decide, by decide⟩ ?_
        refine R_iadd hC dX12_stored_20 ⟨by omega, by omega⟩ ?_
        refine R_iload_3 hC dX12_stored_21 ?_
        refine R_iadd hC dX12_stored_22 ⟨by omega, by omega⟩ ?_
        refine R_ialoadE hC dX12_stored_23 (by decide) rfl (by omega) (by omega) (hK.r3 (k := 22 + i) (by omega) (by omega) (by omega)) ?_
        have b1 := (hM.2.2.1 i hi0 (by omega)).2.2
        refine R_iadd hC dX12_stored_24 ⟨by omega, by omega⟩ ?_
        refine R_istore_2 hC dX12_stored_25 rfl ?_
        refine R_iinc_3 hC dX12_stored_26 rfl ⟨by omega, by omega⟩ ?_
        refine R_goto hC dX12_stored_29 (tgt := 4) (by decide) ?_
        exact ih4 _ _ (by omega) (by omega) (by rw [sm_to hi0 rfl, ← ha]) (by omega)
  exact L4 _ _ _ (by omega) (by omega) rfl (Nat.lt_succ_self _)
theorem dX12_allOf_0 : decode cX12_allOf 0 = .ok (.aload_n 0, 1) := by decide +kernel
theorem dX12_allOf_1 : decode cX12_allOf 1 = .ok (.getfield 9, 3) := by decide +kernel
theorem dX12_allOf_4 : decode cX12_allOf 4 = .ok (.iload_n 1, 1) := by decide +kernel
theorem dX12_allOf_5 : decode cX12_allOf 5 = .ok (.bipush 108, 2) := by decide +kernel
theorem dX12_allOf_7 : decode cX12_allOf 7 = .ok (.iadd, 1) := by decide +kernel
theorem dX12_allOf_8 : decode cX12_allOf 8 = .ok (.iload_n 2, 1) := by decide +kernel
theorem dX12_allOf_9 : decode cX12_allOf 9 = .ok (.iadd, 1) := by decide +kernel
theorem dX12_allOf_10 : decode cX12_allOf 10 = .ok (.iaload, 1) := by decide +kernel
theorem dX12_allOf_11 : decode cX12_allOf 11 = .ok (.istore_n 3, 1) := by decide +kernel
theorem dX12_allOf_12 : decode cX12_allOf 12 = .ok (.iconst 0, 1) := by decide +kernel
theorem dX12_allOf_13 : decode cX12_allOf 13 = .ok (.istore 4, 2) := by decide +kernel
theorem dX12_allOf_15 : decode cX12_allOf 15 = .ok (.iload 4, 2) := by decide +kernel
theorem dX12_allOf_17 : decode cX12_allOf 17 = .ok (.aload_n 0, 1) := by decide +kernel
theorem dX12_allOf_18 : decode cX12_allOf 18 = .ok (.getfield 105, 3) := by decide +kernel
theorem dX12_allOf_21 : decode cX12_allOf 21 = .ok (.if_icmp .ge 20, 3) := by decide +kernel
theorem dX12_allOf_24 : decode cX12_allOf 24 = .ok (.iload_n 3, 1) := by decide +kernel
theorem dX12_allOf_25 : decode cX12_allOf 25 = .ok (.aload_n 0, 1) := by decide +kernel
theorem dX12_allOf_26 : decode cX12_allOf 26 = .ok (.iload_n 1, 1) := by decide +kernel
theorem dX12_allOf_27 : decode cX12_allOf 27 = .ok (.iload 4, 2) := by decide +kernel
theorem dX12_allOf_29 : decode cX12_allOf 29 = .ok (.iload_n 2, 1) := by decide +kernel
theorem dX12_allOf_30 : decode cX12_allOf 30 = .ok (.invokevirtual 95, 3) := by decide +kernel
theorem dX12_allOf_33 : decode cX12_allOf 33 = .ok (.iadd, 1) := by decide +kernel
theorem dX12_allOf_34 : decode cX12_allOf 34 = .ok (.istore_n 3, 1) := by decide +kernel
theorem dX12_allOf_35 : decode cX12_allOf 35 = .ok (.iinc 4 1, 3) := by decide +kernel
theorem dX12_allOf_38 : decode cX12_allOf 38 = .ok (.goto (-23), 3) := by decide +kernel
theorem dX12_allOf_41 : decode cX12_allOf 41 = .ok (.iload_n 3, 1) := by decide +kernel
theorem dX12_allOf_42 : decode cX12_allOf 42 = .ok (.ireturn, 1) := by decide +kernel
set_option maxHeartbeats 400000 in
theorem c12_allOf {G : Gl} {l : Launch}  {M : Mem} {b : Int} {c : Int → Int} {w : Int} (hG : GR M) (hK : RW M b c) (hb0 : 0 ≤ b) (hb1 : b ≤ 9686) (hw0 : 0 ≤ w) (hw1 : w < 6) (hM : SM c) : Ct G LY 82 l 2 m12_allOf [vR 57, vI b, vI w] M (Ret (vI (allOf c w)) M) := by
  refine R_start (by decide +kernel) (Nat.le_of_ble_eq_true rfl) (fun C hC hRm hlau => ?_)
  show RZ G LY C (Zn G LY 82 C (Ret (vI (allOf c w)) M)) 0 0 82 0 [some (vR 57), some (vI b), some (vI w), none, none] [] M
  have hL := hM.1.1
  have hW := hM.1.2
  have b0 := (hM.2.2.1 w hw0 hw1).2.2
  refine R_aload_0 hC dX12_allOf_0 ?_
  refine R_getR hC dX12_allOf_1 fl_12_9 (by decide) rfl (by decide) (by decide) (fi := 0) rfl (r := 58) (gr_57_0 hG) ?_
  refine R_iload_1 hC dX12_allOf_4 ?_
  refine R_bipush hC dX12_allOf_5 (by decide +kernel) ⟨by decide, by decide⟩ ?_
  refine R_iadd hC dX12_allOf_7 ⟨by omega, by omega⟩ ?_
  refine R_iload_2 hC dX12_allOf_8 ?_
  refine R_iadd hC dX12_allOf_9 ⟨by omega, by omega⟩ ?_
  refine R_ialoadE hC dX12_allOf_10 (by decide) rfl (by omega) (by omega) (hK.r3 (k := 22 + w) (by omega) (by omega) (by omega)) ?_
  refine R_istore_3 hC dX12_allOf_11 rfl ?_
  refine R_iconst hC dX12_allOf_12 ⟨by decide, by decide⟩ ?_
  refine R_istore_4 hC dX12_allOf_13 rfl ?_
  have L15 : ∀ (mq : Nat) (acc : Int) (i : Int), (0 ≤ i) → (i ≤ c 121) → (acc = c (22 + w) + sm i.toNat (fun x => c (28 + x * 6 + w))) → (c 121 - i).toNat < mq → RZ G LY C (Zn G LY 82 C (Ret (vI (allOf c w)) M)) 0 0 82 15 [some (vR 57), some (vI b), some (vI w), some (vI acc), some (vI i)] [] M := by
    intro mq
    induction mq with
    | zero =>
      intro acc i hi0 hi1 ha hm
      exact absurd hm (Nat.not_lt_zero _)
    | succ mq ih15 =>
      intro acc i hi0 hi1 ha hm15
      have hs := sm_bd2 (f := fun x => c (28 + x * 6 + w)) (q := 5) 3 hi0 (fun k a b => (hM.h a (by omega) hw0 hw1).1) (by decide) (by omega)
      refine R_iload_4 hC dX12_allOf_15 ?_
      refine R_aload_0 hC dX12_allOf_17 ?_
      refine R_getIE hC dX12_allOf_18 fl_12_105 (by decide) rfl (by decide) (by decide) (fi := 5) rfl hK.l ?_
      refine R_icmp_ge hC dX12_allOf_21 (tgt := 41) (by decide) (fun hb21 => ?_) (fun hb21 => ?_)
      · skip
        refine R_iload_3 hC dX12_allOf_41 ?_
        exact R_ireturn hC dX12_allOf_42 rfl (ret_I (by rw [ha, show i = c 121 by omega]; rfl))
      · skip
        refine R_iload_3 hC dX12_allOf_24 ?_
        refine R_aload_0 hC dX12_allOf_25 ?_
        refine R_iload_1 hC dX12_allOf_26 ?_
        refine R_iload_4 hC dX12_allOf_27 ?_
        refine R_iload_2 hC dX12_allOf_29 ?_
        refine R_callVq (as := [vI _, vI _, vI _]) hC dX12_allOf_30 mo_12_holds ml_12_95 (by decide) rfl rfl (c12_holds  hG hK (by omega) (by omega) (by omega) (by omega) (by omega) (by omega)) rfl rfl hRm (by decide) (by decide) (Nat.le_of_ble_eq_true rfl) ?_
        have b1 := (hM.h hi0 (show i < 5 by omega) hw0 hw1).1
        refine R_iadd hC dX12_allOf_33 ⟨by omega, by omega⟩ ?_
        refine R_istore_3 hC dX12_allOf_34 rfl ?_
        refine R_iinc_4 hC dX12_allOf_35 rfl ⟨by omega, by omega⟩ ?_
        refine R_goto hC dX12_allOf_38 (tgt := 15) (by decide) ?_
        exact ih15 _ _ (by omega) (by omega) (by rw [sm_to hi0 rfl]; omega) (by omega)
  exact L15 _ _ _ (by omega) (by omega) (by rw [sm_0]; omega) (Nat.lt_succ_self _)
theorem dX12_spareOf_0 : decode cX12_spareOf 0 = .ok (.iconst 0, 1) := by decide +kernel
theorem dX12_spareOf_1 : decode cX12_spareOf 1 = .ok (.aload_n 0, 1) := by decide +kernel
theorem dX12_spareOf_2 : decode cX12_spareOf 2 = .ok (.iload_n 1, 1) := by decide +kernel
theorem dX12_spareOf_3 : decode cX12_spareOf 3 = .ok (.iload_n 2, 1) := by decide +kernel
theorem dX12_spareOf_4 : decode cX12_spareOf 4 = .ok (.invokevirtual 108, 3) := by decide +kernel
theorem dX12_spareOf_7 : decode cX12_spareOf 7 = .ok (.aload_n 0, 1) := by decide +kernel
theorem dX12_spareOf_8 : decode cX12_spareOf 8 = .ok (.getfield 9, 3) := by decide +kernel
theorem dX12_spareOf_11 : decode cX12_spareOf 11 = .ok (.iload_n 1, 1) := by decide +kernel
theorem dX12_spareOf_12 : decode cX12_spareOf 12 = .ok (.bipush 100, 2) := by decide +kernel
theorem dX12_spareOf_14 : decode cX12_spareOf 14 = .ok (.iadd, 1) := by decide +kernel
theorem dX12_spareOf_15 : decode cX12_spareOf 15 = .ok (.iload_n 2, 1) := by decide +kernel
theorem dX12_spareOf_16 : decode cX12_spareOf 16 = .ok (.iadd, 1) := by decide +kernel
theorem dX12_spareOf_17 : decode cX12_spareOf 17 = .ok (.iaload, 1) := by decide +kernel
theorem dX12_spareOf_18 : decode cX12_spareOf 18 = .ok (.isub, 1) := by decide +kernel
theorem dX12_spareOf_19 : decode cX12_spareOf 19 = .ok (.invokestatic 99, 3) := by decide +kernel
theorem dX12_spareOf_22 : decode cX12_spareOf 22 = .ok (.ireturn, 1) := by decide +kernel
set_option maxHeartbeats 400000 in
theorem c12_spareOf {G : Gl} {l : Launch}  {M : Mem} {b : Int} {c : Int → Int} {w : Int} (hG : GR M) (hK : RW M b c) (hb0 : 0 ≤ b) (hb1 : b ≤ 9686) (hw0 : 0 ≤ w) (hw1 : w < 6) (hM : SM c) : Ct G LY 82 l 3 m12_spareOf [vR 57, vI b, vI w] M (Ret (vI (spr c w)) M) := by
  refine R_start (by decide +kernel) (Nat.le_of_ble_eq_true rfl) (fun C hC hRm hlau => ?_)
  show RZ G LY C (Zn G LY 82 C (Ret (vI (spr c w)) M)) 0 0 82 0 [some (vR 57), some (vI b), some (vI w)] [] M
  have b1 := hM.2.2.1 w hw0 hw1
  have b2 := hM.all hw0 hw1
  refine R_iconst hC dX12_spareOf_0 ⟨by decide, by decide⟩ ?_
  refine R_aload_0 hC dX12_spareOf_1 ?_
  refine R_iload_1 hC dX12_spareOf_2 ?_
  refine R_iload_2 hC dX12_spareOf_3 ?_
  refine R_callVq (as := [vI _, vI _]) hC dX12_spareOf_4 mo_12_allOf ml_12_108 (by decide) rfl rfl (c12_allOf  hG hK (by omega) (by omega) (by omega) (by omega) hM) rfl rfl hRm (by decide) (by decide) (Nat.le_of_ble_eq_true rfl) ?_
  refine R_aload_0 hC dX12_spareOf_7 ?_
  refine R_getR hC dX12_spareOf_8 fl_12_9 (by decide) rfl (by decide) (by decide) (fi := 0) rfl (r := 58) (gr_57_0 hG) ?_
  refine R_iload_1 hC dX12_spareOf_11 ?_
  refine R_bipush hC dX12_spareOf_12 (by decide +kernel) ⟨by decide, by decide⟩ ?_
  refine R_iadd hC dX12_spareOf_14 ⟨by omega, by omega⟩ ?_
  refine R_iload_2 hC dX12_spareOf_15 ?_
  refine R_iadd hC dX12_spareOf_16 ⟨by omega, by omega⟩ ?_
  refine R_ialoadE hC dX12_spareOf_17 (by decide) rfl (by omega) (by omega) (hK.r2 (k := 16 + w) (by omega) (by omega) (by omega)) ?_
  refine R_isub hC dX12_spareOf_18 ⟨by omega, by omega⟩ ?_
  refine R_callSq (as := [vI _, vI _]) hC dX12_spareOf_19 mo_12_greater ml_12_99 (c12_greater  ) rfl rfl hRm (by decide) (by decide) (Nat.le_of_ble_eq_true rfl) ?_
  exact R_ireturn hC dX12_spareOf_22 rfl (ret_I rfl)
theorem dX12_inAll_0 : decode cX12_inAll 0 = .ok (.iconst 0, 1) := by decide +kernel
theorem dX12_inAll_1 : decode cX12_inAll 1 = .ok (.istore_n 3, 1) := by decide +kernel
theorem dX12_inAll_2 : decode cX12_inAll 2 = .ok (.iconst 0, 1) := by decide +kernel
theorem dX12_inAll_3 : decode cX12_inAll 3 = .ok (.istore 4, 2) := by decide +kernel
theorem dX12_inAll_5 : decode cX12_inAll 5 = .ok (.iload 4, 2) := by decide +kernel
theorem dX12_inAll_7 : decode cX12_inAll 7 = .ok (.aload_n 0, 1) := by decide +kernel
theorem dX12_inAll_8 : decode cX12_inAll 8 = .ok (.getfield 102, 3) := by decide +kernel
theorem dX12_inAll_11 : decode cX12_inAll 11 = .ok (.if_icmp .ge 20, 3) := by decide +kernel
theorem dX12_inAll_14 : decode cX12_inAll 14 = .ok (.iload_n 3, 1) := by decide +kernel
theorem dX12_inAll_15 : decode cX12_inAll 15 = .ok (.aload_n 0, 1) := by decide +kernel
theorem dX12_inAll_16 : decode cX12_inAll 16 = .ok (.iload_n 1, 1) := by decide +kernel
theorem dX12_inAll_17 : decode cX12_inAll 17 = .ok (.iload_n 2, 1) := by decide +kernel
theorem dX12_inAll_18 : decode cX12_inAll 18 = .ok (.iload 4, 2) := by decide +kernel
theorem dX12_inAll_20 : decode cX12_inAll 20 = .ok (.invokevirtual 95, 3) := by decide +kernel
theorem dX12_inAll_23 : decode cX12_inAll 23 = .ok (.iadd, 1) := by decide +kernel
theorem dX12_inAll_24 : decode cX12_inAll 24 = .ok (.istore_n 3, 1) := by decide +kernel
theorem dX12_inAll_25 : decode cX12_inAll 25 = .ok (.iinc 4 1, 3) := by decide +kernel
theorem dX12_inAll_28 : decode cX12_inAll 28 = .ok (.goto (-23), 3) := by decide +kernel
theorem dX12_inAll_31 : decode cX12_inAll 31 = .ok (.iload_n 3, 1) := by decide +kernel
theorem dX12_inAll_32 : decode cX12_inAll 32 = .ok (.ireturn, 1) := by decide +kernel
set_option maxHeartbeats 400000 in
theorem c12_inAll {G : Gl} {l : Launch}  {M : Mem} {b : Int} {c : Int → Int} {x : Int} (hG : GR M) (hK : RW M b c) (hb0 : 0 ≤ b) (hb1 : b ≤ 9686) (hx0 : 0 ≤ x) (hx1 : x < 5) (hM : SM c) : Ct G LY 82 l 2 m12_inAll [vR 57, vI b, vI x] M (Ret (vI (inAll c x)) M) := by
  refine R_start (by decide +kernel) (Nat.le_of_ble_eq_true rfl) (fun C hC hRm hlau => ?_)
  show RZ G LY C (Zn G LY 82 C (Ret (vI (inAll c x)) M)) 0 0 82 0 [some (vR 57), some (vI b), some (vI x), none, none] [] M
  have hL := hM.1.1
  have hW := hM.1.2
  refine R_iconst hC dX12_inAll_0 ⟨by decide, by decide⟩ ?_
  refine R_istore_3 hC dX12_inAll_1 rfl ?_
  refine R_iconst hC dX12_inAll_2 ⟨by decide, by decide⟩ ?_
  refine R_istore_4 hC dX12_inAll_3 rfl ?_
  have L5 : ∀ (mq : Nat) (acc : Int) (i : Int), (0 ≤ i) → (i ≤ c 122) → (acc = sm i.toNat (fun w => c (28 + x * 6 + w))) → (c 122 - i).toNat < mq → RZ G LY C (Zn G LY 82 C (Ret (vI (inAll c x)) M)) 0 0 82 5 [some (vR 57), some (vI b), some (vI x), some (vI acc), some (vI i)] [] M := by
    intro mq
    induction mq with
    | zero =>
      intro acc i hi0 hi1 ha hm
      exact absurd hm (Nat.not_lt_zero _)
    | succ mq ih5 =>
      intro acc i hi0 hi1 ha hm5
      have hs := sm_bd2 (f := fun w => c (28 + x * 6 + w)) (q := 6) 3 hi0 (fun k a b => (hM.h hx0 hx1 a (by omega)).1) (by decide) (by omega)
      refine R_iload_4 hC dX12_inAll_5 ?_
      refine R_aload_0 hC dX12_inAll_7 ?_
      refine R_getIE hC dX12_inAll_8 fl_12_102 (by decide) rfl (by decide) (by decide) (fi := 6) rfl hK.w ?_
      refine R_icmp_ge hC dX12_inAll_11 (tgt := 31) (by decide) (fun hb11 => ?_) (fun hb11 => ?_)
      · skip
        refine R_iload_3 hC dX12_inAll_31 ?_
        exact R_ireturn hC dX12_inAll_32 rfl (ret_I (by rw [ha, show i = c 122 by omega]; rfl))
      · skip
        refine R_iload_3 hC dX12_inAll_14 ?_
        refine R_aload_0 hC dX12_inAll_15 ?_
        refine R_iload_1 hC dX12_inAll_16 ?_
        refine R_iload_2 hC dX12_inAll_17 ?_
        refine R_iload_4 hC dX12_inAll_18 ?_
        refine R_callVq (as := [vI _, vI _, vI _]) hC dX12_inAll_20 mo_12_holds ml_12_95 (by decide) rfl rfl (c12_holds  hG hK (by omega) (by omega) (by omega) (by omega) (by omega) (by omega)) rfl rfl hRm (by decide) (by decide) (Nat.le_of_ble_eq_true rfl) ?_
        have b1 := (hM.h hx0 hx1 hi0 (show i < 6 by omega)).1
        refine R_iadd hC dX12_inAll_23 ⟨by omega, by omega⟩ ?_
        refine R_istore_3 hC dX12_inAll_24 rfl ?_
        refine R_iinc_4 hC dX12_inAll_25 rfl ⟨by omega, by omega⟩ ?_
        refine R_goto hC dX12_inAll_28 (tgt := 5) (by decide) ?_
        exact ih5 _ _ (by omega) (by omega) (by rw [sm_to hi0 rfl, ← ha]) (by omega)
  exact L5 _ _ _ (by omega) (by omega) rfl (Nat.lt_succ_self _)
theorem dX12_needOf_0 : decode cX12_needOf 0 = .ok (.iconst 0, 1) := by decide +kernel
theorem dX12_needOf_1 : decode cX12_needOf 1 = .ok (.aload_n 0, 1) := by decide +kernel
theorem dX12_needOf_2 : decode cX12_needOf 2 = .ok (.iload_n 1, 1) := by decide +kernel
theorem dX12_needOf_3 : decode cX12_needOf 3 = .ok (.iload_n 2, 1) := by decide +kernel
theorem dX12_needOf_4 : decode cX12_needOf 4 = .ok (.invokevirtual 111, 3) := by decide +kernel
theorem dX12_needOf_7 : decode cX12_needOf 7 = .ok (.aload_n 0, 1) := by decide +kernel
theorem dX12_needOf_8 : decode cX12_needOf 8 = .ok (.getfield 9, 3) := by decide +kernel
theorem dX12_needOf_11 : decode cX12_needOf 11 = .ok (.iload_n 1, 1) := by decide +kernel
theorem dX12_needOf_12 : decode cX12_needOf 12 = .ok (.iconst 0, 1) := by decide +kernel
theorem dX12_needOf_13 : decode cX12_needOf 13 = .ok (.iadd, 1) := by decide +kernel
theorem dX12_needOf_14 : decode cX12_needOf 14 = .ok (.iload_n 2, 1) := by decide +kernel
theorem dX12_needOf_15 : decode cX12_needOf 15 = .ok (.iadd, 1) := by decide +kernel
theorem dX12_needOf_16 : decode cX12_needOf 16 = .ok (.iaload, 1) := by decide +kernel
theorem dX12_needOf_17 : decode cX12_needOf 17 = .ok (.isub, 1) := by decide +kernel
theorem dX12_needOf_18 : decode cX12_needOf 18 = .ok (.invokestatic 99, 3) := by decide +kernel
theorem dX12_needOf_21 : decode cX12_needOf 21 = .ok (.ireturn, 1) := by decide +kernel
set_option maxHeartbeats 400000 in
theorem c12_needOf {G : Gl} {l : Launch}  {M : Mem} {b : Int} {c : Int → Int} {x : Int} (hG : GR M) (hK : RW M b c) (hb0 : 0 ≤ b) (hb1 : b ≤ 9686) (hx0 : 0 ≤ x) (hx1 : x < 5) (hM : SM c) : Ct G LY 82 l 3 m12_needOf [vR 57, vI b, vI x] M (Ret (vI (nee c x)) M) := by
  refine R_start (by decide +kernel) (Nat.le_of_ble_eq_true rfl) (fun C hC hRm hlau => ?_)
  show RZ G LY C (Zn G LY 82 C (Ret (vI (nee c x)) M)) 0 0 82 0 [some (vR 57), some (vI b), some (vI x)] [] M
  have b1 := hM.2.1 x hx0 hx1
  have b2 := hM.inA hx0 hx1
  refine R_iconst hC dX12_needOf_0 ⟨by decide, by decide⟩ ?_
  refine R_aload_0 hC dX12_needOf_1 ?_
  refine R_iload_1 hC dX12_needOf_2 ?_
  refine R_iload_2 hC dX12_needOf_3 ?_
  refine R_callVq (as := [vI _, vI _]) hC dX12_needOf_4 mo_12_inAll ml_12_111 (by decide) rfl rfl (c12_inAll  hG hK (by omega) (by omega) (by omega) (by omega) hM) rfl rfl hRm (by decide) (by decide) (Nat.le_of_ble_eq_true rfl) ?_
  refine R_aload_0 hC dX12_needOf_7 ?_
  refine R_getR hC dX12_needOf_8 fl_12_9 (by decide) rfl (by decide) (by decide) (fi := 0) rfl (r := 58) (gr_57_0 hG) ?_
  refine R_iload_1 hC dX12_needOf_11 ?_
  refine R_iconst hC dX12_needOf_12 ⟨by decide, by decide⟩ ?_
  refine R_iadd hC dX12_needOf_13 ⟨by omega, by omega⟩ ?_
  refine R_iload_2 hC dX12_needOf_14 ?_
  refine R_iadd hC dX12_needOf_15 ⟨by omega, by omega⟩ ?_
  refine R_ialoadE hC dX12_needOf_16 (by decide) rfl (by omega) (by omega) (hK.r1 (k := x) (by omega) (by omega) (by omega)) ?_
  refine R_isub hC dX12_needOf_17 ⟨by omega, by omega⟩ ?_
  refine R_callSq (as := [vI _, vI _]) hC dX12_needOf_18 mo_12_greater ml_12_99 (c12_greater  ) rfl rfl hRm (by decide) (by decide) (Nat.le_of_ble_eq_true rfl) ?_
  exact R_ireturn hC dX12_needOf_21 rfl (ret_I rfl)
theorem dX12_everything_0 : decode cX12_everything 0 = .ok (.iconst 0, 1) := by decide +kernel
theorem dX12_everything_1 : decode cX12_everything 1 = .ok (.istore_n 2, 1) := by decide +kernel
theorem dX12_everything_2 : decode cX12_everything 2 = .ok (.iconst 0, 1) := by decide +kernel
theorem dX12_everything_3 : decode cX12_everything 3 = .ok (.istore_n 3, 1) := by decide +kernel
theorem dX12_everything_4 : decode cX12_everything 4 = .ok (.iload_n 3, 1) := by decide +kernel
theorem dX12_everything_5 : decode cX12_everything 5 = .ok (.aload_n 0, 1) := by decide +kernel
theorem dX12_everything_6 : decode cX12_everything 6 = .ok (.getfield 105, 3) := by decide +kernel
theorem dX12_everything_9 : decode cX12_everything 9 = .ok (.if_icmp .ge 18, 3) := by decide +kernel
theorem dX12_everything_12 : decode cX12_everything 12 = .ok (.iload_n 2, 1) := by decide +kernel
theorem dX12_everything_13 : decode cX12_everything 13 = .ok (.aload_n 0, 1) := by decide +kernel
theorem dX12_everything_14 : decode cX12_everything 14 = .ok (.iload_n 1, 1) := by decide +kernel
theorem dX12_everything_15 : decode cX12_everything 15 = .ok (.iload_n 3, 1) := by decide +kernel
theorem dX12_everything_16 : decode cX12_everything 16 = .ok (.invokevirtual 111, 3) := by decide +kernel
theorem dX12_everything_19 : decode cX12_everything 19 = .ok (.iadd, 1) := by decide +kernel
theorem dX12_everything_20 : decode cX12_everything 20 = .ok (.istore_n 2, 1) := by decide +kernel
theorem dX12_everything_21 : decode cX12_everything 21 = .ok (.iinc 3 1, 3) := by decide +kernel
theorem dX12_everything_24 : decode cX12_everything 24 = .ok (.goto (-20), 3) := by decide +kernel
theorem dX12_everything_27 : decode cX12_everything 27 = .ok (.iload_n 2, 1) := by decide +kernel
theorem dX12_everything_28 : decode cX12_everything 28 = .ok (.ireturn, 1) := by decide +kernel
set_option maxHeartbeats 400000 in
theorem c12_everything {G : Gl} {l : Launch}  {M : Mem} {b : Int} {c : Int → Int} (hG : GR M) (hK : RW M b c) (hb0 : 0 ≤ b) (hb1 : b ≤ 9686) (hM : SM c) : Ct G LY 82 l 3 m12_everything [vR 57, vI b] M (Ret (vI (heldAll c)) M) := by
  refine R_start (by decide +kernel) (Nat.le_of_ble_eq_true rfl) (fun C hC hRm hlau => ?_)
  show RZ G LY C (Zn G LY 82 C (Ret (vI (heldAll c)) M)) 0 0 82 0 [some (vR 57), some (vI b), none, none] [] M
  have hL := hM.1.1
  have hW := hM.1.2
  refine R_iconst hC dX12_everything_0 ⟨by decide, by decide⟩ ?_
  refine R_istore_2 hC dX12_everything_1 rfl ?_
  refine R_iconst hC dX12_everything_2 ⟨by decide, by decide⟩ ?_
  refine R_istore_3 hC dX12_everything_3 rfl ?_
  have L4 : ∀ (mq : Nat) (acc : Int) (i : Int), (0 ≤ i) → (i ≤ c 121) → (acc = sm i.toNat (fun x => inAll c x)) → (c 121 - i).toNat < mq → RZ G LY C (Zn G LY 82 C (Ret (vI (heldAll c)) M)) 0 0 82 4 [some (vR 57), some (vI b), some (vI acc), some (vI i)] [] M := by
    intro mq
    induction mq with
    | zero =>
      intro acc i hi0 hi1 ha hm
      exact absurd hm (Nat.not_lt_zero _)
    | succ mq ih4 =>
      intro acc i hi0 hi1 ha hm4
      have hs := sm_bd2 (f := fun x => inAll c x) (q := 5) 18 hi0 (fun k a b => hM.inA a (by omega)) (by decide) (by omega)
      refine R_iload_3 hC dX12_everything_4 ?_
      refine R_aload_0 hC dX12_everything_5 ?_
      refine R_getIE hC dX12_everything_6 fl_12_105 (by decide) rfl (by decide) (by decide) (fi := 5) rfl hK.l ?_
      refine R_icmp_ge hC dX12_everything_9 (tgt := 27) (by decide) (fun hb9 => ?_) (fun hb9 => ?_)
      · skip
        refine R_iload_2 hC dX12_everything_27 ?_
        exact R_ireturn hC dX12_everything_28 rfl (ret_I (by rw [ha, show i = c 121 by omega]; rfl))
      · skip
        refine R_iload_2 hC dX12_everything_12 ?_
        refine R_aload_0 hC dX12_everything_13 ?_
        refine R_iload_1 hC dX12_everything_14 ?_
        refine R_iload_3 hC dX12_everything_15 ?_
        refine R_callVq (as := [vI _, vI _]) hC dX12_everything_16 mo_12_inAll ml_12_111 (by decide) rfl rfl (c12_inAll  hG hK (by omega) (by omega) (by omega) (by omega) hM) rfl rfl hRm (by decide) (by decide) (Nat.le_of_ble_eq_true rfl) ?_
        have b1 := hM.inA hi0 (show i < 5 by omega)
        refine R_iadd hC dX12_everything_19 ⟨by omega, by omega⟩ ?_
        refine R_istore_2 hC dX12_everything_20 rfl ?_
        refine R_iinc_3 hC dX12_everything_21 rfl ⟨by omega, by omega⟩ ?_
        refine R_goto hC dX12_everything_24 (tgt := 4) (by decide) ?_
        exact ih4 _ _ (by omega) (by omega) (by rw [sm_to hi0 rfl, ← ha]) (by omega)
  exact L4 _ _ _ (by omega) (by omega) rfl (Nat.lt_succ_self _)
theorem dX12_asks_0 : decode cX12_asks 0 = .ok (.iconst 0, 1) := by decide +kernel
theorem dX12_asks_1 : decode cX12_asks 1 = .ok (.istore_n 3, 1) := by decide +kernel
theorem dX12_asks_2 : decode cX12_asks 2 = .ok (.iload_n 3, 1) := by decide +kernel
theorem dX12_asks_3 : decode cX12_asks 3 = .ok (.aload_n 0, 1) := by decide +kernel
theorem dX12_asks_4 : decode cX12_asks 4 = .ok (.getfield 105, 3) := by decide +kernel
theorem dX12_asks_7 : decode cX12_asks 7 = .ok (.if_icmp .ge 101, 3) := by decide +kernel
theorem dX12_asks_10 : decode cX12_asks 10 = .ok (.aload_n 0, 1) := by decide +kernel
theorem dX12_asks_11 : decode cX12_asks 11 = .ok (.getfield 29, 3) := by decide +kernel
theorem dX12_asks_14 : decode cX12_asks 14 = .ok (.iload_n 3, 1) := by decide +kernel
theorem dX12_asks_15 : decode cX12_asks 15 = .ok (.iload_n 3, 1) := by decide +kernel
theorem dX12_asks_16 : decode cX12_asks 16 = .ok (.iload_n 2, 1) := by decide +kernel
theorem dX12_asks_17 : decode cX12_asks 17 = .ok (.if_icmp .ne 7, 3) := by decide +kernel
theorem dX12_asks_20 : decode cX12_asks 20 = .ok (.iconst 0, 1) := by decide +kernel
theorem dX12_asks_21 : decode cX12_asks 21 = .ok (.goto 9, 3) := by decide +kernel
theorem dX12_asks_24 : decode cX12_asks 24 = .ok (.aload_n 0, 1) := by decide +kernel
theorem dX12_asks_25 : decode cX12_asks 25 = .ok (.iload_n 1, 1) := by decide +kernel
theorem dX12_asks_26 : decode cX12_asks 26 = .ok (.iload_n 3, 1) := by decide +kernel
theorem dX12_asks_27 : decode cX12_asks 27 = .ok (.invokevirtual 114, 3) := by decide +kernel
theorem dX12_asks_30 : decode cX12_asks 30 = .ok (.iastore, 1) := by decide +kernel
theorem dX12_asks_31 : decode cX12_asks 31 = .ok (.aload_n 0, 1) := by decide +kernel
theorem dX12_asks_32 : decode cX12_asks 32 = .ok (.getfield 32, 3) := by decide +kernel
theorem dX12_asks_35 : decode cX12_asks 35 = .ok (.iload_n 3, 1) := by decide +kernel
theorem dX12_asks_36 : decode cX12_asks 36 = .ok (.aload_n 0, 1) := by decide +kernel
theorem dX12_asks_37 : decode cX12_asks 37 = .ok (.getfield 9, 3) := by decide +kernel
theorem dX12_asks_40 : decode cX12_asks 40 = .ok (.iload_n 1, 1) := by decide +kernel
theorem dX12_asks_41 : decode cX12_asks 41 = .ok (.iconst 5, 1) := by decide +kernel
theorem dX12_asks_42 : decode cX12_asks 42 = .ok (.iadd, 1) := by decide +kernel
theorem dX12_asks_43 : decode cX12_asks 43 = .ok (.iload_n 3, 1) := by decide +kernel
theorem dX12_asks_44 : decode cX12_asks 44 = .ok (.iadd, 1) := by decide +kernel
theorem dX12_asks_45 : decode cX12_asks 45 = .ok (.iaload, 1) := by decide +kernel
theorem dX12_asks_46 : decode cX12_asks 46 = .ok (.aload_n 0, 1) := by decide +kernel
theorem dX12_asks_47 : decode cX12_asks 47 = .ok (.getfield 29, 3) := by decide +kernel
theorem dX12_asks_50 : decode cX12_asks 50 = .ok (.iload_n 3, 1) := by decide +kernel
theorem dX12_asks_51 : decode cX12_asks 51 = .ok (.iaload, 1) := by decide +kernel
theorem dX12_asks_52 : decode cX12_asks 52 = .ok (.invokestatic 99, 3) := by decide +kernel
theorem dX12_asks_55 : decode cX12_asks 55 = .ok (.iastore, 1) := by decide +kernel
theorem dX12_asks_56 : decode cX12_asks 56 = .ok (.iconst 0, 1) := by decide +kernel
theorem dX12_asks_57 : decode cX12_asks 57 = .ok (.istore 4, 2) := by decide +kernel
theorem dX12_asks_59 : decode cX12_asks 59 = .ok (.iload 4, 2) := by decide +kernel
theorem dX12_asks_61 : decode cX12_asks 61 = .ok (.aload_n 0, 1) := by decide +kernel
theorem dX12_asks_62 : decode cX12_asks 62 = .ok (.getfield 102, 3) := by decide +kernel
theorem dX12_asks_65 : decode cX12_asks 65 = .ok (.if_icmp .ge 37, 3) := by decide +kernel
theorem dX12_asks_68 : decode cX12_asks 68 = .ok (.aload_n 0, 1) := by decide +kernel
theorem dX12_asks_69 : decode cX12_asks 69 = .ok (.getfield 38, 3) := by decide +kernel
theorem dX12_asks_72 : decode cX12_asks 72 = .ok (.iload_n 3, 1) := by decide +kernel
theorem dX12_asks_73 : decode cX12_asks 73 = .ok (.iload 4, 2) := by decide +kernel
theorem dX12_asks_75 : decode cX12_asks 75 = .ok (.invokestatic 87, 3) := by decide +kernel
theorem dX12_asks_78 : decode cX12_asks 78 = .ok (.iload_n 3, 1) := by decide +kernel
theorem dX12_asks_79 : decode cX12_asks 79 = .ok (.iload_n 2, 1) := by decide +kernel
theorem dX12_asks_80 : decode cX12_asks 80 = .ok (.if_icmp .ne 7, 3) := by decide +kernel
theorem dX12_asks_83 : decode cX12_asks 83 = .ok (.iconst 0, 1) := by decide +kernel
theorem dX12_asks_84 : decode cX12_asks 84 = .ok (.goto 11, 3) := by decide +kernel
theorem dX12_asks_87 : decode cX12_asks 87 = .ok (.aload_n 0, 1) := by decide +kernel
theorem dX12_asks_88 : decode cX12_asks 88 = .ok (.iload_n 1, 1) := by decide +kernel
theorem dX12_asks_89 : decode cX12_asks 89 = .ok (.iload_n 3, 1) := by decide +kernel
theorem dX12_asks_90 : decode cX12_asks 90 = .ok (.iload 4, 2) := by decide +kernel
theorem dX12_asks_92 : decode cX12_asks 92 = .ok (.invokevirtual 117, 3) := by decide +kernel
theorem dX12_asks_95 : decode cX12_asks 95 = .ok (.iastore, 1) := by decide +kernel
theorem dX12_asks_96 : decode cX12_asks 96 = .ok (.iinc 4 1, 3) := by decide +kernel
theorem dX12_asks_99 : decode cX12_asks 99 = .ok (.goto (-40), 3) := by decide +kernel
theorem dX12_asks_102 : decode cX12_asks 102 = .ok (.iinc 3 1, 3) := by decide +kernel
theorem dX12_asks_105 : decode cX12_asks 105 = .ok (.goto (-103), 3) := by decide +kernel
theorem dX12_asks_108 : decode cX12_asks 108 = .ok (.iconst 0, 1) := by decide +kernel
theorem dX12_asks_109 : decode cX12_asks 109 = .ok (.istore_n 3, 1) := by decide +kernel
theorem dX12_asks_110 : decode cX12_asks 110 = .ok (.iload_n 3, 1) := by decide +kernel
theorem dX12_asks_111 : decode cX12_asks 111 = .ok (.aload_n 0, 1) := by decide +kernel
theorem dX12_asks_112 : decode cX12_asks 112 = .ok (.getfield 102, 3) := by decide +kernel
theorem dX12_asks_115 : decode cX12_asks 115 = .ok (.if_icmp .ge 21, 3) := by decide +kernel
theorem dX12_asks_118 : decode cX12_asks 118 = .ok (.aload_n 0, 1) := by decide +kernel
theorem dX12_asks_119 : decode cX12_asks 119 = .ok (.getfield 35, 3) := by decide +kernel
theorem dX12_asks_122 : decode cX12_asks 122 = .ok (.iload_n 3, 1) := by decide +kernel
theorem dX12_asks_123 : decode cX12_asks 123 = .ok (.aload_n 0, 1) := by decide +kernel
theorem dX12_asks_124 : decode cX12_asks 124 = .ok (.iload_n 1, 1) := by decide +kernel
theorem dX12_asks_125 : decode cX12_asks 125 = .ok (.iload_n 3, 1) := by decide +kernel
theorem dX12_asks_126 : decode cX12_asks 126 = .ok (.invokevirtual 120, 3) := by decide +kernel
theorem dX12_asks_129 : decode cX12_asks 129 = .ok (.iastore, 1) := by decide +kernel
theorem dX12_asks_130 : decode cX12_asks 130 = .ok (.iinc 3 1, 3) := by decide +kernel
theorem dX12_asks_133 : decode cX12_asks 133 = .ok (.goto (-23), 3) := by decide +kernel
theorem dX12_asks_136 : decode cX12_asks 136 = .ok (.return_, 1) := by decide +kernel
set_option maxHeartbeats 1000000 in
theorem c12_asks {G : Gl} {l : Launch}  {M : Mem} {b : Int} {c : Int → Int} {q : Int} (hG : GR M) (hK : RW M b c) (hb0 : 0 ≤ b) (hb1 : b ≤ 9686) (hM : SM c) : Ct G LY 82 l 4 m12_asks [vR 57, vI b, vI q] M (RV (fun M' => Fr [63, 64, 65, 66] [] M M' ∧ MA M' (apI c q))) := by
  refine R_start (by decide +kernel) (Nat.le_of_ble_eq_true rfl) (fun C hC hRm hlau => ?_)
  show RZ G LY C (Zn G LY 82 C (RV (fun M' => Fr [63, 64, 65, 66] [] M M' ∧ MA M' (apI c q)))) 0 0 82 0 [some (vR 57), some (vI b), some (vI q), none, none] [] M
  have hL := hM.1.1
  have hW := hM.1.2
  refine R_iconst hC dX12_asks_0 ⟨by decide, by decide⟩ ?_
  refine R_istore_3 hC dX12_asks_1 rfl ?_
  have L2 : ∀ (mq : Nat) (x : Int) (M1 : Mem), (0 ≤ x) → (x ≤ c 121) → (GR M1) → (Fr [63, 64, 65, 66] [] M M1) → (∀ y, 0 ≤ y → y < x → (M1 63 y = iN (apI c q) y ∧ M1 64 y = iM (apI c q) y) ∧ ∀ w, 0 ≤ w → w < c 122 → M1 66 (6 * y + w) = iO (apI c q) y w) → (RW M1 b c) → (c 121 - x).toNat < mq → RZ G LY C (Zn G LY 82 C (RV (fun M' => Fr [63, 64, 65, 66] [] M M' ∧ MA M' (apI c q)))) 0 0 82 2 [some (vR 57), some (vI b), some (vI q), some (vI x), none] [] M1 := by
    intro mq
    induction mq with
    | zero =>
      intro x M1 hx0 hx1 hg1 hF1 hA1 hk1 hm
      exact absurd hm (Nat.not_lt_zero _)
    | succ mq ih2 =>
      intro x M1 hx0 hx1 hg1 hF1 hA1 hk1 hm2
      refine R_iload_3 hC dX12_asks_2 ?_
      refine R_aload_0 hC dX12_asks_3 ?_
      refine R_getIE hC dX12_asks_4 fl_12_105 (by decide) rfl (by decide) (by decide) (fi := 5) rfl hk1.l ?_
      refine R_icmp_ge hC dX12_asks_7 (tgt := 108) (by decide) (fun hb7 => ?_) (fun hb7 => ?_)
      · skip
        refine R_iconst hC dX12_asks_108 ⟨by decide, by decide⟩ ?_
        refine R_istore_3 hC dX12_asks_109 rfl ?_
        have L110 : ∀ (mq : Nat) (w : Int) (M3 : Mem), (0 ≤ w) → (w ≤ c 122) → (GR M3) → (Fr [63, 64, 65, 66] [] M M3) → (∀ y, 0 ≤ y → y < c 121 → (M3 63 y = iN (apI c q) y ∧ M3 64 y = iM (apI c q) y) ∧ ∀ w, 0 ≤ w → w < c 122 → M3 66 (6 * y + w) = iO (apI c q) y w) → (∀ w', 0 ≤ w' → w' < w → M3 65 w' = spr c w') → (RW M3 b c) → (c 122 - w).toNat < mq → RZ G LY C (Zn G LY 82 C (RV (fun M' => Fr [63, 64, 65, 66] [] M M' ∧ MA M' (apI c q)))) 0 0 82 110 [some (vR 57), some (vI b), some (vI q), some (vI w), none] [] M3 := by
          intro mq
          induction mq with
          | zero =>
            intro w M3 hw0 hw1 hg3 hF3 hA3 hS3 hk3 hm
            exact absurd hm (Nat.not_lt_zero _)
          | succ mq ih110 =>
            intro w M3 hw0 hw1 hg3 hF3 hA3 hS3 hk3 hm110
            refine R_iload_3 hC dX12_asks_110 ?_
            refine R_aload_0 hC dX12_asks_111 ?_
            refine R_getIE hC dX12_asks_112 fl_12_102 (by decide) rfl (by decide) (by decide) (fi := 6) rfl hk3.w ?_
            refine R_icmp_ge hC dX12_asks_115 (tgt := 136) (by decide) (fun hb115 => ?_) (fun hb115 => ?_)
            · skip
              exact R_return hC dX12_asks_136 rfl (ret_V ⟨hF3, ⟨hk3.l, hk3.w⟩, hA3, fun w p0 p1 => ⟨hS3 w p0 (by have : w < c 122 := p1; omega), hk3.rs w p0 (by have : w < c 122 := p1; omega) p1⟩⟩)
            · skip
              refine R_aload_0 hC dX12_asks_118 ?_
              refine R_getR hC dX12_asks_119 fl_12_35 (by decide) rfl (by decide) (by decide) (fi := 20) rfl (r := 65) (gr_57_20 hg3) ?_
              refine R_iload_3 hC dX12_asks_122 ?_
              refine R_aload_0 hC dX12_asks_123 ?_
              refine R_iload_1 hC dX12_asks_124 ?_
              refine R_iload_3 hC dX12_asks_125 ?_
              refine R_callVq (as := [vI _, vI _]) hC dX12_asks_126 mo_12_spareOf ml_12_120 (by decide) rfl rfl (c12_spareOf  hg3 hk3 (by omega) (by omega) (by omega) (by omega) hM) rfl rfl hRm (by decide) (by decide) (Nat.le_of_ble_eq_true rfl) ?_
              refine R_iastore hC dX12_asks_129 (by decide) rfl (by omega) (by omega) ?_
              refine R_iinc_3 hC dX12_asks_130 rfl ⟨by omega, by omega⟩ ?_
              refine R_goto hC dX12_asks_133 (tgt := 110) (by decide) ?_
              have hG1 : GR (uM M3 65 w (spr c w)) := (GR.uA hg3 (by decide +kernel) (.inl (by decide)))
              have hk2 : RW (uM M3 65 w (spr c w)) b c := (RW.u hk3 (by decide))
              exact ih110 _ _ (by omega) (by omega) hG1 (Fr.uA hF3 (by decide)) (fun y a b => ⟨⟨(uM_h (by decide)).trans (hA3 y a b).1.1, (uM_h (by decide)).trans (hA3 y a b).1.2⟩, fun w' p0 p1 => (uM_h (by decide)).trans ((hA3 y a b).2 w' p0 p1)⟩) (fun w' p0 p1 => by
                by_cases e : w' = w
                · subst e
                  exact uM_same
                · exact (uM_k (by omega)).trans (hS3 w' p0 (by omega))) hk2 (by omega)
        exact L110 _ _ _ (by omega) (by omega) hg1 hF1 (fun y a b => hA1 y a (by omega)) (fun w' p0 p1 => by omega) hk1 (Nat.lt_succ_self _)
      · skip
        refine R_aload_0 hC dX12_asks_10 ?_
        refine R_getR hC dX12_asks_11 fl_12_29 (by decide) rfl (by decide) (by decide) (fi := 18) rfl (r := 63) (gr_57_18 hg1) ?_
        refine R_iload_3 hC dX12_asks_14 ?_
        refine R_iload_3 hC dX12_asks_15 ?_
        refine R_iload_2 hC dX12_asks_16 ?_
        refine R_icmp_ne hC dX12_asks_17 (tgt := 24) (by decide) (fun hb17 => ?_) (fun hb17 => ?_)
        · skip
          have hnv : nee c x = iN (apI c q) x := (if_neg hb17).symm
          refine R_aload_0 hC dX12_asks_24 ?_
          refine R_iload_1 hC dX12_asks_25 ?_
          refine R_iload_3 hC dX12_asks_26 ?_
          refine R_callVq (as := [vI _, vI _]) hC dX12_asks_27 mo_12_needOf ml_12_114 (by decide) rfl rfl (c12_needOf  hg1 hk1 (by omega) (by omega) (by omega) (by omega) hM) rfl rfl hRm (by decide) (by decide) (Nat.le_of_ble_eq_true rfl) ?_
          refine R_iastore hC dX12_asks_30 (by decide) rfl (by omega) (by omega) ?_
          have bn := hM.ne hx0 (show x < 5 by omega)
          have bw := hM.2.1 x hx0 (by omega)
          refine R_aload_0 hC dX12_asks_31 ?_
          have hG3 : GR (uM M1 63 x (nee c x)) := (GR.uA hg1 (by decide +kernel) (.inl (by decide)))
          refine R_getR hC dX12_asks_32 fl_12_32 (by decide) rfl (by decide) (by decide) (fi := 19) rfl (r := 64) (gr_57_19 hG3) ?_
          refine R_iload_3 hC dX12_asks_35 ?_
          refine R_aload_0 hC dX12_asks_36 ?_
          refine R_getR hC dX12_asks_37 fl_12_9 (by decide) rfl (by decide) (by decide) (fi := 0) rfl (r := 58) (gr_57_0 hG3) ?_
          refine R_iload_1 hC dX12_asks_40 ?_
          refine R_iconst hC dX12_asks_41 ⟨by decide, by decide⟩ ?_
          refine R_iadd hC dX12_asks_42 ⟨by omega, by omega⟩ ?_
          refine R_iload_3 hC dX12_asks_43 ?_
          refine R_iadd hC dX12_asks_44 ⟨by omega, by omega⟩ ?_
          have hk4 : RW (uM M1 63 x (nee c x)) b c := (RW.u hk1 (by decide))
          refine R_ialoadE hC dX12_asks_45 (by decide) rfl (by omega) (by omega) (hk4.r1 (k := 5 + x) (by omega) (by omega) (by omega)) ?_
          refine R_aload_0 hC dX12_asks_46 ?_
          refine R_getR hC dX12_asks_47 fl_12_29 (by decide) rfl (by decide) (by decide) (fi := 18) rfl (r := 63) (gr_57_18 hG3) ?_
          refine R_iload_3 hC dX12_asks_50 ?_
          refine R_ialoadE hC dX12_asks_51 (by decide) rfl (by omega) (by omega) uM_same ?_
          refine R_callSq (as := [vI _, vI _]) hC dX12_asks_52 mo_12_greater ml_12_99 (c12_greater  ) rfl rfl hRm (by decide) (by decide) (Nat.le_of_ble_eq_true rfl) ?_
          have hmv : (max (c (5 + x)) (nee c x)) = iM (apI c q) x := by show _ = max (c (5 + x)) (if x = q then 0 else nee c x); first | (rw [if_pos hb17]) | (rw [if_neg hb17])
          refine R_iastore hC dX12_asks_55 (by decide) rfl (by omega) (by omega) ?_
          refine R_iconst hC dX12_asks_56 ⟨by decide, by decide⟩ ?_
          refine R_istore_4 hC dX12_asks_57 rfl ?_
          have L59 : ∀ (mq : Nat) (w : Int) (M2 : Mem), (0 ≤ w) → (w ≤ c 122) → (GR M2) → (Fr [63, 64, 65, 66] [] M M2) → (∀ y, 0 ≤ y → y < x → (M2 63 y = iN (apI c q) y ∧ M2 64 y = iM (apI c q) y) ∧ ∀ w, 0 ≤ w → w < c 122 → M2 66 (6 * y + w) = iO (apI c q) y w) → (M2 63 x = iN (apI c q) x) → (M2 64 x = iM (apI c q) x) → (∀ w', 0 ≤ w' → w' < w → M2 66 (6 * x + w') = iO (apI c q) x w') → (RW M2 b c) → (c 122 - w).toNat < mq → RZ G LY C (Zn G LY 82 C (RV (fun M' => Fr [63, 64, 65, 66] [] M M' ∧ MA M' (apI c q)))) 0 0 82 59 [some (vR 57), some (vI b), some (vI q), some (vI x), some (vI w)] [] M2 := by
            intro mq
            induction mq with
            | zero =>
              intro w M2 hw0 hw1 hg2 hF2 hA2 hn2 hm2 hO2 hk2 hm
              exact absurd hm (Nat.not_lt_zero _)
            | succ mq ih59 =>
              intro w M2 hw0 hw1 hg2 hF2 hA2 hn2 hm2 hO2 hk2 hm59
              refine R_iload_4 hC dX12_asks_59 ?_
              refine R_aload_0 hC dX12_asks_61 ?_
              refine R_getIE hC dX12_asks_62 fl_12_102 (by decide) rfl (by decide) (by decide) (fi := 6) rfl hk2.w ?_
              refine R_icmp_ge hC dX12_asks_65 (tgt := 102) (by decide) (fun hb65 => ?_) (fun hb65 => ?_)
              · skip
                refine R_iinc_3 hC dX12_asks_102 rfl ⟨by omega, by omega⟩ ?_
                refine R_goto hC dX12_asks_105 (tgt := 2) (by decide) ?_
                refine R_weak (subL_c (subL_c (subL_c (subL_c (subL_d subL_n))))) ?_
                exact ih2 _ _ (by omega) (by omega) hg2 hF2 (fun y a b => by
                      by_cases e : y = x
                      · subst e
                        exact ⟨⟨hn2, hm2⟩, fun w' p0 p1 => hO2 w' p0 (by omega)⟩
                      · exact hA2 y a (by omega)) hk2 (by omega)
              · skip
                refine R_aload_0 hC dX12_asks_68 ?_
                refine R_getR hC dX12_asks_69 fl_12_38 (by decide) rfl (by decide) (by decide) (fi := 21) rfl (r := 66) (gr_57_21 hg2) ?_
                refine R_iload_3 hC dX12_asks_72 ?_
                refine R_iload_4 hC dX12_asks_73 ?_
                refine R_callSq (as := [vI _, vI _]) hC dX12_asks_75 mo_12_cell ml_12_87 (c12_cell  (by omega) (by omega) (by omega) (by omega)) rfl rfl hRm (by decide) (by decide) (Nat.le_of_ble_eq_true rfl) ?_
                refine R_iload_3 hC dX12_asks_78 ?_
                refine R_iload_2 hC dX12_asks_79 ?_
                refine R_icmp_ne hC dX12_asks_80 (tgt := 87) (by decide) (fun hb80 => ?_) (fun hb80 => ?_)
                · skip
                  refine R_aload_0 hC dX12_asks_87 ?_
                  refine R_iload_1 hC dX12_asks_88 ?_
                  refine R_iload_3 hC dX12_asks_89 ?_
                  refine R_iload_4 hC dX12_asks_90 ?_
                  refine R_callVq (as := [vI _, vI _, vI _]) hC dX12_asks_92 mo_12_offerOf ml_12_117 (by decide) rfl rfl (c12_offerOf  hg2 hk2 (by omega) (by omega) (by omega) (by omega) (by omega) (by omega) hM) rfl rfl hRm (by decide) (by decide) (Nat.le_of_ble_eq_true rfl) ?_
                  have e92_5 := (hM).off (x := x) (w := w) (by omega) (by omega) (by omega) (by omega)
                  have hov : (offr c x w) = iO (apI c q) x w := by show _ = (if x = q then 0 else offr c x w); first | (rw [if_pos hb80]) | (rw [if_neg hb80])
                  refine R_iastore hC dX12_asks_95 (by decide) rfl (by omega) (by omega) ?_
                  refine R_iinc_4 hC dX12_asks_96 rfl ⟨by omega, by omega⟩ ?_
                  refine R_goto hC dX12_asks_99 (tgt := 59) (by decide) ?_
                  have hG6 : GR (uM M2 66 (6 * x + w) (offr c x w)) := (GR.uA hg2 (by decide +kernel) (.inl (by decide)))
                  have hk7 : RW (uM M2 66 (6 * x + w) (offr c x w)) b c := (RW.u hk2 (by decide))
                  exact ih59 _ _ (by omega) (by omega) hG6 (Fr.uA hF2 (by decide)) (fun y a b => ⟨⟨(uM_h (by decide)).trans (hA2 y a b).1.1, (uM_h (by decide)).trans (hA2 y a b).1.2⟩, fun w' p0 p1 => (uM_k (by omega)).trans ((hA2 y a b).2 w' p0 p1)⟩) ((uM_h (by decide)).trans hn2) ((uM_h (by decide)).trans hm2) (fun w' p0 p1 => by
                    by_cases e : w' = w
                    · subst e
                      exact uM_same.trans hov
                    · exact (uM_k (by omega)).trans (hO2 w' p0 (by omega))) hk7 (by omega)
                · skip
                  refine R_iconst hC dX12_asks_83 ⟨by decide, by decide⟩ ?_
                  refine R_goto hC dX12_asks_84 (tgt := 95) (by decide) ?_
                  have hov : 0 = iO (apI c q) x w := by show _ = (if x = q then 0 else offr c x w); first | (rw [if_pos hb80]) | (rw [if_neg hb80])
                  refine R_iastore hC dX12_asks_95 (by decide) rfl (by omega) (by omega) ?_
                  refine R_iinc_4 hC dX12_asks_96 rfl ⟨by omega, by omega⟩ ?_
                  refine R_goto hC dX12_asks_99 (tgt := 59) (by decide) ?_
                  have hG8 : GR (uM M2 66 (6 * x + w) 0) := (GR.uA hg2 (by decide +kernel) (.inl (by decide)))
                  have hk9 : RW (uM M2 66 (6 * x + w) 0) b c := (RW.u hk2 (by decide))
                  exact ih59 _ _ (by omega) (by omega) hG8 (Fr.uA hF2 (by decide)) (fun y a b => ⟨⟨(uM_h (by decide)).trans (hA2 y a b).1.1, (uM_h (by decide)).trans (hA2 y a b).1.2⟩, fun w' p0 p1 => (uM_k (by omega)).trans ((hA2 y a b).2 w' p0 p1)⟩) ((uM_h (by decide)).trans hn2) ((uM_h (by decide)).trans hm2) (fun w' p0 p1 => by
                    by_cases e : w' = w
                    · subst e
                      exact uM_same.trans hov
                    · exact (uM_k (by omega)).trans (hO2 w' p0 (by omega))) hk9 (by omega)
          have hG10 : GR (uM (uM M1 63 x (nee c x)) 64 x (max (c (5 + x)) (nee c x))) := (GR.uA hG3 (by decide +kernel) (.inl (by decide)))
          have hk11 : RW (uM (uM M1 63 x (nee c x)) 64 x (max (c (5 + x)) (nee c x))) b c := (RW.u hk4 (by decide))
          exact L59 _ _ _ (by omega) (by omega) hG10 (Fr.uA (Fr.uA hF1 (by decide)) (by decide)) (fun y a b => ⟨⟨((uM_h (by decide)).trans (uM_k (by omega))).trans (hA1 y a b).1.1, ((uM_k (by omega)).trans (uM_h (by decide))).trans (hA1 y a b).1.2⟩, fun w' p0 p1 => ((uM_h (by decide)).trans (uM_h (by decide))).trans ((hA1 y a b).2 w' p0 p1)⟩) ((uM_h (by decide)).trans (uM_same.trans hnv)) (uM_same.trans hmv) (fun w' p0 p1 => by omega) hk11 (Nat.lt_succ_self _)
        · skip
          have hnv : 0 = iN (apI c q) x := (if_pos hb17).symm
          refine R_iconst hC dX12_asks_20 ⟨by decide, by decide⟩ ?_
          refine R_goto hC dX12_asks_21 (tgt := 30) (by decide) ?_
          refine R_iastore hC dX12_asks_30 (by decide) rfl (by omega) (by omega) ?_
          have bn := hM.ne hx0 (show x < 5 by omega)
          have bw := hM.2.1 x hx0 (by omega)
          refine R_aload_0 hC dX12_asks_31 ?_
          have hG12 : GR (uM M1 63 x 0) := (GR.uA hg1 (by decide +kernel) (.inl (by decide)))
          refine R_getR hC dX12_asks_32 fl_12_32 (by decide) rfl (by decide) (by decide) (fi := 19) rfl (r := 64) (gr_57_19 hG12) ?_
          refine R_iload_3 hC dX12_asks_35 ?_
          refine R_aload_0 hC dX12_asks_36 ?_
          refine R_getR hC dX12_asks_37 fl_12_9 (by decide) rfl (by decide) (by decide) (fi := 0) rfl (r := 58) (gr_57_0 hG12) ?_
          refine R_iload_1 hC dX12_asks_40 ?_
          refine R_iconst hC dX12_asks_41 ⟨by decide, by decide⟩ ?_
          refine R_iadd hC dX12_asks_42 ⟨by omega, by omega⟩ ?_
          refine R_iload_3 hC dX12_asks_43 ?_
          refine R_iadd hC dX12_asks_44 ⟨by omega, by omega⟩ ?_
          have hk13 : RW (uM M1 63 x 0) b c := (RW.u hk1 (by decide))
          refine R_ialoadE hC dX12_asks_45 (by decide) rfl (by omega) (by omega) (hk13.r1 (k := 5 + x) (by omega) (by omega) (by omega)) ?_
          refine R_aload_0 hC dX12_asks_46 ?_
          refine R_getR hC dX12_asks_47 fl_12_29 (by decide) rfl (by decide) (by decide) (fi := 18) rfl (r := 63) (gr_57_18 hG12) ?_
          refine R_iload_3 hC dX12_asks_50 ?_
          refine R_ialoadE hC dX12_asks_51 (by decide) rfl (by omega) (by omega) uM_same ?_
          refine R_callSq (as := [vI _, vI _]) hC dX12_asks_52 mo_12_greater ml_12_99 (c12_greater  ) rfl rfl hRm (by decide) (by decide) (Nat.le_of_ble_eq_true rfl) ?_
          have hmv : (max (c (5 + x)) 0) = iM (apI c q) x := by show _ = max (c (5 + x)) (if x = q then 0 else nee c x); first | (rw [if_pos hb17]) | (rw [if_neg hb17])
          refine R_iastore hC dX12_asks_55 (by decide) rfl (by omega) (by omega) ?_
          refine R_iconst hC dX12_asks_56 ⟨by decide, by decide⟩ ?_
          refine R_istore_4 hC dX12_asks_57 rfl ?_
          have L59 : ∀ (mq : Nat) (w : Int) (M2 : Mem), (0 ≤ w) → (w ≤ c 122) → (GR M2) → (Fr [63, 64, 65, 66] [] M M2) → (∀ y, 0 ≤ y → y < x → (M2 63 y = iN (apI c q) y ∧ M2 64 y = iM (apI c q) y) ∧ ∀ w, 0 ≤ w → w < c 122 → M2 66 (6 * y + w) = iO (apI c q) y w) → (M2 63 x = iN (apI c q) x) → (M2 64 x = iM (apI c q) x) → (∀ w', 0 ≤ w' → w' < w → M2 66 (6 * x + w') = iO (apI c q) x w') → (RW M2 b c) → (c 122 - w).toNat < mq → RZ G LY C (Zn G LY 82 C (RV (fun M' => Fr [63, 64, 65, 66] [] M M' ∧ MA M' (apI c q)))) 0 0 82 59 [some (vR 57), some (vI b), some (vI q), some (vI x), some (vI w)] [] M2 := by
            intro mq
            induction mq with
            | zero =>
              intro w M2 hw0 hw1 hg2 hF2 hA2 hn2 hm2 hO2 hk2 hm
              exact absurd hm (Nat.not_lt_zero _)
            | succ mq ih59 =>
              intro w M2 hw0 hw1 hg2 hF2 hA2 hn2 hm2 hO2 hk2 hm59
              refine R_iload_4 hC dX12_asks_59 ?_
              refine R_aload_0 hC dX12_asks_61 ?_
              refine R_getIE hC dX12_asks_62 fl_12_102 (by decide) rfl (by decide) (by decide) (fi := 6) rfl hk2.w ?_
              refine R_icmp_ge hC dX12_asks_65 (tgt := 102) (by decide) (fun hb65 => ?_) (fun hb65 => ?_)
              · skip
                refine R_iinc_3 hC dX12_asks_102 rfl ⟨by omega, by omega⟩ ?_
                refine R_goto hC dX12_asks_105 (tgt := 2) (by decide) ?_
                refine R_weak (subL_c (subL_c (subL_c (subL_c (subL_d subL_n))))) ?_
                exact ih2 _ _ (by omega) (by omega) hg2 hF2 (fun y a b => by
                      by_cases e : y = x
                      · subst e
                        exact ⟨⟨hn2, hm2⟩, fun w' p0 p1 => hO2 w' p0 (by omega)⟩
                      · exact hA2 y a (by omega)) hk2 (by omega)
              · skip
                refine R_aload_0 hC dX12_asks_68 ?_
                refine R_getR hC dX12_asks_69 fl_12_38 (by decide) rfl (by decide) (by decide) (fi := 21) rfl (r := 66) (gr_57_21 hg2) ?_
                refine R_iload_3 hC dX12_asks_72 ?_
                refine R_iload_4 hC dX12_asks_73 ?_
                refine R_callSq (as := [vI _, vI _]) hC dX12_asks_75 mo_12_cell ml_12_87 (c12_cell  (by omega) (by omega) (by omega) (by omega)) rfl rfl hRm (by decide) (by decide) (Nat.le_of_ble_eq_true rfl) ?_
                refine R_iload_3 hC dX12_asks_78 ?_
                refine R_iload_2 hC dX12_asks_79 ?_
                refine R_icmp_ne hC dX12_asks_80 (tgt := 87) (by decide) (fun hb80 => ?_) (fun hb80 => ?_)
                · skip
                  refine R_aload_0 hC dX12_asks_87 ?_
                  refine R_iload_1 hC dX12_asks_88 ?_
                  refine R_iload_3 hC dX12_asks_89 ?_
                  refine R_iload_4 hC dX12_asks_90 ?_
                  refine R_callVq (as := [vI _, vI _, vI _]) hC dX12_asks_92 mo_12_offerOf ml_12_117 (by decide) rfl rfl (c12_offerOf  hg2 hk2 (by omega) (by omega) (by omega) (by omega) (by omega) (by omega) hM) rfl rfl hRm (by decide) (by decide) (Nat.le_of_ble_eq_true rfl) ?_
                  have e92_14 := (hM).off (x := x) (w := w) (by omega) (by omega) (by omega) (by omega)
                  have hov : (offr c x w) = iO (apI c q) x w := by show _ = (if x = q then 0 else offr c x w); first | (rw [if_pos hb80]) | (rw [if_neg hb80])
                  refine R_iastore hC dX12_asks_95 (by decide) rfl (by omega) (by omega) ?_
                  refine R_iinc_4 hC dX12_asks_96 rfl ⟨by omega, by omega⟩ ?_
                  refine R_goto hC dX12_asks_99 (tgt := 59) (by decide) ?_
                  have hG15 : GR (uM M2 66 (6 * x + w) (offr c x w)) := (GR.uA hg2 (by decide +kernel) (.inl (by decide)))
                  have hk16 : RW (uM M2 66 (6 * x + w) (offr c x w)) b c := (RW.u hk2 (by decide))
                  exact ih59 _ _ (by omega) (by omega) hG15 (Fr.uA hF2 (by decide)) (fun y a b => ⟨⟨(uM_h (by decide)).trans (hA2 y a b).1.1, (uM_h (by decide)).trans (hA2 y a b).1.2⟩, fun w' p0 p1 => (uM_k (by omega)).trans ((hA2 y a b).2 w' p0 p1)⟩) ((uM_h (by decide)).trans hn2) ((uM_h (by decide)).trans hm2) (fun w' p0 p1 => by
                    by_cases e : w' = w
                    · subst e
                      exact uM_same.trans hov
                    · exact (uM_k (by omega)).trans (hO2 w' p0 (by omega))) hk16 (by omega)
                · skip
                  refine R_iconst hC dX12_asks_83 ⟨by decide, by decide⟩ ?_
                  refine R_goto hC dX12_asks_84 (tgt := 95) (by decide) ?_
                  have hov : 0 = iO (apI c q) x w := by show _ = (if x = q then 0 else offr c x w); first | (rw [if_pos hb80]) | (rw [if_neg hb80])
                  refine R_iastore hC dX12_asks_95 (by decide) rfl (by omega) (by omega) ?_
                  refine R_iinc_4 hC dX12_asks_96 rfl ⟨by omega, by omega⟩ ?_
                  refine R_goto hC dX12_asks_99 (tgt := 59) (by decide) ?_
                  have hG17 : GR (uM M2 66 (6 * x + w) 0) := (GR.uA hg2 (by decide +kernel) (.inl (by decide)))
                  have hk18 : RW (uM M2 66 (6 * x + w) 0) b c := (RW.u hk2 (by decide))
                  exact ih59 _ _ (by omega) (by omega) hG17 (Fr.uA hF2 (by decide)) (fun y a b => ⟨⟨(uM_h (by decide)).trans (hA2 y a b).1.1, (uM_h (by decide)).trans (hA2 y a b).1.2⟩, fun w' p0 p1 => (uM_k (by omega)).trans ((hA2 y a b).2 w' p0 p1)⟩) ((uM_h (by decide)).trans hn2) ((uM_h (by decide)).trans hm2) (fun w' p0 p1 => by
                    by_cases e : w' = w
                    · subst e
                      exact uM_same.trans hov
                    · exact (uM_k (by omega)).trans (hO2 w' p0 (by omega))) hk18 (by omega)
          have hG19 : GR (uM (uM M1 63 x 0) 64 x (max (c (5 + x)) 0)) := (GR.uA hG12 (by decide +kernel) (.inl (by decide)))
          have hk20 : RW (uM (uM M1 63 x 0) 64 x (max (c (5 + x)) 0)) b c := (RW.u hk13 (by decide))
          exact L59 _ _ _ (by omega) (by omega) hG19 (Fr.uA (Fr.uA hF1 (by decide)) (by decide)) (fun y a b => ⟨⟨((uM_h (by decide)).trans (uM_k (by omega))).trans (hA1 y a b).1.1, ((uM_k (by omega)).trans (uM_h (by decide))).trans (hA1 y a b).1.2⟩, fun w' p0 p1 => ((uM_h (by decide)).trans (uM_h (by decide))).trans ((hA1 y a b).2 w' p0 p1)⟩) ((uM_h (by decide)).trans (uM_same.trans hnv)) (uM_same.trans hmv) (fun w' p0 p1 => by omega) hk20 (Nat.lt_succ_self _)
  exact L2 _ _ _ (by omega) (by omega) hG Fr.rf (fun y a b => by omega) hK (Nat.lt_succ_self _)
