/-! a copy more goes: the search, the way back -/
def FVF (I : Ins) (M : Mem) : Prop := ∀ x w, 0 ≤ x → x < iL I → 0 ≤ w → w < iW I → 0 ≤ M 67 (6 * x + w) ∧ M 67 (6 * x + w) ≤ iO I x w
def FV (I : Ins) (M : Mem) : Prop := FVF I M ∧ ∀ x, 0 ≤ x → x < iL I → M 68 x = sm (iW I).toNat (fun w => M 67 (6 * x + w)) ∧ M 68 x ≤ iM I x
def TW (I : Ins) (M : Mem) (w : Int) : Int := sm (iL I).toNat (fun x => M 67 (6 * x + w))
def CLF (I : Ins) (M : Mem) (WR LR : Int → Prop) : Prop := (∀ x w, 0 ≤ x → x < iL I → 0 ≤ w → w < iW I → WR w → LR x ∨ M 67 (6 * x + w) = iO I x w) ∧ ∀ x, 0 ≤ x → x < iL I → LR x → ∀ w, 0 ≤ w → w < iW I → 0 < M 67 (6 * x + w) → WR w
def CLO (I : Ins) (M : Mem) (WR LR : Int → Prop) : Prop := CLF I M WR LR ∧ ∀ x, 0 ≤ x → x < iL I → LR x → M 68 x = iM I x
def Bq (I : Ins) (M : Mem) (work many : Int) (pos : Int → Int) : Prop :=
  (1 ≤ many ∧ many = sm (iW I).toNat (fun w => bP (M 70 w ≠ -1))) ∧ (∀ j, 0 ≤ j → j < many → (0 ≤ M 71 j ∧ M 71 j < iW I) ∧ M 70 (M 71 j) ≠ -1 ∧ pos (M 71 j) = j) ∧
  (∀ w, 0 ≤ w → w < iW I → M 70 w ≠ -1 → (0 ≤ pos w ∧ pos w < many ∧ M 71 (pos w) = w) ∧ ((M 70 w = 5 ∧ w = work) ∨ ((0 ≤ M 70 w ∧ M 70 w < iL I) ∧ M 69 (M 70 w) ≠ -1 ∧ 0 < M 67 (6 * M 70 w + w) ∧ pos (M 69 (M 70 w)) < pos w))) ∧
  ∀ x, 0 ≤ x → x < iL I → M 69 x ≠ -1 → (0 ≤ M 69 x ∧ M 69 x < iW I) ∧ M 70 (M 69 x) ≠ -1 ∧ M 67 (6 * x + M 69 x) < iO I x (M 69 x)
def EBq (I : Ins) (M : Mem) (work many : Int) : Prop := ∃ pos, Bq I M work many pos
theorem sm_chg {f g : Int → Int} {a d : Int} (n : Nat) (a0 : 0 ≤ a) (a1 : a < n) (h : ∀ k : Int, 0 ≤ k → k < n → k ≠ a → g k = f k) (hd : g a = f a + d) : sm n g = sm n f + d := by
  have e : sm n g = sm n (fun k => f k + (g k - f k)) := sm_congr n (fun k _ _ => by omega)
  rw [e, sm_add, sm_one (f := fun k => g k - f k) (i := a) n a0 a1 (fun k k0 k1 k2 => by rw [h k k0 k1 k2]; omega)]
  omega
theorem EBq.m {I : Ins} (hI : IB I) {M : Mem} {work many : Int} (h : EBq I M work many) : 1 ≤ many ∧ many ≤ 6 := by
  obtain ⟨pos, h⟩ := h
  have := sm_b01 (fun w => M 70 w ≠ -1) hI.2.1.1 hI.2.1.2
  have := h.1
  omega
theorem EBq.fr {I : Ins} {M M' : Mem} {work many : Int} (h : EBq I M work many) (e : ∀ (a : Nat) j, a = 67 ∨ a = 69 ∨ a = 70 ∨ a = 71 → M' a j = M a j) : EBq I M' work many := by
  obtain ⟨pos, h1, h2, h3, h4⟩ := h
  have e7 := fun j => e 67 j (.inl rfl)
  have e9 := fun j => e 69 j (.inr (.inl rfl))
  have e0 := fun j => e 70 j (.inr (.inr (.inl rfl)))
  have e1 := fun j => e 71 j (.inr (.inr (.inr rfl)))
  refine ⟨pos, ?_, ?_, ?_, ?_⟩
  · rw [sm_congr (g := fun w => bP (M 70 w ≠ -1)) _ (fun w _ _ => by rw [e0])]; exact h1
  · intro j a b; rw [e1, e0]; exact h2 j a b
  · intro w a b c; rw [e0] at c ⊢; rw [e1, e9, e7]; exact h3 w a b c
  · intro x a b c; rw [e9] at c ⊢; rw [e0, e7]; exact h4 x a b c
/-- a library reached -/
theorem EBq.lib {I : Ins} {M : Mem} {work many k l : Int} (h : EBq I M work many) (l0 : 0 ≤ l) (l1 : l < iL I) (hl : M 69 l = -1) (k0 : 0 ≤ k) (k1 : k < many) (hf : M 67 (6 * l + M 71 k) < iO I l (M 71 k)) : EBq I (uM M 69 l (M 71 k)) work many := by
  obtain ⟨pos, h1, h2, h3, h4⟩ := h
  have n := fun (a : Nat) j (q : a ≠ 69) => (uM_h (M := M) (h := 69) (k := l) (x := M 71 k) (k' := j) q)
  refine ⟨pos, ?_, ?_, ?_, ?_⟩
  · rw [sm_congr (g := fun w => bP (M 70 w ≠ -1)) _ (fun w _ _ => by rw [n 70 w (by decide)])]; exact h1
  · intro j a b; rw [n 71 _ (by decide), n 70 _ (by decide)]; exact h2 j a b
  · intro w a b c
    rw [n 70 _ (by decide)] at c ⊢
    rw [n 71 _ (by decide), n 67 _ (by decide)]
    obtain ⟨z1, z2⟩ := h3 w a b c
    refine ⟨z1, z2.imp id (fun z => ?_)⟩
    have ne : M 70 w ≠ l := fun q => z.2.1 (by rw [q]; exact hl)
    rw [uM_k ne]
    exact z
  · intro x a b c
    by_cases e : x = l
    · subst e
      rw [uM_same]
      rw [n 70 _ (by decide), n 67 _ (by decide)]
      have z := h2 k k0 k1
      exact ⟨z.1, z.2.1, hf⟩
    · rw [uM_k e] at c ⊢
      rw [n 70 _ (by decide), n 67 _ (by decide)]
      exact h4 x a b c
/-- a work reached -/
theorem EBq.wk {I : Ins} {M : Mem} {work many l w : Int} (h : EBq I M work many) (l0 : 0 ≤ l) (l1 : l < iL I) (hl : M 69 l ≠ -1) (w0 : 0 ≤ w) (w1 : w < iW I) (hw : M 70 w = -1) (hf : 0 < M 67 (6 * l + w)) : EBq I (uM (uM M 70 w l) 71 many w) work (many + 1) := by
  obtain ⟨pos, h1, h2, h3, h4⟩ := h
  have n1 := fun j => (uM_h (M := uM M 70 w l) (h := 71) (h' := 70) (k := many) (x := w) (k' := j) (by decide))
  have n7 : ∀ j, uM (uM M 70 w l) 71 many w 67 j = M 67 j := fun j => (uM_h (by decide)).trans (uM_h (by decide))
  have n9 : ∀ j, uM (uM M 70 w l) 71 many w 69 j = M 69 j := fun j => (uM_h (by decide)).trans (uM_h (by decide))
  have a1 : ∀ j, j ≠ many → uM (uM M 70 w l) 71 many w 71 j = M 71 j := fun j q => (uM_k q).trans (uM_h (by decide))
  have a0 : ∀ j, j ≠ w → uM (uM M 70 w l) 71 many w 70 j = M 70 j := fun j q => (n1 j).trans (uM_k q)
  have aw : uM (uM M 70 w l) 71 many w 70 w = l := (n1 w).trans uM_same
  have vw : ∀ u, M 70 u ≠ -1 → u ≠ w := fun u q e => q (by rw [e]; exact hw)
  refine ⟨fun u => if u = w then many else pos u, ⟨by omega, ?_⟩, ?_, ?_, ?_⟩
  · rw [sm_chg (f := fun w => bP (M 70 w ≠ -1)) (a := w) (d := 1) _ w0 (by omega) (fun k k0 k1 k2 => by rw [a0 k k2]) (by
      rw [aw, hw, bP_pos (show l ≠ -1 by omega), bP_neg (fun z => z rfl)]; rfl)]
    have := h1.2
    omega
  · intro j j0 j1
    by_cases e : j = many
    · rw [e, uM_same, aw]
      exact ⟨⟨w0, w1⟩, by omega, if_pos rfl⟩
    · have z := h2 j j0 (by omega)
      have ne := vw _ z.2.1
      rw [a1 j e, a0 _ ne]
      exact ⟨z.1, z.2.1, (if_neg ne).trans z.2.2⟩
  · intro u u0 u1 hu
    by_cases e : u = w
    · subst e
      have z := h4 l l0 l1 hl
      have z3 := (h3 _ z.1.1 z.1.2 z.2.1).1
      have ne := vw _ z.2.1
      dsimp only
      rw [aw, if_pos rfl, n9, n7, if_neg ne]
      exact ⟨⟨by have := h1.1; omega, by omega, uM_same⟩, .inr ⟨⟨l0, l1⟩, hl, hf, z3.2.1⟩⟩
    · rw [a0 u e] at hu ⊢
      dsimp only
      rw [if_neg e, n9, n7]
      obtain ⟨z1, z2⟩ := h3 u u0 u1 hu
      rw [a1 _ (by omega)]
      refine ⟨⟨z1.1, by omega, z1.2.2⟩, z2.imp id (fun z => ?_)⟩
      have y := h4 _ z.1.1 z.1.2 z.2.1
      rw [if_neg (vw _ y.2.1)]
      exact z
  · intro x x0 x1 hx
    rw [n9] at hx ⊢
    have y := h4 x x0 x1 hx
    rw [n7, a0 _ (vw _ y.2.1)]
    exact y
/-! the way back -/
def TVb (I : Ins) (M : Mem) (l work y : Int) (M2 : Mem) : Prop := FVF I M2 ∧ (∀ w, 0 ≤ w → w < iW I → TW I M2 w = TW I M w + (if y = 5 ∧ w = work then 1 else 0)) ∧
  (∀ x, 0 ≤ x → x < iL I → sm (iW I).toNat (fun w => M2 67 (6 * x + w)) = sm (iW I).toNat (fun w => M 67 (6 * x + w)) + (if x = l then 1 else 0) - (if x = y then 1 else 0)) ∧
  ∀ WR LR, CLF I M WR LR → ¬ LR l → (∀ x w, 0 ≤ x → x < iL I → 0 ≤ w → w < iW I → LR x ∨ WR w → M2 67 (6 * x + w) = M 67 (6 * x + w)) ∧ (y ≠ 5 → ¬ LR y)
def TV (I : Ins) (M : Mem) (pos : Int → Int) (l work y : Int) (M2 : Mem) : Prop := TVb I M l work y M2 ∧
  (y ≠ 5 → (∀ x, 0 ≤ x → x < iL I → M 69 x ≠ -1 → pos (M 69 x) < pos (M 69 y) → ∀ w, 0 ≤ w → w < iW I → M2 67 (6 * x + w) = M 67 (6 * x + w)) ∧ ∀ w, 0 ≤ w → w < iW I → M2 67 (6 * y + w) ≤ M 67 (6 * y + w))
theorem TV.rf {I : Ins} {M : Mem} {pos : Int → Int} {l work : Int} (h : FVF I M) (l0 : 0 ≤ l) (l1 : l < 5) : TV I M pos l work l M :=
  ⟨⟨h, fun w _ _ => by rw [if_neg (by omega)]; omega, fun x _ _ => by split <;> omega, fun WR LR _ q => ⟨fun _ _ _ _ _ _ _ => rfl, fun _ => q⟩⟩, fun _ => ⟨fun _ _ _ _ _ _ _ _ => rfl, fun _ _ _ => Int.le_refl _⟩⟩
section TVS
variable {I : Ins} {M M2 : Mem} {pos : Int → Int} {l work many y p q v : Int}
theorem TV.step1 (hI : IB I) (hB : Bq I M work many pos) (h : TV I M pos l work y M2) (y0 : 0 ≤ y) (y1 : y < iL I) (hy : M 69 y ≠ -1) (hp : p = M 69 y) (hq : M 70 p = 5) (hv : v = M2 67 (6 * y + p) + 1) : TV I M pos l work 5 (uM M2 67 (6 * y + p) v) := by
  obtain ⟨⟨v1, v2, v3, v5⟩, v4⟩ := h
  have hL := hI.1
  have hW := hI.2.1
  have b4 := hB.2.2.2 y y0 y1 hy
  rw [← hp] at b4
  have b3 := (hB.2.2.1 p b4.1.1 b4.1.2 b4.2.1).2
  have hpw : p = work := by
    rcases b3 with z | z
    · exact z.2
    · omega
  have v4 := v4 (by omega)
  have hle := v4.2 p b4.1.1 b4.1.2
  have o : ∀ x w, 0 ≤ w → w < iW I → ¬ (x = y ∧ w = p) → uM M2 67 (6 * y + p) v 67 (6 * x + w) = M2 67 (6 * x + w) := fun x w w0 w1 ne => uM_k (by omega)
  refine ⟨⟨fun x w x0 x1 w0 w1 => ?_, fun w w0 w1 => ?_, fun x x0 x1 => ?_, fun WR LR hc hl => ⟨fun x w x0 x1 w0 w1 hr => ?_, fun z => absurd rfl z⟩⟩, fun z => absurd rfl z⟩
  · by_cases e : x = y ∧ w = p
    · rw [e.1, e.2, uM_same]
      have := v1 y p y0 y1 b4.1.1 b4.1.2
      omega
    · rw [o x w w0 w1 e]; exact v1 x w x0 x1 w0 w1
  · have z := v2 w w0 w1
    rw [if_neg (by omega)] at z
    by_cases e : w = p
    · subst e
      rw [if_pos ⟨rfl, hpw⟩]
      have : TW I (uM M2 67 (6 * y + w) v) w = TW I M2 w + 1 := sm_chg _ y0 (by omega) (fun k k0 k1 k2 => uM_k (by omega)) (uM_same.trans hv)
      omega
    · rw [if_neg (by omega)]
      have : TW I (uM M2 67 (6 * y + p) v) w = TW I M2 w := sm_congr _ (fun k _ _ => o k w w0 w1 (by omega))
      omega
  · have z := v3 x x0 x1
    rw [if_neg (show ¬ x = 5 by omega)]
    by_cases e : x = y
    · subst e
      rw [if_pos rfl] at z
      have : sm (iW I).toNat (fun w => uM M2 67 (6 * x + p) v 67 (6 * x + w)) = sm (iW I).toNat (fun w => M2 67 (6 * x + w)) + 1 := sm_chg _ b4.1.1 (by omega) (fun k k0 k1 k2 => uM_k (by omega)) (uM_same.trans hv)
      omega
    · rw [if_neg e] at z
      have : sm (iW I).toNat (fun w => uM M2 67 (6 * y + p) v 67 (6 * x + w)) = sm (iW I).toNat (fun w => M2 67 (6 * x + w)) := sm_congr _ (fun k k0 k1 => o x k k0 (by omega) (fun z => e z.1))
      omega
  · have v5 := v5 WR LR hc hl
    have ny := v5.2 (by omega)
    have nw : ¬ WR p := fun z => by
      rcases hc.1 y p y0 y1 b4.1.1 b4.1.2 z with r | r
      · exact ny r
      · omega
    rw [o x w w0 w1 (fun z => by
      rcases hr with r | r
      · exact ny (z.1 ▸ r)
      · exact nw (z.2 ▸ r))]
    exact v5.1 x w x0 x1 w0 w1 hr
theorem TV.step2 {u : Int} (hI : IB I) (hB : Bq I M work many pos) (h : TV I M pos l work y M2) (y0 : 0 ≤ y) (y1 : y < iL I) (hy : M 69 y ≠ -1) (hp : p = M 69 y) (hq : M 70 p = q) (hq5 : q ≠ 5) (hv : v = M2 67 (6 * y + p) + 1) (hu : u = M2 67 (6 * q + p) - 1) :
    ((0 ≤ q ∧ q < iL I) ∧ M 69 q ≠ -1 ∧ q ≠ y ∧ pos (M 69 q) < pos (M 69 y)) ∧ TV I M pos l work q (uM (uM M2 67 (6 * y + p) v) 67 (6 * q + p) u) := by
  obtain ⟨⟨v1, v2, v3, v5⟩, v4⟩ := h
  have hL := hI.1
  have hW := hI.2.1
  have b4 := hB.2.2.2 y y0 y1 hy
  rw [← hp] at b4
  have b3 := (hB.2.2.1 p b4.1.1 b4.1.2 b4.2.1).2
  have b3 := b3.resolve_left (fun z => hq5 (by omega))
  rw [hq] at b3
  have hne : q ≠ y := fun e => by
    have := b3.2.2.2
    rw [e, ← hp] at this
    omega
  have hpq : pos (M 69 q) < pos (M 69 y) := by rw [← hp]; exact b3.2.2.2
  have v4 := v4 (by omega)
  have hle := v4.2 p b4.1.1 b4.1.2
  have hqp := v4.1 q b3.1.1 b3.1.2 b3.2.1 hpq p b4.1.1 b4.1.2
  have o : ∀ x w, 0 ≤ w → w < iW I → ¬ (x = y ∧ w = p) → ¬ (x = q ∧ w = p) → uM (uM M2 67 (6 * y + p) v) 67 (6 * q + p) u 67 (6 * x + w) = M2 67 (6 * x + w) := fun x w w0 w1 n1 n2 => (uM_k (by omega)).trans (uM_k (by omega))
  have oy : uM (uM M2 67 (6 * y + p) v) 67 (6 * q + p) u 67 (6 * y + p) = v := (uM_k (by omega)).trans uM_same
  have oq : uM (uM M2 67 (6 * y + p) v) 67 (6 * q + p) u 67 (6 * q + p) = u := uM_same
  refine ⟨⟨b3.1, b3.2.1, hne, hpq⟩, ⟨fun x w x0 x1 w0 w1 => ?_, fun w w0 w1 => ?_, fun x x0 x1 => ?_, fun WR LR hc hl => ?_⟩, fun _ => ⟨fun x x0 x1 hx hlt w w0 w1 => ?_, fun w w0 w1 => ?_⟩⟩
  · by_cases e : x = y ∧ w = p
    · rw [e.1, e.2, oy]
      have := v1 y p y0 y1 b4.1.1 b4.1.2
      omega
    by_cases e2 : x = q ∧ w = p
    · rw [e2.1, e2.2, oq]
      have := v1 q p b3.1.1 b3.1.2 b4.1.1 b4.1.2
      omega
    rw [o x w w0 w1 e e2]; exact v1 x w x0 x1 w0 w1
  · have z := v2 w w0 w1
    rw [if_neg (by omega)] at z
    rw [if_neg (by omega)]
    by_cases e : w = p
    · subst e
      have e1 : TW I (uM M2 67 (6 * y + w) v) w = TW I M2 w + 1 := sm_chg _ y0 (by omega) (fun k k0 k1 k2 => uM_k (by omega)) (uM_same.trans hv)
      have e2 : TW I (uM (uM M2 67 (6 * y + w) v) 67 (6 * q + w) u) w = TW I (uM M2 67 (6 * y + w) v) w + (-1) := sm_chg _ b3.1.1 (by omega) (fun k k0 k1 k2 => uM_k (by omega)) (uM_same.trans (by rw [uM_k (show (6 * q + w) ≠ 6 * y + w by omega)]; omega))
      omega
    · have : TW I (uM (uM M2 67 (6 * y + p) v) 67 (6 * q + p) u) w = TW I M2 w := sm_congr _ (fun k _ _ => o k w w0 w1 (by omega) (by omega))
      omega
  · have z := v3 x x0 x1
    by_cases e : x = y
    · subst e
      rw [if_pos rfl] at z
      rw [if_neg (Ne.symm hne)]
      have : sm (iW I).toNat (fun w => uM (uM M2 67 (6 * x + p) v) 67 (6 * q + p) u 67 (6 * x + w)) = sm (iW I).toNat (fun w => M2 67 (6 * x + w)) + 1 := sm_chg _ b4.1.1 (by omega) (fun k k0 k1 k2 => (uM_k (by omega)).trans (uM_k (by omega))) (oy.trans hv)
      omega
    rw [if_neg e] at z
    by_cases e2 : x = q
    · rw [if_pos e2]
      have : sm (iW I).toNat (fun w => uM (uM M2 67 (6 * y + p) v) 67 (6 * q + p) u 67 (6 * x + w)) = sm (iW I).toNat (fun w => M2 67 (6 * x + w)) + (-1) := sm_chg _ b4.1.1 (by omega) (fun k k0 k1 k2 => (uM_k (by omega)).trans (uM_k (by omega))) (by rw [e2]; exact oq.trans (by omega))
      omega
    · rw [if_neg e2]
      have : sm (iW I).toNat (fun w => uM (uM M2 67 (6 * y + p) v) 67 (6 * q + p) u 67 (6 * x + w)) = sm (iW I).toNat (fun w => M2 67 (6 * x + w)) := sm_congr _ (fun k k0 k1 => o x k k0 (by omega) (fun z => e z.1) (fun z => e2 z.1))
      omega
  · have v5 := v5 WR LR hc hl
    have ny := v5.2 (by omega)
    have nw : ¬ WR p := fun z => by
      rcases hc.1 y p y0 y1 b4.1.1 b4.1.2 z with r | r
      · exact ny r
      · omega
    have nq : ¬ LR q := fun z => nw (hc.2 q b3.1.1 b3.1.2 z p b4.1.1 b4.1.2 b3.2.2.1)
    refine ⟨fun x w x0 x1 w0 w1 hr => ?_, fun _ => nq⟩
    rw [o x w w0 w1 (fun z => by
      rcases hr with r | r
      · exact ny (z.1 ▸ r)
      · exact nw (z.2 ▸ r)) (fun z => by
      rcases hr with r | r
      · exact nq (z.1 ▸ r)
      · exact nw (z.2 ▸ r))]
    exact v5.1 x w x0 x1 w0 w1 hr
  · have n1 : x ≠ y := fun e => by rw [e] at hlt; omega
    have n2 : x ≠ q := fun e => by rw [e] at hlt; omega
    rw [o x w w0 w1 (fun z => n1 z.1) (fun z => n2 z.1)]
    exact v4.1 x x0 x1 hx (by omega) w w0 w1
  · by_cases e : w = p
    · rw [e, oq]; omega
    · rw [o q w w0 w1 (fun z => e z.2) (fun z => e z.2)]
      exact Int.le_of_eq (v4.1 q b3.1.1 b3.1.2 b3.2.1 hpq w w0 w1)
end TVS
/-! the search -/
def c1P (I : Ins) (M : Mem) (j n : Int) : Prop := ∀ x, 0 ≤ x → x < n → M 69 x ≠ -1 ∨ M 67 (6 * x + M 71 j) = iO I x (M 71 j)
def c2P (I : Ins) (M : Mem) (x n : Int) : Prop := ∀ w, 0 ≤ w → w < n → M 70 w ≠ -1 ∨ M 67 (6 * x + w) = 0
def satP (I : Ins) (M : Mem) : Prop := ∀ x, 0 ≤ x → x < iL I → M 69 x ≠ -1 → M 68 x = iM I x
def BI (I : Ins) (M : Mem) (work many k : Int) : Prop := EBq I M work many ∧ satP I M ∧ (∀ j, 0 ≤ j → j < k → c1P I M j (iL I)) ∧ (∀ x, 0 ≤ x → x < iL I → M 69 x ≠ -1 → c2P I M x (iW I)) ∧ M 70 work ≠ -1
def BL (I : Ins) (M : Mem) (work many k l : Int) : Prop := BI I M work many k ∧ c1P I M k l ∧ k < many
def BW (I : Ins) (M : Mem) (work many k l w : Int) : Prop := EBq I M work many ∧ satP I M ∧ (∀ j, 0 ≤ j → j < k → c1P I M j (iL I)) ∧ (∀ x, 0 ≤ x → x < iL I → x ≠ l → M 69 x ≠ -1 → c2P I M x (iW I)) ∧ M 70 work ≠ -1 ∧ c1P I M k l ∧ k < many ∧ M 69 l ≠ -1 ∧ c2P I M l w
section BFS
variable {I : Ins} {M : Mem} {work many k l w : Int}
theorem BI.enter (h : BI I M work many k) (k1 : k < many) : BL I M work many k 0 := ⟨h, fun x a b => by omega, k1⟩
theorem BL.skip (h : BL I M work many k l) (e : M 69 l ≠ -1 ∨ M 67 (6 * l + M 71 k) = iO I l (M 71 k)) : BL I M work many k (l + 1) :=
  ⟨h.1, fun x a b => by
    by_cases q : x = l
    · rw [q]; exact e
    · exact h.2.1 x a (by omega), h.2.2⟩
theorem BL.done (h : BL I M work many k (iL I)) : BI I M work many (k + 1) :=
  ⟨h.1.1, h.1.2.1, fun j a b => by
    by_cases q : j = k
    · rw [q]; exact h.2.1
    · exact h.1.2.2.1 j a (by omega), h.1.2.2.2.1, h.1.2.2.2.2⟩
theorem BL.x (h : BL I M work many k l) (k0 : 0 ≤ k) : 0 ≤ M 71 k ∧ M 71 k < iW I := by
  obtain ⟨pos, hb⟩ := h.1.1
  exact (hb.2.1 k k0 h.2.2).1
theorem BL.lib (h : BL I M work many k l) (l0 : 0 ≤ l) (l1 : l < iL I) (k0 : 0 ≤ k) (hl : M 69 l = -1) (hf : M 67 (6 * l + M 71 k) < iO I l (M 71 k)) (hs : M 68 l = iM I l) : BW I (uM M 69 l (M 71 k)) work many k l 0 := by
  have hx := h.x k0
  have n := fun (a : Nat) j (q : a ≠ 69) => (uM_h (M := M) (h := 69) (k := l) (x := M 71 k) (k' := j) q)
  have g : ∀ x, M 69 x ≠ -1 → uM M 69 l (M 71 k) 69 x ≠ -1 := fun x q => by
    by_cases e : x = l
    · rw [e, uM_same]; omega
    · rw [uM_k e]; exact q
  refine ⟨h.1.1.lib l0 l1 hl k0 h.2.2 hf, fun x x0 x1 hx => ?_, fun j a b x x0 x1 => ?_, fun x x0 x1 ne hx w w0 w1 => ?_, ?_, fun x x0 x1 => ?_, h.2.2, ?_, fun w a b => by omega⟩
  · rw [n 68 _ (by decide)]
    by_cases e : x = l
    · rw [e]; exact hs
    · rw [uM_k e] at hx; exact h.1.2.1 x x0 x1 hx
  · rw [n 67 _ (by decide), n 71 _ (by decide)]
    exact (h.1.2.2.1 j a b x x0 x1).imp (g x) id
  · rw [uM_k ne] at hx
    rw [n 70 _ (by decide), n 67 _ (by decide)]
    exact h.1.2.2.2.1 x x0 x1 hx w w0 w1
  · rw [n 70 _ (by decide)]; exact h.1.2.2.2.2
  · rw [n 67 _ (by decide), n 71 _ (by decide)]
    exact (h.2.1 x x0 x1).imp (g x) id
  · rw [uM_same]; omega
theorem BW.skip (h : BW I M work many k l w) (e : M 70 w ≠ -1 ∨ M 67 (6 * l + w) = 0) : BW I M work many k l (w + 1) := by
  obtain ⟨a, b, c, d, e1, f, g, i, j⟩ := h
  refine ⟨a, b, c, d, e1, f, g, i, fun u u0 u1 => ?_⟩
  by_cases q : u = w
  · rw [q]; exact e
  · exact j u u0 (by omega)
theorem BW.add (h : BW I M work many k l w) (k0 : 0 ≤ k) (l0 : 0 ≤ l) (l1 : l < iL I) (w0 : 0 ≤ w) (w1 : w < iW I) (hw : M 70 w = -1) (hf : 0 < M 67 (6 * l + w)) : BW I (uM (uM M 70 w l) 71 many w) work (many + 1) k l (w + 1) := by
  obtain ⟨a, b, c, d, e1, f, g, i, j⟩ := h
  have n7 : ∀ j, uM (uM M 70 w l) 71 many w 67 j = M 67 j := fun j => (uM_h (by decide)).trans (uM_h (by decide))
  have n8 : ∀ j, uM (uM M 70 w l) 71 many w 68 j = M 68 j := fun j => (uM_h (by decide)).trans (uM_h (by decide))
  have n9 : ∀ j, uM (uM M 70 w l) 71 many w 69 j = M 69 j := fun j => (uM_h (by decide)).trans (uM_h (by decide))
  have a1 : ∀ j, j ≠ many → uM (uM M 70 w l) 71 many w 71 j = M 71 j := fun j q => (uM_k q).trans (uM_h (by decide))
  have a0 : ∀ j, M 70 j ≠ -1 → uM (uM M 70 w l) 71 many w 70 j ≠ -1 := fun j q => by
    rw [uM_h (by decide)]
    by_cases e : j = w
    · rw [e, uM_same]; omega
    · rw [uM_k e]; exact q
  have aw : uM (uM M 70 w l) 71 many w 70 w = l := (uM_h (by decide)).trans uM_same
  refine ⟨a.wk l0 l1 i w0 w1 hw hf, fun x x0 x1 hx => ?_, fun j' p q x x0 x1 => ?_, fun x x0 x1 ne hx u u0 u1 => ?_, a0 _ e1, fun x x0 x1 => ?_, by omega, ?_, fun u u0 u1 => ?_⟩
  · rw [n9] at hx; rw [n8]; exact b x x0 x1 hx
  · rw [n9, n7, a1 j' (by omega)]; exact c j' p q x x0 x1
  · rw [n9] at hx
    rw [n7]
    exact (d x x0 x1 ne hx u u0 u1).imp (a0 u) id
  · rw [n9, n7, a1 k (by omega)]; exact f x x0 x1
  · rw [n9]; exact i
  · rw [n7]
    by_cases q : u = w
    · left; rw [q, aw]; omega
    · exact (j u u0 (by omega)).imp (a0 u) id
theorem BW.done (h : BW I M work many k l (iW I)) : BL I M work many k (l + 1) := by
  obtain ⟨a, b, c, d, e1, f, g, i, j⟩ := h
  refine ⟨⟨a, b, c, fun x x0 x1 hx => ?_, e1⟩, fun x x0 x1 => ?_, g⟩
  · by_cases q : x = l
    · rw [q]; exact j
    · exact d x x0 x1 q hx
  · by_cases q : x = l
    · rw [q]; exact .inl i
    · exact f x x0 (by omega)
theorem BI.clo (h : BI I M work many many) : ∃ WR LR, WR work ∧ CLO I M WR LR := by
  obtain ⟨a, b, c, d, e1⟩ := h
  refine ⟨fun w => M 70 w ≠ -1, fun x => M 69 x ≠ -1, e1, ⟨fun x w x0 x1 w0 w1 hw => ?_, fun x x0 x1 hx w w0 w1 hf => ?_⟩, b⟩
  · obtain ⟨pos, hb⟩ := a
    have z := (hb.2.2.1 w w0 w1 hw).1
    have := c (pos w) z.1 z.2.1 x x0 x1
    rw [z.2.2] at this
    exact this
  · rcases d x x0 x1 hx w w0 w1 with r | r
    · exact r
    · omega
theorem BI.start (hI : IB I) (w0 : 0 ≤ work) (w1 : work < iW I) (h9 : ∀ x, 0 ≤ x → x < 5 → M 69 x = -1) (h0 : ∀ w, 0 ≤ w → w < 6 → M 70 w = if w = work then 5 else -1) (h1 : M 71 0 = work) : BI I M work 1 0 := by
  have hL := hI.1
  have hW := hI.2.1
  have hw : M 70 work = 5 := (h0 work w0 (by omega)).trans (if_pos rfl)
  have nx : ∀ x, 0 ≤ x → x < iL I → M 69 x ≠ -1 → False := fun x a b q => q (h9 x a (by omega))
  have nw : ∀ w, 0 ≤ w → w < iW I → M 70 w ≠ -1 → w = work := fun w a b q => Classical.byContradiction (fun e => q ((h0 w a (by omega)).trans (if_neg e)))
  refine ⟨⟨fun _ => 0, ⟨Int.le_refl _, ?_⟩, fun j a b => ?_, fun w a b q => ?_, fun x a b q => (nx x a b q).elim⟩, fun x a b q => (nx x a b q).elim, fun j a b => by omega, fun x a b q => (nx x a b q).elim, by rw [hw]; decide⟩
  · rw [sm_one (i := work) _ w0 (by omega) (fun k a b ne => bP_neg (fun z => ne (nw k a (by omega) z))), bP_pos (by rw [hw]; decide)]
  · rw [show j = 0 by omega, h1, hw]
    exact ⟨⟨w0, w1⟩, by decide, rfl⟩
  · have e := nw w a b q
    rw [e, hw]
    exact ⟨⟨Int.le_refl _, (by decide : (0 : Int) < 1), h1⟩, .inl ⟨rfl, rfl⟩⟩
end BFS
/-! what one copy more means -/
def GO1 (I : Ins) (M : Mem) (work : Int) (M' : Mem) : Prop := FV I M' ∧ (∀ w, 0 ≤ w → w < iW I → TW I M' w = TW I M w + (if w = work then 1 else 0)) ∧ ∀ WR LR, CLO I M WR LR → ∀ x w, 0 ≤ x → x < iL I → 0 ≤ w → w < iW I → LR x ∨ WR w → M' 67 (6 * x + w) = M 67 (6 * x + w)
def GO0 (I : Ins) (M : Mem) (work : Int) (M' : Mem) : Prop := (∀ k, M' 67 k = M 67 k) ∧ (∀ k, M' 68 k = M 68 k) ∧ ∃ WR LR, WR work ∧ CLO I M WR LR
theorem FV.fr {I : Ins} {M M' : Mem} (h : FV I M) (e7 : ∀ k, M' 67 k = M 67 k) (e8 : ∀ k, M' 68 k = M 68 k) : FV I M' :=
  ⟨fun x w x0 x1 w0 w1 => by rw [e7]; exact h.1 x w x0 x1 w0 w1, fun x x0 x1 => by rw [e8, sm_congr (g := fun w => M 67 (6 * x + w)) _ (fun w _ _ => e7 _)]; exact h.2 x x0 x1⟩
theorem FV.ld {I : Ins} {M : Mem} (h : FV I M) (hI : IB I) {x : Int} (x0 : 0 ≤ x) (x1 : x < iL I) : 0 ≤ M 68 x ∧ M 68 x ≤ 100 := by
  have a := h.2 x x0 x1
  have b := hI.2.2.2.2 x x0 x1
  have c := sm_bd2 (f := fun w => M 67 (6 * x + w)) (q := 6) 3 hI.2.1.1 (fun w w0 w1 => by
    have y := h.1 x w x0 x1 w0 w1
    have z := hI.2.2.1 x w x0 x1 w0 w1
    omega) (by decide) hI.2.1.2
  omega
theorem CLF.fr {I : Ins} {M M' : Mem} {WR LR : Int → Prop} (h : CLF I M WR LR) (e7 : ∀ k, M' 67 k = M 67 k) : CLF I M' WR LR :=
  ⟨fun x w x0 x1 w0 w1 q => by rw [e7]; exact h.1 x w x0 x1 w0 w1 q, fun x x0 x1 q w w0 w1 z => by rw [e7] at z; exact h.2 x x0 x1 q w w0 w1 z⟩
theorem CLO.fr {I : Ins} {M M' : Mem} {WR LR : Int → Prop} (h : CLO I M WR LR) (e7 : ∀ k, M' 67 k = M 67 k) (e8 : ∀ k, M' 68 k = M 68 k) : CLO I M' WR LR :=
  ⟨h.1.fr e7, fun x x0 x1 q => by rw [e8]; exact h.2 x x0 x1 q⟩
theorem GO1.of {I : Ins} {M M1 M' : Mem} {l work : Int} (h : FV I M) (l0 : 0 ≤ l) (l1 : l < iL I) (hL : iL I ≤ 5) (e7 : ∀ k, M1 67 k = M 67 k) (hl : M 68 l < iM I l) (e8 : ∀ x, M' 68 x = if x = l then M 68 l + 1 else M 68 x) (hT : TVb I M1 l work 5 M') : GO1 I M work M' := by
  obtain ⟨v1, v2, v3, v5⟩ := hT
  refine ⟨⟨v1, fun x x0 x1 => ?_⟩, fun w w0 w1 => ?_, fun WR LR hc => ?_⟩
  · have z := v3 x x0 x1
    rw [if_neg (show ¬ x = 5 by omega), sm_congr (f := fun w => M1 67 (6 * x + w)) (g := fun w => M 67 (6 * x + w)) _ (fun w _ _ => e7 _)] at z
    have y := h.2 x x0 x1
    rw [e8]
    by_cases e : x = l
    · subst e
      rw [if_pos rfl] at z ⊢
      omega
    · rw [if_neg e] at z ⊢
      omega
  · rw [v2 w w0 w1]
    have : TW I M1 w = TW I M w := sm_congr _ (fun x _ _ => e7 _)
    rw [this]
    by_cases e : w = work
    · rw [if_pos ⟨rfl, e⟩, if_pos e]
    · rw [if_neg (fun z => e z.2), if_neg e]
  · have z := (v5 WR LR (hc.1.fr e7) (fun q => by have := hc.2 l l0 l1 q; omega)).1
    intro x w x0 x1 w0 w1 q
    rw [z x w x0 x1 w0 w1 q, e7]
/-! copy by copy, SIZE by SIZE -/
theorem GO1.clo {I : Ins} {M M' : Mem} {work : Int} (h : GO1 I M work M') (hV : FV I M) {WR LR : Int → Prop} (hc : CLO I M WR LR) : CLO I M' WR LR := by
  have z := h.2.2 WR LR hc
  refine ⟨⟨fun x w x0 x1 w0 w1 q => ?_, fun x x0 x1 q w w0 w1 y => ?_⟩, fun x x0 x1 q => ?_⟩
  · rw [z x w x0 x1 w0 w1 (.inr q)]; exact hc.1.1 x w x0 x1 w0 w1 q
  · rw [z x w x0 x1 w0 w1 (.inl q)] at y; exact hc.1.2 x x0 x1 q w w0 w1 y
  · rw [(h.1.2 x x0 x1).1, sm_congr (g := fun w => M 67 (6 * x + w)) _ (fun w w0 w1 => z x w x0 x1 w0 (by omega) (.inl q)), ← (hV.2 x x0 x1).1]
    exact hc.2 x x0 x1 q
def wb (I : Ins) (s u w : Int) : Prop := s < iZ I w ∨ (iZ I w = s ∧ w < u)
def LQb (I : Ins) (M : Mem) (s u : Int) : Prop := FV I M ∧ (∀ w, 0 ≤ w → w < iW I → TW I M w ≤ iS I w) ∧
  (∃ WR LR, CLO I M WR LR ∧ ∀ w, 0 ≤ w → w < iW I → wb I s u w → TW I M w = iS I w ∨ WR w) ∧ ∀ r, s < r → r ≤ 9 → sm (iW I).toNat (fun w => if r ≤ iZ I w then TW I M w else 0) = MC I r
def LQ (I : Ins) (M : Mem) (s u sp : Int) : Prop := LQb I M s u ∧ (∀ w, 0 ≤ w → w < iW I → ¬ wb I s u w → TW I M w = 0) ∧ sp = sm (iW I).toNat (fun w => iZ I w * TW I M w)
def LI (I : Ins) (M : Mem) (s u n sp : Int) : Prop := LQb I M s u ∧ (∀ w, 0 ≤ w → w < iW I → ¬ wb I s u w → w ≠ u → TW I M w = 0) ∧ TW I M u = n ∧ sp + n * s = sm (iW I).toNat (fun w => iZ I w * TW I M w)
section LSS
variable {I : Ins} {M M' : Mem} {s u sp n : Int}
theorem LQb.fr (h : LQb I M s u) (e7 : ∀ k, M' 67 k = M 67 k) (e8 : ∀ k, M' 68 k = M 68 k) : LQb I M' s u := by
  have eT : TW I M' = TW I M := funext fun w => sm_congr _ (fun x _ _ => e7 _)
  obtain ⟨a, b, ⟨WR, LR, c, d⟩, e⟩ := h
  refine ⟨a.fr e7 e8, ?_, ⟨WR, LR, c.fr e7 e8, ?_⟩, ?_⟩ <;> rw [eT] <;> assumption
theorem LQ.fr (h : LQ I M s u sp) (e7 : ∀ k, M' 67 k = M 67 k) (e8 : ∀ k, M' 68 k = M 68 k) : LQ I M' s u sp := by
  have eT : TW I M' = TW I M := funext fun w => sm_congr _ (fun x _ _ => e7 _)
  refine ⟨h.1.fr e7 e8, ?_, ?_⟩ <;> rw [eT]
  · exact h.2.1
  · exact h.2.2
theorem LI.fr (h : LI I M s u n sp) (e7 : ∀ k, M' 67 k = M 67 k) (e8 : ∀ k, M' 68 k = M 68 k) : LI I M' s u n sp := by
  have eT : TW I M' = TW I M := funext fun w => sm_congr _ (fun x _ _ => e7 _)
  refine ⟨h.1.fr e7 e8, ?_, ?_, ?_⟩ <;> rw [eT]
  · exact h.2.1
  · exact h.2.2.1
  · exact h.2.2.2
theorem LQ.in (h : LQ I M s u sp) (hz : iZ I u = s) (u0 : 0 ≤ u) (u1 : u < iW I) : LI I M s u 0 sp :=
  ⟨h.1, fun w a b c _ => h.2.1 w a b c, h.2.1 u u0 u1 (fun z => by unfold wb at z; omega), by rw [Int.zero_mul, Int.add_zero]; exact h.2.2⟩
theorem LQ.skip (h : LQ I M s u sp) (e : iZ I u ≠ s) : LQ I M s (u + 1) sp := by
  have q : ∀ w, wb I s (u + 1) w ↔ wb I s u w := fun w => by
    unfold wb
    constructor
    · rintro (z | z)
      · exact .inl z
      · by_cases y : w = u
        · rw [y] at z; exact absurd z.1 e
        · exact .inr ⟨z.1, by omega⟩
    · rintro (z | z)
      · exact .inl z
      · exact .inr ⟨z.1, by omega⟩
  obtain ⟨⟨a, b, ⟨WR, LR, c, d⟩, f⟩, g, i⟩ := h
  exact ⟨⟨a, b, ⟨WR, LR, c, fun w w0 w1 z => d w w0 w1 ((q w).mp z)⟩, f⟩, fun w w0 w1 z => g w w0 w1 (fun y => z ((q w).mpr y)), i⟩
theorem LI.more (hI : IB I) (h : LI I M s u n sp) (hz : iZ I u = s) (u0 : 0 ≤ u) (u1 : u < iW I) (hn : n < iS I u) (hG : GO1 I M u M') : LI I M' s u (n + 1) sp := by
  obtain ⟨⟨a, b, ⟨WR, LR, c, d⟩, f⟩, g, i, j⟩ := h
  have T := hG.2.1
  have To : ∀ w, 0 ≤ w → w < iW I → w ≠ u → TW I M' w = TW I M w := fun w w0 w1 ne => by rw [T w w0 w1, if_neg ne, Int.add_zero]
  have Tu : TW I M' u = n + 1 := by rw [T u u0 u1, if_pos rfl, i]
  have nb : ∀ w, wb I s u w → w ≠ u := fun w z e => by unfold wb at z; rw [e] at z; omega
  refine ⟨⟨hG.1, fun w w0 w1 => ?_, ⟨WR, LR, hG.clo a c, fun w w0 w1 z => ?_⟩, fun r r0 r1 => ?_⟩, fun w w0 w1 z ne => ?_, Tu, ?_⟩
  · by_cases e : w = u
    · rw [e, Tu]; omega
    · rw [To w w0 w1 e]; exact b w w0 w1
  · rw [To w w0 w1 (nb w z)]; exact d w w0 w1 z
  · rw [← f r r0 r1]
    refine sm_congr _ (fun w w0 w1 => ?_)
    by_cases e : w = u
    · rw [e, if_neg (by omega), if_neg (by omega)]
    · rw [To w w0 (by omega) e]
  · rw [To w w0 w1 ne]; exact g w w0 w1 z ne
  · rw [sm_chg (f := fun w => iZ I w * TW I M w) (a := u) (d := s) _ u0 (by omega) (fun k k0 k1 ne => by rw [To k k0 (by omega) ne]) (by rw [Tu, i, hz, Int.mul_add, Int.mul_one]), ← j, Int.add_mul, Int.one_mul]
    omega
theorem LI.full (h : LI I M s u n sp) (hz : iZ I u = s) (hn : ¬ n < iS I u) (u0 : 0 ≤ u) (u1 : u < iW I) : LQ I M s (u + 1) (sp + n * s) := by
  obtain ⟨⟨a, b, ⟨WR, LR, c, d⟩, f⟩, g, i, j⟩ := h
  refine ⟨⟨a, b, ⟨WR, LR, c, fun w w0 w1 z => ?_⟩, f⟩, fun w w0 w1 z => g w w0 w1 (fun y => z ?_) (fun e => z ?_), j⟩
  · by_cases e : w = u
    · left; rw [e]; have := b u u0 u1; omega
    · refine d w w0 w1 ?_
      unfold wb at z ⊢
      omega
  · unfold wb at y ⊢; omega
  · unfold wb; rw [e]; omega
theorem LI.fail (h : LI I M s u n sp) (hz : iZ I u = s) (u0 : 0 ≤ u) (u1 : u < iW I) (hG : GO0 I M u M') : LQ I M' s (u + 1) (sp + n * s) := by
  refine LQ.fr (M := M) ?_ hG.1 hG.2.1
  obtain ⟨WR2, LR2, hu, c2⟩ := hG.2.2
  obtain ⟨⟨a, b, ⟨WR, LR, c, d⟩, f⟩, g, i, j⟩ := h
  refine ⟨⟨a, b, ⟨fun w => WR w ∨ WR2 w, fun x => LR x ∨ LR2 x, ⟨⟨fun x w x0 x1 w0 w1 z => ?_, fun x x0 x1 z w w0 w1 y => ?_⟩, fun x x0 x1 z => ?_⟩, fun w w0 w1 z => ?_⟩, f⟩, fun w w0 w1 z => g w w0 w1 (fun y => z ?_) (fun e => z ?_), j⟩
  · rcases z with z | z
    · rcases c.1.1 x w x0 x1 w0 w1 z with y | y
      · exact .inl (.inl y)
      · exact .inr y
    · rcases c2.1.1 x w x0 x1 w0 w1 z with y | y
      · exact .inl (.inr y)
      · exact .inr y
  · rcases z with z | z
    · exact .inl (c.1.2 x x0 x1 z w w0 w1 y)
    · exact .inr (c2.1.2 x x0 x1 z w w0 w1 y)
  · rcases z with z | z
    · exact c.2 x x0 x1 z
    · exact c2.2 x x0 x1 z
  · by_cases e : w = u
    · right; right; rw [e]; exact hu
    · rcases d w w0 w1 (by unfold wb at z ⊢; omega) with y | y
      · exact .inl y
      · exact .inr (.inl y)
  · unfold wb at y ⊢; omega
  · unfold wb; rw [e]; omega
theorem LQ.next (hI : IB I) (h : LQ I M s (iW I) sp) : LQ I M (s - 1) 0 sp := by
  have q : ∀ w, 0 ≤ w → w < iW I → (wb I (s - 1) 0 w ↔ wb I s (iW I) w) := fun w w0 w1 => by unfold wb; omega
  have h0 := h
  obtain ⟨⟨a, b, ⟨WR, LR, c, d⟩, f⟩, g, i⟩ := h
  refine ⟨⟨a, b, ⟨WR, LR, c, fun w w0 w1 z => d w w0 w1 ((q w w0 w1).mp z)⟩, fun r r0 r1 => ?_⟩, fun w w0 w1 z => g w w0 w1 (fun y => z ((q w w0 w1).mpr y)), i⟩
  by_cases e : r = s
  · rw [e]
    exact flow_MC hI (F := fun x w => M 67 (6 * x + w)) a.1 (fun x x0 x1 => by have := a.2 x x0 x1; omega) b (fun w w0 w1 z => g w w0 w1 (fun y => by unfold wb at y; omega)) c.1.1
      (fun x x0 x1 z => ⟨(a.2 x x0 x1).1.symm.trans (c.2 x x0 x1 z), c.1.2 x x0 x1 z⟩) (fun w w0 w1 z => d w w0 w1 (by unfold wb; omega))
  · exact f r (by omega) r1
theorem LQ.end (hI : IB I) (h : LQ I M 0 0 sp) : sp = sumMC I := by
  rw [h.2.2]
  exact space_sum hI (fun s s0 s1 => h.1.2.2.2 s (by omega) s1)
theorem LQ.start (hI : IB I) (h7 : ∀ k, 0 ≤ k → k < 30 → M 67 k = 0) (h8 : ∀ k, 0 ≤ k → k < 5 → M 68 k = 0) : LQ I M 9 0 0 := by
  have hL := hI.1
  have hW := hI.2.1
  have T0 : ∀ w, 0 ≤ w → w < iW I → TW I M w = 0 := fun w w0 w1 => sm_zero _ (fun x x0 x1 => h7 _ (by omega) (by omega))
  refine ⟨⟨⟨fun x w x0 x1 w0 w1 => ?_, fun x x0 x1 => ?_⟩, fun w w0 w1 => ?_, ⟨fun _ => False, fun _ => False, ⟨⟨fun _ _ _ _ _ _ z => z.elim, fun _ _ _ z => z.elim⟩, fun _ _ _ z => z.elim⟩, fun w w0 w1 z => ?_⟩, fun r r0 r1 => by omega⟩, fun w w0 w1 _ => T0 w w0 w1, ?_⟩
  · rw [h7 _ (by omega) (by omega)]
    have := hI.2.2.1 x w x0 x1 w0 w1
    omega
  · rw [h8 x x0 (by omega), sm_zero _ (fun w w0 w1 => h7 _ (by omega) (by omega))]
    have := hI.2.2.2.2 x x0 x1
    omega
  · rw [T0 w w0 w1]; exact (hI.2.2.2.1 w w0 w1).1.1
  · have := (hI.2.2.2.1 w w0 w1).2
    unfold wb at z
    omega
  · exact (sm_zero _ (fun w w0 w1 => by rw [T0 w w0 (by omega), Int.mul_zero])).symm
end LSS
