/-! a copy more goes: the search, the way back -/
def FVF (I : Ins) (M : Mem) : Prop := ∀ x w, 0 ≤ x → x < iL I → 0 ≤ w → w < iW I → 0 ≤ M 67 (6 * x + w) ∧ M 67 (6 * x + w) ≤ iO I x w
def FV (I : Ins) (M : Mem) : Prop := FVF I M ∧ ∀ x, 0 ≤ x → x < iL I → M 68 x = sm (iW I).toNat (fun w => M 67 (6 * x + w)) ∧ M 68 x ≤ iM I x
def TW (I : Ins) (M : Mem) (w : Int) : Int := sm (iL I).toNat (fun x => M 67 (6 * x + w))
def CLF (I : Ins) (M : Mem) (WR LR : Int → Prop) : Prop := (∀ x w, 0 ≤ x → x < iL I → 0 ≤ w → w < iW I → WR w → LR x ∨ M 67 (6 * x + w) = iO I x w) ∧ ∀ x, 0 ≤ x → x < iL I → LR x → ∀ w, 0 ≤ w → w < iW I → 0 < M 67 (6 * x + w) → WR w
def CLO (I : Ins) (M : Mem) (WR LR : Int → Prop) : Prop := CLF I M WR LR ∧ ∀ x, 0 ≤ x → x < iL I → LR x → M 68 x = iM I x
def Bq (I : Ins) (M : Mem) (work many : Int) (pos : Int → Int) : Prop :=
  (1 ≤ many ∧ many = sm (iW I).toNat (fun w => bP (M 70 w ≠ -1))) ∧ (∀ j, 0 ≤ j → j < many → (0 ≤ M 71 j ∧ M 71 j < iW I) ∧ M 70 (M 71 j) ≠ -1 ∧ pos (M 71 j) = j) ∧
  (∀ w, 0 ≤ w → w < iW I → M 70 w ≠ -1 → (0 ≤ pos w ∧ pos w < many ∧ M 71 (pos w) = w) ∧ ((M 70 w = 5 ∧ w = work) ∨ ((0 ≤ M 70 w ∧ M 70 w < iL I) ∧ M 69 (M 70 w) ≠ -1 ∧ 0 < M 67 (6 * M 70 w + w) ∧ pos (M 69 (M 70 w)) < pos w))) ∧
  ∀ x, 0 ≤ x → x < iL I → M 69 x ≠ -1 → (0 ≤ M 69 x ∧ M 69 x < iW I) ∧ M 70 (M 69 x) ≠ -1 ∧ M 67 (6 * x + M 69 x) < iO I x (M 69 x)
def EBq (I : Ins) (M : Mem) (work many : Int) : Prop := ∃ pos, Bq I M work many pos
theorem sm_chg {f g : Int → Int} {a d : Int} (n : Nat) (a0 : 0 ≤ a) (a1 : a < n) (h : ∀ k : Int, 0 ≤ k → k < n → k ≠ a → g k = f k) (hd : g a = f a + d) : sm n g = sm n f + d := by
  have e : sm n g = sm n (fun k => f k + (g k - f k)) := sm_congr n (fun k _ _ => by omega)
  rw [e, sm_add, sm_one (f := fun k => g k - f k) (i := a) n a0 a1 (fun k k0 k1 k2 => by rw [h k k0 k1 k2]; omega)]
  omega
theorem EBq.m {I : Ins} (hI : IB I) {M : Mem} {work many : Int} (h : EBq I M work many) : 1 ≤ many ∧ many ≤ 6 := by
  obtain ⟨pos, h⟩ := h
  have := sm_b01 (fun w => M 70 w ≠ -1) hI.2.1.1 hI.2.1.2
  have := h.1
  omega
theorem EBq.fr {I : Ins} {M M' : Mem} {work many : Int} (h : EBq I M work many) (e : ∀ (a : Nat) j, a = 67 ∨ a = 69 ∨ a = 70 ∨ a = 71 → M' a j = M a j) : EBq I M' work many := by
  obtain ⟨pos, h1, h2, h3, h4⟩ := h
  have e7 := fun j => e 67 j (.inl rfl)
  have e9 := fun j => e 69 j (.inr (.inl rfl))
  have e0 := fun j => e 70 j (.inr (.inr (.inl rfl)))
  have e1 := fun j => e 71 j (.inr (.inr (.inr rfl)))
  refine ⟨pos, ?_, ?_, ?_, ?_⟩
  · rw [sm_congr (g := fun w => bP (M 70 w ≠ -1)) _ (fun w _ _ => by rw [e0])]; exact h1
  · intro j a b; rw [e1, e0]; exact h2 j a b
  · intro w a b c; rw [e0] at c ⊢; rw [e1, e9, e7]; exact h3 w a b c
  · intro x a b c; rw [e9] at c ⊢; rw [e0, e7]; exact h4 x a b c
/-- a library reached -/
theorem EBq.lib {I : Ins} {M : Mem} {work many k l : Int} (h : EBq I M work many) (l0 : 0 ≤ l) (l1 : l < iL I) (hl : M 69 l = -1) (k0 : 0 ≤ k) (k1 : k < many) (hf : M 67 (6 * l + M 71 k) < iO I l (M 71 k)) : EBq I (uM M 69 l (M 71 k)) work many := by
  obtain ⟨pos, h1, h2, h3, h4⟩ := h
  have n := fun (a : Nat) j (q : a ≠ 69) => (uM_h (M := M) (h := 69) (k := l) (x := M 71 k) (k' := j) q)
  refine ⟨pos, ?_, ?_, ?_, ?_⟩
  · rw [sm_congr (g := fun w => bP (M 70 w ≠ -1)) _ (fun w _ _ => by rw [n 70 w (by decide)])]; exact h1
  · intro j a b; rw [n 71 _ (by decide), n 70 _ (by decide)]; exact h2 j a b
  · intro w a b c
    rw [n 70 _ (by decide)] at c ⊢
    rw [n 71 _ (by decide), n 67 _ (by decide)]
    obtain ⟨z1, z2⟩ := h3 w a b c
    refine ⟨z1, z2.imp id (fun z => ?_)⟩
    have ne : M 70 w ≠ l := fun q => z.2.1 (by rw [q]; exact hl)
    rw [uM_k ne]
    exact z
  · intro x a b c
    by_cases e : x = l
    · subst e
      rw [uM_same]
      rw [n 70 _ (by decide), n 67 _ (by decide)]
      have z := h2 k k0 k1
      exact ⟨z.1, z.2.1, hf⟩
    · rw [uM_k e] at c ⊢
      rw [n 70 _ (by decide), n 67 _ (by decide)]
      exact h4 x a b c
/-- a work reached -/
theorem EBq.wk {I : Ins} {M : Mem} {work many l w : Int} (h : EBq I M work many) (l0 : 0 ≤ l) (l1 : l < iL I) (hl : M 69 l ≠ -1) (w0 : 0 ≤ w) (w1 : w < iW I) (hw : M 70 w = -1) (hf : 0 < M 67 (6 * l + w)) : EBq I (uM (uM M 70 w l) 71 many w) work (many + 1) := by
  obtain ⟨pos, h1, h2, h3, h4⟩ := h
  have n1 := fun j => (uM_h (M := uM M 70 w l) (h := 71) (h' := 70) (k := many) (x := w) (k' := j) (by decide))
  have n7 : ∀ j, uM (uM M 70 w l) 71 many w 67 j = M 67 j := fun j => (uM_h (by decide)).trans (uM_h (by decide))
  have n9 : ∀ j, uM (uM M 70 w l) 71 many w 69 j = M 69 j := fun j => (uM_h (by decide)).trans (uM_h (by decide))
  have a1 : ∀ j, j ≠ many → uM (uM M 70 w l) 71 many w 71 j = M 71 j := fun j q => (uM_k q).trans (uM_h (by decide))
  have a0 : ∀ j, j ≠ w → uM (uM M 70 w l) 71 many w 70 j = M 70 j := fun j q => (n1 j).trans (uM_k q)
  have aw : uM (uM M 70 w l) 71 many w 70 w = l := (n1 w).trans uM_same
  have vw : ∀ u, M 70 u ≠ -1 → u ≠ w := fun u q e => q (by rw [e]; exact hw)
  refine ⟨fun u => if u = w then many else pos u, ⟨by omega, ?_⟩, ?_, ?_, ?_⟩
  · rw [sm_chg (f := fun w => bP (M 70 w ≠ -1)) (a := w) (d := 1) _ w0 (by omega) (fun k k0 k1 k2 => by rw [a0 k k2]) (by
      rw [aw, hw, bP_pos (show l ≠ -1 by omega), bP_neg (fun z => z rfl)]; rfl)]
    have := h1.2
    omega
  · intro j j0 j1
    by_cases e : j = many
    · rw [e, uM_same, aw]
      exact ⟨⟨w0, w1⟩, by omega, if_pos rfl⟩
    · have z := h2 j j0 (by omega)
      have ne := vw _ z.2.1
      rw [a1 j e, a0 _ ne]
      exact ⟨z.1, z.2.1, (if_neg ne).trans z.2.2⟩
  · intro u u0 u1 hu
    by_cases e : u = w
    · subst e
      have z := h4 l l0 l1 hl
      have z3 := (h3 _ z.1.1 z.1.2 z.2.1).1
      have ne := vw _ z.2.1
      dsimp only
      rw [aw, if_pos rfl, n9, n7, if_neg ne]
      exact ⟨⟨by have := h1.1; omega, by omega, uM_same⟩, .inr ⟨⟨l0, l1⟩, hl, hf, z3.2.1⟩⟩
    · rw [a0 u e] at hu ⊢
      dsimp only
      rw [if_neg e, n9, n7]
      obtain ⟨z1, z2⟩ := h3 u u0 u1 hu
      rw [a1 _ (by omega)]
      refine ⟨⟨z1.1, by omega, z1.2.2⟩, z2.imp id (fun z => ?_)⟩
      have y := h4 _ z.1.1 z.1.2 z.2.1
      rw [if_neg (vw _ y.2.1)]
      exact z
  · intro x x0 x1 hx
    rw [n9] at hx ⊢
    have y := h4 x x0 x1 hx
    rw [n7, a0 _ (vw _ y.2.1)]
    exact y
/-! the way back -/
def TVb (I : Ins) (M : Mem) (l work y : Int) (M2 : Mem) : Prop := FVF I M2 ∧ (∀ w, 0 ≤ w → w < iW I → TW I M2 w = TW I M w + (if y = 5 ∧ w = work then 1 else 0)) ∧
  (∀ x, 0 ≤ x → x < iL I → sm (iW I).toNat (fun w => M2 67 (6 * x + w)) = sm (iW I).toNat (fun w => M 67 (6 * x + w)) + (if x = l then 1 else 0) - (if x = y then 1 else 0)) ∧
  ∀ WR LR, CLF I M WR LR → ¬ LR l → (∀ x w, 0 ≤ x → x < iL I → 0 ≤ w → w < iW I → LR x ∨ WR w → M2 67 (6 * x + w) = M 67 (6 * x + w)) ∧ (y ≠ 5 → ¬ LR y)
def TV (I : Ins) (M : Mem) (pos : Int → Int) (l work y : Int) (M2 : Mem) : Prop := TVb I M l work y M2 ∧
  (y ≠ 5 → (∀ x, 0 ≤ x → x < iL I → M 69 x ≠ -1 → pos (M 69 x) < pos (M 69 y) → ∀ w, 0 ≤ w → w < iW I → M2 67 (6 * x + w) = M 67 (6 * x + w)) ∧ ∀ w, 0 ≤ w → w < iW I → M2 67 (6 * y + w) ≤ M 67 (6 * y + w))
theorem TV.rf {I : Ins} {M : Mem} {pos : Int → Int} {l work : Int} (h : FVF I M) (l0 : 0 ≤ l) (l1 : l < 5) : TV I M pos l work l M :=
  ⟨⟨h, fun w _ _ => by rw [if_neg (by omega)]; omega, fun x _ _ => by split <;> omega, fun WR LR _ q => ⟨fun _ _ _ _ _ _ _ => rfl, fun _ => q⟩⟩, fun _ => ⟨fun _ _ _ _ _ _ _ _ => rfl, fun _ _ _ => Int.le_refl _⟩⟩
section TVS
variable {I : Ins} {M M2 : Mem} {pos : Int → Int} {l work many y p q v : Int}
theorem TV.step1 (hI : IB I) (hB : Bq I M work many pos) (h : TV I M pos l work y M2) (y0 : 0 ≤ y) (y1 : y < iL I) (hy : M 69 y ≠ -1) (hp : p = M 69 y) (hq : M 70 p = 5) (hv : v = M2 67 (6 * y + p) + 1) : TV I M pos l work 5 (uM M2 67 (6 * y + p) v) := by
  obtain ⟨⟨v1, v2, v3, v5⟩, v4⟩ := h
  have hL := hI.1
  have hW := hI.2.1
  have b4 := hB.2.2.2 y y0 y1 hy
  rw [← hp] at b4
  have b3 := (hB.2.2.1 p b4.1.1 b4.1.2 b4.2.1).2
  have hpw : p = work := by
    rcases b3 with z | z
    · exact z.2
    · omega
  have v4 := v4 (by omega)
  have hle := v4.2 p b4.1.1 b4.1.2
  have o : ∀ x w, 0 ≤ w → w < iW I → ¬ (x = y ∧ w = p) → uM M2 67 (6 * y + p) v 67 (6 * x + w) = M2 67 (6 * x + w) := fun x w w0 w1 ne => uM_k (by omega)
  refine ⟨⟨fun x w x0 x1 w0 w1 => ?_, fun w w0 w1 => ?_, fun x x0 x1 => ?_, fun WR LR hc hl => ⟨fun x w x0 x1 w0 w1 hr => ?_, fun z => absurd rfl z⟩⟩, fun z => absurd rfl z⟩
  · by_cases e : x = y ∧ w = p
    · rw [e.1, e.2, uM_same]
      have := v1 y p y0 y1 b4.1.1 b4.1.2
      omega
    · rw [o x w w0 w1 e]; exact v1 x w x0 x1 w0 w1
  · have z := v2 w w0 w1
    rw [if_neg (by omega)] at z
    by_cases e : w = p
    · subst e
      rw [if_pos ⟨rfl, hpw⟩]
      have : TW I (uM M2 67 (6 * y + w) v) w = TW I M2 w + 1 := sm_chg _ y0 (by omega) (fun k k0 k1 k2 => uM_k (by omega)) (uM_same.trans hv)
      omega
    · rw [if_neg (by omega)]
      have : TW I (uM M2 67 (6 * y + p) v) w = TW I M2 w := sm_congr _ (fun k _ _ => o k w w0 w1 (by omega))
      omega
  · have z := v3 x x0 x1
    rw [if_neg (show ¬ x = 5 by omega)]
    by_cases e : x = y
    · subst e
      rw [if_pos rfl] at z
      have : sm (iW I).toNat (fun w => uM M2 67 (6 * x + p) v 67 (6 * x + w)) = sm (iW I).toNat (fun w => M2 67 (6 * x + w)) + 1 := sm_chg _ b4.1.1 (by omega) (fun k k0 k1 k2 => uM_k (by omega)) (uM_same.trans hv)
      omega
    · rw [if_neg e] at z
      have : sm (iW I).toNat (fun w => uM M2 67 (6 * y + p) v 67 (6 * x + w)) = sm (iW I).toNat (fun w => M2 67 (6 * x + w)) := sm_congr _ (fun k k0 k1 => o x k k0 (by omega) (fun z => e z.1))
      omega
  · have v5 := v5 WR LR hc hl
    have ny := v5.2 (by omega)
    have nw : ¬ WR p := fun z => by
      rcases hc.1 y p y0 y1 b4.1.1 b4.1.2 z with r | r
      · exact ny r
      · omega
    rw [o x w w0 w1 (fun z => by
      rcases hr with r | r
      · exact ny (z.1 ▸ r)
      · exact nw (z.2 ▸ r))]
    exact v5.1 x w x0 x1 w0 w1 hr
theorem TV.step2 {u : Int} (hI : IB I) (hB : Bq I M work many pos) (h : TV I M pos l work y M2) (y0 : 0 ≤ y) (y1 : y < iL I) (hy : M 69 y ≠ -1) (hp : p = M 69 y) (hq : M 70 p = q) (hq5 : q ≠ 5) (hv : v = M2 67 (6 * y + p) + 1) (hu : u = M2 67 (6 * q + p) - 1) :
    ((0 ≤ q ∧ q < iL I) ∧ M 69 q ≠ -1 ∧ q ≠ y ∧ pos (M 69 q) < pos (M 69 y)) ∧ TV I M pos l work q (uM (uM M2 67 (6 * y + p) v) 67 (6 * q + p) u) := by
  obtain ⟨⟨v1, v2, v3, v5⟩, v4⟩ := h
  have hL := hI.1
  have hW := hI.2.1
  have b4 := hB.2.2.2 y y0 y1 hy
  rw [← hp] at b4
  have b3 := (hB.2.2.1 p b4.1.1 b4.1.2 b4.2.1).2
  have b3 := b3.resolve_left (fun z => hq5 (by omega))
  rw [hq] at b3
  have hne : q ≠ y := fun e => by
    have := b3.2.2.2
    rw [e, ← hp] at this
    omega
  have hpq : pos (M 69 q) < pos (M 69 y) := by rw [← hp]; exact b3.2.2.2
  have v4 := v4 (by omega)
  have hle := v4.2 p b4.1.1 b4.1.2
  have hqp := v4.1 q b3.1.1 b3.1.2 b3.2.1 hpq p b4.1.1 b4.1.2
  have o : ∀ x w, 0 ≤ w → w < iW I → ¬ (x = y ∧ w = p) → ¬ (x = q ∧ w = p) → uM (uM M2 67 (6 * y + p) v) 67 (6 * q + p) u 67 (6 * x + w) = M2 67 (6 * x + w) := fun x w w0 w1 n1 n2 => (uM_k (by omega)).trans (uM_k (by omega))
  have oy : uM (uM M2 67 (6 * y + p) v) 67 (6 * q + p) u 67 (6 * y + p) = v := (uM_k (by omega)).trans uM_same
  have oq : uM (uM M2 67 (6 * y + p) v) 67 (6 * q + p) u 67 (6 * q + p) = u := uM_same
  refine ⟨⟨b3.1, b3.2.1, hne, hpq⟩, ⟨fun x w x0 x1 w0 w1 => ?_, fun w w0 w1 => ?_, fun x x0 x1 => ?_, fun WR LR hc hl => ?_⟩, fun _ => ⟨fun x x0 x1 hx hlt w w0 w1 => ?_, fun w w0 w1 => ?_⟩⟩
  · by_cases e : x = y ∧ w = p
    · rw [e.1, e.2, oy]
      have := v1 y p y0 y1 b4.1.1 b4.1.2
      omega
    by_cases e2 : x = q ∧ w = p
    · rw [e2.1, e2.2, oq]
      have := v1 q p b3.1.1 b3.1.2 b4.1.1 b4.1.2
      omega
    rw [o x w w0 w1 e e2]; exact v1 x w x0 x1 w0 w1
  · have z := v2 w w0 w1
    rw [if_neg (by omega)] at z
    rw [if_neg (by omega)]
    by_cases e : w = p
    · subst e
      have e1 : TW I (uM M2 67 (6 * y + w) v) w = TW I M2 w + 1 := sm_chg _ y0 (by omega) (fun k k0 k1 k2 => uM_k (by omega)) (uM_same.trans hv)
      have e2 : TW I (uM (uM M2 67 (6 * y + w) v) 67 (6 * q + w) u) w = TW I (uM M2 67 (6 * y + w) v) w + (-1) := sm_chg _ b3.1.1 (by omega) (fun k k0 k1 k2 => uM_k (by omega)) (uM_same.trans (by rw [uM_k (show (6 * q + w) ≠ 6 * y + w by omega)]; omega))
      omega
    · have : TW I (uM (uM M2 67 (6 * y + p) v) 67 (6 * q + p) u) w = TW I M2 w := sm_congr _ (fun k _ _ => o k w w0 w1 (by omega) (by omega))
      omega
  · have z := v3 x x0 x1
    by_cases e : x = y
    · subst e
      rw [if_pos rfl] at z
      rw [if_neg (Ne.symm hne)]
      have : sm (iW I).toNat (fun w => uM (uM M2 67 (6 * x + p) v) 67 (6 * q + p) u 67 (6 * x + w)) = sm (iW I).toNat (fun w => M2 67 (6 * x + w)) + 1 := sm_chg _ b4.1.1 (by omega) (fun k k0 k1 k2 => (uM_k (by omega)).trans (uM_k (by omega))) (oy.trans hv)
      omega
    rw [if_neg e] at z
    by_cases e2 : x = q
    · rw [if_pos e2]
      have : sm (iW I).toNat (fun w => uM (uM M2 67 (6 * y + p) v) 67 (6 * q + p) u 67 (6 * x + w)) = sm (iW I).toNat (fun w => M2 67 (6 * x + w)) + (-1) := sm_chg _ b4.1.1 (by omega) (fun k k0 k1 k2 => (uM_k (by omega)).trans (uM_k (by omega))) (by rw [e2]; exact oq.trans (by omega))
      omega
    · rw [if_neg e2]
      have : sm (iW I).toNat (fun w => uM (uM M2 67 (6 * y + p) v) 67 (6 * q + p) u 67 (6 * x + w)) = sm (iW I).toNat (fun w => M2 67 (6 * x + w)) := sm_congr _ (fun k k0 k1 => o x k k0 (by omega) (fun z => e z.1) (fun z => e2 z.1))
      omega
  · have v5 := v5 WR LR hc hl
    have ny := v5.2 (by omega)
    have nw : ¬ WR p := fun z => by
      rcases hc.1 y p y0 y1 b4.1.1 b4.1.2 z with r | r
      · exact ny r
      · omega
    have nq : ¬ LR q := fun z => nw (hc.2 q b3.1.1 b3.1.2 z p b4.1.1 b4.1.2 b3.2.2.1)
    refine ⟨fun x w x0 x1 w0 w1 hr => ?_, fun _ => nq⟩
    rw [o x w w0 w1 (fun z => by
      rcases hr with r | r
      · exact ny (z.1 ▸ r)
      · exact nw (z.2 ▸ r)) (fun z => by
      rcases hr with r | r
      · exact nq (z.1 ▸ r)
      · exact nw (z.2 ▸ r))]
    exact v5.1 x w x0 x1 w0 w1 hr
  · have n1 : x ≠ y := fun e => by rw [e] at hlt; omega
    have n2 : x ≠ q := fun e => by rw [e] at hlt; omega
    rw [o x w w0 w1 (fun z => n1 z.1) (fun z => n2 z.1)]
    exact v4.1 x x0 x1 hx (by omega) w w0 w1
  · by_cases e : w = p
    · rw [e, oq]; omega
    · rw [o q w w0 w1 (fun z => e z.2) (fun z => e z.2)]
      exact Int.le_of_eq (v4.1 q b3.1.1 b3.1.2 b3.2.1 hpq w w0 w1)
end TVS
/-! the search -/
def c1P (I : Ins) (M : Mem) (j n : Int) : Prop := ∀ x, 0 ≤ x → x < n → M 69 x ≠ -1 ∨ M 67 (6 * x + M 71 j) = iO I x (M 71 j)
def c2P (I : Ins) (M : Mem) (x n : Int) : Prop := ∀ w, 0 ≤ w → w < n → M 70 w ≠ -1 ∨ M 67 (6 * x + w) = 0
def satP (I : Ins) (M : Mem) : Prop := ∀ x, 0 ≤ x → x < iL I → M 69 x ≠ -1 → M 68 x = iM I x
def BI (I : Ins) (M : Mem) (work many k : Int) : Prop := EBq I M work many ∧ satP I M ∧ (∀ j, 0 ≤ j → j < k → c1P I M j (iL I)) ∧ (∀ x, 0 ≤ x → x < iL I → M 69 x ≠ -1 → c2P I M x (iW I)) ∧ M 70 work ≠ -1
def BL (I : Ins) (M : Mem) (work many k l : Int) : Prop := BI I M work many k ∧ c1P I M k l ∧ k < many
def BW (I : Ins) (M : Mem) (work many k l w : Int) : Prop := EBq I M work many ∧ satP I M ∧ (∀ j, 0 ≤ j → j < k → c1P I M j (iL I)) ∧ (∀ x, 0 ≤ x → x < iL I → x ≠ l → M 69 x ≠ -1 → c2P I M x (iW I)) ∧ M 70 work ≠ -1 ∧ c1P I M k l ∧ k < many ∧ M 69 l ≠ -1 ∧ c2P I M l w
section BFS
variable {I : Ins} {M : Mem} {work many k l w : Int}
theorem BI.enter (h : BI I M work many k) (k1 : k < many) : BL I M work many k 0 := ⟨h, fun x a b => by omega, k1⟩
theorem BL.skip (h : BL I M work many k l) (e : M 69 l ≠ -1 ∨ M 67 (6 * l + M 71 k) = iO I l (M 71 k)) : BL I M work many k (l + 1) :=
  ⟨h.1, fun x a b => by
    by_cases q : x = l
    · rw [q]; exact e
    · exact h.2.1 x a (by omega), h.2.2⟩
theorem BL.done (h : BL I M work many k (iL I)) : BI I M work many (k + 1) :=
  ⟨h.1.1, h.1.2.1, fun j a b => by
    by_cases q : j = k
    · rw [q]; exact h.2.1
    · exact h.1.2.2.1 j a (by omega), h.1.2.2.2.1, h.1.2.2.2.2⟩
theorem BL.x (h : BL I M work many k l) (k0 : 0 ≤ k) : 0 ≤ M 71 k ∧ M 71 k < iW I := by
  obtain ⟨pos, hb⟩ := h.1.1
  exact (hb.2.1 k k0 h.2.2).1
theorem BL.lib (h : BL I M work many k l) (l0 : 0 ≤ l) (l1 : l < iL I) (k0 : 0 ≤ k) (hl : M 69 l = -1) (hf : M 67 (6 * l + M 71 k) < iO I l (M 71 k)) (hs : M 68 l = iM I l) : BW I (uM M 69 l (M 71 k)) work many k l 0 := by
  have hx := h.x k0
  have n := fun (a : Nat) j (q : a ≠ 69) => (uM_h (M := M) (h := 69) (k := l) (x := M 71 k) (k' := j) q)
  have g : ∀ x, M 69 x ≠ -1 → uM M 69 l (M 71 k) 69 x ≠ -1 := fun x q => by
    by_cases e : x = l
    · rw [e, uM_same]; omega
    · rw [uM_k e]; exact q
  refine ⟨h.1.1.lib l0 l1 hl k0 h.2.2 hf, fun x x0 x1 hx => ?_, fun j a b x x0 x1 => ?_, fun x x0 x1 ne hx w w0 w1 => ?_, ?_, fun x x0 x1 => ?_, h.2.2, ?_, fun w a b => by omega⟩
  · rw [n 68 _ (by decide)]
    by_cases e : x = l
    · rw [e]; exact hs
    · rw [uM_k e] at hx; exact h.1.2.1 x x0 x1 hx
  · rw [n 67 _ (by decide), n 71 _ (by decide)]
    exact (h.1.2.2.1 j a b x x0 x1).imp (g x) id
  · rw [uM_k ne] at hx
    rw [n 70 _ (by decide), n 67 _ (by decide)]
    exact h.1.2.2.2.1 x x0 x1 hx w w0 w1
  · rw [n 70 _ (by decide)]; exact h.1.2.2.2.2
  · rw [n 67 _ (by decide), n 71 _ (by decide)]
    exact (h.2.1 x x0 x1).imp (g x) id
  · rw [uM_same]; omega
theorem BW.skip (h : BW I M work many k l w) (e : M 70 w ≠ -1 ∨ M 67 (6 * l + w) = 0) : BW I M work many k l (w + 1) := by
  obtain ⟨a, b, c, d, e1, f, g, i, j⟩ := h
  refine ⟨a, b, c, d, e1, f, g, i, fun u u0 u1 => ?_⟩
  by_cases q : u = w
  · rw [q]; exact e
  · exact j u u0 (by omega)
theorem BW.add (h : BW I M work many k l w) (k0 : 0 ≤ k) (l0 : 0 ≤ l) (l1 : l < iL I) (w0 : 0 ≤ w) (w1 : w < iW I) (hw : M 70 w = -1) (hf : 0 < M 67 (6 * l + w)) : BW I (uM (uM M 70 w l) 71 many w) work (many + 1) k l (w + 1) := by
  obtain ⟨a, b, c, d, e1, f, g, i, j⟩ := h
  have n7 : ∀ j, uM (uM M 70 w l) 71 many w 67 j = M 67 j := fun j => (uM_h (by decide)).trans (uM_h (by decide))
  have n8 : ∀ j, uM (uM M 70 w l) 71 many w 68 j = M 68 j := fun j => (uM_h (by decide)).trans (uM_h (by decide))
  have n9 : ∀ j, uM (uM M 70 w l) 71 many w 69 j = M 69 j := fun j => (uM_h (by decide)).trans (uM_h (by decide))
  have a1 : ∀ j, j ≠ many → uM (uM M 70 w l) 71 many w 71 j = M 71 j := fun j q => (uM_k q).trans (uM_h (by decide))
  have a0 : ∀ j, M 70 j ≠ -1 → uM (uM M 70 w l) 71 many w 70 j ≠ -1 := fun j q => by
    rw [uM_h (by decide)]
    by_cases e : j = w
    · rw [e, uM_same]; omega
    · rw [uM_k e]; exact q
  have aw : uM (uM M 70 w l) 71 many w 70 w = l := (uM_h (by decide)).trans uM_same
  refine ⟨a.wk l0 l1 i w0 w1 hw hf, fun x x0 x1 hx => ?_, fun j' p q x x0 x1 => ?_, fun x x0 x1 ne hx u u0 u1 => ?_, a0 _ e1, fun x x0 x1 => ?_, by omega, ?_, fun u u0 u1 => ?_⟩
  · rw [n9] at hx; rw [n8]; exact b x x0 x1 hx
  · rw [n9, n7, a1 j' (by omega)]; exact c j' p q x x0 x1
  · rw [n9] at hx
    rw [n7]
    exact (d x x0 x1 ne hx u u0 u1).imp (a0 u) id
  · rw [n9, n7, a1 k (by omega)]; exact f x x0 x1
  · rw [n9]; exact i
  · rw [n7]
    by_cases q : u = w
    · left; rw [q, aw]; omega
    · exact (j u u0 (by omega)).imp (a0 u) id
theorem BW.done (h : BW I M work many k l (iW I)) : BL I M work many k (l + 1) := by
  obtain ⟨a, b, c, d, e1, f, g, i, j⟩ := h
  refine ⟨⟨a, b, c, fun x x0 x1 hx => ?_, e1⟩, fun x x0 x1 => ?_, g⟩
  · by_cases q : x = l
    · rw [q]; exact j
    · exact d x x0 x1 q hx
  · by_cases q : x = l
    · rw [q]; exact .inl i
    · exact f x x0 (by omega)
theorem BI.clo (h : BI I M work many many) : ∃ WR LR, WR work ∧ CLO I M WR LR := by
  obtain ⟨a, b, c, d, e1⟩ := h
  refine ⟨fun w => M 70 w ≠ -1, fun x => M 69 x ≠ -1, e1, ⟨fun x w x0 x1 w0 w1 hw => ?_, fun x x0 x1 hx w w0 w1 hf => ?_⟩, b⟩
  · obtain ⟨pos, hb⟩ := a
    have z := (hb.2.2.1 w w0 w1 hw).1
    have := c (pos w) z.1 z.2.1 x x0 x1
    rw [z.2.2] at this
    exact this
  · rcases d x x0 x1 hx w w0 w1 with r | r
    · exact r
    · omega
theorem BI.start (hI : IB I) (w0 : 0 ≤ work) (w1 : work < iW I) (h9 : ∀ x, 0 ≤ x → x < 5 → M 69 x = -1) (h0 : ∀ w, 0 ≤ w → w < 6 → M 70 w = if w = work then 5 else -1) (h1 : M 71 0 = work) : BI I M work 1 0 := by
  have hL := hI.1
  have hW := hI.2.1
  have hw : M 70 work = 5 := (h0 work w0 (by omega)).trans (if_pos rfl)
  have nx : ∀ x, 0 ≤ x → x < iL I → M 69 x ≠ -1 → False := fun x a b q => q (h9 x a (by omega))
  have nw : ∀ w, 0 ≤ w → w < iW I → M 70 w ≠ -1 → w = work := fun w a b q => Classical.byContradiction (fun e => q ((h0 w a (by omega)).trans (if_neg e)))
  refine ⟨⟨fun _ => 0, ⟨Int.le_refl _, ?_⟩, fun j a b => ?_, fun w a b q => ?_, fun x a b q => (nx x a b q).elim⟩, fun x a b q => (nx x a b q).elim, fun j a b => by omega, fun x a b q => (nx x a b q).elim, by rw [hw]; decide⟩
  · rw [sm_one (i := work) _ w0 (by omega) (fun k a b ne => bP_neg (fun z => ne (nw k a (by omega) z))), bP_pos (by rw [hw]; decide)]
  · rw [show j = 0 by omega, h1, hw]
    exact ⟨⟨w0, w1⟩, by decide, rfl⟩
  · have e := nw w a b q
    rw [e, hw]
    exact ⟨⟨Int.le_refl _, (by decide : (0 : Int) < 1), h1⟩, .inl ⟨rfl, rfl⟩⟩
end BFS
/-! what one copy more means -/
def GO1 (I : Ins) (M : Mem) (work : Int) (M' : Mem) : Prop := FV I M' ∧ (∀ w, 0 ≤ w → w < iW I → TW I M' w = TW I M w + (if w = work then 1 else 0)) ∧ ∀ WR LR, CLO I M WR LR → ∀ x w, 0 ≤ x → x < iL I → 0 ≤ w → w < iW I → LR x ∨ WR w → M' 67 (6 * x + w) = M 67 (6 * x + w)
def GO0 (I : Ins) (M : Mem) (work : Int) (M' : Mem) : Prop := (∀ k, M' 67 k = M 67 k) ∧ (∀ k, M' 68 k = M 68 k) ∧ ∃ WR LR, WR work ∧ CLO I M WR LR
theorem FV.fr {I : Ins} {M M' : Mem} (h : FV I M) (e7 : ∀ k, M' 67 k = M 67 k) (e8 : ∀ k, M' 68 k = M 68 k) : FV I M' :=
  ⟨fun x w x0 x1 w0 w1 => by rw [e7]; exact h.1 x w x0 x1 w0 w1, fun x x0 x1 => by rw [e8, sm_congr (g := fun w => M 67 (6 * x + w)) _ (fun w _ _ => e7 _)]; exact h.2 x x0 x1⟩
theorem FV.ld {I : Ins} {M : Mem} (h : FV I M) (hI : IB I) {x : Int} (x0 : 0 ≤ x) (x1 : x < iL I) : 0 ≤ M 68 x ∧ M 68 x ≤ 100 := by
  have a := h.2 x x0 x1
  have b := hI.2.2.2.2 x x0 x1
  have c := sm_bd2 (f := fun w => M 67 (6 * x + w)) (q := 6) 3 hI.2.1.1 (fun w w0 w1 => by
    have y := h.1 x w x0 x1 w0 w1
    have z := hI.2.2.1 x w x0 x1 w0 w1
    omega) (by decide) hI.2.1.2
  omega
theorem CLF.fr {I : Ins} {M M' : Mem} {WR LR : Int → Prop} (h : CLF I M WR LR) (e7 : ∀ k, M' 67 k = M 67 k) : CLF I M' WR LR :=
  ⟨fun x w x0 x1 w0 w1 q => by rw [e7]; exact h.1 x w x0 x1 w0 w1 q, fun x x0 x1 q w w0 w1 z => by rw [e7] at z; exact h.2 x x0 x1 q w w0 w1 z⟩
theorem CLO.fr {I : Ins} {M M' : Mem} {WR LR : Int → Prop} (h : CLO I M WR LR) (e7 : ∀ k, M' 67 k = M 67 k) (e8 : ∀ k, M' 68 k = M 68 k) : CLO I M' WR LR :=
  ⟨h.1.fr e7, fun x x0 x1 q => by rw [e8]; exact h.2 x x0 x1 q⟩
theorem GO1.of {I : Ins} {M M1 M' : Mem} {l work : Int} (h : FV I M) (l0 : 0 ≤ l) (l1 : l < iL I) (hL : iL I ≤ 5) (e7 : ∀ k, M1 67 k = M 67 k) (hl : M 68 l < iM I l) (e8 : ∀ x, M' 68 x = if x = l then M 68 l + 1 else M 68 x) (hT : TVb I M1 l work 5 M') : GO1 I M work M' := by
  obtain ⟨v1, v2, v3, v5⟩ := hT
  refine ⟨⟨v1, fun x x0 x1 => ?_⟩, fun w w0 w1 => ?_, fun WR LR hc => ?_⟩
  · have z := v3 x x0 x1
    rw [if_neg (show ¬ x = 5 by omega), sm_congr (f := fun w => M1 67 (6 * x + w)) (g := fun w => M 67 (6 * x + w)) _ (fun w _ _ => e7 _)] at z
    have y := h.2 x x0 x1
    rw [e8]
    by_cases e : x = l
    · subst e
      rw [if_pos rfl] at z ⊢
      omega
    · rw [if_neg e] at z ⊢
      omega
  · rw [v2 w w0 w1]
    have : TW I M1 w = TW I M w := sm_congr _ (fun x _ _ => e7 _)
    rw [this]
    by_cases e : w = work
    · rw [if_pos ⟨rfl, e⟩, if_pos e]
    · rw [if_neg (fun z => e z.2), if_neg e]
  · have z := (v5 WR LR (hc.1.fr e7) (fun q => by have := hc.2 l l0 l1 q; omega)).1
    intro x w x0 x1 w0 w1 q
    rw [z x w x0 x1 w0 w1 q, e7]
/-! copy by copy, SIZE by SIZE -/
theorem GO1.clo {I : Ins} {M M' : Mem} {work : Int} (h : GO1 I M work M') (hV : FV I M) {WR LR : Int → Prop} (hc : CLO I M WR LR) : CLO I M' WR LR := by
  have z := h.2.2 WR LR hc
  refine ⟨⟨fun x w x0 x1 w0 w1 q => ?_, fun x x0 x1 q w w0 w1 y => ?_⟩, fun x x0 x1 q => ?_⟩
  · rw [z x w x0 x1 w0 w1 (.inr q)]; exact hc.1.1 x w x0 x1 w0 w1 q
  · rw [z x w x0 x1 w0 w1 (.inl q)] at y; exact hc.1.2 x x0 x1 q w w0 w1 y
  · rw [(h.1.2 x x0 x1).1, sm_congr (g := fun w => M 67 (6 * x + w)) _ (fun w w0 w1 => z x w x0 x1 w0 (by omega) (.inl q)), ← (hV.2 x x0 x1).1]
    exact hc.2 x x0 x1 q
def wb (I : Ins) (s u w : Int) : Prop := s < iZ I w ∨ (iZ I w = s ∧ w < u)
def LQb (I : Ins) (M : Mem) (s u : Int) : Prop := FV I M ∧ (∀ w, 0 ≤ w → w < iW I → TW I M w ≤ iS I w) ∧
  (∃ WR LR, CLO I M WR LR ∧ ∀ w, 0 ≤ w → w < iW I → wb I s u w → TW I M w = iS I w ∨ WR w) ∧ ∀ r, s < r → r ≤ 9 → sm (iW I).toNat (fun w => if r ≤ iZ I w then TW I M w else 0) = MC I r
def LQ (I : Ins) (M : Mem) (s u sp : Int) : Prop := LQb I M s u ∧ (∀ w, 0 ≤ w → w < iW I → ¬ wb I s u w → TW I M w = 0) ∧ sp = sm (iW I).toNat (fun w => iZ I w * TW I M w)
def LI (I : Ins) (M : Mem) (s u n sp : Int) : Prop := LQb I M s u ∧ (∀ w, 0 ≤ w → w < iW I → ¬ wb I s u w → w ≠ u → TW I M w = 0) ∧ TW I M u = n ∧ sp + n * s = sm (iW I).toNat (fun w => iZ I w * TW I M w)
section LSS
variable {I : Ins} {M M' : Mem} {s u sp n : Int}
theorem LQb.fr (h : LQb I M s u) (e7 : ∀ k, M' 67 k = M 67 k) (e8 : ∀ k, M' 68 k = M 68 k) : LQb I M' s u := by
  have eT : TW I M' = TW I M := funext fun w => sm_congr _ (fun x _ _ => e7 _)
  obtain ⟨a, b, ⟨WR, LR, c, d⟩, e⟩ := h
  refine ⟨a.fr e7 e8, ?_, ⟨WR, LR, c.fr e7 e8, ?_⟩, ?_⟩ <;> rw [eT] <;> assumption
theorem LQ.fr (h : LQ I M s u sp) (e7 : ∀ k, M' 67 k = M 67 k) (e8 : ∀ k, M' 68 k = M 68 k) : LQ I M' s u sp := by
  have eT : TW I M' = TW I M := funext fun w => sm_congr _ (fun x _ _ => e7 _)
  refine ⟨h.1.fr e7 e8, ?_, ?_⟩ <;> rw [eT]
  · exact h.2.1
  · exact h.2.2
theorem LI.fr (h : LI I M s u n sp) (e7 : ∀ k, M' 67 k = M 67 k) (e8 : ∀ k, M' 68 k = M 68 k) : LI I M' s u n sp := by
  have eT : TW I M' = TW I M := funext fun w => sm_congr _ (fun x _ _ => e7 _)
  refine ⟨h.1.fr e7 e8, ?_, ?_, ?_⟩ <;> rw [eT]
  · exact h.2.1
  · exact h.2.2.1
  · exact h.2.2.2
theorem LQ.in (h : LQ I M s u sp) (hz : iZ I u = s) (u0 : 0 ≤ u) (u1 : u < iW I) : LI I M s u 0 sp :=
  ⟨h.1, fun w a b c _ => h.2.1 w a b c, h.2.1 u u0 u1 (fun z => by unfold wb at z; omega), by rw [Int.zero_mul, Int.add_zero]; exact h.2.2⟩
theorem LQ.skip (h : LQ I M s u sp) (e : iZ I u ≠ s) : LQ I M s (u + 1) sp := by
  have q : ∀ w, wb I s (u + 1) w ↔ wb I s u w := fun w => by
    unfold wb
    constructor
    · rintro (z | z)
      · exact .inl z
      · by_cases y : w = u
        · rw [y] at z; exact absurd z.1 e
        · exact .inr ⟨z.1, by omega⟩
    · rintro (z | z)
      · exact .inl z
      · exact .inr ⟨z.1, by omega⟩
  obtain ⟨⟨a, b, ⟨WR, LR, c, d⟩, f⟩, g, i⟩ := h
  exact ⟨⟨a, b, ⟨WR, LR, c, fun w w0 w1 z => d w w0 w1 ((q w).mp z)⟩, f⟩, fun w w0 w1 z => g w w0 w1 (fun y => z ((q w).mpr y)), i⟩
theorem LI.more (hI : IB I) (h : LI I M s u n sp) (hz : iZ I u = s) (u0 : 0 ≤ u) (u1 : u < iW I) (hn : n < iS I u) (hG : GO1 I M u M') : LI I M' s u (n + 1) sp := by
  obtain ⟨⟨a, b, ⟨WR, LR, c, d⟩, f⟩, g, i, j⟩ := h
  have T := hG.2.1
  have To : ∀ w, 0 ≤ w → w < iW I → w ≠ u → TW I M' w = TW I M w := fun w w0 w1 ne => by rw [T w w0 w1, if_neg ne, Int.add_zero]
  have Tu : TW I M' u = n + 1 := by rw [T u u0 u1, if_pos rfl, i]
  have nb : ∀ w, wb I s u w → w ≠ u := fun w z e => by unfold wb at z; rw [e] at z; omega
  refine ⟨⟨hG.1, fun w w0 w1 => ?_, ⟨WR, LR, hG.clo a c, fun w w0 w1 z => ?_⟩, fun r r0 r1 => ?_⟩, fun w w0 w1 z ne => ?_, Tu, ?_⟩
  · by_cases e : w = u
    · rw [e, Tu]; omega
    · rw [To w w0 w1 e]; exact b w w0 w1
  · rw [To w w0 w1 (nb w z)]; exact d w w0 w1 z
  · rw [← f r r0 r1]
    refine sm_congr _ (fun w w0 w1 => ?_)
    by_cases e : w = u
    · rw [e, if_neg (by omega), if_neg (by omega)]
    · rw [To w w0 (by omega) e]
  · rw [To w w0 w1 ne]; exact g w w0 w1 z ne
  · rw [sm_chg (f := fun w => iZ I w * TW I M w) (a := u) (d := s) _ u0 (by omega) (fun k k0 k1 ne => by rw [To k k0 (by omega) ne]) (by rw [Tu, i, hz, Int.mul_add, Int.mul_one]), ← j, Int.add_mul, Int.one_mul]
    omega
theorem LI.full (h : LI I M s u n sp) (hz : iZ I u = s) (hn : ¬ n < iS I u) (u0 : 0 ≤ u) (u1 : u < iW I) : LQ I M s (u + 1) (sp + n * s) := by
  obtain ⟨⟨a, b, ⟨WR, LR, c, d⟩, f⟩, g, i, j⟩ := h
  refine ⟨⟨a, b, ⟨WR, LR, c, fun w w0 w1 z => ?_⟩, f⟩, fun w w0 w1 z => g w w0 w1 (fun y => z ?_) (fun e => z ?_), j⟩
  · by_cases e : w = u
    · left; rw [e]; have := b u u0 u1; omega
    · refine d w w0 w1 ?_
      unfold wb at z ⊢
      omega
  · unfold wb at y ⊢; omega
  · unfold wb; rw [e]; omega
theorem LI.fail (h : LI I M s u n sp) (hz : iZ I u = s) (u0 : 0 ≤ u) (u1 : u < iW I) (hG : GO0 I M u M') : LQ I M' s (u + 1) (sp + n * s) := by
  refine LQ.fr (M := M) ?_ hG.1 hG.2.1
  obtain ⟨WR2, LR2, hu, c2⟩ := hG.2.2
  obtain ⟨⟨a, b, ⟨WR, LR, c, d⟩, f⟩, g, i, j⟩ := h
  refine ⟨⟨a, b, ⟨fun w => WR w ∨ WR2 w, fun x => LR x ∨ LR2 x, ⟨⟨fun x w x0 x1 w0 w1 z => ?_, fun x x0 x1 z w w0 w1 y => ?_⟩, fun x x0 x1 z => ?_⟩, fun w w0 w1 z => ?_⟩, f⟩, fun w w0 w1 z => g w w0 w1 (fun y => z ?_) (fun e => z ?_), j⟩
  · rcases z with z | z
    · rcases c.1.1 x w x0 x1 w0 w1 z with y | y
      · exact .inl (.inl y)
      · exact .inr y
    · rcases c2.1.1 x w x0 x1 w0 w1 z with y | y
      · exact .inl (.inr y)
      · exact .inr y
  · rcases z with z | z
    · exact .inl (c.1.2 x x0 x1 z w w0 w1 y)
    · exact .inr (c2.1.2 x x0 x1 z w w0 w1 y)
  · rcases z with z | z
    · exact c.2 x x0 x1 z
    · exact c2.2 x x0 x1 z
  · by_cases e : w = u
    · right; right; rw [e]; exact hu
    · rcases d w w0 w1 (by unfold wb at z ⊢; omega) with y | y
      · exact .inl y
      · exact .inr (.inl y)
  · unfold wb at y ⊢; omega
  · unfold wb; rw [e]; omega
theorem LQ.next (hI : IB I) (h : LQ I M s (iW I) sp) : LQ I M (s - 1) 0 sp := by
  have q : ∀ w, 0 ≤ w → w < iW I → (wb I (s - 1) 0 w ↔ wb I s (iW I) w) := fun w w0 w1 => by unfold wb; omega
  have h0 := h
  obtain ⟨⟨a, b, ⟨WR, LR, c, d⟩, f⟩, g, i⟩ := h
  refine ⟨⟨a, b, ⟨WR, LR, c, fun w w0 w1 z => d w w0 w1 ((q w w0 w1).mp z)⟩, fun r r0 r1 => ?_⟩, fun w w0 w1 z => g w w0 w1 (fun y => z ((q w w0 w1).mpr y)), i⟩
  by_cases e : r = s
  · rw [e]
    exact flow_MC hI (F := fun x w => M 67 (6 * x + w)) a.1 (fun x x0 x1 => by have := a.2 x x0 x1; omega) b (fun w w0 w1 z => g w w0 w1 (fun y => by unfold wb at y; omega)) c.1.1
      (fun x x0 x1 z => ⟨(a.2 x x0 x1).1.symm.trans (c.2 x x0 x1 z), c.1.2 x x0 x1 z⟩) (fun w w0 w1 z => d w w0 w1 (by unfold wb; omega))
  · exact f r (by omega) r1
theorem LQ.end (hI : IB I) (h : LQ I M 0 0 sp) : sp = sumMC I := by
  rw [h.2.2]
  exact space_sum hI (fun s s0 s1 => h.1.2.2.2 s (by omega) s1)
theorem LQ.start (hI : IB I) (h7 : ∀ k, 0 ≤ k → k < 30 → M 67 k = 0) (h8 : ∀ k, 0 ≤ k → k < 5 → M 68 k = 0) : LQ I M 9 0 0 := by
  have hL := hI.1
  have hW := hI.2.1
  have T0 : ∀ w, 0 ≤ w → w < iW I → TW I M w = 0 := fun w w0 w1 => sm_zero _ (fun x x0 x1 => h7 _ (by omega) (by omega))
  refine ⟨⟨⟨fun x w x0 x1 w0 w1 => ?_, fun x x0 x1 => ?_⟩, fun w w0 w1 => ?_, ⟨fun _ => False, fun _ => False, ⟨⟨fun _ _ _ _ _ _ z => z.elim, fun _ _ _ z => z.elim⟩, fun _ _ _ z => z.elim⟩, fun w w0 w1 z => ?_⟩, fun r r0 r1 => by omega⟩, fun w w0 w1 _ => T0 w w0 w1, ?_⟩
  · rw [h7 _ (by omega) (by omega)]
    have := hI.2.2.1 x w x0 x1 w0 w1
    omega
  · rw [h8 x x0 (by omega), sm_zero _ (fun w w0 w1 => h7 _ (by omega) (by omega))]
    have := hI.2.2.2.2 x x0 x1
    omega
  · rw [T0 w w0 w1]; exact (hI.2.2.2.1 w w0 w1).1.1
  · have := (hI.2.2.2.1 w w0 w1).2
    unfold wb at z
    omega
  · exact (sm_zero _ (fun w w0 w1 => by rw [T0 w w0 (by omega), Int.mul_zero])).symm
end LSS

theorem dX12_turns_0 : decode cX12_turns 0 = .ok (.iload_n 1, 1) := by decide +kernel
theorem dX12_turns_1 : decode cX12_turns 1 = .ok (.istore_n 2, 1) := by decide +kernel
theorem dX12_turns_2 : decode cX12_turns 2 = .ok (.iload_n 2, 1) := by decide +kernel
theorem dX12_turns_3 : decode cX12_turns 3 = .ok (.iconst 5, 1) := by decide +kernel
theorem dX12_turns_4 : decode cX12_turns 4 = .ok (.if_icmp .eq 53, 3) := by decide +kernel
theorem dX12_turns_7 : decode cX12_turns 7 = .ok (.aload_n 0, 1) := by decide +kernel
theorem dX12_turns_8 : decode cX12_turns 8 = .ok (.getfield 47, 3) := by decide +kernel
theorem dX12_turns_11 : decode cX12_turns 11 = .ok (.iload_n 2, 1) := by decide +kernel
theorem dX12_turns_12 : decode cX12_turns 12 = .ok (.iaload, 1) := by decide +kernel
theorem dX12_turns_13 : decode cX12_turns 13 = .ok (.istore_n 3, 1) := by decide +kernel
theorem dX12_turns_14 : decode cX12_turns 14 = .ok (.aload_n 0, 1) := by decide +kernel
theorem dX12_turns_15 : decode cX12_turns 15 = .ok (.getfield 41, 3) := by decide +kernel
theorem dX12_turns_18 : decode cX12_turns 18 = .ok (.iload_n 2, 1) := by decide +kernel
theorem dX12_turns_19 : decode cX12_turns 19 = .ok (.iload_n 3, 1) := by decide +kernel
theorem dX12_turns_20 : decode cX12_turns 20 = .ok (.invokestatic 87, 3) := by decide +kernel
theorem dX12_turns_23 : decode cX12_turns 23 = .ok (.dup2, 1) := by decide +kernel
theorem dX12_turns_24 : decode cX12_turns 24 = .ok (.iaload, 1) := by decide +kernel
theorem dX12_turns_25 : decode cX12_turns 25 = .ok (.iconst 1, 1) := by decide +kernel
theorem dX12_turns_26 : decode cX12_turns 26 = .ok (.iadd, 1) := by decide +kernel
theorem dX12_turns_27 : decode cX12_turns 27 = .ok (.iastore, 1) := by decide +kernel
theorem dX12_turns_28 : decode cX12_turns 28 = .ok (.aload_n 0, 1) := by decide +kernel
theorem dX12_turns_29 : decode cX12_turns 29 = .ok (.getfield 50, 3) := by decide +kernel
theorem dX12_turns_32 : decode cX12_turns 32 = .ok (.iload_n 3, 1) := by decide +kernel
theorem dX12_turns_33 : decode cX12_turns 33 = .ok (.iaload, 1) := by decide +kernel
theorem dX12_turns_34 : decode cX12_turns 34 = .ok (.istore_n 2, 1) := by decide +kernel
theorem dX12_turns_35 : decode cX12_turns 35 = .ok (.iload_n 2, 1) := by decide +kernel
theorem dX12_turns_36 : decode cX12_turns 36 = .ok (.iconst 5, 1) := by decide +kernel
theorem dX12_turns_37 : decode cX12_turns 37 = .ok (.if_icmp .eq 17, 3) := by decide +kernel
theorem dX12_turns_40 : decode cX12_turns 40 = .ok (.aload_n 0, 1) := by decide +kernel
theorem dX12_turns_41 : decode cX12_turns 41 = .ok (.getfield 41, 3) := by decide +kernel
theorem dX12_turns_44 : decode cX12_turns 44 = .ok (.iload_n 2, 1) := by decide +kernel
theorem dX12_turns_45 : decode cX12_turns 45 = .ok (.iload_n 3, 1) := by decide +kernel
theorem dX12_turns_46 : decode cX12_turns 46 = .ok (.invokestatic 87, 3) := by decide +kernel
theorem dX12_turns_49 : decode cX12_turns 49 = .ok (.dup2, 1) := by decide +kernel
theorem dX12_turns_50 : decode cX12_turns 50 = .ok (.iaload, 1) := by decide +kernel
theorem dX12_turns_51 : decode cX12_turns 51 = .ok (.iconst 1, 1) := by decide +kernel
theorem dX12_turns_52 : decode cX12_turns 52 = .ok (.isub, 1) := by decide +kernel
theorem dX12_turns_53 : decode cX12_turns 53 = .ok (.iastore, 1) := by decide +kernel
theorem dX12_turns_54 : decode cX12_turns 54 = .ok (.goto (-52), 3) := by decide +kernel
theorem dX12_turns_57 : decode cX12_turns 57 = .ok (.return_, 1) := by decide +kernel
set_option maxHeartbeats 1000000 in
theorem c12_turns {G : Gl} {l : Launch}  {M : Mem} {I : Ins} {f work many : Int} (hG : GR M) (hIb : IB I) (hE : EBq I M work many) (hFV : FVF I M) (hl0 : 0 ≤ f) (hl1 : f < iL I) (h9 : M 69 f ≠ -1) : Ct G LY 82 l 1 m12_turns [vR 57, vI f] M (RV (fun M' => Fr [67] [] M M' ∧ TVb I M f work 5 M')) := by
  refine R_start (by decide +kernel) (Nat.le_of_ble_eq_true rfl) (fun C hC hRm hlau => ?_)
  show RZ G LY C (Zn G LY 82 C (RV (fun M' => Fr [67] [] M M' ∧ TVb I M f work 5 M'))) 0 0 82 0 [some (vR 57), some (vI f), none, none] [] M
  have hL := hIb.1
  have hW := hIb.2.1
  obtain ⟨pos, hB⟩ := hE
  refine R_iload_1 hC dX12_turns_0 ?_
  refine R_istore_2 hC dX12_turns_1 rfl ?_
  have L2 : ∀ (mq : Nat) (y : Int) (M2 : Mem), (GR M2) → (Fr [67] [] M M2) → (y = 5 ∨ ((0 ≤ y ∧ y < iL I) ∧ M 69 y ≠ -1)) → (TV I M pos f work y M2) → (if y = 5 then 0 else pos (M 69 y) + 1).toNat < mq → RZ G LY C (Zn G LY 82 C (RV (fun M' => Fr [67] [] M M' ∧ TVb I M f work 5 M'))) 0 0 82 2 [some (vR 57), some (vI f), some (vI y), none] [] M2 := by
    intro mq
    induction mq with
    | zero =>
      intro y M2 hg hF hy hT hm
      exact absurd hm (Nat.not_lt_zero _)
    | succ mq ih2 =>
      intro y M2 hg hF hy hT hm2
      refine R_iload_2 hC dX12_turns_2 ?_
      refine R_iconst hC dX12_turns_3 ⟨by decide, by decide⟩ ?_
      refine R_icmp_eq hC dX12_turns_4 (tgt := 57) (by decide) (fun hb4 => ?_) (fun hb4 => ?_)
      · skip
        exact R_return hC dX12_turns_57 rfl (ret_V ⟨hF, by (have hT5 := hT.1; rw [show y = 5 from hb4] at hT5; exact hT5)⟩)
      · skip
        have hy1 := hy.resolve_left hb4
        have b4 := hB.2.2.2 y hy1.1.1 hy1.1.2 hy1.2
        have b3 := hB.2.2.1 (M 69 y) b4.1.1 b4.1.2 b4.2.1
        have bp := hT.1.1 y (M 69 y) hy1.1.1 hy1.1.2 b4.1.1 b4.1.2
        have bi := hIb.2.2.1 y (M 69 y) hy1.1.1 hy1.1.2 b4.1.1 b4.1.2
        have b30 := b3.1.1
        rw [if_neg hb4] at hm2
        refine R_aload_0 hC dX12_turns_7 ?_
        refine R_getR hC dX12_turns_8 fl_12_47 (by decide) rfl (by decide) (by decide) (fi := 26) rfl (r := 69) (gr_57_26 hg) ?_
        refine R_iload_2 hC dX12_turns_11 ?_
        refine R_ialoadE hC dX12_turns_12 (by decide) rfl (by omega) (by omega) (hF.at (by decide)) ?_
        refine R_istore_3 hC dX12_turns_13 rfl ?_
        refine R_aload_0 hC dX12_turns_14 ?_
        refine R_getR hC dX12_turns_15 fl_12_41 (by decide) rfl (by decide) (by decide) (fi := 24) rfl (r := 67) (gr_57_24 hg) ?_
        refine R_iload_2 hC dX12_turns_18 ?_
        refine R_iload_3 hC dX12_turns_19 ?_
        refine R_callSq (as := [vI _, vI _]) hC dX12_turns_20 mo_12_cell ml_12_87 (c12_cell  (by omega) (by omega) (by omega) (by omega)) rfl rfl hRm (by decide) (by decide) (Nat.le_of_ble_eq_true rfl) ?_
        refine R_dup2 hC dX12_turns_23 rfl rfl ?_
        refine R_iaload hC dX12_turns_24 (by decide) rfl (by omega) (by omega) ?_
        refine R_iconst hC dX12_turns_25 ⟨by decide, by decide⟩ ?_
        refine R_iadd hC dX12_turns_26 ⟨by omega, by omega⟩ ?_
        refine R_iastore hC dX12_turns_27 (by decide) rfl (by omega) (by omega) ?_
        refine R_aload_0 hC dX12_turns_28 ?_
        have hG1 : GR (uM M2 67 (6 * y + (M 69 y)) ((M2 67 (6 * y + (M 69 y))) + 1)) := (GR.uA hg (by decide +kernel) (.inl (by decide)))
        refine R_getR hC dX12_turns_29 fl_12_50 (by decide) rfl (by decide) (by decide) (fi := 27) rfl (r := 70) (gr_57_27 hG1) ?_
        refine R_iload_3 hC dX12_turns_32 ?_
        refine R_ialoadE hC dX12_turns_33 (by decide) rfl (by omega) (by omega) ((uM_h (by decide)).trans (hF.at (by decide))) ?_
        refine R_istore_2 hC dX12_turns_34 rfl ?_
        refine R_iload_2 hC dX12_turns_35 ?_
        refine R_iconst hC dX12_turns_36 ⟨by decide, by decide⟩ ?_
        refine R_icmp_eq hC dX12_turns_37 (tgt := 54) (by decide) (fun hb37 => ?_) (fun hb37 => ?_)
        · skip
          have hq5 : M 70 (M 69 y) = 5 := hb37
          have hyN : M 70 (M 69 y) = 5 ∨ ((0 ≤ M 70 (M 69 y) ∧ M 70 (M 69 y) < iL I) ∧ M 69 (M 70 (M 69 y)) ≠ -1) := .inl hq5
          have hTN : TV I M pos f work (M 70 (M 69 y)) (uM M2 67 (6 * y + (M 69 y)) ((M2 67 (6 * y + (M 69 y))) + 1)) := by
            rw [hq5]
            exact TV.step1 hIb hB hT hy1.1.1 hy1.1.2 hy1.2 rfl hq5 rfl
          have hdN : (if M 70 (M 69 y) = 5 then 0 else pos (M 69 (M 70 (M 69 y))) + 1).toNat < mq := by
            rw [if_pos hq5]
            omega
          refine R_goto hC dX12_turns_54 (tgt := 2) (by decide) ?_
          refine R_weak (subL_c (subL_c (subL_c (subL_d subL_n)))) ?_
          exact ih2 _ _ hG1 (by first | exact Fr.uA (Fr.uA hF (by decide)) (by decide) | exact Fr.uA hF (by decide)) hyN hTN hdN
        · skip
          have b3r := b3.2.resolve_left (fun z => hb37 z.1)
          have b3r1 := b3r.1.1
          have b3r2 := b3r.1.2
          have hs2 := TV.step2 hIb hB hT hy1.1.1 hy1.1.2 hy1.2 rfl rfl hb37 rfl rfl
          have bq := hT.1.1 (M 70 (M 69 y)) (M 69 y) b3r1 b3r2 b4.1.1 b4.1.2
          have bi2 := hIb.2.2.1 (M 70 (M 69 y)) (M 69 y) b3r1 b3r2 b4.1.1 b4.1.2
          have hyN : M 70 (M 69 y) = 5 ∨ ((0 ≤ M 70 (M 69 y) ∧ M 70 (M 69 y) < iL I) ∧ M 69 (M 70 (M 69 y)) ≠ -1) := .inr ⟨hs2.1.1, hs2.1.2.1⟩
          have hdN : (if M 70 (M 69 y) = 5 then 0 else pos (M 69 (M 70 (M 69 y))) + 1).toNat < mq := by
            rw [if_neg hb37]
            have z := hs2.1.2.2.2
            omega
          refine R_aload_0 hC dX12_turns_40 ?_
          refine R_getR hC dX12_turns_41 fl_12_41 (by decide) rfl (by decide) (by decide) (fi := 24) rfl (r := 67) (gr_57_24 hG1) ?_
          refine R_iload_2 hC dX12_turns_44 ?_
          refine R_iload_3 hC dX12_turns_45 ?_
          refine R_callSq (as := [vI _, vI _]) hC dX12_turns_46 mo_12_cell ml_12_87 (c12_cell  (by omega) (by omega) (by omega) (by omega)) rfl rfl hRm (by decide) (by decide) (Nat.le_of_ble_eq_true rfl) ?_
          refine R_dup2 hC dX12_turns_49 rfl rfl ?_
          refine R_iaload hC dX12_turns_50 (by decide) rfl (by omega) (by omega) ?_
          refine R_iconst hC dX12_turns_51 ⟨by decide, by decide⟩ ?_
          have bqe : ((uM M2 67 (6 * y + (M 69 y)) ((M2 67 (6 * y + (M 69 y))) + 1)) 67 (6 * (M 70 (M 69 y)) + (M 69 y))) = M2 67 (6 * M 70 (M 69 y) + M 69 y) := uM_k (by (have z := hs2.1.2.2.1; omega))
          refine R_isub hC dX12_turns_52 ⟨by omega, by omega⟩ ?_
          refine R_iastore hC dX12_turns_53 (by decide) rfl (by omega) (by omega) ?_
          have hTN : TV I M pos f work (M 70 (M 69 y)) (uM (uM M2 67 (6 * y + (M 69 y)) ((M2 67 (6 * y + (M 69 y))) + 1)) 67 (6 * (M 70 (M 69 y)) + (M 69 y)) (((uM M2 67 (6 * y + (M 69 y)) ((M2 67 (6 * y + (M 69 y))) + 1)) 67 (6 * (M 70 (M 69 y)) + (M 69 y))) - 1)) := by
            rw [bqe]
            exact hs2.2
          refine R_goto hC dX12_turns_54 (tgt := 2) (by decide) ?_
          refine R_weak (subL_c (subL_c (subL_c (subL_d subL_n)))) ?_
          have hG2 : GR (uM (uM M2 67 (6 * y + (M 69 y)) ((M2 67 (6 * y + (M 69 y))) + 1)) 67 (6 * (M 70 (M 69 y)) + (M 69 y)) (((uM M2 67 (6 * y + (M 69 y)) ((M2 67 (6 * y + (M 69 y))) + 1)) 67 (6 * (M 70 (M 69 y)) + (M 69 y))) - 1)) := (GR.uA hG1 (by decide +kernel) (.inl (by decide)))
          exact ih2 _ _ hG2 (by first | exact Fr.uA (Fr.uA hF (by decide)) (by decide) | exact Fr.uA hF (by decide)) hyN hTN hdN
  exact L2 _ _ _ hG Fr.rf (.inr ⟨⟨hl0, hl1⟩, h9⟩) (TV.rf hFV hl0 (by omega)) (Nat.lt_succ_self _)
theorem dX12_goesOne_0 : decode cX12_goesOne 0 = .ok (.iconst 0, 1) := by decide +kernel
theorem dX12_goesOne_1 : decode cX12_goesOne 1 = .ok (.istore_n 2, 1) := by decide +kernel
theorem dX12_goesOne_2 : decode cX12_goesOne 2 = .ok (.iload_n 2, 1) := by decide +kernel
theorem dX12_goesOne_3 : decode cX12_goesOne 3 = .ok (.iconst 5, 1) := by decide +kernel
theorem dX12_goesOne_4 : decode cX12_goesOne 4 = .ok (.if_icmp .ge 16, 3) := by decide +kernel
theorem dX12_goesOne_7 : decode cX12_goesOne 7 = .ok (.aload_n 0, 1) := by decide +kernel
theorem dX12_goesOne_8 : decode cX12_goesOne 8 = .ok (.getfield 47, 3) := by decide +kernel
theorem dX12_goesOne_11 : decode cX12_goesOne 11 = .ok (.iload_n 2, 1) := by decide +kernel
theorem dX12_goesOne_12 : decode cX12_goesOne 12 = .ok (.iconst (-1), 1) := by decide +kernel
theorem dX12_goesOne_13 : decode cX12_goesOne 13 = .ok (.iastore, 1) := by decide +kernel
theorem dX12_goesOne_14 : decode cX12_goesOne 14 = .ok (.iinc 2 1, 3) := by decide +kernel
theorem dX12_goesOne_17 : decode cX12_goesOne 17 = .ok (.goto (-15), 3) := by decide +kernel
theorem dX12_goesOne_20 : decode cX12_goesOne 20 = .ok (.iconst 0, 1) := by decide +kernel
theorem dX12_goesOne_21 : decode cX12_goesOne 21 = .ok (.istore_n 2, 1) := by decide +kernel
theorem dX12_goesOne_22 : decode cX12_goesOne 22 = .ok (.iload_n 2, 1) := by decide +kernel
theorem dX12_goesOne_23 : decode cX12_goesOne 23 = .ok (.bipush 6, 2) := by decide +kernel
theorem dX12_goesOne_25 : decode cX12_goesOne 25 = .ok (.if_icmp .ge 16, 3) := by decide +kernel
theorem dX12_goesOne_28 : decode cX12_goesOne 28 = .ok (.aload_n 0, 1) := by decide +kernel
theorem dX12_goesOne_29 : decode cX12_goesOne 29 = .ok (.getfield 50, 3) := by decide +kernel
theorem dX12_goesOne_32 : decode cX12_goesOne 32 = .ok (.iload_n 2, 1) := by decide +kernel
theorem dX12_goesOne_33 : decode cX12_goesOne 33 = .ok (.iconst (-1), 1) := by decide +kernel
theorem dX12_goesOne_34 : decode cX12_goesOne 34 = .ok (.iastore, 1) := by decide +kernel
theorem dX12_goesOne_35 : decode cX12_goesOne 35 = .ok (.iinc 2 1, 3) := by decide +kernel
theorem dX12_goesOne_38 : decode cX12_goesOne 38 = .ok (.goto (-16), 3) := by decide +kernel
theorem dX12_goesOne_41 : decode cX12_goesOne 41 = .ok (.aload_n 0, 1) := by decide +kernel
theorem dX12_goesOne_42 : decode cX12_goesOne 42 = .ok (.getfield 50, 3) := by decide +kernel
theorem dX12_goesOne_45 : decode cX12_goesOne 45 = .ok (.iload_n 1, 1) := by decide +kernel
theorem dX12_goesOne_46 : decode cX12_goesOne 46 = .ok (.iconst 5, 1) := by decide +kernel
theorem dX12_goesOne_47 : decode cX12_goesOne 47 = .ok (.iastore, 1) := by decide +kernel
theorem dX12_goesOne_48 : decode cX12_goesOne 48 = .ok (.aload_n 0, 1) := by decide +kernel
theorem dX12_goesOne_49 : decode cX12_goesOne 49 = .ok (.getfield 53, 3) := by decide +kernel
theorem dX12_goesOne_52 : decode cX12_goesOne 52 = .ok (.iconst 0, 1) := by decide +kernel
theorem dX12_goesOne_53 : decode cX12_goesOne 53 = .ok (.iload_n 1, 1) := by decide +kernel
theorem dX12_goesOne_54 : decode cX12_goesOne 54 = .ok (.iastore, 1) := by decide +kernel
theorem dX12_goesOne_55 : decode cX12_goesOne 55 = .ok (.iconst 1, 1) := by decide +kernel
theorem dX12_goesOne_56 : decode cX12_goesOne 56 = .ok (.istore_n 2, 1) := by decide +kernel
theorem dX12_goesOne_57 : decode cX12_goesOne 57 = .ok (.iconst 0, 1) := by decide +kernel
theorem dX12_goesOne_58 : decode cX12_goesOne 58 = .ok (.istore_n 3, 1) := by decide +kernel
theorem dX12_goesOne_59 : decode cX12_goesOne 59 = .ok (.iload_n 3, 1) := by decide +kernel
theorem dX12_goesOne_60 : decode cX12_goesOne 60 = .ok (.iload_n 2, 1) := by decide +kernel
theorem dX12_goesOne_61 : decode cX12_goesOne 61 = .ok (.if_icmp .ge 188, 3) := by decide +kernel
theorem dX12_goesOne_64 : decode cX12_goesOne 64 = .ok (.iconst 0, 1) := by decide +kernel
theorem dX12_goesOne_65 : decode cX12_goesOne 65 = .ok (.istore 4, 2) := by decide +kernel
theorem dX12_goesOne_67 : decode cX12_goesOne 67 = .ok (.iload 4, 2) := by decide +kernel
theorem dX12_goesOne_69 : decode cX12_goesOne 69 = .ok (.aload_n 0, 1) := by decide +kernel
theorem dX12_goesOne_70 : decode cX12_goesOne 70 = .ok (.getfield 105, 3) := by decide +kernel
theorem dX12_goesOne_73 : decode cX12_goesOne 73 = .ok (.if_icmp .ge 170, 3) := by decide +kernel
theorem dX12_goesOne_76 : decode cX12_goesOne 76 = .ok (.aload_n 0, 1) := by decide +kernel
theorem dX12_goesOne_77 : decode cX12_goesOne 77 = .ok (.getfield 53, 3) := by decide +kernel
theorem dX12_goesOne_80 : decode cX12_goesOne 80 = .ok (.iload_n 3, 1) := by decide +kernel
theorem dX12_goesOne_81 : decode cX12_goesOne 81 = .ok (.iaload, 1) := by decide +kernel
theorem dX12_goesOne_82 : decode cX12_goesOne 82 = .ok (.istore 5, 2) := by decide +kernel
theorem dX12_goesOne_84 : decode cX12_goesOne 84 = .ok (.aload_n 0, 1) := by decide +kernel
theorem dX12_goesOne_85 : decode cX12_goesOne 85 = .ok (.getfield 47, 3) := by decide +kernel
theorem dX12_goesOne_88 : decode cX12_goesOne 88 = .ok (.iload 4, 2) := by decide +kernel
theorem dX12_goesOne_90 : decode cX12_goesOne 90 = .ok (.iaload, 1) := by decide +kernel
theorem dX12_goesOne_91 : decode cX12_goesOne 91 = .ok (.iconst (-1), 1) := by decide +kernel
theorem dX12_goesOne_92 : decode cX12_goesOne 92 = .ok (.if_icmp .ne 145, 3) := by decide +kernel
theorem dX12_goesOne_95 : decode cX12_goesOne 95 = .ok (.aload_n 0, 1) := by decide +kernel
theorem dX12_goesOne_96 : decode cX12_goesOne 96 = .ok (.getfield 41, 3) := by decide +kernel
theorem dX12_goesOne_99 : decode cX12_goesOne 99 = .ok (.iload 4, 2) := by decide +kernel
theorem dX12_goesOne_101 : decode cX12_goesOne 101 = .ok (.iload 5, 2) := by decide +kernel
theorem dX12_goesOne_103 : decode cX12_goesOne 103 = .ok (.invokestatic 87, 3) := by decide +kernel
theorem dX12_goesOne_106 : decode cX12_goesOne 106 = .ok (.iaload, 1) := by decide +kernel
theorem dX12_goesOne_107 : decode cX12_goesOne 107 = .ok (.aload_n 0, 1) := by decide +kernel
theorem dX12_goesOne_108 : decode cX12_goesOne 108 = .ok (.getfield 38, 3) := by decide +kernel
theorem dX12_goesOne_111 : decode cX12_goesOne 111 = .ok (.iload 4, 2) := by decide +kernel
theorem dX12_goesOne_113 : decode cX12_goesOne 113 = .ok (.iload 5, 2) := by decide +kernel
theorem dX12_goesOne_115 : decode cX12_goesOne 115 = .ok (.invokestatic 87, 3) := by decide +kernel
theorem dX12_goesOne_118 : decode cX12_goesOne 118 = .ok (.iaload, 1) := by decide +kernel
theorem dX12_goesOne_119 : decode cX12_goesOne 119 = .ok (.if_icmp .ne 6, 3) := by decide +kernel
theorem dX12_goesOne_122 : decode cX12_goesOne 122 = .ok (.goto 115, 3) := by decide +kernel
theorem dX12_goesOne_125 : decode cX12_goesOne 125 = .ok (.aload_n 0, 1) := by decide +kernel
theorem dX12_goesOne_126 : decode cX12_goesOne 126 = .ok (.getfield 47, 3) := by decide +kernel
theorem dX12_goesOne_129 : decode cX12_goesOne 129 = .ok (.iload 4, 2) := by decide +kernel
theorem dX12_goesOne_131 : decode cX12_goesOne 131 = .ok (.iload 5, 2) := by decide +kernel
theorem dX12_goesOne_133 : decode cX12_goesOne 133 = .ok (.iastore, 1) := by decide +kernel
theorem dX12_goesOne_134 : decode cX12_goesOne 134 = .ok (.aload_n 0, 1) := by decide +kernel
theorem dX12_goesOne_135 : decode cX12_goesOne 135 = .ok (.getfield 44, 3) := by decide +kernel
theorem dX12_goesOne_138 : decode cX12_goesOne 138 = .ok (.iload 4, 2) := by decide +kernel
theorem dX12_goesOne_140 : decode cX12_goesOne 140 = .ok (.iaload, 1) := by decide +kernel
theorem dX12_goesOne_141 : decode cX12_goesOne 141 = .ok (.aload_n 0, 1) := by decide +kernel
theorem dX12_goesOne_142 : decode cX12_goesOne 142 = .ok (.getfield 32, 3) := by decide +kernel
theorem dX12_goesOne_145 : decode cX12_goesOne 145 = .ok (.iload 4, 2) := by decide +kernel
theorem dX12_goesOne_147 : decode cX12_goesOne 147 = .ok (.iaload, 1) := by decide +kernel
theorem dX12_goesOne_148 : decode cX12_goesOne 148 = .ok (.if_icmp .ge 22, 3) := by decide +kernel
theorem dX12_goesOne_151 : decode cX12_goesOne 151 = .ok (.aload_n 0, 1) := by decide +kernel
theorem dX12_goesOne_152 : decode cX12_goesOne 152 = .ok (.getfield 44, 3) := by decide +kernel
theorem dX12_goesOne_155 : decode cX12_goesOne 155 = .ok (.iload 4, 2) := by decide +kernel
theorem dX12_goesOne_157 : decode cX12_goesOne 157 = .ok (.dup2, 1) := by decide +kernel
theorem dX12_goesOne_158 : decode cX12_goesOne 158 = .ok (.iaload, 1) := by decide +kernel
theorem dX12_goesOne_159 : decode cX12_goesOne 159 = .ok (.iconst 1, 1) := by decide +kernel
theorem dX12_goesOne_160 : decode cX12_goesOne 160 = .ok (.iadd, 1) := by decide +kernel
theorem dX12_goesOne_161 : decode cX12_goesOne 161 = .ok (.iastore, 1) := by decide +kernel
theorem dX12_goesOne_162 : decode cX12_goesOne 162 = .ok (.aload_n 0, 1) := by decide +kernel
theorem dX12_goesOne_163 : decode cX12_goesOne 163 = .ok (.iload 4, 2) := by decide +kernel
theorem dX12_goesOne_165 : decode cX12_goesOne 165 = .ok (.invokevirtual 153, 3) := by decide +kernel
theorem dX12_goesOne_168 : decode cX12_goesOne 168 = .ok (.iconst 1, 1) := by decide +kernel
theorem dX12_goesOne_169 : decode cX12_goesOne 169 = .ok (.ireturn, 1) := by decide +kernel
theorem dX12_goesOne_170 : decode cX12_goesOne 170 = .ok (.iconst 0, 1) := by decide +kernel
theorem dX12_goesOne_171 : decode cX12_goesOne 171 = .ok (.istore 6, 2) := by decide +kernel
theorem dX12_goesOne_173 : decode cX12_goesOne 173 = .ok (.iload 6, 2) := by decide +kernel
theorem dX12_goesOne_175 : decode cX12_goesOne 175 = .ok (.aload_n 0, 1) := by decide +kernel
theorem dX12_goesOne_176 : decode cX12_goesOne 176 = .ok (.getfield 102, 3) := by decide +kernel
theorem dX12_goesOne_179 : decode cX12_goesOne 179 = .ok (.if_icmp .ge 58, 3) := by decide +kernel
theorem dX12_goesOne_182 : decode cX12_goesOne 182 = .ok (.aload_n 0, 1) := by decide +kernel
theorem dX12_goesOne_183 : decode cX12_goesOne 183 = .ok (.getfield 50, 3) := by decide +kernel
theorem dX12_goesOne_186 : decode cX12_goesOne 186 = .ok (.iload 6, 2) := by decide +kernel
theorem dX12_goesOne_188 : decode cX12_goesOne 188 = .ok (.iaload, 1) := by decide +kernel
theorem dX12_goesOne_189 : decode cX12_goesOne 189 = .ok (.iconst (-1), 1) := by decide +kernel
theorem dX12_goesOne_190 : decode cX12_goesOne 190 = .ok (.if_icmp .ne 41, 3) := by decide +kernel
theorem dX12_goesOne_193 : decode cX12_goesOne 193 = .ok (.aload_n 0, 1) := by decide +kernel
theorem dX12_goesOne_194 : decode cX12_goesOne 194 = .ok (.getfield 41, 3) := by decide +kernel
theorem dX12_goesOne_197 : decode cX12_goesOne 197 = .ok (.iload 4, 2) := by decide +kernel
theorem dX12_goesOne_199 : decode cX12_goesOne 199 = .ok (.iload 6, 2) := by decide +kernel
theorem dX12_goesOne_201 : decode cX12_goesOne 201 = .ok (.invokestatic 87, 3) := by decide +kernel
theorem dX12_goesOne_204 : decode cX12_goesOne 204 = .ok (.iaload, 1) := by decide +kernel
theorem dX12_goesOne_205 : decode cX12_goesOne 205 = .ok (.ifCond .ne 6, 3) := by decide +kernel
theorem dX12_goesOne_208 : decode cX12_goesOne 208 = .ok (.goto 23, 3) := by decide +kernel
theorem dX12_goesOne_211 : decode cX12_goesOne 211 = .ok (.aload_n 0, 1) := by decide +kernel
theorem dX12_goesOne_212 : decode cX12_goesOne 212 = .ok (.getfield 50, 3) := by decide +kernel
theorem dX12_goesOne_215 : decode cX12_goesOne 215 = .ok (.iload 6, 2) := by decide +kernel
theorem dX12_goesOne_217 : decode cX12_goesOne 217 = .ok (.iload 4, 2) := by decide +kernel
theorem dX12_goesOne_219 : decode cX12_goesOne 219 = .ok (.iastore, 1) := by decide +kernel
theorem dX12_goesOne_220 : decode cX12_goesOne 220 = .ok (.aload_n 0, 1) := by decide +kernel
theorem dX12_goesOne_221 : decode cX12_goesOne 221 = .ok (.getfield 53, 3) := by decide +kernel
theorem dX12_goesOne_224 : decode cX12_goesOne 224 = .ok (.iload_n 2, 1) := by decide +kernel
theorem dX12_goesOne_225 : decode cX12_goesOne 225 = .ok (.iload 6, 2) := by decide +kernel
theorem dX12_goesOne_227 : decode cX12_goesOne 227 = .ok (.iastore, 1) := by decide +kernel
theorem dX12_goesOne_228 : decode cX12_goesOne 228 = .ok (.iinc 2 1, 3) := by decide +kernel
theorem dX12_goesOne_231 : decode cX12_goesOne 231 = .ok (.iinc 6 1, 3) := by decide +kernel
theorem dX12_goesOne_234 : decode cX12_goesOne 234 = .ok (.goto (-61), 3) := by decide +kernel
theorem dX12_goesOne_237 : decode cX12_goesOne 237 = .ok (.iinc 4 1, 3) := by decide +kernel
theorem dX12_goesOne_240 : decode cX12_goesOne 240 = .ok (.goto (-173), 3) := by decide +kernel
theorem dX12_goesOne_243 : decode cX12_goesOne 243 = .ok (.iinc 3 1, 3) := by decide +kernel
theorem dX12_goesOne_246 : decode cX12_goesOne 246 = .ok (.goto (-187), 3) := by decide +kernel
theorem dX12_goesOne_249 : decode cX12_goesOne 249 = .ok (.iconst 0, 1) := by decide +kernel
theorem dX12_goesOne_250 : decode cX12_goesOne 250 = .ok (.ireturn, 1) := by decide +kernel
set_option maxHeartbeats 2000000 in
theorem c12_goesOne {G : Gl} {l : Launch}  {M : Mem} {I : Ins} {a : Int} (hG : GR M) (hA : MA M I) (hIb : IB I) (hV : FV I M) (ha0 : 0 ≤ a) (ha1 : a < iW I) : Ct G LY 82 l 2 m12_goesOne [vR 57, vI a] M (RP (fun v M' => Fr [67, 68, 69, 70, 71] [] M M' ∧ ((v = 1 ∧ GO1 I M a M') ∨ (v = 0 ∧ GO0 I M a M')))) := by
  refine R_start (by decide +kernel) (Nat.le_of_ble_eq_true rfl) (fun C hC hRm hlau => ?_)
  show RZ G LY C (Zn G LY 82 C (RP (fun v M' => Fr [67, 68, 69, 70, 71] [] M M' ∧ ((v = 1 ∧ GO1 I M a M') ∨ (v = 0 ∧ GO0 I M a M'))))) 0 0 82 0 [some (vR 57), some (vI a), none, none, none, none, none] [] M
  have hL := hIb.1
  have hW := hIb.2.1
  refine R_iconst hC dX12_goesOne_0 ⟨by decide, by decide⟩ ?_
  refine R_istore_2 hC dX12_goesOne_1 rfl ?_
  have L2 : ∀ (mq : Nat) (i : Int) (M1 : Mem), (0 ≤ i) → (i ≤ 5) → (GR M1) → (Fr [69, 70, 71] [] M M1) → (MA M1 I) → (∀ x, 0 ≤ x → x < i → M1 69 x = -1) → (5 - i).toNat < mq → RZ G LY C (Zn G LY 82 C (RP (fun v M' => Fr [67, 68, 69, 70, 71] [] M M' ∧ ((v = 1 ∧ GO1 I M a M') ∨ (v = 0 ∧ GO0 I M a M'))))) 0 0 82 2 [some (vR 57), some (vI a), some (vI i), none, none, none, none] [] M1 := by
    intro mq
    induction mq with
    | zero =>
      intro i M1 hi0 hi1 hg hF hA1 h9 hm
      exact absurd hm (Nat.not_lt_zero _)
    | succ mq ih2 =>
      intro i M1 hi0 hi1 hg hF hA1 h9 hm2
      refine R_iload_2 hC dX12_goesOne_2 ?_
      refine R_iconst hC dX12_goesOne_3 ⟨by decide, by decide⟩ ?_
      refine R_icmp_ge hC dX12_goesOne_4 (tgt := 20) (by decide) (fun hb4 => ?_) (fun hb4 => ?_)
      · skip
        refine R_iconst hC dX12_goesOne_20 ⟨by decide, by decide⟩ ?_
        refine R_istore_2 hC dX12_goesOne_21 rfl ?_
        have L22 : ∀ (mq : Nat) (j : Int) (M2 : Mem), (0 ≤ j) → (j ≤ 6) → (GR M2) → (Fr [69, 70, 71] [] M M2) → (MA M2 I) → (∀ x, 0 ≤ x → x < 5 → M2 69 x = -1) → (∀ x, 0 ≤ x → x < j → M2 70 x = -1) → (6 - j).toNat < mq → RZ G LY C (Zn G LY 82 C (RP (fun v M' => Fr [67, 68, 69, 70, 71] [] M M' ∧ ((v = 1 ∧ GO1 I M a M') ∨ (v = 0 ∧ GO0 I M a M'))))) 0 0 82 22 [some (vR 57), some (vI a), some (vI j), none, none, none, none] [] M2 := by
          intro mq
          induction mq with
          | zero =>
            intro j M2 hj0 hj1 hg2 hF2 hA2 h92 h02 hm
            exact absurd hm (Nat.not_lt_zero _)
          | succ mq ih22 =>
            intro j M2 hj0 hj1 hg2 hF2 hA2 h92 h02 hm22
            refine R_iload_2 hC dX12_goesOne_22 ?_
            refine R_bipush hC dX12_goesOne_23 (by decide +kernel) ⟨by decide, by decide⟩ ?_
            refine R_icmp_ge hC dX12_goesOne_25 (tgt := 41) (by decide) (fun hb25 => ?_) (fun hb25 => ?_)
            · skip
              refine R_aload_0 hC dX12_goesOne_41 ?_
              refine R_getR hC dX12_goesOne_42 fl_12_50 (by decide) rfl (by decide) (by decide) (fi := 27) rfl (r := 70) (gr_57_27 hg2) ?_
              refine R_iload_1 hC dX12_goesOne_45 ?_
              refine R_iconst hC dX12_goesOne_46 ⟨by decide, by decide⟩ ?_
              refine R_iastore hC dX12_goesOne_47 (by decide) rfl (by omega) (by omega) ?_
              refine R_aload_0 hC dX12_goesOne_48 ?_
              have hG1 : GR (uM M2 70 a 5) := (GR.uA hg2 (by decide +kernel) (.inl (by decide)))
              refine R_getR hC dX12_goesOne_49 fl_12_53 (by decide) rfl (by decide) (by decide) (fi := 28) rfl (r := 71) (gr_57_28 hG1) ?_
              refine R_iconst hC dX12_goesOne_52 ⟨by decide, by decide⟩ ?_
              refine R_iload_1 hC dX12_goesOne_53 ?_
              refine R_iastore hC dX12_goesOne_54 (by decide) rfl (by omega) (by omega) ?_
              refine R_iconst hC dX12_goesOne_55 ⟨by decide, by decide⟩ ?_
              refine R_istore_2 hC dX12_goesOne_56 rfl ?_
              refine R_iconst hC dX12_goesOne_57 ⟨by decide, by decide⟩ ?_
              refine R_istore_3 hC dX12_goesOne_58 rfl ?_
              have L59 : ∀ (mq : Nat) (m : Int) (k : Int) (M3 : Mem), (0 ≤ k) → (k ≤ m) → (GR M3) → (Fr [69, 70, 71] [] M M3) → (MA M3 I) → (BI I M3 a m k) → (7 - k).toNat < mq → RZ G LY C (Zn G LY 82 C (RP (fun v M' => Fr [67, 68, 69, 70, 71] [] M M' ∧ ((v = 1 ∧ GO1 I M a M') ∨ (v = 0 ∧ GO0 I M a M'))))) 0 0 82 59 [some (vR 57), some (vI a), some (vI m), some (vI k), none, none, none] [] M3 := by
                intro mq
                induction mq with
                | zero =>
                  intro m k M3 hk0 hk1 hg3 hF3 hA3 hBI hm
                  exact absurd hm (Nat.not_lt_zero _)
                | succ mq ih59 =>
                  intro m k M3 hk0 hk1 hg3 hF3 hA3 hBI hm59
                  have bm := hBI.1.m hIb
                  refine R_iload_3 hC dX12_goesOne_59 ?_
                  refine R_iload_2 hC dX12_goesOne_60 ?_
                  refine R_icmp_ge hC dX12_goesOne_61 (tgt := 249) (by decide) (fun hb61 => ?_) (fun hb61 => ?_)
                  · skip
                    refine R_iconst hC dX12_goesOne_249 ⟨by decide, by decide⟩ ?_
                    exact R_zreturn hC dX12_goesOne_250 rfl (.inl rfl) (ret_P ⟨hF3.mo (by decide) (by decide), .inr ⟨rfl, fun k => hF3.at (by decide), fun k => hF3.at (by decide), by
                          have z : k = m := by omega
                          rw [z] at hBI
                          obtain ⟨WR, LR, p, q⟩ := hBI.clo
                          exact ⟨WR, LR, p, q.fr (fun k => (hF3.at (by decide)).symm) (fun k => (hF3.at (by decide)).symm)⟩⟩⟩)
                  · skip
                    refine R_iconst hC dX12_goesOne_64 ⟨by decide, by decide⟩ ?_
                    refine R_istore_4 hC dX12_goesOne_65 rfl ?_
                    have L67 : ∀ (mq : Nat) (m : Int) (l : Int) (M4 : Mem), (0 ≤ l) → (l ≤ iL I) → (GR M4) → (Fr [69, 70, 71] [] M M4) → (MA M4 I) → (BL I M4 a m k l) → (iL I - l).toNat < mq → RZ G LY C (Zn G LY 82 C (RP (fun v M' => Fr [67, 68, 69, 70, 71] [] M M' ∧ ((v = 1 ∧ GO1 I M a M') ∨ (v = 0 ∧ GO0 I M a M'))))) 0 0 82 67 [some (vR 57), some (vI a), some (vI m), some (vI k), some (vI l), none, none] [] M4 := by
                      intro mq
                      induction mq with
                      | zero =>
                        intro m l M4 hl0 hl1 hg4 hF4 hA4 hBL hm
                        exact absurd hm (Nat.not_lt_zero _)
                      | succ mq ih67 =>
                        intro m l M4 hl0 hl1 hg4 hF4 hA4 hBL hm67
                        have bm := hBL.1.1.m hIb
                        have bx := hBL.x hk0
                        have bkm := hBL.2.2
                        refine R_iload_4 hC dX12_goesOne_67 ?_
                        refine R_aload_0 hC dX12_goesOne_69 ?_
                        refine R_getIE hC dX12_goesOne_70 fl_12_105 (by decide) rfl (by decide) (by decide) (fi := 5) rfl hA4.1.1 ?_
                        refine R_icmp_ge hC dX12_goesOne_73 (tgt := 243) (by decide) (fun hb73 => ?_) (fun hb73 => ?_)
                        · skip
                          refine R_iinc_3 hC dX12_goesOne_243 rfl ⟨by omega, by omega⟩ ?_
                          refine R_goto hC dX12_goesOne_246 (tgt := 59) (by decide) ?_
                          refine R_weak (subL_c (subL_c (subL_c (subL_c (subL_d (subL_c (subL_c subL_n))))))) ?_
                          exact ih59 _ _ _ (by omega) (by (have z := hBL.2.2; omega)) hg4 hF4 hA4 (by (have z : l = iL I := (by omega); rw [z] at hBL; exact hBL.done)) (by omega)
                        · skip
                          refine R_aload_0 hC dX12_goesOne_76 ?_
                          refine R_getR hC dX12_goesOne_77 fl_12_53 (by decide) rfl (by decide) (by decide) (fi := 28) rfl (r := 71) (gr_57_28 hg4) ?_
                          refine R_iload_3 hC dX12_goesOne_80 ?_
                          refine R_iaload hC dX12_goesOne_81 (by decide) rfl (by omega) (by omega) ?_
                          refine R_istore_5 hC dX12_goesOne_82 rfl ?_
                          refine R_aload_0 hC dX12_goesOne_84 ?_
                          refine R_getR hC dX12_goesOne_85 fl_12_47 (by decide) rfl (by decide) (by decide) (fi := 26) rfl (r := 69) (gr_57_26 hg4) ?_
                          refine R_iload_4 hC dX12_goesOne_88 ?_
                          refine R_iaload hC dX12_goesOne_90 (by decide) rfl (by omega) (by omega) ?_
                          refine R_iconst hC dX12_goesOne_91 ⟨by decide, by decide⟩ ?_
                          refine R_icmp_ne hC dX12_goesOne_92 (tgt := 237) (by decide) (fun hb92 => ?_) (fun hb92 => ?_)
                          · skip
                            refine R_iinc_4 hC dX12_goesOne_237 rfl ⟨by omega, by omega⟩ ?_
                            refine R_goto hC dX12_goesOne_240 (tgt := 67) (by decide) ?_
                            refine R_weak (subL_c (subL_c (subL_c (subL_c (subL_c (subL_d (subL_c subL_n))))))) ?_
                            exact ih67 _ _ _ (by omega) (by omega) hg4 (by first | exact hF4 | exact hF5) hA4 (by first | exact hBL.skip (.inl hb92) | exact hBL.skip (.inr hb119) | (have z : w = iW I := (by omega); rw [z] at hBW; exact hBW.done)) (by omega)
                          · skip
                            refine R_aload_0 hC dX12_goesOne_95 ?_
                            refine R_getR hC dX12_goesOne_96 fl_12_41 (by decide) rfl (by decide) (by decide) (fi := 24) rfl (r := 67) (gr_57_24 hg4) ?_
                            refine R_iload_4 hC dX12_goesOne_99 ?_
                            refine R_iload_5 hC dX12_goesOne_101 ?_
                            refine R_callSq (as := [vI _, vI _]) hC dX12_goesOne_103 mo_12_cell ml_12_87 (c12_cell  (by omega) (by omega) (by omega) (by omega)) rfl rfl hRm (by decide) (by decide) (Nat.le_of_ble_eq_true rfl) ?_
                            refine R_iaload hC dX12_goesOne_106 (by decide) rfl (by omega) (by omega) ?_
                            refine R_aload_0 hC dX12_goesOne_107 ?_
                            refine R_getR hC dX12_goesOne_108 fl_12_38 (by decide) rfl (by decide) (by decide) (fi := 21) rfl (r := 66) (gr_57_21 hg4) ?_
                            refine R_iload_4 hC dX12_goesOne_111 ?_
                            refine R_iload_5 hC dX12_goesOne_113 ?_
                            refine R_callSq (as := [vI _, vI _]) hC dX12_goesOne_115 mo_12_cell ml_12_87 (c12_cell  (by omega) (by omega) (by omega) (by omega)) rfl rfl hRm (by decide) (by decide) (Nat.le_of_ble_eq_true rfl) ?_
                            refine R_ialoadE hC dX12_goesOne_118 (by decide) rfl (by omega) (by omega) (hA4.o l (M4 71 k) (by omega) (by omega) (by omega) (by omega)) ?_
                            have bf := hV.1 l (M4 71 k) hl0 (by omega) bx.1 bx.2
                            rw [← hF4.at (show 67 ∉ [69, 70, 71] by decide)] at bf
                            refine R_icmp_ne hC dX12_goesOne_119 (tgt := 125) (by decide) (fun hb119 => ?_) (fun hb119 => ?_)
                            · skip
                              refine R_aload_0 hC dX12_goesOne_125 ?_
                              refine R_getR hC dX12_goesOne_126 fl_12_47 (by decide) rfl (by decide) (by decide) (fi := 26) rfl (r := 69) (gr_57_26 hg4) ?_
                              refine R_iload_4 hC dX12_goesOne_129 ?_
                              refine R_iload_5 hC dX12_goesOne_131 ?_
                              refine R_iastore hC dX12_goesOne_133 (by decide) rfl (by omega) (by omega) ?_
                              refine R_aload_0 hC dX12_goesOne_134 ?_
                              have hG2 : GR (uM M4 69 l (M4 71 k)) := (GR.uA hg4 (by decide +kernel) (.inl (by decide)))
                              refine R_getR hC dX12_goesOne_135 fl_12_44 (by decide) rfl (by decide) (by decide) (fi := 25) rfl (r := 68) (gr_57_25 hG2) ?_
                              refine R_iload_4 hC dX12_goesOne_138 ?_
                              refine R_ialoadE hC dX12_goesOne_140 (by decide) rfl (by omega) (by omega) (uM_h (by decide)) ?_
                              refine R_aload_0 hC dX12_goesOne_141 ?_
                              refine R_getR hC dX12_goesOne_142 fl_12_32 (by decide) rfl (by decide) (by decide) (fi := 19) rfl (r := 64) (gr_57_19 hG2) ?_
                              refine R_iload_4 hC dX12_goesOne_145 ?_
                              have hk3 : MA (uM M4 69 l (M4 71 k)) I := (MA.u hA4 (by decide))
                              refine R_ialoadE hC dX12_goesOne_147 (by decide) rfl (by omega) (by omega) (hk3.m l (by omega) (by omega)) ?_
                              have e8 : M4 68 l = M 68 l := hF4.at (by decide)
                              have bl := hV.2 l hl0 (by omega)
                              have bM := hIb.2.2.2.2 l hl0 (by omega)
                              have bl0 := hV.ld hIb hl0 (show l < iL I by omega)
                              refine R_icmp_ge hC dX12_goesOne_148 (tgt := 170) (by decide) (fun hb148 => ?_) (fun hb148 => ?_)
                              · skip
                                have hBW0 := hBL.lib hl0 (by omega) hk0 hb92 (by omega) (by omega)
                                refine R_iconst hC dX12_goesOne_170 ⟨by decide, by decide⟩ ?_
                                refine R_istore_6 hC dX12_goesOne_171 rfl ?_
                                have L173 : ∀ (mq : Nat) (m2 : Int) (w : Int) (M5 : Mem), (0 ≤ w) → (w ≤ iW I) → (GR M5) → (Fr [69, 70, 71] [] M M5) → (MA M5 I) → (BW I M5 a m2 k l w) → (iW I - w).toNat < mq → RZ G LY C (Zn G LY 82 C (RP (fun v M' => Fr [67, 68, 69, 70, 71] [] M M' ∧ ((v = 1 ∧ GO1 I M a M') ∨ (v = 0 ∧ GO0 I M a M'))))) 0 0 82 173 [some (vR 57), some (vI a), some (vI m2), some (vI k), some (vI l), some (vI (M4 71 k)), some (vI w)] [] M5 := by
                                  intro mq
                                  induction mq with
                                  | zero =>
                                    intro m2 w M5 hw0 hw1 hg5 hF5 hA5 hBW hm
                                    exact absurd hm (Nat.not_lt_zero _)
                                  | succ mq ih173 =>
                                    intro m2 w M5 hw0 hw1 hg5 hF5 hA5 hBW hm173
                                    have bm2 := hBW.1.m hIb
                                    refine R_iload_6 hC dX12_goesOne_173 ?_
                                    refine R_aload_0 hC dX12_goesOne_175 ?_
                                    refine R_getIE hC dX12_goesOne_176 fl_12_102 (by decide) rfl (by decide) (by decide) (fi := 6) rfl hA5.1.2 ?_
                                    refine R_icmp_ge hC dX12_goesOne_179 (tgt := 237) (by decide) (fun hb179 => ?_) (fun hb179 => ?_)
                                    · skip
                                      refine R_iinc_4 hC dX12_goesOne_237 rfl ⟨by omega, by omega⟩ ?_
                                      refine R_goto hC dX12_goesOne_240 (tgt := 67) (by decide) ?_
                                      refine R_weak (subL_c (subL_c (subL_c (subL_c (subL_c (subL_d (subL_d subL_n))))))) ?_
                                      exact ih67 _ _ _ (by omega) (by omega) hg5 (by first | exact hF4 | exact hF5) hA5 (by first | exact hBL.skip (.inl hb92) | exact hBL.skip (.inr hb119) | (have z : w = iW I := (by omega); rw [z] at hBW; exact hBW.done)) (by omega)
                                    · skip
                                      refine R_aload_0 hC dX12_goesOne_182 ?_
                                      refine R_getR hC dX12_goesOne_183 fl_12_50 (by decide) rfl (by decide) (by decide) (fi := 27) rfl (r := 70) (gr_57_27 hg5) ?_
                                      refine R_iload_6 hC dX12_goesOne_186 ?_
                                      refine R_iaload hC dX12_goesOne_188 (by decide) rfl (by omega) (by omega) ?_
                                      refine R_iconst hC dX12_goesOne_189 ⟨by decide, by decide⟩ ?_
                                      refine R_icmp_ne hC dX12_goesOne_190 (tgt := 231) (by decide) (fun hb190 => ?_) (fun hb190 => ?_)
                                      · skip
                                        refine R_iinc_6 hC dX12_goesOne_231 rfl ⟨by omega, by omega⟩ ?_
                                        refine R_goto hC dX12_goesOne_234 (tgt := 173) (by decide) ?_
                                        exact ih173 _ _ _ (by omega) (by omega) hg5 (by first | exact hF5 | exact Fr.uA (Fr.uA hF5 (by decide)) (by decide)) hA5 (by first | exact hBW.skip (.inl hb190) | exact hBW.skip (.inr hb205) | exact hBW.add hk0 hl0 (by omega) hw0 (by omega) hb190 hf5) (by omega)
                                      · skip
                                        refine R_aload_0 hC dX12_goesOne_193 ?_
                                        refine R_getR hC dX12_goesOne_194 fl_12_41 (by decide) rfl (by decide) (by decide) (fi := 24) rfl (r := 67) (gr_57_24 hg5) ?_
                                        refine R_iload_4 hC dX12_goesOne_197 ?_
                                        refine R_iload_6 hC dX12_goesOne_199 ?_
                                        refine R_callSq (as := [vI _, vI _]) hC dX12_goesOne_201 mo_12_cell ml_12_87 (c12_cell  (by omega) (by omega) (by omega) (by omega)) rfl rfl hRm (by decide) (by decide) (Nat.le_of_ble_eq_true rfl) ?_
                                        refine R_iaload hC dX12_goesOne_204 (by decide) rfl (by omega) (by omega) ?_
                                        have bf5 := hV.1 l w hl0 (by omega) hw0 (by omega)
                                        rw [← hF5.at (show 67 ∉ [69, 70, 71] by decide)] at bf5
                                        refine R_if_ne hC dX12_goesOne_205 (tgt := 211) (by decide) (fun hb205 => ?_) (fun hb205 => ?_)
                                        · skip
                                          have hf5 : 0 < M5 67 (6 * l + w) := by omega
                                          refine R_aload_0 hC dX12_goesOne_211 ?_
                                          refine R_getR hC dX12_goesOne_212 fl_12_50 (by decide) rfl (by decide) (by decide) (fi := 27) rfl (r := 70) (gr_57_27 hg5) ?_
                                          refine R_iload_6 hC dX12_goesOne_215 ?_
                                          refine R_iload_4 hC dX12_goesOne_217 ?_
                                          refine R_iastore hC dX12_goesOne_219 (by decide) rfl (by omega) (by omega) ?_
                                          refine R_aload_0 hC dX12_goesOne_220 ?_
                                          have hG4 : GR (uM M5 70 w l) := (GR.uA hg5 (by decide +kernel) (.inl (by decide)))
                                          refine R_getR hC dX12_goesOne_221 fl_12_53 (by decide) rfl (by decide) (by decide) (fi := 28) rfl (r := 71) (gr_57_28 hG4) ?_
                                          refine R_iload_2 hC dX12_goesOne_224 ?_
                                          refine R_iload_6 hC dX12_goesOne_225 ?_
                                          refine R_iastore hC dX12_goesOne_227 (by decide) rfl (by omega) (by omega) ?_
                                          refine R_iinc_2 hC dX12_goesOne_228 rfl ⟨by omega, by omega⟩ ?_
                                          refine R_iinc_6 hC dX12_goesOne_231 rfl ⟨by omega, by omega⟩ ?_
                                          refine R_goto hC dX12_goesOne_234 (tgt := 173) (by decide) ?_
                                          have hG5 : GR (uM (uM M5 70 w l) 71 m2 w) := (GR.uA hG4 (by decide +kernel) (.inl (by decide)))
                                          have hk6 : MA (uM (uM M5 70 w l) 71 m2 w) I := (MA.u (MA.u hA5 (by decide)) (by decide))
                                          exact ih173 _ _ _ (by omega) (by omega) hG5 (by first | exact hF5 | exact Fr.uA (Fr.uA hF5 (by decide)) (by decide)) hk6 (by first | exact hBW.skip (.inl hb190) | exact hBW.skip (.inr hb205) | exact hBW.add hk0 hl0 (by omega) hw0 (by omega) hb190 hf5) (by omega)
                                        · skip
                                          refine R_goto hC dX12_goesOne_208 (tgt := 231) (by decide) ?_
                                          refine R_iinc_6 hC dX12_goesOne_231 rfl ⟨by omega, by omega⟩ ?_
                                          refine R_goto hC dX12_goesOne_234 (tgt := 173) (by decide) ?_
                                          exact ih173 _ _ _ (by omega) (by omega) hg5 (by first | exact hF5 | exact Fr.uA (Fr.uA hF5 (by decide)) (by decide)) hA5 (by first | exact hBW.skip (.inl hb190) | exact hBW.skip (.inr hb205) | exact hBW.add hk0 hl0 (by omega) hw0 (by omega) hb190 hf5) (by omega)
                                exact L173 _ _ _ _ (by omega) (by omega) hG2 (Fr.uA hF4 (by decide)) hk3 hBW0 (Nat.lt_succ_self _)
                              · skip
                                have hBs2 := hBL.1.1.lib hl0 (by omega) hb92 hk0 hBL.2.2 (by omega)
                                have hlt : M 68 l < iM I l := by omega
                                refine R_aload_0 hC dX12_goesOne_151 ?_
                                refine R_getR hC dX12_goesOne_152 fl_12_44 (by decide) rfl (by decide) (by decide) (fi := 25) rfl (r := 68) (gr_57_25 hG2) ?_
                                refine R_iload_4 hC dX12_goesOne_155 ?_
                                refine R_dup2 hC dX12_goesOne_157 rfl rfl ?_
                                refine R_ialoadE hC dX12_goesOne_158 (by decide) rfl (by omega) (by omega) (uM_h (by decide)) ?_
                                refine R_iconst hC dX12_goesOne_159 ⟨by decide, by decide⟩ ?_
                                refine R_iadd hC dX12_goesOne_160 ⟨by omega, by omega⟩ ?_
                                refine R_iastore hC dX12_goesOne_161 (by decide) rfl (by omega) (by omega) ?_
                                refine R_aload_0 hC dX12_goesOne_162 ?_
                                refine R_iload_4 hC dX12_goesOne_163 ?_
                                have hG7 : GR (uM (uM M4 69 l (M4 71 k)) 68 l ((M4 68 l) + 1)) := (GR.uA hG2 (by decide +kernel) (.inl (by decide)))
                                refine R_callVv (as := [vI _]) hC dX12_goesOne_165 mo_12_turns ml_12_153 (by decide) rfl rfl (c12_turns  hG7 hIb (hBs2.fr (fun b j z => uM_h (by omega))) (fun x w p q r s => by (rw [show (uM (uM M4 69 l (M4 71 k)) 68 l ((M4 68 l) + 1)) 67 (6 * x + w) = M 67 (6 * x + w) from (uM_h (by decide)).trans ((uM_h (by decide)).trans (hF4.at (by decide)))]; exact hV.1 x w p q r s)) (by omega) (by omega) (by (rw [show (uM (uM M4 69 l (M4 71 k)) 68 l ((M4 68 l) + 1)) 69 l = M4 71 k from (uM_h (by decide)).trans uM_same]; omega))) rfl rfl hRm (by decide) (by decide) (Nat.le_of_ble_eq_true rfl) (fun Mc8 hq9 => ?_)
                                refine R_iconst hC dX12_goesOne_168 ⟨by decide, by decide⟩ ?_
                                exact R_zreturn hC dX12_goesOne_169 rfl (.inr rfl) (ret_P ⟨fun b j p q => (hq9.1.at (by simp at p ⊢; omega)).trans ((uM_h (by simp at p; omega)).trans ((uM_h (by simp at p; omega)).trans (hF4.at (by simp at p ⊢; omega)))), .inl ⟨rfl, GO1.of hV hl0 (by omega) hL.2 (fun k => (uM_h (by decide)).trans ((uM_h (by decide)).trans (hF4.at (by decide)))) hlt (fun x => by
                                      rw [hq9.1.at (show 68 ∉ [67] by decide)]
                                      by_cases e : x = l
                                      · rw [e, uM_same, if_pos rfl, e8]
                                      · rw [uM_k e, if_neg e]
                                        exact (uM_h (by decide)).trans (hF4.at (by decide))) hq9.2⟩⟩)
                            · skip
                              refine R_goto hC dX12_goesOne_122 (tgt := 237) (by decide) ?_
                              refine R_iinc_4 hC dX12_goesOne_237 rfl ⟨by omega, by omega⟩ ?_
                              refine R_goto hC dX12_goesOne_240 (tgt := 67) (by decide) ?_
                              refine R_weak (subL_c (subL_c (subL_c (subL_c (subL_c (subL_d (subL_c subL_n))))))) ?_
                              exact ih67 _ _ _ (by omega) (by omega) hg4 (by first | exact hF4 | exact hF5) hA4 (by first | exact hBL.skip (.inl hb92) | exact hBL.skip (.inr hb119) | (have z : w = iW I := (by omega); rw [z] at hBW; exact hBW.done)) (by omega)
                    exact L67 _ _ _ _ (by omega) (by omega) hg3 hF3 hA3 (hBI.enter (by omega)) (Nat.lt_succ_self _)
              have hBs : BI I (uM (uM M2 70 a 5) 71 0 a) a 1 0 := BI.start hIb ha0 ha1 (fun x p q => (uM_h (by decide)).trans ((uM_h (by decide)).trans (h92 x p q))) (fun w p q => by
                rw [uM_h (by decide)]
                by_cases e : w = a
                · rw [e, uM_same, if_pos rfl]
                · rw [uM_k e, if_neg e]
                  exact h02 w p (by omega)) uM_same
              have hG10 : GR (uM (uM M2 70 a 5) 71 0 a) := (GR.uA hG1 (by decide +kernel) (.inl (by decide)))
              have hk11 : MA (uM (uM M2 70 a 5) 71 0 a) I := (MA.u (MA.u hA2 (by decide)) (by decide))
              exact L59 _ _ _ _ (by omega) (by omega) hG10 (Fr.uA (Fr.uA hF2 (by decide)) (by decide)) hk11 hBs (Nat.lt_succ_self _)
            · skip
              refine R_aload_0 hC dX12_goesOne_28 ?_
              refine R_getR hC dX12_goesOne_29 fl_12_50 (by decide) rfl (by decide) (by decide) (fi := 27) rfl (r := 70) (gr_57_27 hg2) ?_
              refine R_iload_2 hC dX12_goesOne_32 ?_
              refine R_iconst hC dX12_goesOne_33 ⟨by decide, by decide⟩ ?_
              refine R_iastore hC dX12_goesOne_34 (by decide) rfl (by omega) (by omega) ?_
              refine R_iinc_2 hC dX12_goesOne_35 rfl ⟨by omega, by omega⟩ ?_
              refine R_goto hC dX12_goesOne_38 (tgt := 22) (by decide) ?_
              have hG12 : GR (uM M2 70 j (-1)) := (GR.uA hg2 (by decide +kernel) (.inl (by decide)))
              have hk13 : MA (uM M2 70 j (-1)) I := (MA.u hA2 (by decide))
              exact ih22 _ _ (by omega) (by omega) hG12 (Fr.uA hF2 (by decide)) hk13 (fun x a b => (uM_h (by decide)).trans (h92 x a b)) (row_set h02 rfl rfl) (by omega)
        exact L22 _ _ _ (by omega) (by omega) hg hF hA1 (fun x a b => h9 x a (by omega)) (fun x a b => by omega) (Nat.lt_succ_self _)
      · skip
        refine R_aload_0 hC dX12_goesOne_7 ?_
        refine R_getR hC dX12_goesOne_8 fl_12_47 (by decide) rfl (by decide) (by decide) (fi := 26) rfl (r := 69) (gr_57_26 hg) ?_
        refine R_iload_2 hC dX12_goesOne_11 ?_
        refine R_iconst hC dX12_goesOne_12 ⟨by decide, by decide⟩ ?_
        refine R_iastore hC dX12_goesOne_13 (by decide) rfl (by omega) (by omega) ?_
        refine R_iinc_2 hC dX12_goesOne_14 rfl ⟨by omega, by omega⟩ ?_
        refine R_goto hC dX12_goesOne_17 (tgt := 2) (by decide) ?_
        have hG14 : GR (uM M1 69 i (-1)) := (GR.uA hg (by decide +kernel) (.inl (by decide)))
        have hk15 : MA (uM M1 69 i (-1)) I := (MA.u hA1 (by decide))
        exact ih2 _ _ (by omega) (by omega) hG14 (Fr.uA hF (by decide)) hk15 (row_set h9 rfl rfl) (by omega)
  exact L2 _ _ _ (by omega) (by omega) hG Fr.rf hA (fun x a b => by omega) (Nat.lt_succ_self _)
theorem dX12_laysMost_0 : decode cX12_laysMost 0 = .ok (.iconst 0, 1) := by decide +kernel
theorem dX12_laysMost_1 : decode cX12_laysMost 1 = .ok (.istore_n 1, 1) := by decide +kernel
theorem dX12_laysMost_2 : decode cX12_laysMost 2 = .ok (.iload_n 1, 1) := by decide +kernel
theorem dX12_laysMost_3 : decode cX12_laysMost 3 = .ok (.bipush 30, 2) := by decide +kernel
theorem dX12_laysMost_5 : decode cX12_laysMost 5 = .ok (.if_icmp .ge 16, 3) := by decide +kernel
theorem dX12_laysMost_8 : decode cX12_laysMost 8 = .ok (.aload_n 0, 1) := by decide +kernel
theorem dX12_laysMost_9 : decode cX12_laysMost 9 = .ok (.getfield 41, 3) := by decide +kernel
theorem dX12_laysMost_12 : decode cX12_laysMost 12 = .ok (.iload_n 1, 1) := by decide +kernel
theorem dX12_laysMost_13 : decode cX12_laysMost 13 = .ok (.iconst 0, 1) := by decide +kernel
theorem dX12_laysMost_14 : decode cX12_laysMost 14 = .ok (.iastore, 1) := by decide +kernel
theorem dX12_laysMost_15 : decode cX12_laysMost 15 = .ok (.iinc 1 1, 3) := by decide +kernel
theorem dX12_laysMost_18 : decode cX12_laysMost 18 = .ok (.goto (-16), 3) := by decide +kernel
theorem dX12_laysMost_21 : decode cX12_laysMost 21 = .ok (.iconst 0, 1) := by decide +kernel
theorem dX12_laysMost_22 : decode cX12_laysMost 22 = .ok (.istore_n 1, 1) := by decide +kernel
theorem dX12_laysMost_23 : decode cX12_laysMost 23 = .ok (.iload_n 1, 1) := by decide +kernel
theorem dX12_laysMost_24 : decode cX12_laysMost 24 = .ok (.iconst 5, 1) := by decide +kernel
theorem dX12_laysMost_25 : decode cX12_laysMost 25 = .ok (.if_icmp .ge 16, 3) := by decide +kernel
theorem dX12_laysMost_28 : decode cX12_laysMost 28 = .ok (.aload_n 0, 1) := by decide +kernel
theorem dX12_laysMost_29 : decode cX12_laysMost 29 = .ok (.getfield 44, 3) := by decide +kernel
theorem dX12_laysMost_32 : decode cX12_laysMost 32 = .ok (.iload_n 1, 1) := by decide +kernel
theorem dX12_laysMost_33 : decode cX12_laysMost 33 = .ok (.iconst 0, 1) := by decide +kernel
theorem dX12_laysMost_34 : decode cX12_laysMost 34 = .ok (.iastore, 1) := by decide +kernel
theorem dX12_laysMost_35 : decode cX12_laysMost 35 = .ok (.iinc 1 1, 3) := by decide +kernel
theorem dX12_laysMost_38 : decode cX12_laysMost 38 = .ok (.goto (-15), 3) := by decide +kernel
theorem dX12_laysMost_41 : decode cX12_laysMost 41 = .ok (.iconst 0, 1) := by decide +kernel
theorem dX12_laysMost_42 : decode cX12_laysMost 42 = .ok (.istore_n 1, 1) := by decide +kernel
theorem dX12_laysMost_43 : decode cX12_laysMost 43 = .ok (.bipush 9, 2) := by decide +kernel
theorem dX12_laysMost_45 : decode cX12_laysMost 45 = .ok (.istore_n 2, 1) := by decide +kernel
theorem dX12_laysMost_46 : decode cX12_laysMost 46 = .ok (.iload_n 2, 1) := by decide +kernel
theorem dX12_laysMost_47 : decode cX12_laysMost 47 = .ok (.ifCond .le 73, 3) := by decide +kernel
theorem dX12_laysMost_50 : decode cX12_laysMost 50 = .ok (.iconst 0, 1) := by decide +kernel
theorem dX12_laysMost_51 : decode cX12_laysMost 51 = .ok (.istore_n 3, 1) := by decide +kernel
theorem dX12_laysMost_52 : decode cX12_laysMost 52 = .ok (.iload_n 3, 1) := by decide +kernel
theorem dX12_laysMost_53 : decode cX12_laysMost 53 = .ok (.aload_n 0, 1) := by decide +kernel
theorem dX12_laysMost_54 : decode cX12_laysMost 54 = .ok (.getfield 102, 3) := by decide +kernel
theorem dX12_laysMost_57 : decode cX12_laysMost 57 = .ok (.if_icmp .ge 57, 3) := by decide +kernel
theorem dX12_laysMost_60 : decode cX12_laysMost 60 = .ok (.aload_n 0, 1) := by decide +kernel
theorem dX12_laysMost_61 : decode cX12_laysMost 61 = .ok (.getfield 13, 3) := by decide +kernel
theorem dX12_laysMost_64 : decode cX12_laysMost 64 = .ok (.iload_n 3, 1) := by decide +kernel
theorem dX12_laysMost_65 : decode cX12_laysMost 65 = .ok (.iaload, 1) := by decide +kernel
theorem dX12_laysMost_66 : decode cX12_laysMost 66 = .ok (.iload_n 2, 1) := by decide +kernel
theorem dX12_laysMost_67 : decode cX12_laysMost 67 = .ok (.if_icmp .eq 6, 3) := by decide +kernel
theorem dX12_laysMost_70 : decode cX12_laysMost 70 = .ok (.goto 38, 3) := by decide +kernel
theorem dX12_laysMost_73 : decode cX12_laysMost 73 = .ok (.iconst 0, 1) := by decide +kernel
theorem dX12_laysMost_74 : decode cX12_laysMost 74 = .ok (.istore 4, 2) := by decide +kernel
theorem dX12_laysMost_76 : decode cX12_laysMost 76 = .ok (.iload 4, 2) := by decide +kernel
theorem dX12_laysMost_78 : decode cX12_laysMost 78 = .ok (.aload_n 0, 1) := by decide +kernel
theorem dX12_laysMost_79 : decode cX12_laysMost 79 = .ok (.getfield 35, 3) := by decide +kernel
theorem dX12_laysMost_82 : decode cX12_laysMost 82 = .ok (.iload_n 3, 1) := by decide +kernel
theorem dX12_laysMost_83 : decode cX12_laysMost 83 = .ok (.iaload, 1) := by decide +kernel
theorem dX12_laysMost_84 : decode cX12_laysMost 84 = .ok (.if_icmp .ge 17, 3) := by decide +kernel
theorem dX12_laysMost_87 : decode cX12_laysMost 87 = .ok (.aload_n 0, 1) := by decide +kernel
theorem dX12_laysMost_88 : decode cX12_laysMost 88 = .ok (.iload_n 3, 1) := by decide +kernel
theorem dX12_laysMost_89 : decode cX12_laysMost 89 = .ok (.invokevirtual 157, 3) := by decide +kernel
theorem dX12_laysMost_92 : decode cX12_laysMost 92 = .ok (.ifCond .eq 9, 3) := by decide +kernel
theorem dX12_laysMost_95 : decode cX12_laysMost 95 = .ok (.iinc 4 1, 3) := by decide +kernel
theorem dX12_laysMost_98 : decode cX12_laysMost 98 = .ok (.goto (-22), 3) := by decide +kernel
theorem dX12_laysMost_101 : decode cX12_laysMost 101 = .ok (.iload_n 1, 1) := by decide +kernel
theorem dX12_laysMost_102 : decode cX12_laysMost 102 = .ok (.iload 4, 2) := by decide +kernel
theorem dX12_laysMost_104 : decode cX12_laysMost 104 = .ok (.iload_n 2, 1) := by decide +kernel
theorem dX12_laysMost_105 : decode cX12_laysMost 105 = .ok (.imul, 1) := by decide +kernel
theorem dX12_laysMost_106 : decode cX12_laysMost 106 = .ok (.iadd, 1) := by decide +kernel
theorem dX12_laysMost_107 : decode cX12_laysMost 107 = .ok (.istore_n 1, 1) := by decide +kernel
theorem dX12_laysMost_108 : decode cX12_laysMost 108 = .ok (.iinc 3 1, 3) := by decide +kernel
theorem dX12_laysMost_111 : decode cX12_laysMost 111 = .ok (.goto (-59), 3) := by decide +kernel
theorem dX12_laysMost_114 : decode cX12_laysMost 114 = .ok (.iinc 2 (-1), 3) := by decide +kernel
theorem dX12_laysMost_117 : decode cX12_laysMost 117 = .ok (.goto (-71), 3) := by decide +kernel
theorem dX12_laysMost_120 : decode cX12_laysMost 120 = .ok (.iload_n 1, 1) := by decide +kernel
theorem dX12_laysMost_121 : decode cX12_laysMost 121 = .ok (.ireturn, 1) := by decide +kernel
set_option maxHeartbeats 1000000 in
theorem c12_laysMost {G : Gl} {l : Launch}  {M : Mem} {I : Ins} (hG : GR M) (hA : MA M I) (hIb : IB I) : Ct G LY 82 l 3 m12_laysMost [vR 57] M (RP (fun v M' => Fr [67, 68, 69, 70, 71] [] M M' ∧ v = sumMC I)) := by
  refine R_start (by decide +kernel) (Nat.le_of_ble_eq_true rfl) (fun C hC hRm hlau => ?_)
  show RZ G LY C (Zn G LY 82 C (RP (fun v M' => Fr [67, 68, 69, 70, 71] [] M M' ∧ v = sumMC I))) 0 0 82 0 [some (vR 57), none, none, none, none] [] M
  have hL := hIb.1
  have hW := hIb.2.1
  refine R_iconst hC dX12_laysMost_0 ⟨by decide, by decide⟩ ?_
  refine R_istore_1 hC dX12_laysMost_1 rfl ?_
  have L2 : ∀ (mq : Nat) (i : Int) (M1 : Mem), (0 ≤ i) → (i ≤ 30) → (GR M1) → (Fr [67, 68, 69, 70, 71] [] M M1) → (MA M1 I) → (∀ x, 0 ≤ x → x < i → M1 67 x = 0) → (30 - i).toNat < mq → RZ G LY C (Zn G LY 82 C (RP (fun v M' => Fr [67, 68, 69, 70, 71] [] M M' ∧ v = sumMC I))) 0 0 82 2 [some (vR 57), some (vI i), none, none, none] [] M1 := by
    intro mq
    induction mq with
    | zero =>
      intro i M1 hi0 hi1 hg hF hA1 h7 hm
      exact absurd hm (Nat.not_lt_zero _)
    | succ mq ih2 =>
      intro i M1 hi0 hi1 hg hF hA1 h7 hm2
      refine R_iload_1 hC dX12_laysMost_2 ?_
      refine R_bipush hC dX12_laysMost_3 (by decide +kernel) ⟨by decide, by decide⟩ ?_
      refine R_icmp_ge hC dX12_laysMost_5 (tgt := 21) (by decide) (fun hb5 => ?_) (fun hb5 => ?_)
      · skip
        refine R_iconst hC dX12_laysMost_21 ⟨by decide, by decide⟩ ?_
        refine R_istore_1 hC dX12_laysMost_22 rfl ?_
        have L23 : ∀ (mq : Nat) (j : Int) (M2 : Mem), (0 ≤ j) → (j ≤ 5) → (GR M2) → (Fr [67, 68, 69, 70, 71] [] M M2) → (MA M2 I) → (∀ x, 0 ≤ x → x < 30 → M2 67 x = 0) → (∀ x, 0 ≤ x → x < j → M2 68 x = 0) → (5 - j).toNat < mq → RZ G LY C (Zn G LY 82 C (RP (fun v M' => Fr [67, 68, 69, 70, 71] [] M M' ∧ v = sumMC I))) 0 0 82 23 [some (vR 57), some (vI j), none, none, none] [] M2 := by
          intro mq
          induction mq with
          | zero =>
            intro j M2 hj0 hj1 hg2 hF2 hA2 h72 h82 hm
            exact absurd hm (Nat.not_lt_zero _)
          | succ mq ih23 =>
            intro j M2 hj0 hj1 hg2 hF2 hA2 h72 h82 hm23
            refine R_iload_1 hC dX12_laysMost_23 ?_
            refine R_iconst hC dX12_laysMost_24 ⟨by decide, by decide⟩ ?_
            refine R_icmp_ge hC dX12_laysMost_25 (tgt := 41) (by decide) (fun hb25 => ?_) (fun hb25 => ?_)
            · skip
              refine R_iconst hC dX12_laysMost_41 ⟨by decide, by decide⟩ ?_
              refine R_istore_1 hC dX12_laysMost_42 rfl ?_
              refine R_bipush hC dX12_laysMost_43 (by decide +kernel) ⟨by decide, by decide⟩ ?_
              refine R_istore_2 hC dX12_laysMost_45 rfl ?_
              have L46 : ∀ (mq : Nat) (sp : Int) (s : Int) (M3 : Mem), (0 ≤ s) → (s ≤ 9) → (0 ≤ sp) → (sp ≤ (9 - s) * 60000) → (GR M3) → (Fr [67, 68, 69, 70, 71] [] M M3) → (MA M3 I) → (LQ I M3 s 0 sp) → (s).toNat < mq → RZ G LY C (Zn G LY 82 C (RP (fun v M' => Fr [67, 68, 69, 70, 71] [] M M' ∧ v = sumMC I))) 0 0 82 46 [some (vR 57), some (vI sp), some (vI s), none, none] [] M3 := by
                intro mq
                induction mq with
                | zero =>
                  intro sp s M3 hs0 hs1 hp0 hp1 hg3 hF3 hA3 hLQ hm
                  exact absurd hm (Nat.not_lt_zero _)
                | succ mq ih46 =>
                  intro sp s M3 hs0 hs1 hp0 hp1 hg3 hF3 hA3 hLQ hm46
                  refine R_iload_2 hC dX12_laysMost_46 ?_
                  refine R_if_le hC dX12_laysMost_47 (tgt := 120) (by decide) (fun hb47 => ?_) (fun hb47 => ?_)
                  · skip
                    refine R_iload_1 hC dX12_laysMost_120 ?_
                    exact R_ireturn hC dX12_laysMost_121 rfl (ret_P ⟨hF3, by (have z : s = 0 := (by omega); rw [z] at hLQ; exact hLQ.end hIb)⟩)
                  · skip
                    refine R_iconst hC dX12_laysMost_50 ⟨by decide, by decide⟩ ?_
                    refine R_istore_3 hC dX12_laysMost_51 rfl ?_
                    have L52 : ∀ (mq : Nat) (sp2 : Int) (u : Int) (M4 : Mem), (0 ≤ u) → (u ≤ iW I) → (0 ≤ sp2) → (sp2 ≤ (9 - s) * 60000 + u * 9000) → (GR M4) → (Fr [67, 68, 69, 70, 71] [] M M4) → (MA M4 I) → (LQ I M4 s u sp2) → (iW I - u).toNat < mq → RZ G LY C (Zn G LY 82 C (RP (fun v M' => Fr [67, 68, 69, 70, 71] [] M M' ∧ v = sumMC I))) 0 0 82 52 [some (vR 57), some (vI sp2), some (vI s), some (vI u), none] [] M4 := by
                      intro mq
                      induction mq with
                      | zero =>
                        intro sp2 u M4 hu0 hu1 hq0 hq1 hg4 hF4 hA4 hLQ4 hm
                        exact absurd hm (Nat.not_lt_zero _)
                      | succ mq ih52 =>
                        intro sp2 u M4 hu0 hu1 hq0 hq1 hg4 hF4 hA4 hLQ4 hm52
                        refine R_iload_3 hC dX12_laysMost_52 ?_
                        refine R_aload_0 hC dX12_laysMost_53 ?_
                        refine R_getIE hC dX12_laysMost_54 fl_12_102 (by decide) rfl (by decide) (by decide) (fi := 6) rfl hA4.1.2 ?_
                        refine R_icmp_ge hC dX12_laysMost_57 (tgt := 114) (by decide) (fun hb57 => ?_) (fun hb57 => ?_)
                        · skip
                          refine R_iinc_2 hC dX12_laysMost_114 rfl ⟨by omega, by omega⟩ ?_
                          refine R_goto hC dX12_laysMost_117 (tgt := 46) (by decide) ?_
                          refine R_weak (subL_c (subL_c (subL_c (subL_d (subL_c subL_n))))) ?_
                          exact ih46 _ _ _ (by omega) (by omega) (by omega) (by omega) hg4 hF4 hA4 (by (have z : u = iW I := (by omega); rw [z] at hLQ4; exact hLQ4.next hIb)) (by omega)
                        · skip
                          refine R_aload_0 hC dX12_laysMost_60 ?_
                          refine R_getR hC dX12_laysMost_61 fl_12_13 (by decide) rfl (by decide) (by decide) (fi := 1) rfl (r := 59) (gr_57_1 hg4) ?_
                          refine R_iload_3 hC dX12_laysMost_64 ?_
                          refine R_ialoadE hC dX12_laysMost_65 (by decide) rfl (by omega) (by omega) (hA4.z u (by omega) (by omega)) ?_
                          refine R_iload_2 hC dX12_laysMost_66 ?_
                          refine R_icmp_eq hC dX12_laysMost_67 (tgt := 73) (by decide) (fun hb67 => ?_) (fun hb67 => ?_)
                          · skip
                            have hz : iZ I u = s := hb67
                            refine R_iconst hC dX12_laysMost_73 ⟨by decide, by decide⟩ ?_
                            refine R_istore_4 hC dX12_laysMost_74 rfl ?_
                            have L76 : ∀ (mq : Nat) (n : Int) (M5 : Mem), (0 ≤ n) → (n ≤ iS I u) → (GR M5) → (Fr [67, 68, 69, 70, 71] [] M M5) → (MA M5 I) → (LI I M5 s u n sp2) → (iS I u - n).toNat < mq → RZ G LY C (Zn G LY 82 C (RP (fun v M' => Fr [67, 68, 69, 70, 71] [] M M' ∧ v = sumMC I))) 0 0 82 76 [some (vR 57), some (vI sp2), some (vI s), some (vI u), some (vI n)] [] M5 := by
                              intro mq
                              induction mq with
                              | zero =>
                                intro n M5 hn0 hn1 hg5 hF5 hA5 hLI hm
                                exact absurd hm (Nat.not_lt_zero _)
                              | succ mq ih76 =>
                                intro n M5 hn0 hn1 hg5 hF5 hA5 hLI hm76
                                have bS := (hIb.2.2.2.1 u hu0 (by omega)).1
                                have bns := mul_bd hn0 (show n ≤ 1000 by omega) hs0 hs1
                                refine R_iload_4 hC dX12_laysMost_76 ?_
                                refine R_aload_0 hC dX12_laysMost_78 ?_
                                refine R_getR hC dX12_laysMost_79 fl_12_35 (by decide) rfl (by decide) (by decide) (fi := 20) rfl (r := 65) (gr_57_20 hg5) ?_
                                refine R_iload_3 hC dX12_laysMost_82 ?_
                                refine R_ialoadE hC dX12_laysMost_83 (by decide) rfl (by omega) (by omega) (hA5.s u (by omega) (by omega)) ?_
                                refine R_icmp_ge hC dX12_laysMost_84 (tgt := 101) (by decide) (fun hb84 => ?_) (fun hb84 => ?_)
                                · skip
                                  have hLQ9 := hLI.full hz (by omega) hu0 (by omega)
                                  have hq0n : 0 ≤ sp2 + n * s := by omega
                                  have hq1n : sp2 + n * s ≤ (9 - s) * 60000 + (u + 1) * 9000 := by omega
                                  refine R_iload_1 hC dX12_laysMost_101 ?_
                                  refine R_iload_4 hC dX12_laysMost_102 ?_
                                  refine R_iload_2 hC dX12_laysMost_104 ?_
                                  refine R_imul hC dX12_laysMost_105 ⟨by omega, by omega⟩ ?_
                                  refine R_iadd hC dX12_laysMost_106 ⟨by omega, by omega⟩ ?_
                                  refine R_istore_1 hC dX12_laysMost_107 rfl ?_
                                  refine R_iinc_3 hC dX12_laysMost_108 rfl ⟨by omega, by omega⟩ ?_
                                  refine R_goto hC dX12_laysMost_111 (tgt := 52) (by decide) ?_
                                  refine R_weak (subL_c (subL_c (subL_c (subL_c (subL_d subL_n))))) ?_
                                  exact ih52 _ _ _ (by omega) (by omega) hq0n hq1n hg5 (by first | exact hF4 | exact hF5 | exact Fr.tt hF5 {qg}.1) hA5 hLQ9 (by omega)
                                · skip
                                  refine R_aload_0 hC dX12_laysMost_87 ?_
                                  refine R_iload_3 hC dX12_laysMost_88 ?_
                                  refine R_callVp (as := [vI _]) hC dX12_laysMost_89 mo_12_goesOne ml_12_157 (by decide) rfl rfl (c12_goesOne  hg5 hA5 hIb hLI.1.1 (by omega) (by omega)) rfl rfl hRm (by decide) (by decide) (Nat.le_of_ble_eq_true rfl) (fun v3 Mc1 hq2 => ?_)
                                  refine R_if_eq hC dX12_laysMost_92 (tgt := 101) (by decide) (fun hb92 => ?_) (fun hb92 => ?_)
                                  · skip
                                    have hLQ9 := hLI.fail hz hu0 (by omega) (hq2.2.elim (fun z => absurd (z.1.symm.trans hb92) (by decide)) (fun z => z.2))
                                    have hq0n : 0 ≤ sp2 + n * s := by omega
                                    have hq1n : sp2 + n * s ≤ (9 - s) * 60000 + (u + 1) * 9000 := by omega
                                    refine R_iload_1 hC dX12_laysMost_101 ?_
                                    refine R_iload_4 hC dX12_laysMost_102 ?_
                                    refine R_iload_2 hC dX12_laysMost_104 ?_
                                    refine R_imul hC dX12_laysMost_105 ⟨by omega, by omega⟩ ?_
                                    refine R_iadd hC dX12_laysMost_106 ⟨by omega, by omega⟩ ?_
                                    refine R_istore_1 hC dX12_laysMost_107 rfl ?_
                                    refine R_iinc_3 hC dX12_laysMost_108 rfl ⟨by omega, by omega⟩ ?_
                                    refine R_goto hC dX12_laysMost_111 (tgt := 52) (by decide) ?_
                                    refine R_weak (subL_c (subL_c (subL_c (subL_c (subL_d subL_n))))) ?_
                                    have hG4 : GR Mc1 := (GR.fr hg5 hq2.1 (by decide +kernel))
                                    have hk5 : MA Mc1 I := (MA.fr hA5 hq2.1 (by decide +kernel))
                                    exact ih52 _ _ _ (by omega) (by omega) hq0n hq1n hG4 (by first | exact hF4 | exact hF5 | exact Fr.tt hF5 hq2.1) hk5 hLQ9 (by omega)
                                  · skip
                                    refine R_iinc_4 hC dX12_laysMost_95 rfl ⟨by omega, by omega⟩ ?_
                                    refine R_goto hC dX12_laysMost_98 (tgt := 76) (by decide) ?_
                                    have hG6 : GR Mc1 := (GR.fr hg5 hq2.1 (by decide +kernel))
                                    have hk7 : MA Mc1 I := (MA.fr hA5 hq2.1 (by decide +kernel))
                                    exact ih76 _ _ (by omega) (by omega) hG6 (Fr.tt hF5 hq2.1) hk7 (hLI.more hIb hz hu0 (by omega) (by omega) (hq2.2.elim (fun z => z.2) (fun z => absurd z.1 hb92))) (by omega)
                            have bS := (hIb.2.2.2.1 u hu0 (by omega)).1
                            exact L76 _ _ _ (by omega) (by omega) hg4 hF4 hA4 (hLQ4.in hz hu0 (by omega)) (Nat.lt_succ_self _)
                          · skip
                            have hLQ9 := hLQ4.skip hb67
                            have hq0n := hq0
                            have hq1n : sp2 ≤ (9 - s) * 60000 + (u + 1) * 9000 := by omega
                            refine R_goto hC dX12_laysMost_70 (tgt := 108) (by decide) ?_
                            refine R_iinc_3 hC dX12_laysMost_108 rfl ⟨by omega, by omega⟩ ?_
                            refine R_goto hC dX12_laysMost_111 (tgt := 52) (by decide) ?_
                            exact ih52 _ _ _ (by omega) (by omega) hq0n hq1n hg4 (by first | exact hF4 | exact hF5 | exact Fr.tt hF5 {qg}.1) hA4 hLQ9 (by omega)
                    exact L52 _ _ _ _ (by omega) (by omega) (by omega) (by omega) hg3 hF3 hA3 hLQ (Nat.lt_succ_self _)
              exact L46 _ _ _ _ (by omega) (by omega) (by omega) (by omega) hg2 hF2 hA2 (LQ.start hIb (fun k p q => h72 k p (by omega)) (fun k p q => h82 k p (by omega))) (Nat.lt_succ_self _)
            · skip
              refine R_aload_0 hC dX12_laysMost_28 ?_
              refine R_getR hC dX12_laysMost_29 fl_12_44 (by decide) rfl (by decide) (by decide) (fi := 25) rfl (r := 68) (gr_57_25 hg2) ?_
              refine R_iload_1 hC dX12_laysMost_32 ?_
              refine R_iconst hC dX12_laysMost_33 ⟨by decide, by decide⟩ ?_
              refine R_iastore hC dX12_laysMost_34 (by decide) rfl (by omega) (by omega) ?_
              refine R_iinc_1 hC dX12_laysMost_35 rfl ⟨by omega, by omega⟩ ?_
              refine R_goto hC dX12_laysMost_38 (tgt := 23) (by decide) ?_
              have hG8 : GR (uM M2 68 j 0) := (GR.uA hg2 (by decide +kernel) (.inl (by decide)))
              have hk9 : MA (uM M2 68 j 0) I := (MA.u hA2 (by decide))
              exact ih23 _ _ (by omega) (by omega) hG8 (Fr.uA hF2 (by decide)) hk9 (fun x a b => (uM_h (by decide)).trans (h72 x a b)) (row_set h82 rfl rfl) (by omega)
        exact L23 _ _ _ (by omega) (by omega) hg hF hA1 (fun x a b => h7 x a (by omega)) (fun x a b => by omega) (Nat.lt_succ_self _)
      · skip
        refine R_aload_0 hC dX12_laysMost_8 ?_
        refine R_getR hC dX12_laysMost_9 fl_12_41 (by decide) rfl (by decide) (by decide) (fi := 24) rfl (r := 67) (gr_57_24 hg) ?_
        refine R_iload_1 hC dX12_laysMost_12 ?_
        refine R_iconst hC dX12_laysMost_13 ⟨by decide, by decide⟩ ?_
        refine R_iastore hC dX12_laysMost_14 (by decide) rfl (by omega) (by omega) ?_
        refine R_iinc_1 hC dX12_laysMost_15 rfl ⟨by omega, by omega⟩ ?_
        refine R_goto hC dX12_laysMost_18 (tgt := 2) (by decide) ?_
        have hG10 : GR (uM M1 67 i 0) := (GR.uA hg (by decide +kernel) (.inl (by decide)))
        have hk11 : MA (uM M1 67 i 0) I := (MA.u hA1 (by decide))
        exact ih2 _ _ (by omega) (by omega) hG10 (Fr.uA hF (by decide)) hk11 (row_set h7 rfl rfl) (by omega)
  exact L2 _ _ _ (by omega) (by omega) hG Fr.rf hA (fun x a b => by omega) (Nat.lt_succ_self _)
