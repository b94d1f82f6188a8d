/-! BY TURNS and ORDERS, copy by copy -/
theorem RK.lt {n : Int} {z b : Int → Int} (h : RK n z b) {i : Int} (i0 : 0 ≤ i) : ∀ (m : Nat), i + 1 + m < n → z (b (i + 1 + m)) < z (b i) ∨ (z (b (i + 1 + m)) = z (b i) ∧ b i < b (i + 1 + m))
  | 0, hm => by
    have a := h.2.1 i i0 (by omega)
    rw [show i + 1 + ((0 : Nat) : Int) = i + 1 by omega]
    by_cases q : z (b (i + 1)) = z (b i)
    · exact .inr ⟨q, h.2.2.2 i i0 (by omega) q⟩
    · exact .inl (by omega)
  | m + 1, hm => by
    have r := RK.lt h i0 m (by omega)
    have a := h.2.1 (i + 1 + m) (by omega) (by omega)
    rw [show i + 1 + ((m + 1 : Nat) : Int) = i + 1 + m + 1 by omega]
    by_cases q : z (b (i + 1 + m + 1)) = z (b (i + 1 + m))
    · have := h.2.2.2 (i + 1 + m) (by omega) (by omega) q
      omega
    · omega
theorem RK.lt2 {n : Int} {z b : Int → Int} (h : RK n z b) {i j : Int} (i0 : 0 ≤ i) (ij : i < j) (j1 : j < n) : z (b j) < z (b i) ∨ (z (b j) = z (b i) ∧ b i < b j) := by
  have := h.lt i0 (j - i - 1).toNat (by omega)
  rw [show i + 1 + (((j - i - 1).toNat : Nat) : Int) = j by omega] at this
  exact this
/-- the work of greatest SIZE among those below n that may go -/
def GT (o s z : Int → Int) (n v : Int) : Prop := (v = -1 ∧ ∀ w, 0 ≤ w → w < n → ¬ (0 < o w ∧ 0 < s w)) ∨ ((0 ≤ v ∧ v < n) ∧ (0 < o v ∧ 0 < s v) ∧ ∀ w, 0 ≤ w → w < n → 0 < o w ∧ 0 < s w → z w < z v ∨ (z w = z v ∧ v ≤ w))
def tkn (I : Ins) (b : Int → Int) (x : Int) (s : Int → Int) (i p j : Int) : Int := if j < i then mny I b x s j else if j = i then p else 0
def ST (I : Ins) (b : Int → Int) (x : Int) (s o' s' : Int → Int) (n sp i p : Int) : Prop := (0 ≤ i ∧ i ≤ iW I) ∧ (0 ≤ p ∧ p ≤ if i < iW I then mny I b x s i else 0) ∧ (∀ j, 0 ≤ j → j < iW I → o' (b j) = iO I x (b j) - tkn I b x s i p j ∧ s' (b j) = s (b j) - tkn I b x s i p j) ∧
  iM I x - n = (wl I b x s i.toNat).1 - p ∧ sp = (wl I b x s i.toNat).2 + p * iZ I (b i)
section STS
variable {I : Ins} {b : Int → Int} {x : Int} {s o' s' : Int → Int} {n sp i p : Int}
theorem ST.next (hN : ∀ j, 0 ≤ j → j < iW I → 0 ≤ mny I b x s j) (h : ST I b x s o' s' n sp i p) (hi : i < iW I) (hp : p = mny I b x s i) : ST I b x s o' s' n sp (i + 1) 0 := by
  obtain ⟨a, c, e, f, g⟩ := h
  have w := wl_s (I := I) (b := b) (x := x) (s := s) a.1 (j := i + 1) rfl
  refine ⟨by omega, ⟨Int.le_refl _, ?_⟩, fun j j0 j1 => ?_, ?_, ?_⟩
  · by_cases q : i + 1 < iW I
    · rw [if_pos q]
      exact hN (i + 1) (by omega) q
    · rw [if_neg q]; exact Int.le_refl _
  · have t : tkn I b x s (i + 1) 0 j = tkn I b x s i p j := by
      unfold tkn
      by_cases q : j < i
      · rw [if_pos q, if_pos (by omega)]
      · rw [if_neg q]
        by_cases r : j = i
        · rw [if_pos r, if_pos (by omega), r, hp]
        · rw [if_neg r, if_neg (by omega)]
          split <;> rfl
    rw [t]
    exact e j j0 j1
  · rw [w]; dsimp only; omega
  · rw [w, Int.zero_mul, Int.add_zero, g, hp]
theorem ST.full (h : ST I b x s o' s' n sp i p) (hi : i < iW I) (hu : ¬ (0 < o' (b i) ∧ 0 < s' (b i)) ∨ n = iM I x) : p = mny I b x s i := by
  obtain ⟨a, c, e, f, g⟩ := h
  rw [if_pos hi] at c
  have e := e i a.1 hi
  have t : tkn I b x s i p i = p := by unfold tkn; rw [if_neg (Int.lt_irrefl _), if_pos rfl]
  rw [t] at e
  unfold mny at c ⊢
  omega
theorem ST.adv (hN : ∀ j, 0 ≤ j → j < iW I → 0 ≤ mny I b x s j) : ∀ (d : Nat) (i p : Int), ST I b x s o' s' n sp i p → i + d ≤ iW I → (∀ j, i ≤ j → j < i + d → ¬ (0 < o' (b j) ∧ 0 < s' (b j)) ∨ n = iM I x) → ∃ q, ST I b x s o' s' n sp (i + d) q
  | 0, i, p, h, _, _ => ⟨p, by rw [show i + ((0 : Nat) : Int) = i by omega]; exact h⟩
  | d + 1, i, p, h, hd, hu => by
    have hp := h.full (by omega) (hu i (Int.le_refl _) (by omega))
    obtain ⟨q, g⟩ := ST.adv hN d (i + 1) 0 (h.next hN (by omega) hp) (by omega) (fun j a c => hu j (by omega) (by omega))
    exact ⟨q, by rw [show i + ((d + 1 : Nat) : Int) = i + 1 + d by omega]; exact g⟩
theorem wl_mono (hN : ∀ j, 0 ≤ j → j < iW I → 0 ≤ mny I b x s j) {j : Int} (j0 : 0 ≤ j) : ∀ d : Nat, j + d ≤ iW I → (wl I b x s (j + d).toNat).1 ≤ (wl I b x s j.toNat).1
  | 0, _ => by rw [show j + ((0 : Nat) : Int) = j by omega]; exact Int.le_refl _
  | d + 1, hd => by
    have a := wl_mono hN j0 d (by omega)
    have w := wl_s (I := I) (b := b) (x := x) (s := s) (i := j + d) (j := j + ((d + 1 : Nat) : Int)) (by omega) (by omega)
    have := hN (j + d) (by omega) (by omega)
    rw [w]
    dsimp only
    omega
/-- what is done is done, as long as more may be withdrawn -/
theorem ST.done (hN : ∀ j, 0 ≤ j → j < iW I → 0 ≤ mny I b x s j) (h : ST I b x s o' s' n sp i p) (hn : n < iM I x) {j : Int} (j0 : 0 ≤ j) (ji : j < i) : ¬ (0 < o' (b j) ∧ 0 < s' (b j)) := by
  obtain ⟨a, c, e, f, g⟩ := h
  have e := e j j0 (by omega)
  have t : tkn I b x s i p j = mny I b x s j := if_pos ji
  rw [t] at e
  have w := wl_s (I := I) (b := b) (x := x) (s := s) j0 (j := j + 1) rfl
  have m := wl_mono hN (j := j + 1) (by omega) (i - j - 1).toNat (by omega)
  rw [show j + 1 + (((i - j - 1).toNat : Nat) : Int) = i by omega, w] at m
  dsimp only at m
  intro z
  unfold mny at e m
  omega
theorem ST.bd (hN : ∀ j, 0 ≤ j → j < iW I → 0 ≤ mny I b x s j) (h : ST I b x s o' s' n sp i p) {j : Int} (j0 : 0 ≤ j) (j1 : j < iW I) : o' (b j) ≤ iO I x (b j) ∧ s' (b j) ≤ s (b j) := by
  obtain ⟨a, c, e, f, g⟩ := h
  have e := e j j0 j1
  have t : 0 ≤ tkn I b x s i p j := by
    unfold tkn
    split
    · exact hN j j0 j1
    · split <;> omega
  omega
/-- a copy more -/
theorem ST.more (hI : IB I) (hb : RK (iW I) (iZ I) b) (hN : ∀ j, 0 ≤ j → j < iW I → 0 ≤ mny I b x s j) (h : ∃ i p, ST I b x s o' s' n sp i p) (hn : n < iM I x) {v : Int} (hv : v ≠ -1) (hg : GT o' s' (iZ I) (iW I) v) {o2 s2 : Int → Int} (ho : ∀ u, o2 u = if u = v then o' v - 1 else o' u) (hs : ∀ u, s2 u = if u = v then s' v - 1 else s' u) : ∃ i p, ST I b x s o2 s2 (n + 1) (sp + iZ I v) i p := by
  obtain ⟨i, p, h⟩ := h
  rcases hg with ⟨z, _⟩ | ⟨hr, ha, hm⟩
  · exact absurd z hv
  obtain ⟨k, k0, k1, hk⟩ := hb.sur hr.1 hr.2
  subst hk
  have before : ∀ j, 0 ≤ j → j < k → ¬ (0 < o' (b j) ∧ 0 < s' (b j)) := fun j j0 jk z => by
    have q := hb.lt2 j0 jk k1
    have bj := hb.1 j j0 (by omega)
    have := hm (b j) bj.1 bj.2 z
    omega
  have ik : i ≤ k := Classical.byContradiction (fun z => h.done hN hn k0 (by omega) ha)
  obtain ⟨q, g⟩ := ST.adv hN (k - i).toNat i p h (by have := h.1; omega) (fun j a c => .inl (before j (by have := h.1; omega) (by omega)))
  rw [show i + (((k - i).toNat : Nat) : Int) = k by have := h.1; omega] at g
  obtain ⟨a, c, e, f, gs⟩ := g
  rw [if_pos k1] at c
  have ek := e k k0 k1
  have t : tkn I b x s k q k = q := by unfold tkn; rw [if_neg (Int.lt_irrefl _), if_pos rfl]
  rw [t] at ek
  refine ⟨k, q + 1, a, ⟨by omega, ?_⟩, fun j j0 j1 => ?_, by omega, ?_⟩
  · rw [if_pos k1]
    unfold mny at c ⊢
    omega
  · rw [ho, hs]
    have e := e j j0 j1
    by_cases r : j = k
    · subst r
      rw [if_pos rfl, if_pos rfl]
      unfold tkn at e ⊢
      rw [if_neg (Int.lt_irrefl _), if_pos rfl] at e ⊢
      omega
    · have ne : b j ≠ b k := by
        rcases Int.lt_or_gt_of_ne r with z | z
        · exact hb.inj j0 z k1
        · exact Ne.symm (hb.inj k0 z j1)
      rw [if_neg ne, if_neg ne]
      unfold tkn at e ⊢
      rw [if_neg r] at e ⊢
      exact e
  · rw [gs, Int.add_mul, Int.one_mul]
    omega
/-- no copy more -/
theorem ST.fin (hb : RK (iW I) (iZ I) b) (hN : ∀ j, 0 ≤ j → j < iW I → 0 ≤ mny I b x s j) (h : ∃ i p, ST I b x s o' s' n sp i p) (hW : 0 ≤ iW I) (hu : n = iM I x ∨ ∀ w, 0 ≤ w → w < iW I → ¬ (0 < o' w ∧ 0 < s' w)) : n = wdw I b x s ∧ sp = wnn I b x s ∧ ∀ w, 0 ≤ w → w < iW I → s' w = sN I b x s w := by
  obtain ⟨i, p, h⟩ := h
  obtain ⟨q, g⟩ := ST.adv hN (iW I - i).toNat i p h (by have := h.1; omega) (fun j a c => by
    rcases hu with z | z
    · exact .inr z
    · have bj := hb.1 j (by have := h.1; omega) (by have := h.1; omega)
      exact .inl (z _ bj.1 bj.2))
  rw [show i + (((iW I - i).toNat : Nat) : Int) = iW I by have := h.1; omega] at g
  obtain ⟨a, c, e, f, gs⟩ := g
  rw [if_neg (Int.lt_irrefl _)] at c
  have q0 : q = 0 := by omega
  subst q0
  refine ⟨by unfold wdw; omega, by unfold wnn; rw [gs, Int.zero_mul, Int.add_zero], fun w w0 w1 => ?_⟩
  obtain ⟨k, k0, k1, rfl⟩ := hb.sur w0 w1
  rw [(e k k0 k1).2, sN_at hb k0 k1]
  unfold tkn
  rw [if_pos k1]
theorem ST.start (hN : ∀ j, 0 ≤ j → j < iW I → 0 ≤ mny I b x s j) (hb : RK (iW I) (iZ I) b) (hW : 0 ≤ iW I) (ho : ∀ w, 0 ≤ w → w < iW I → o' w = iO I x w) (hs : ∀ w, 0 ≤ w → w < iW I → s' w = s w) : ∃ i p, ST I b x s o' s' 0 0 i p := by
  refine ⟨0, 0, ⟨Int.le_refl _, hW⟩, ⟨Int.le_refl _, ?_⟩, fun j j0 j1 => ?_, ?_, ?_⟩
  · by_cases q : 0 < iW I
    · rw [if_pos q]; exact hN 0 (Int.le_refl _) q
    · rw [if_neg q]; exact Int.le_refl _
  · have bj := hb.1 j j0 j1
    have t : tkn I b x s 0 0 j = 0 := by unfold tkn; rw [if_neg (by omega)]; split <;> rfl
    rw [t, Int.sub_zero, Int.sub_zero]
    exact ⟨ho _ bj.1 bj.2, hs _ bj.1 bj.2⟩
  · show iM I x - 0 = iM I x - 0
    rfl
  · show (0 : Int) = 0 + 0 * _
    rw [Int.zero_mul]; rfl
end STS
/-! an order -/
def oS (I : Ins) (b od : Int → Int) : Nat → Int → Int
  | 0 => iS I
  | k + 1 => sN I b (od k) (oS I b od k)
def oP (I : Ins) (b od : Int → Int) (k : Nat) : Int := sm k (fun j => wnn I b (od j) (oS I b od j.toNat))
def oL (I : Ins) (b od : Int → Int) (k x : Int) : Prop := ∃ j, 0 ≤ j ∧ j < k ∧ od j = x ∧ wdw I b x (oS I b od j.toNat) < iN I x
def oR (L : Int) (od : Int → Int) : Prop := (∀ k, 0 ≤ k → k < L → 0 ≤ od k ∧ od k < L) ∧ ∀ j k, 0 ≤ j → j < k → k < L → od j ≠ od k
section ORD
variable {I : Ins} {b od : Int → Int}
theorem oS_s {k j : Int} (h : 0 ≤ k) (hj : j = k + 1) : oS I b od j.toNat = sN I b (od k) (oS I b od k.toNat) := by
  subst hj
  rw [show (k + 1).toNat = k.toNat + 1 by omega, oS, Int.toNat_of_nonneg h]
theorem oS_bd (hI : IB I) (hb : RK (iW I) (iZ I) b) (hr : ∀ k, 0 ≤ k → k < iL I → 0 ≤ od k ∧ od k < iL I) : ∀ k : Nat, (k : Int) ≤ iL I → ∀ w, 0 ≤ w → w < iW I → 0 ≤ oS I b od k w ∧ oS I b od k w ≤ 1000
  | 0, _ => fun w w0 w1 => (hI.2.2.2.1 w w0 w1).1
  | k + 1, h => fun w w0 w1 => sN_bd hI hb (x := od k) (hr k (by omega) (by omega)).1 (hr k (by omega) (by omega)).2 (oS_bd hI hb hr k (by omega)) w w0 w1
theorem oP_bd (hI : IB I) (hb : RK (iW I) (iZ I) b) (hr : ∀ k, 0 ≤ k → k < iL I → 0 ≤ od k ∧ od k < iL I) {k : Int} (k0 : 0 ≤ k) (k1 : k ≤ iL I) : 0 ≤ oP I b od k.toNat ∧ oP I b od k.toNat ≤ 5 * 162 :=
  sm_bd2 162 k0 (fun j a c => wnn_bd hI hb (hr j a (by omega)).1 (hr j a (by omega)).2 (oS_bd hI hb hr j.toNat (by omega))) (by decide) (by have := hI.1; omega)
theorem oL_t {k : Int} (hR : oR (iL I) od) (k0 : 0 ≤ k) (k1 : k < iL I) (h : wdw I b (od k) (oS I b od k.toNat) < iN I (od k)) : (((bits (iL I).toNat (oL I b od k)).toNat ||| ((2 : Int) ^ (od k).toNat).toNat : Nat) : Int) = bits (iL I).toNat (oL I b od (k + 1)) := by
  have r := hR.1 k k0 k1
  rw [bits_set r.1 (fun ⟨j, a, c, e, _⟩ => hR.2 j k a c k1 e) _ (by omega)]
  refine bits_congr (fun x x0 x1 => ⟨?_, ?_⟩)
  · rintro (⟨j, a, c, e, f⟩ | z)
    · exact ⟨j, a, by omega, e, f⟩
    · exact ⟨k, k0, by omega, z.symm, by rw [z]; exact h⟩
  · rintro ⟨j, a, c, e, f⟩
    by_cases q : j = k
    · exact .inr (by rw [← e, q])
    · exact .inl ⟨j, a, by omega, e, f⟩
theorem oL_f {k : Int} (h : ¬ wdw I b (od k) (oS I b od k.toNat) < iN I (od k)) : bits (iL I).toNat (oL I b od k) = bits (iL I).toNat (oL I b od (k + 1)) := by
  refine bits_congr (fun x x0 x1 => ⟨?_, ?_⟩)
  · rintro ⟨j, a, c, e, f⟩
    exact ⟨j, a, by omega, e, f⟩
  · rintro ⟨j, a, c, e, f⟩
    by_cases q : j = k
    · rw [q] at e f
      rw [← e] at f
      exact absurd f h
    · exact ⟨j, a, by omega, e, f⟩
end ORD
theorem bits_b32 {p : Int → Prop} {L : Int} (h0 : 0 ≤ L) (h1 : L ≤ 5) : 0 ≤ bits L.toNat p ∧ bits L.toNat p < 32 := by
  have a := bits_bd p L.toNat
  have c := pw_le6 h0 h1
  omega
