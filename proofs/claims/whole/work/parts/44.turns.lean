/-! BY TURNS and ORDERS, copy by copy -/
theorem RK.lt {n : Int} {z b : Int → Int} (h : RK n z b) {i : Int} (i0 : 0 ≤ i) : ∀ (m : Nat), i + 1 + m < n → z (b (i + 1 + m)) < z (b i) ∨ (z (b (i + 1 + m)) = z (b i) ∧ b i < b (i + 1 + m))
  | 0, hm => by
    have a := h.2.1 i i0 (by omega)
    rw [show i + 1 + ((0 : Nat) : Int) = i + 1 by omega]
    by_cases q : z (b (i + 1)) = z (b i)
    · exact .inr ⟨q, h.2.2.2 i i0 (by omega) q⟩
    · exact .inl (by omega)
  | m + 1, hm => by
    have r := RK.lt h i0 m (by omega)
    have a := h.2.1 (i + 1 + m) (by omega) (by omega)
    rw [show i + 1 + ((m + 1 : Nat) : Int) = i + 1 + m + 1 by omega]
    by_cases q : z (b (i + 1 + m + 1)) = z (b (i + 1 + m))
    · have := h.2.2.2 (i + 1 + m) (by omega) (by omega) q
      omega
    · omega
theorem RK.lt2 {n : Int} {z b : Int → Int} (h : RK n z b) {i j : Int} (i0 : 0 ≤ i) (ij : i < j) (j1 : j < n) : z (b j) < z (b i) ∨ (z (b j) = z (b i) ∧ b i < b j) := by
  have := h.lt i0 (j - i - 1).toNat (by omega)
  rw [show i + 1 + (((j - i - 1).toNat : Nat) : Int) = j by omega] at this
  exact this
/-- the work of greatest SIZE among those below n that may go -/
def GT (o s z : Int → Int) (n v : Int) : Prop := (v = -1 ∧ ∀ w, 0 ≤ w → w < n → ¬ (0 < o w ∧ 0 < s w)) ∨ ((0 ≤ v ∧ v < n) ∧ (0 < o v ∧ 0 < s v) ∧ ∀ w, 0 ≤ w → w < n → 0 < o w ∧ 0 < s w → z w < z v ∨ (z w = z v ∧ v ≤ w))
def tkn (I : Ins) (b : Int → Int) (x : Int) (s : Int → Int) (i p j : Int) : Int := if j < i then mny I b x s j else if j = i then p else 0
def ST (I : Ins) (b : Int → Int) (x : Int) (s o' s' : Int → Int) (n sp i p : Int) : Prop := (0 ≤ i ∧ i ≤ iW I) ∧ (0 ≤ p ∧ p ≤ if i < iW I then mny I b x s i else 0) ∧ (∀ j, 0 ≤ j → j < iW I → o' (b j) = iO I x (b j) - tkn I b x s i p j ∧ s' (b j) = s (b j) - tkn I b x s i p j) ∧
  iM I x - n = (wl I b x s i.toNat).1 - p ∧ sp = (wl I b x s i.toNat).2 + p * iZ I (b i)
section STS
variable {I : Ins} {b : Int → Int} {x : Int} {s o' s' : Int → Int} {n sp i p : Int}
theorem ST.next (hN : ∀ j, 0 ≤ j → j < iW I → 0 ≤ mny I b x s j) (h : ST I b x s o' s' n sp i p) (hi : i < iW I) (hp : p = mny I b x s i) : ST I b x s o' s' n sp (i + 1) 0 := by
  obtain ⟨a, c, e, f, g⟩ := h
  have w := wl_s (I := I) (b := b) (x := x) (s := s) a.1 (j := i + 1) rfl
  refine ⟨by omega, ⟨Int.le_refl _, ?_⟩, fun j j0 j1 => ?_, ?_, ?_⟩
  · by_cases q : i + 1 < iW I
    · rw [if_pos q]
      exact hN (i + 1) (by omega) q
    · rw [if_neg q]; exact Int.le_refl _
  · have t : tkn I b x s (i + 1) 0 j = tkn I b x s i p j := by
      unfold tkn
      by_cases q : j < i
      · rw [if_pos q, if_pos (by omega)]
      · rw [if_neg q]
        by_cases r : j = i
        · rw [if_pos r, if_pos (by omega), r, hp]
        · rw [if_neg r, if_neg (by omega)]
          split <;> rfl
    rw [t]
    exact e j j0 j1
  · rw [w]; dsimp only; omega
  · rw [w, Int.zero_mul, Int.add_zero, g, hp]
theorem ST.full (h : ST I b x s o' s' n sp i p) (hi : i < iW I) (hu : ¬ (0 < o' (b i) ∧ 0 < s' (b i)) ∨ n = iM I x) : p = mny I b x s i := by
  obtain ⟨a, c, e, f, g⟩ := h
  rw [if_pos hi] at c
  have e := e i a.1 hi
  have t : tkn I b x s i p i = p := by unfold tkn; rw [if_neg (Int.lt_irrefl _), if_pos rfl]
  rw [t] at e
  unfold mny at c ⊢
  omega
theorem ST.adv (hN : ∀ j, 0 ≤ j → j < iW I → 0 ≤ mny I b x s j) : ∀ (d : Nat) (i p : Int), ST I b x s o' s' n sp i p → i + d ≤ iW I → (∀ j, i ≤ j → j < i + d → ¬ (0 < o' (b j) ∧ 0 < s' (b j)) ∨ n = iM I x) → ∃ q, ST I b x s o' s' n sp (i + d) q
  | 0, i, p, h, _, _ => ⟨p, by rw [show i + ((0 : Nat) : Int) = i by omega]; exact h⟩
  | d + 1, i, p, h, hd, hu => by
    have hp := h.full (by omega) (hu i (Int.le_refl _) (by omega))
    obtain ⟨q, g⟩ := ST.adv hN d (i + 1) 0 (h.next hN (by omega) hp) (by omega) (fun j a c => hu j (by omega) (by omega))
    exact ⟨q, by rw [show i + ((d + 1 : Nat) : Int) = i + 1 + d by omega]; exact g⟩
theorem wl_mono (hN : ∀ j, 0 ≤ j → j < iW I → 0 ≤ mny I b x s j) {j : Int} (j0 : 0 ≤ j) : ∀ d : Nat, j + d ≤ iW I → (wl I b x s (j + d).toNat).1 ≤ (wl I b x s j.toNat).1
  | 0, _ => by rw [show j + ((0 : Nat) : Int) = j by omega]; exact Int.le_refl _
  | d + 1, hd => by
    have a := wl_mono hN j0 d (by omega)
    have w := wl_s (I := I) (b := b) (x := x) (s := s) (i := j + d) (j := j + ((d + 1 : Nat) : Int)) (by omega) (by omega)
    have := hN (j + d) (by omega) (by omega)
    rw [w]
    dsimp only
    omega
/-- what is done is done, as long as more may be withdrawn -/
theorem ST.done (hN : ∀ j, 0 ≤ j → j < iW I → 0 ≤ mny I b x s j) (h : ST I b x s o' s' n sp i p) (hn : n < iM I x) {j : Int} (j0 : 0 ≤ j) (ji : j < i) : ¬ (0 < o' (b j) ∧ 0 < s' (b j)) := by
  obtain ⟨a, c, e, f, g⟩ := h
  have e := e j j0 (by omega)
  have t : tkn I b x s i p j = mny I b x s j := if_pos ji
  rw [t] at e
  have w := wl_s (I := I) (b := b) (x := x) (s := s) j0 (j := j + 1) rfl
  have m := wl_mono hN (j := j + 1) (by omega) (i - j - 1).toNat (by omega)
  rw [show j + 1 + (((i - j - 1).toNat : Nat) : Int) = i by omega, w] at m
  dsimp only at m
  intro z
  unfold mny at e m
  omega
theorem ST.bd (hN : ∀ j, 0 ≤ j → j < iW I → 0 ≤ mny I b x s j) (h : ST I b x s o' s' n sp i p) {j : Int} (j0 : 0 ≤ j) (j1 : j < iW I) : o' (b j) ≤ iO I x (b j) ∧ s' (b j) ≤ s (b j) := by
  obtain ⟨a, c, e, f, g⟩ := h
  have e := e j j0 j1
  have t : 0 ≤ tkn I b x s i p j := by
    unfold tkn
    split
    · exact hN j j0 j1
    · split <;> omega
  omega
/-- a copy more -/
theorem ST.more (hI : IB I) (hb : RK (iW I) (iZ I) b) (hN : ∀ j, 0 ≤ j → j < iW I → 0 ≤ mny I b x s j) (h : ∃ i p, ST I b x s o' s' n sp i p) (hn : n < iM I x) {v : Int} (hv : v ≠ -1) (hg : GT o' s' (iZ I) (iW I) v) {o2 s2 : Int → Int} (ho : ∀ u, o2 u = if u = v then o' v - 1 else o' u) (hs : ∀ u, s2 u = if u = v then s' v - 1 else s' u) : ∃ i p, ST I b x s o2 s2 (n + 1) (sp + iZ I v) i p := by
  obtain ⟨i, p, h⟩ := h
  rcases hg with ⟨z, _⟩ | ⟨hr, ha, hm⟩
  · exact absurd z hv
  obtain ⟨k, k0, k1, hk⟩ := hb.sur hr.1 hr.2
  subst hk
  have before : ∀ j, 0 ≤ j → j < k → ¬ (0 < o' (b j) ∧ 0 < s' (b j)) := fun j j0 jk z => by
    have q := hb.lt2 j0 jk k1
    have bj := hb.1 j j0 (by omega)
    have := hm (b j) bj.1 bj.2 z
    omega
  have ik : i ≤ k := Classical.byContradiction (fun z => h.done hN hn k0 (by omega) ha)
  obtain ⟨q, g⟩ := ST.adv hN (k - i).toNat i p h (by have := h.1; omega) (fun j a c => .inl (before j (by have := h.1; omega) (by omega)))
  rw [show i + (((k - i).toNat : Nat) : Int) = k by have := h.1; omega] at g
  obtain ⟨a, c, e, f, gs⟩ := g
  rw [if_pos k1] at c
  have ek := e k k0 k1
  have t : tkn I b x s k q k = q := by unfold tkn; rw [if_neg (Int.lt_irrefl _), if_pos rfl]
  rw [t] at ek
  refine ⟨k, q + 1, a, ⟨by omega, ?_⟩, fun j j0 j1 => ?_, by omega, ?_⟩
  · rw [if_pos k1]
    unfold mny at c ⊢
    omega
  · rw [ho, hs]
    have e := e j j0 j1
    by_cases r : j = k
    · subst r
      rw [if_pos rfl, if_pos rfl]
      unfold tkn at e ⊢
      rw [if_neg (Int.lt_irrefl _), if_pos rfl] at e ⊢
      omega
    · have ne : b j ≠ b k := by
        rcases Int.lt_or_gt_of_ne r with z | z
        · exact hb.inj j0 z k1
        · exact Ne.symm (hb.inj k0 z j1)
      rw [if_neg ne, if_neg ne]
      unfold tkn at e ⊢
      rw [if_neg r] at e ⊢
      exact e
  · rw [gs, Int.add_mul, Int.one_mul]
    omega
/-- no copy more -/
theorem ST.fin (hb : RK (iW I) (iZ I) b) (hN : ∀ j, 0 ≤ j → j < iW I → 0 ≤ mny I b x s j) (h : ∃ i p, ST I b x s o' s' n sp i p) (hW : 0 ≤ iW I) (hu : n = iM I x ∨ ∀ w, 0 ≤ w → w < iW I → ¬ (0 < o' w ∧ 0 < s' w)) : n = wdw I b x s ∧ sp = wnn I b x s ∧ ∀ w, 0 ≤ w → w < iW I → s' w = sN I b x s w := by
  obtain ⟨i, p, h⟩ := h
  obtain ⟨q, g⟩ := ST.adv hN (iW I - i).toNat i p h (by have := h.1; omega) (fun j a c => by
    rcases hu with z | z
    · exact .inr z
    · have bj := hb.1 j (by have := h.1; omega) (by have := h.1; omega)
      exact .inl (z _ bj.1 bj.2))
  rw [show i + (((iW I - i).toNat : Nat) : Int) = iW I by have := h.1; omega] at g
  obtain ⟨a, c, e, f, gs⟩ := g
  rw [if_neg (Int.lt_irrefl _)] at c
  have q0 : q = 0 := by omega
  subst q0
  refine ⟨by unfold wdw; omega, by unfold wnn; rw [gs, Int.zero_mul, Int.add_zero], fun w w0 w1 => ?_⟩
  obtain ⟨k, k0, k1, rfl⟩ := hb.sur w0 w1
  rw [(e k k0 k1).2, sN_at hb k0 k1]
  unfold tkn
  rw [if_pos k1]
theorem ST.start (hN : ∀ j, 0 ≤ j → j < iW I → 0 ≤ mny I b x s j) (hb : RK (iW I) (iZ I) b) (hW : 0 ≤ iW I) (ho : ∀ w, 0 ≤ w → w < iW I → o' w = iO I x w) (hs : ∀ w, 0 ≤ w → w < iW I → s' w = s w) : ∃ i p, ST I b x s o' s' 0 0 i p := by
  refine ⟨0, 0, ⟨Int.le_refl _, hW⟩, ⟨Int.le_refl _, ?_⟩, fun j j0 j1 => ?_, ?_, ?_⟩
  · by_cases q : 0 < iW I
    · rw [if_pos q]; exact hN 0 (Int.le_refl _) q
    · rw [if_neg q]; exact Int.le_refl _
  · have bj := hb.1 j j0 j1
    have t : tkn I b x s 0 0 j = 0 := by unfold tkn; rw [if_neg (by omega)]; split <;> rfl
    rw [t, Int.sub_zero, Int.sub_zero]
    exact ⟨ho _ bj.1 bj.2, hs _ bj.1 bj.2⟩
  · show iM I x - 0 = iM I x - 0
    rfl
  · show (0 : Int) = 0 + 0 * _
    rw [Int.zero_mul]; rfl
end STS
/-! an order -/
def oS (I : Ins) (b od : Int → Int) : Nat → Int → Int
  | 0 => iS I
  | k + 1 => sN I b (od k) (oS I b od k)
def oP (I : Ins) (b od : Int → Int) (k : Nat) : Int := sm k (fun j => wnn I b (od j) (oS I b od j.toNat))
def oL (I : Ins) (b od : Int → Int) (k x : Int) : Prop := ∃ j, 0 ≤ j ∧ j < k ∧ od j = x ∧ wdw I b x (oS I b od j.toNat) < iN I x
def oR (L : Int) (od : Int → Int) : Prop := (∀ k, 0 ≤ k → k < L → 0 ≤ od k ∧ od k < L) ∧ ∀ j k, 0 ≤ j → j < k → k < L → od j ≠ od k
section ORD
variable {I : Ins} {b od : Int → Int}
theorem oS_s {k j : Int} (h : 0 ≤ k) (hj : j = k + 1) : oS I b od j.toNat = sN I b (od k) (oS I b od k.toNat) := by
  subst hj
  rw [show (k + 1).toNat = k.toNat + 1 by omega, oS, Int.toNat_of_nonneg h]
theorem oS_bd (hI : IB I) (hb : RK (iW I) (iZ I) b) (hr : ∀ k, 0 ≤ k → k < iL I → 0 ≤ od k ∧ od k < iL I) : ∀ k : Nat, (k : Int) ≤ iL I → ∀ w, 0 ≤ w → w < iW I → 0 ≤ oS I b od k w ∧ oS I b od k w ≤ 1000
  | 0, _ => fun w w0 w1 => (hI.2.2.2.1 w w0 w1).1
  | k + 1, h => fun w w0 w1 => sN_bd hI hb (x := od k) (hr k (by omega) (by omega)).1 (hr k (by omega) (by omega)).2 (oS_bd hI hb hr k (by omega)) w w0 w1
theorem oP_bd (hI : IB I) (hb : RK (iW I) (iZ I) b) (hr : ∀ k, 0 ≤ k → k < iL I → 0 ≤ od k ∧ od k < iL I) {k : Int} (k0 : 0 ≤ k) (k1 : k ≤ iL I) : 0 ≤ oP I b od k.toNat ∧ oP I b od k.toNat ≤ 5 * 162 :=
  sm_bd2 162 k0 (fun j a c => wnn_bd hI hb (hr j a (by omega)).1 (hr j a (by omega)).2 (oS_bd hI hb hr j.toNat (by omega))) (by decide) (by have := hI.1; omega)
theorem oL_t {k : Int} (hR : oR (iL I) od) (k0 : 0 ≤ k) (k1 : k < iL I) (h : wdw I b (od k) (oS I b od k.toNat) < iN I (od k)) : (((bits (iL I).toNat (oL I b od k)).toNat ||| ((2 : Int) ^ (od k).toNat).toNat : Nat) : Int) = bits (iL I).toNat (oL I b od (k + 1)) := by
  have r := hR.1 k k0 k1
  rw [bits_set r.1 (fun ⟨j, a, c, e, _⟩ => hR.2 j k a c k1 e) _ (by omega)]
  refine bits_congr (fun x x0 x1 => ⟨?_, ?_⟩)
  · rintro (⟨j, a, c, e, f⟩ | z)
    · exact ⟨j, a, by omega, e, f⟩
    · exact ⟨k, k0, by omega, z.symm, by rw [z]; exact h⟩
  · rintro ⟨j, a, c, e, f⟩
    by_cases q : j = k
    · exact .inr (by rw [← e, q])
    · exact .inl ⟨j, a, by omega, e, f⟩
theorem oL_f {k : Int} (h : ¬ wdw I b (od k) (oS I b od k.toNat) < iN I (od k)) : bits (iL I).toNat (oL I b od k) = bits (iL I).toNat (oL I b od (k + 1)) := by
  refine bits_congr (fun x x0 x1 => ⟨?_, ?_⟩)
  · rintro ⟨j, a, c, e, f⟩
    exact ⟨j, a, by omega, e, f⟩
  · rintro ⟨j, a, c, e, f⟩
    by_cases q : j = k
    · rw [q] at e f
      rw [← e] at f
      exact absurd f h
    · exact ⟨j, a, by omega, e, f⟩
end ORD
theorem bits_b32 {p : Int → Prop} {L : Int} (h0 : 0 ≤ L) (h1 : L ≤ 5) : 0 ≤ bits L.toNat p ∧ bits L.toNat p < 32 := by
  have a := bits_bd p L.toNat
  have c := pw_le6 h0 h1
  omega
section GTS
variable {o s z : Int → Int} {n v : Int}
theorem GT.rng (h : GT o s z n v) (hv : v ≠ -1) : 0 ≤ v ∧ v < n := h.elim (fun q => absurd q.1 hv) (fun q => q.1)
theorem GT.av (h : GT o s z n v) (hv : v ≠ -1) : 0 < o v ∧ 0 < s v := h.elim (fun q => absurd q.1 hv) (fun q => q.2.1)
theorem GT.skip (h : GT o s z n v) (hn : ¬ (0 < o n ∧ 0 < s n)) : GT o s z (n + 1) v := by
  rcases h with ⟨e, g⟩ | ⟨r, a, g⟩
  · refine .inl ⟨e, fun w w0 w1 => ?_⟩
    by_cases q : w = n
    · rw [q]; exact hn
    · exact g w w0 (by omega)
  · refine .inr ⟨by omega, a, fun w w0 w1 p => ?_⟩
    by_cases q : w = n
    · rw [q] at p; exact absurd p hn
    · exact g w w0 (by omega) p
theorem GT.new (h : GT o s z n v) (n0 : 0 ≤ n) (hn : 0 < o n ∧ 0 < s n) (hz : v = -1 ∨ z v < z n) : GT o s z (n + 1) n := by
  refine .inr ⟨by omega, hn, fun w w0 w1 p => ?_⟩
  by_cases q : w = n
  · rw [q]; exact .inr ⟨rfl, Int.le_refl _⟩
  · rcases h with ⟨e, g⟩ | ⟨r, a, g⟩
    · exact absurd p (g w w0 (by omega))
    · have := g w w0 (by omega) p
      rcases hz with y | y
      · omega
      · exact .inl (by omega)
theorem GT.old (h : GT o s z n v) (hv : v ≠ -1) (hz : z n ≤ z v) : GT o s z (n + 1) v := by
  rcases h with ⟨e, g⟩ | ⟨r, a, g⟩
  · exact absurd e hv
  · refine .inr ⟨by omega, a, fun w w0 w1 p => ?_⟩
    by_cases q : w = n
    · rw [q]
      by_cases y : z n = z v
      · exact .inr ⟨y, by omega⟩
      · exact .inl (by omega)
    · exact g w w0 (by omega) p
end GTS
theorem oS_lib {I : Ins} {b : Int → Int} {f : Int} : ∀ k : Nat, oS I b (lib (iL I) f) k = gS I b f k
  | 0 => rfl
  | k + 1 => by rw [oS, gS, oS_lib k]
theorem lib_R {L f : Int} (f0 : 0 ≤ f) (f1 : f < L) : oR L (lib L f) :=
  ⟨fun k k0 k1 => by unfold lib; split <;> omega, fun j k j0 jk k1 => lib_inj f0 f1 j0 jk k1⟩
theorem lib_m {L f k : Int} (f0 : 0 ≤ f) (f1 : f < L) (k0 : 0 ≤ k) (k1 : k < L) : (f + k) % L = lib L f k := by
  unfold lib
  by_cases q : f + k < L
  · rw [if_pos q, Int.emod_eq_of_lt (by omega) q]
  · rw [if_neg q, ← Int.sub_emod_right, Int.emod_eq_of_lt (by omega) (by omega)]

theorem dX12_greatestThatMay_0 : decode cX12_greatestThatMay 0 = .ok (.iconst (-1), 1) := by decide +kernel
theorem dX12_greatestThatMay_1 : decode cX12_greatestThatMay 1 = .ok (.istore_n 2, 1) := by decide +kernel
theorem dX12_greatestThatMay_2 : decode cX12_greatestThatMay 2 = .ok (.iconst 0, 1) := by decide +kernel
theorem dX12_greatestThatMay_3 : decode cX12_greatestThatMay 3 = .ok (.istore_n 3, 1) := by decide +kernel
theorem dX12_greatestThatMay_4 : decode cX12_greatestThatMay 4 = .ok (.iload_n 3, 1) := by decide +kernel
theorem dX12_greatestThatMay_5 : decode cX12_greatestThatMay 5 = .ok (.aload_n 0, 1) := by decide +kernel
theorem dX12_greatestThatMay_6 : decode cX12_greatestThatMay 6 = .ok (.getfield 102, 3) := by decide +kernel
theorem dX12_greatestThatMay_9 : decode cX12_greatestThatMay 9 = .ok (.if_icmp .ge 53, 3) := by decide +kernel
theorem dX12_greatestThatMay_12 : decode cX12_greatestThatMay 12 = .ok (.aload_n 0, 1) := by decide +kernel
theorem dX12_greatestThatMay_13 : decode cX12_greatestThatMay 13 = .ok (.getfield 38, 3) := by decide +kernel
theorem dX12_greatestThatMay_16 : decode cX12_greatestThatMay 16 = .ok (.iload_n 1, 1) := by decide +kernel
theorem dX12_greatestThatMay_17 : decode cX12_greatestThatMay 17 = .ok (.iload_n 3, 1) := by decide +kernel
theorem dX12_greatestThatMay_18 : decode cX12_greatestThatMay 18 = .ok (.invokestatic 87, 3) := by decide +kernel
theorem dX12_greatestThatMay_21 : decode cX12_greatestThatMay 21 = .ok (.iaload, 1) := by decide +kernel
theorem dX12_greatestThatMay_22 : decode cX12_greatestThatMay 22 = .ok (.ifCond .le 34, 3) := by decide +kernel
theorem dX12_greatestThatMay_25 : decode cX12_greatestThatMay 25 = .ok (.aload_n 0, 1) := by decide +kernel
theorem dX12_greatestThatMay_26 : decode cX12_greatestThatMay 26 = .ok (.getfield 35, 3) := by decide +kernel
theorem dX12_greatestThatMay_29 : decode cX12_greatestThatMay 29 = .ok (.iload_n 3, 1) := by decide +kernel
theorem dX12_greatestThatMay_30 : decode cX12_greatestThatMay 30 = .ok (.iaload, 1) := by decide +kernel
theorem dX12_greatestThatMay_31 : decode cX12_greatestThatMay 31 = .ok (.ifCond .le 25, 3) := by decide +kernel
theorem dX12_greatestThatMay_34 : decode cX12_greatestThatMay 34 = .ok (.iload_n 2, 1) := by decide +kernel
theorem dX12_greatestThatMay_35 : decode cX12_greatestThatMay 35 = .ok (.iconst (-1), 1) := by decide +kernel
theorem dX12_greatestThatMay_36 : decode cX12_greatestThatMay 36 = .ok (.if_icmp .eq 18, 3) := by decide +kernel
theorem dX12_greatestThatMay_39 : decode cX12_greatestThatMay 39 = .ok (.aload_n 0, 1) := by decide +kernel
theorem dX12_greatestThatMay_40 : decode cX12_greatestThatMay 40 = .ok (.getfield 13, 3) := by decide +kernel
theorem dX12_greatestThatMay_43 : decode cX12_greatestThatMay 43 = .ok (.iload_n 3, 1) := by decide +kernel
theorem dX12_greatestThatMay_44 : decode cX12_greatestThatMay 44 = .ok (.iaload, 1) := by decide +kernel
theorem dX12_greatestThatMay_45 : decode cX12_greatestThatMay 45 = .ok (.aload_n 0, 1) := by decide +kernel
theorem dX12_greatestThatMay_46 : decode cX12_greatestThatMay 46 = .ok (.getfield 13, 3) := by decide +kernel
theorem dX12_greatestThatMay_49 : decode cX12_greatestThatMay 49 = .ok (.iload_n 2, 1) := by decide +kernel
theorem dX12_greatestThatMay_50 : decode cX12_greatestThatMay 50 = .ok (.iaload, 1) := by decide +kernel
theorem dX12_greatestThatMay_51 : decode cX12_greatestThatMay 51 = .ok (.if_icmp .le 5, 3) := by decide +kernel
theorem dX12_greatestThatMay_54 : decode cX12_greatestThatMay 54 = .ok (.iload_n 3, 1) := by decide +kernel
theorem dX12_greatestThatMay_55 : decode cX12_greatestThatMay 55 = .ok (.istore_n 2, 1) := by decide +kernel
theorem dX12_greatestThatMay_56 : decode cX12_greatestThatMay 56 = .ok (.iinc 3 1, 3) := by decide +kernel
theorem dX12_greatestThatMay_59 : decode cX12_greatestThatMay 59 = .ok (.goto (-55), 3) := by decide +kernel
theorem dX12_greatestThatMay_62 : decode cX12_greatestThatMay 62 = .ok (.iload_n 2, 1) := by decide +kernel
theorem dX12_greatestThatMay_63 : decode cX12_greatestThatMay 63 = .ok (.ireturn, 1) := by decide +kernel
set_option maxHeartbeats 400000 in
theorem c12_greatestThatMay {G : Gl} {l : Launch}  {M : Mem} {z x : Int} {c : Int → Int} (hG : GR M) (hK : RW M z c) (hM : SM c) (hx0 : 0 ≤ x) (hx1 : x < 5) : Ct G LY 82 l 1 m12_greatestThatMay [vR 57, vI x] M (RP (fun v M' => Fr [] [] M M' ∧ GT (fun u => M 66 (6 * x + u)) (fun u => M 65 u) (fun u => c (10 + u)) (c 122) v)) := by
  refine R_start (by decide +kernel) (Nat.le_of_ble_eq_true rfl) (fun C hC hRm hlau => ?_)
  show RZ G LY C (Zn G LY 82 C (RP (fun v M' => Fr [] [] M M' ∧ GT (fun u => M 66 (6 * x + u)) (fun u => M 65 u) (fun u => c (10 + u)) (c 122) v))) 0 0 82 0 [some (vR 57), some (vI x), none, none] [] M
  have hL := hM.1.1
  have hW := hM.1.2
  refine R_iconst hC dX12_greatestThatMay_0 ⟨by decide, by decide⟩ ?_
  refine R_istore_2 hC dX12_greatestThatMay_1 rfl ?_
  refine R_iconst hC dX12_greatestThatMay_2 ⟨by decide, by decide⟩ ?_
  refine R_istore_3 hC dX12_greatestThatMay_3 rfl ?_
  have L4 : ∀ (mq : Nat) (v : Int) (i : Int), (0 ≤ i) → (i ≤ c 122) → (GT (fun u => M 66 (6 * x + u)) (fun u => M 65 u) (fun u => c (10 + u)) i v) → (c 122 - i).toNat < mq → RZ G LY C (Zn G LY 82 C (RP (fun v M' => Fr [] [] M M' ∧ GT (fun u => M 66 (6 * x + u)) (fun u => M 65 u) (fun u => c (10 + u)) (c 122) v))) 0 0 82 4 [some (vR 57), some (vI x), some (vI v), some (vI i)] [] M := by
    intro mq
    induction mq with
    | zero =>
      intro v i hi0 hi1 hv hm
      exact absurd hm (Nat.not_lt_zero _)
    | succ mq ih4 =>
      intro v i hi0 hi1 hv hm4
      refine R_iload_3 hC dX12_greatestThatMay_4 ?_
      refine R_aload_0 hC dX12_greatestThatMay_5 ?_
      refine R_getIE hC dX12_greatestThatMay_6 fl_12_102 (by decide) rfl (by decide) (by decide) (fi := 6) rfl hK.w ?_
      refine R_icmp_ge hC dX12_greatestThatMay_9 (tgt := 62) (by decide) (fun hb9 => ?_) (fun hb9 => ?_)
      · skip
        refine R_iload_2 hC dX12_greatestThatMay_62 ?_
        exact R_ireturn hC dX12_greatestThatMay_63 rfl (ret_P ⟨Fr.rf, by (rw [show i = c 122 by omega] at hv; exact hv)⟩)
      · skip
        refine R_aload_0 hC dX12_greatestThatMay_12 ?_
        refine R_getR hC dX12_greatestThatMay_13 fl_12_38 (by decide) rfl (by decide) (by decide) (fi := 21) rfl (r := 66) (gr_57_21 hG) ?_
        refine R_iload_1 hC dX12_greatestThatMay_16 ?_
        refine R_iload_3 hC dX12_greatestThatMay_17 ?_
        refine R_callSq (as := [vI _, vI _]) hC dX12_greatestThatMay_18 mo_12_cell ml_12_87 (c12_cell  (by omega) (by omega) (by omega) (by omega)) rfl rfl hRm (by decide) (by decide) (Nat.le_of_ble_eq_true rfl) ?_
        refine R_iaload hC dX12_greatestThatMay_21 (by decide) rfl (by omega) (by omega) ?_
        refine R_if_le hC dX12_greatestThatMay_22 (tgt := 56) (by decide) (fun hb22 => ?_) (fun hb22 => ?_)
        · skip
          have hvN := hv.skip (fun q => absurd q.1 (Int.not_lt.mpr hb22))
          refine R_iinc_3 hC dX12_greatestThatMay_56 rfl ⟨by omega, by omega⟩ ?_
          refine R_goto hC dX12_greatestThatMay_59 (tgt := 4) (by decide) ?_
          exact ih4 _ _ (by omega) (by omega) hvN (by omega)
        · skip
          refine R_aload_0 hC dX12_greatestThatMay_25 ?_
          refine R_getR hC dX12_greatestThatMay_26 fl_12_35 (by decide) rfl (by decide) (by decide) (fi := 20) rfl (r := 65) (gr_57_20 hG) ?_
          refine R_iload_3 hC dX12_greatestThatMay_29 ?_
          refine R_iaload hC dX12_greatestThatMay_30 (by decide) rfl (by omega) (by omega) ?_
          refine R_if_le hC dX12_greatestThatMay_31 (tgt := 56) (by decide) (fun hb31 => ?_) (fun hb31 => ?_)
          · skip
            have hvN := hv.skip (fun q => absurd q.2 (Int.not_lt.mpr hb31))
            refine R_iinc_3 hC dX12_greatestThatMay_56 rfl ⟨by omega, by omega⟩ ?_
            refine R_goto hC dX12_greatestThatMay_59 (tgt := 4) (by decide) ?_
            exact ih4 _ _ (by omega) (by omega) hvN (by omega)
          · skip
            refine R_iload_2 hC dX12_greatestThatMay_34 ?_
            refine R_iconst hC dX12_greatestThatMay_35 ⟨by decide, by decide⟩ ?_
            refine R_icmp_eq hC dX12_greatestThatMay_36 (tgt := 54) (by decide) (fun hb36 => ?_) (fun hb36 => ?_)
            · skip
              have hz9 : v = -1 ∨ c (10 + v) < c (10 + i) := .inl hb36
              have hvN : GT (fun u => M 66 (6 * x + u)) (fun u => M 65 u) (fun u => c (10 + u)) (i + 1) i := hv.new hi0 ⟨hb22, hb31⟩ hz9
              refine R_iload_3 hC dX12_greatestThatMay_54 ?_
              refine R_istore_2 hC dX12_greatestThatMay_55 rfl ?_
              refine R_iinc_3 hC dX12_greatestThatMay_56 rfl ⟨by omega, by omega⟩ ?_
              refine R_goto hC dX12_greatestThatMay_59 (tgt := 4) (by decide) ?_
              exact ih4 _ _ (by omega) (by omega) hvN (by omega)
            · skip
              refine R_aload_0 hC dX12_greatestThatMay_39 ?_
              refine R_getR hC dX12_greatestThatMay_40 fl_12_13 (by decide) rfl (by decide) (by decide) (fi := 1) rfl (r := 59) (gr_57_1 hG) ?_
              refine R_iload_3 hC dX12_greatestThatMay_43 ?_
              refine R_ialoadE hC dX12_greatestThatMay_44 (by decide) rfl (by omega) (by omega) (hK.rs i (by omega) (by omega) (by omega)) ?_
              refine R_aload_0 hC dX12_greatestThatMay_45 ?_
              refine R_getR hC dX12_greatestThatMay_46 fl_12_13 (by decide) rfl (by decide) (by decide) (fi := 1) rfl (r := 59) (gr_57_1 hG) ?_
              refine R_iload_2 hC dX12_greatestThatMay_49 ?_
              have bv := hv.rng hb36
              have bi := hM.2.2.1 i hi0 (by omega)
              refine R_ialoadE hC dX12_greatestThatMay_50 (by decide) rfl (by omega) (by omega) (hK.rs v (by omega) (by omega) (by omega)) ?_
              refine R_icmp_le hC dX12_greatestThatMay_51 (tgt := 56) (by decide) (fun hb51 => ?_) (fun hb51 => ?_)
              · skip
                have hvN := hv.old hb36 hb51
                refine R_iinc_3 hC dX12_greatestThatMay_56 rfl ⟨by omega, by omega⟩ ?_
                refine R_goto hC dX12_greatestThatMay_59 (tgt := 4) (by decide) ?_
                exact ih4 _ _ (by omega) (by omega) hvN (by omega)
              · skip
                have hz9 : v = -1 ∨ c (10 + v) < c (10 + i) := .inr hb51
                have hvN : GT (fun u => M 66 (6 * x + u)) (fun u => M 65 u) (fun u => c (10 + u)) (i + 1) i := hv.new hi0 ⟨hb22, hb31⟩ hz9
                refine R_iload_3 hC dX12_greatestThatMay_54 ?_
                refine R_istore_2 hC dX12_greatestThatMay_55 rfl ?_
                refine R_iinc_3 hC dX12_greatestThatMay_56 rfl ⟨by omega, by omega⟩ ?_
                refine R_goto hC dX12_greatestThatMay_59 (tgt := 4) (by decide) ?_
                exact ih4 _ _ (by omega) (by omega) hvN (by omega)
  exact L4 _ _ _ (by omega) (by omega) (.inl ⟨rfl, fun w a b => by omega⟩) (Nat.lt_succ_self _)
theorem dX12_inOrder_0 : decode cX12_inOrder 0 = .ok (.aload_n 0, 1) := by decide +kernel
theorem dX12_inOrder_1 : decode cX12_inOrder 1 = .ok (.iconst 0, 1) := by decide +kernel
theorem dX12_inOrder_2 : decode cX12_inOrder 2 = .ok (.iconst (-1), 1) := by decide +kernel
theorem dX12_inOrder_3 : decode cX12_inOrder 3 = .ok (.invokevirtual 145, 3) := by decide +kernel
theorem dX12_inOrder_6 : decode cX12_inOrder 6 = .ok (.aload_n 0, 1) := by decide +kernel
theorem dX12_inOrder_7 : decode cX12_inOrder 7 = .ok (.iconst 0, 1) := by decide +kernel
theorem dX12_inOrder_8 : decode cX12_inOrder 8 = .ok (.putfield 314, 3) := by decide +kernel
theorem dX12_inOrder_11 : decode cX12_inOrder 11 = .ok (.iconst 0, 1) := by decide +kernel
theorem dX12_inOrder_12 : decode cX12_inOrder 12 = .ok (.istore_n 1, 1) := by decide +kernel
theorem dX12_inOrder_13 : decode cX12_inOrder 13 = .ok (.iconst 0, 1) := by decide +kernel
theorem dX12_inOrder_14 : decode cX12_inOrder 14 = .ok (.istore_n 2, 1) := by decide +kernel
theorem dX12_inOrder_15 : decode cX12_inOrder 15 = .ok (.iload_n 2, 1) := by decide +kernel
theorem dX12_inOrder_16 : decode cX12_inOrder 16 = .ok (.aload_n 0, 1) := by decide +kernel
theorem dX12_inOrder_17 : decode cX12_inOrder 17 = .ok (.getfield 105, 3) := by decide +kernel
theorem dX12_inOrder_20 : decode cX12_inOrder 20 = .ok (.if_icmp .ge 115, 3) := by decide +kernel
theorem dX12_inOrder_23 : decode cX12_inOrder 23 = .ok (.aload_n 0, 1) := by decide +kernel
theorem dX12_inOrder_24 : decode cX12_inOrder 24 = .ok (.getfield 72, 3) := by decide +kernel
theorem dX12_inOrder_27 : decode cX12_inOrder 27 = .ok (.iload_n 2, 1) := by decide +kernel
theorem dX12_inOrder_28 : decode cX12_inOrder 28 = .ok (.iaload, 1) := by decide +kernel
theorem dX12_inOrder_29 : decode cX12_inOrder 29 = .ok (.istore_n 3, 1) := by decide +kernel
theorem dX12_inOrder_30 : decode cX12_inOrder 30 = .ok (.iconst 0, 1) := by decide +kernel
theorem dX12_inOrder_31 : decode cX12_inOrder 31 = .ok (.istore 4, 2) := by decide +kernel
theorem dX12_inOrder_33 : decode cX12_inOrder 33 = .ok (.aload_n 0, 1) := by decide +kernel
theorem dX12_inOrder_34 : decode cX12_inOrder 34 = .ok (.iload_n 3, 1) := by decide +kernel
theorem dX12_inOrder_35 : decode cX12_inOrder 35 = .ok (.invokevirtual 317, 3) := by decide +kernel
theorem dX12_inOrder_38 : decode cX12_inOrder 38 = .ok (.istore 5, 2) := by decide +kernel
theorem dX12_inOrder_40 : decode cX12_inOrder 40 = .ok (.iload 4, 2) := by decide +kernel
theorem dX12_inOrder_42 : decode cX12_inOrder 42 = .ok (.aload_n 0, 1) := by decide +kernel
theorem dX12_inOrder_43 : decode cX12_inOrder 43 = .ok (.getfield 32, 3) := by decide +kernel
theorem dX12_inOrder_46 : decode cX12_inOrder 46 = .ok (.iload_n 3, 1) := by decide +kernel
theorem dX12_inOrder_47 : decode cX12_inOrder 47 = .ok (.iaload, 1) := by decide +kernel
theorem dX12_inOrder_48 : decode cX12_inOrder 48 = .ok (.if_icmp .ge 58, 3) := by decide +kernel
theorem dX12_inOrder_51 : decode cX12_inOrder 51 = .ok (.iload 5, 2) := by decide +kernel
theorem dX12_inOrder_53 : decode cX12_inOrder 53 = .ok (.iconst (-1), 1) := by decide +kernel
theorem dX12_inOrder_54 : decode cX12_inOrder 54 = .ok (.if_icmp .eq 52, 3) := by decide +kernel
theorem dX12_inOrder_57 : decode cX12_inOrder 57 = .ok (.aload_n 0, 1) := by decide +kernel
theorem dX12_inOrder_58 : decode cX12_inOrder 58 = .ok (.getfield 38, 3) := by decide +kernel
theorem dX12_inOrder_61 : decode cX12_inOrder 61 = .ok (.iload_n 3, 1) := by decide +kernel
theorem dX12_inOrder_62 : decode cX12_inOrder 62 = .ok (.iload 5, 2) := by decide +kernel
theorem dX12_inOrder_64 : decode cX12_inOrder 64 = .ok (.invokestatic 87, 3) := by decide +kernel
theorem dX12_inOrder_67 : decode cX12_inOrder 67 = .ok (.dup2, 1) := by decide +kernel
theorem dX12_inOrder_68 : decode cX12_inOrder 68 = .ok (.iaload, 1) := by decide +kernel
theorem dX12_inOrder_69 : decode cX12_inOrder 69 = .ok (.iconst 1, 1) := by decide +kernel
theorem dX12_inOrder_70 : decode cX12_inOrder 70 = .ok (.isub, 1) := by decide +kernel
theorem dX12_inOrder_71 : decode cX12_inOrder 71 = .ok (.iastore, 1) := by decide +kernel
theorem dX12_inOrder_72 : decode cX12_inOrder 72 = .ok (.aload_n 0, 1) := by decide +kernel
theorem dX12_inOrder_73 : decode cX12_inOrder 73 = .ok (.getfield 35, 3) := by decide +kernel
theorem dX12_inOrder_76 : decode cX12_inOrder 76 = .ok (.iload 5, 2) := by decide +kernel
theorem dX12_inOrder_78 : decode cX12_inOrder 78 = .ok (.dup2, 1) := by decide +kernel
theorem dX12_inOrder_79 : decode cX12_inOrder 79 = .ok (.iaload, 1) := by decide +kernel
theorem dX12_inOrder_80 : decode cX12_inOrder 80 = .ok (.iconst 1, 1) := by decide +kernel
theorem dX12_inOrder_81 : decode cX12_inOrder 81 = .ok (.isub, 1) := by decide +kernel
theorem dX12_inOrder_82 : decode cX12_inOrder 82 = .ok (.iastore, 1) := by decide +kernel
theorem dX12_inOrder_83 : decode cX12_inOrder 83 = .ok (.iload_n 1, 1) := by decide +kernel
theorem dX12_inOrder_84 : decode cX12_inOrder 84 = .ok (.aload_n 0, 1) := by decide +kernel
theorem dX12_inOrder_85 : decode cX12_inOrder 85 = .ok (.getfield 13, 3) := by decide +kernel
theorem dX12_inOrder_88 : decode cX12_inOrder 88 = .ok (.iload 5, 2) := by decide +kernel
theorem dX12_inOrder_90 : decode cX12_inOrder 90 = .ok (.iaload, 1) := by decide +kernel
theorem dX12_inOrder_91 : decode cX12_inOrder 91 = .ok (.iadd, 1) := by decide +kernel
theorem dX12_inOrder_92 : decode cX12_inOrder 92 = .ok (.istore_n 1, 1) := by decide +kernel
theorem dX12_inOrder_93 : decode cX12_inOrder 93 = .ok (.iinc 4 1, 3) := by decide +kernel
theorem dX12_inOrder_96 : decode cX12_inOrder 96 = .ok (.aload_n 0, 1) := by decide +kernel
theorem dX12_inOrder_97 : decode cX12_inOrder 97 = .ok (.iload_n 3, 1) := by decide +kernel
theorem dX12_inOrder_98 : decode cX12_inOrder 98 = .ok (.invokevirtual 317, 3) := by decide +kernel
theorem dX12_inOrder_101 : decode cX12_inOrder 101 = .ok (.istore 5, 2) := by decide +kernel
theorem dX12_inOrder_103 : decode cX12_inOrder 103 = .ok (.goto (-63), 3) := by decide +kernel
theorem dX12_inOrder_106 : decode cX12_inOrder 106 = .ok (.iload 4, 2) := by decide +kernel
theorem dX12_inOrder_108 : decode cX12_inOrder 108 = .ok (.aload_n 0, 1) := by decide +kernel
theorem dX12_inOrder_109 : decode cX12_inOrder 109 = .ok (.getfield 29, 3) := by decide +kernel
theorem dX12_inOrder_112 : decode cX12_inOrder 112 = .ok (.iload_n 3, 1) := by decide +kernel
theorem dX12_inOrder_113 : decode cX12_inOrder 113 = .ok (.iaload, 1) := by decide +kernel
theorem dX12_inOrder_114 : decode cX12_inOrder 114 = .ok (.if_icmp .ge 15, 3) := by decide +kernel
theorem dX12_inOrder_117 : decode cX12_inOrder 117 = .ok (.aload_n 0, 1) := by decide +kernel
theorem dX12_inOrder_118 : decode cX12_inOrder 118 = .ok (.dup, 1) := by decide +kernel
theorem dX12_inOrder_119 : decode cX12_inOrder 119 = .ok (.getfield 314, 3) := by decide +kernel
theorem dX12_inOrder_122 : decode cX12_inOrder 122 = .ok (.iconst 1, 1) := by decide +kernel
theorem dX12_inOrder_123 : decode cX12_inOrder 123 = .ok (.iload_n 3, 1) := by decide +kernel
theorem dX12_inOrder_124 : decode cX12_inOrder 124 = .ok (.ishl, 1) := by decide +kernel
theorem dX12_inOrder_125 : decode cX12_inOrder 125 = .ok (.ior, 1) := by decide +kernel
theorem dX12_inOrder_126 : decode cX12_inOrder 126 = .ok (.putfield 314, 3) := by decide +kernel
theorem dX12_inOrder_129 : decode cX12_inOrder 129 = .ok (.iinc 2 1, 3) := by decide +kernel
theorem dX12_inOrder_132 : decode cX12_inOrder 132 = .ok (.goto (-117), 3) := by decide +kernel
theorem dX12_inOrder_135 : decode cX12_inOrder 135 = .ok (.iload_n 1, 1) := by decide +kernel
theorem dX12_inOrder_136 : decode cX12_inOrder 136 = .ok (.ireturn, 1) := by decide +kernel
set_option maxHeartbeats 2000000 in
theorem c12_inOrder {G : Gl} {l : Launch}  {M : Mem} {c : Int → Int} {b od : Int → Int} (hG : GR M) (hK : RW M 0 c) (hS : SP c) (hb : RK (c 122) (fun w => c (10 + w)) b) (ho : ∀ k, 0 ≤ k → k < c 121 → M 77 k = od k) (hR : oR (c 121) od) : Ct G LY 82 l 5 m12_inOrder [vR 57] M (RP (fun v M' => Fr [63, 64, 65, 66] [(57, 47)] M M' ∧ v = oP (insOf c) b od (c 121).toNat ∧ M' 57 47 = bits (c 121).toNat (oL (insOf c) b od (c 121)))) := by
  refine R_start (by decide +kernel) (Nat.le_of_ble_eq_true rfl) (fun C hC hRm hlau => ?_)
  show RZ G LY C (Zn G LY 82 C (RP (fun v M' => Fr [63, 64, 65, 66] [(57, 47)] M M' ∧ v = oP (insOf c) b od (c 121).toNat ∧ M' 57 47 = bits (c 121).toNat (oL (insOf c) b od (c 121))))) 0 0 82 0 [some (vR 57), none, none, none, none, none] [] M
  have hM := hS.m
  have hI := hM.I
  have hL := hM.1.1
  have hW := hM.1.2
  refine R_aload_0 hC dX12_inOrder_0 ?_
  refine R_iconst hC dX12_inOrder_1 ⟨by decide, by decide⟩ ?_
  refine R_iconst hC dX12_inOrder_2 ⟨by decide, by decide⟩ ?_
  refine R_callVv (as := [vI _, vI _]) hC dX12_inOrder_3 mo_12_asks ml_12_145 (by decide) rfl rfl (c12_asks  hG hK (by omega) (by omega) hM) rfl rfl hRm (by decide) (by decide) (Nat.le_of_ble_eq_true rfl) (fun Mc1 hq2 => ?_)
  have hAa : MA Mc1 (insOf c) := hq2.2.q (apI_n (by decide))
  have hbI : RK (iW (insOf c)) (iZ (insOf c)) b := hb
  refine R_aload_0 hC dX12_inOrder_6 ?_
  refine R_iconst hC dX12_inOrder_7 ⟨by decide, by decide⟩ ?_
  refine R_putI hC dX12_inOrder_8 fl_12_314 (by decide) rfl (by decide) (by decide) (fi := 47) rfl ?_
  refine R_iconst hC dX12_inOrder_11 ⟨by decide, by decide⟩ ?_
  refine R_istore_1 hC dX12_inOrder_12 rfl ?_
  refine R_iconst hC dX12_inOrder_13 ⟨by decide, by decide⟩ ?_
  refine R_istore_2 hC dX12_inOrder_14 rfl ?_
  have L15 : ∀ (mq : Nat) (sp : Int) (k : Int) (M1 : Mem), (0 ≤ k) → (k ≤ c 121) → (GR M1) → (RW M1 0 c) → (Fr [63, 64, 65, 66] [(57, 47)] M M1) → (∀ y, 0 ≤ y → y < c 121 → M1 63 y = iN (insOf c) y ∧ M1 64 y = iM (insOf c) y) → (∀ y u, 0 ≤ y → y < c 121 → 0 ≤ u → u < c 122 → (∀ j, 0 ≤ j → j < k → od j ≠ y) → M1 66 (6 * y + u) = iO (insOf c) y u) → (∀ u, 0 ≤ u → u < c 122 → M1 65 u = oS (insOf c) b od k.toNat u) → (sp = oP (insOf c) b od k.toNat) → (M1 57 47 = bits (c 121).toNat (oL (insOf c) b od k)) → (c 121 - k).toNat < mq → RZ G LY C (Zn G LY 82 C (RP (fun v M' => Fr [63, 64, 65, 66] [(57, 47)] M M' ∧ v = oP (insOf c) b od (c 121).toNat ∧ M' 57 47 = bits (c 121).toNat (oL (insOf c) b od (c 121))))) 0 0 82 15 [some (vR 57), some (vI sp), some (vI k), none, none, none] [] M1 := by
    intro mq
    induction mq with
    | zero =>
      intro sp k M1 hk0 hkL hg hk1 hF hNM h66 h65 hsp h47 hm
      exact absurd hm (Nat.not_lt_zero _)
    | succ mq ih15 =>
      intro sp k M1 hk0 hkL hg hk1 hF hNM h66 h65 hsp h47 hm15
      have hbI : RK (iW (insOf c)) (iZ (insOf c)) b := hb
      have bsp := oP_bd (od := od) hI hbI hR.1 hk0 hkL
      refine R_iload_2 hC dX12_inOrder_15 ?_
      refine R_aload_0 hC dX12_inOrder_16 ?_
      refine R_getIE hC dX12_inOrder_17 fl_12_105 (by decide) rfl (by decide) (by decide) (fi := 5) rfl hk1.l ?_
      refine R_icmp_ge hC dX12_inOrder_20 (tgt := 135) (by decide) (fun hb20 => ?_) (fun hb20 => ?_)
      · skip
        refine R_iload_1 hC dX12_inOrder_135 ?_
        exact R_ireturn hC dX12_inOrder_136 rfl (ret_P ⟨hF, by (rw [hsp, show k = c 121 by omega]), by (rw [h47, show k = c 121 by omega])⟩)
      · skip
        refine R_aload_0 hC dX12_inOrder_23 ?_
        refine R_getR hC dX12_inOrder_24 fl_12_72 (by decide) rfl (by decide) (by decide) (fi := 45) rfl (r := 77) (gr_57_45 hg) ?_
        refine R_iload_2 hC dX12_inOrder_27 ?_
        have hod : M1 77 k = od k := (congrFun (hF.row (by decide) (by decide)) k).trans (ho k hk0 (by omega))
        refine R_ialoadE hC dX12_inOrder_28 (by decide) rfl (by omega) (by omega) hod ?_
        refine R_istore_3 hC dX12_inOrder_29 rfl ?_
        refine R_iconst hC dX12_inOrder_30 ⟨by decide, by decide⟩ ?_
        refine R_istore_4 hC dX12_inOrder_31 rfl ?_
        refine R_aload_0 hC dX12_inOrder_33 ?_
        refine R_iload_3 hC dX12_inOrder_34 ?_
        have bx := hR.1 k hk0 (by omega)
        have hsbd := oS_bd (od := od) hI hbI hR.1 k.toNat (show ((k.toNat : Nat) : Int) ≤ c 121 by omega)
        have hmn : ∀ j, 0 ≤ j → j < iW (insOf c) → 0 ≤ mny (insOf c) b (od k) (oS (insOf c) b od k.toNat) j := fun j a q => (mny_bd hI hbI bx.1 bx.2 hsbd a q).1
        refine R_callVp (as := [vI _]) hC dX12_inOrder_35 mo_12_greatestThatMay ml_12_317 (by decide) rfl rfl (c12_greatestThatMay  hg hk1 hM (by omega) (by omega)) rfl rfl hRm (by decide) (by decide) (Nat.le_of_ble_eq_true rfl) (fun v5 Mc3 hq4 => ?_)
        have hGT0 : GT (fun u => Mc3 66 (6 * od k + u)) (fun u => Mc3 65 u) (fun u => c (10 + u)) (c 122) v5 := by
          have e : Mc3 = M1 := funext fun a => funext fun j => hq4.1 a j List.not_mem_nil List.not_mem_nil
          rw [e]
          exact hq4.2
        have hF35 : Fr [63, 64, 65, 66] [(57, 47)] M Mc3 := Fr.tt hF (hq4.1.mo (by simp) (by simp))
        have hid35 := fun a j => hq4.1 a j List.not_mem_nil List.not_mem_nil
        refine R_istore_5 hC dX12_inOrder_38 rfl ?_
        have L40 : ∀ (mq : Nat) (s2 : Int) (n : Int) (v : Int) (M2 : Mem), (0 ≤ n) → (n ≤ iM (insOf c) (od k)) → (GR M2) → (RW M2 0 c) → (Fr [63, 64, 65, 66] [(57, 47)] M M2) → (∀ y, 0 ≤ y → y < c 121 → M2 63 y = iN (insOf c) y ∧ M2 64 y = iM (insOf c) y) → (∀ y u, 0 ≤ y → y < c 121 → 0 ≤ u → u < c 122 → (∀ j, 0 ≤ j → j < k + 1 → od j ≠ y) → M2 66 (6 * y + u) = iO (insOf c) y u) → (M2 57 47 = bits (c 121).toNat (oL (insOf c) b od k)) → (∃ i p, ST (insOf c) b (od k) (oS (insOf c) b od k.toNat) (fun u => M2 66 (6 * od k + u)) (fun u => M2 65 u) n (s2 - sp) i p) → (GT (fun u => M2 66 (6 * od k + u)) (fun u => M2 65 u) (fun u => c (10 + u)) (c 122) v) → (0 ≤ s2 - sp ∧ s2 - sp ≤ 9 * n) → (iM (insOf c) (od k) - n).toNat < mq → RZ G LY C (Zn G LY 82 C (RP (fun v M' => Fr [63, 64, 65, 66] [(57, 47)] M M' ∧ v = oP (insOf c) b od (c 121).toNat ∧ M' 57 47 = bits (c 121).toNat (oL (insOf c) b od (c 121))))) 0 0 82 40 [some (vR 57), some (vI s2), some (vI k), some (vI (od k)), some (vI n), some (vI v)] [] M2 := by
          intro mq
          induction mq with
          | zero =>
            intro s2 n v M2 hn0 hn1 hg2 hk2 hF2 hNM2 h662 h472 hST hGT hsb hm
            exact absurd hm (Nat.not_lt_zero _)
          | succ mq ih40 =>
            intro s2 n v M2 hn0 hn1 hg2 hk2 hF2 hNM2 h662 h472 hST hGT hsb hm40
            have bm := hI.2.2.2.2 (od k) bx.1 bx.2
            refine R_iload_4 hC dX12_inOrder_40 ?_
            refine R_aload_0 hC dX12_inOrder_42 ?_
            refine R_getR hC dX12_inOrder_43 fl_12_32 (by decide) rfl (by decide) (by decide) (fi := 19) rfl (r := 64) (gr_57_19 hg2) ?_
            refine R_iload_3 hC dX12_inOrder_46 ?_
            refine R_ialoadE hC dX12_inOrder_47 (by decide) rfl (by omega) (by omega) ((hNM2 _ bx.1 bx.2).2) ?_
            refine R_icmp_ge hC dX12_inOrder_48 (tgt := 106) (by decide) (fun hb48 => ?_) (fun hb48 => ?_)
            · skip
              have hend : n = iM (insOf c) (od k) ∨ ∀ w, 0 ≤ w → w < iW (insOf c) → ¬ (0 < M2 66 (6 * od k + w) ∧ 0 < M2 65 w) := .inl (by omega)
              have hfin := ST.fin hbI hmn hST hI.2.1.1 hend
              have hspN : s2 = oP (insOf c) b od (k + 1).toNat := by
                unfold oP
                rw [sm_to hk0 rfl]
                have z := hfin.2.1
                have y : sp = sm k.toNat (fun j => wnn (insOf c) b (od j) (oS (insOf c) b od j.toNat)) := hsp
                omega
              have h65N : ∀ u, 0 ≤ u → u < c 122 → M2 65 u = oS (insOf c) b od (k + 1).toNat u := fun u a q => by
                rw [oS_s hk0 rfl]
                exact hfin.2.2 u a q
              have h66N := h662
              have hw9 := hfin.1
              have hbb := bits_b32 (p := oL (insOf c) b od k) hL.1 hL.2
              have bnx := hI.2.2.2.2 (od k) bx.1 bx.2
              refine R_iload_4 hC dX12_inOrder_106 ?_
              refine R_aload_0 hC dX12_inOrder_108 ?_
              refine R_getR hC dX12_inOrder_109 fl_12_29 (by decide) rfl (by decide) (by decide) (fi := 18) rfl (r := 63) (gr_57_18 hg2) ?_
              refine R_iload_3 hC dX12_inOrder_112 ?_
              refine R_ialoadE hC dX12_inOrder_113 (by decide) rfl (by omega) (by omega) ((hNM2 _ bx.1 bx.2).1) ?_
              refine R_icmp_ge hC dX12_inOrder_114 (tgt := 129) (by decide) (fun hb114 => ?_) (fun hb114 => ?_)
              · skip
                have h47N : M2 57 47 = bits (c 121).toNat (oL (insOf c) b od (k + 1)) := h472.trans (oL_f (I := insOf c) (b := b) (od := od) (by omega))
                refine R_iinc_2 hC dX12_inOrder_129 rfl ⟨by omega, by omega⟩ ?_
                refine R_goto hC dX12_inOrder_132 (tgt := 15) (by decide) ?_
                refine R_weak (subL_c (subL_c (subL_c (subL_d (subL_d (subL_d subL_n)))))) ?_
                exact ih15 _ _ _ (by omega) (by omega) hg2 hk2 (by first | exact hF2 | exact Fr.uB hF2 (by decide)) (by first | exact hNM2 | exact fun y a q => ⟨(uM_h (by decide)).trans (hNM2 y a q).1, (uM_h (by decide)).trans (hNM2 y a q).2⟩) (by first | exact h66N | exact fun y u a q p r z => (uM_h (by decide)).trans (h66N y u a q p r z)) (by first | exact h65N | exact fun u a q => (uM_h (by decide)).trans (h65N u a q)) hspN h47N (by omega)
              · skip
                refine R_aload_0 hC dX12_inOrder_117 ?_
                refine R_dup hC dX12_inOrder_118 rfl ?_
                refine R_getIE hC dX12_inOrder_119 fl_12_314 (by decide) rfl (by decide) (by decide) (fi := 47) rfl h472 ?_
                refine R_iconst hC dX12_inOrder_122 ⟨by decide, by decide⟩ ?_
                refine R_iload_3 hC dX12_inOrder_123 ?_
                refine R_shl1 hC dX12_inOrder_124 (by omega) (by omega) ?_
                have bpw := pw_bd bx.1 (show od k < 10 by (have z : od k < c 121 := bx.2; omega))
                refine R_ior hC dX12_inOrder_125 (by omega) (by omega) ?_
                refine R_putI hC dX12_inOrder_126 fl_12_314 (by decide) rfl (by decide) (by decide) (fi := 47) rfl ?_
                have h47N : (uM M2 57 47 ((((bits (c 121).toNat (oL (insOf c) b od k)).toNat ||| ((2 : Int) ^ (od k).toNat).toNat : Nat) : Int))) 57 47 = bits (c 121).toNat (oL (insOf c) b od (k + 1)) := uM_same.trans (oL_t (I := insOf c) (b := b) (od := od) hR hk0 (show k < c 121 by omega) (by omega))
                refine R_iinc_2 hC dX12_inOrder_129 rfl ⟨by omega, by omega⟩ ?_
                refine R_goto hC dX12_inOrder_132 (tgt := 15) (by decide) ?_
                refine R_weak (subL_c (subL_c (subL_c (subL_d (subL_d (subL_d subL_n)))))) ?_
                have hG6 : GR (uM M2 57 47 ((((bits (c 121).toNat (oL (insOf c) b od k)).toNat ||| ((2 : Int) ^ (od k).toNat).toNat : Nat) : Int))) := (GR.uF hg2 (by decide +kernel) (by decide))
                have hk7 : RW (uM M2 57 47 ((((bits (c 121).toNat (oL (insOf c) b od k)).toNat ||| ((2 : Int) ^ (od k).toNat).toNat : Nat) : Int))) 0 c := (RW.uf hk2 (by decide))
                exact ih15 _ _ _ (by omega) (by omega) hG6 hk7 (by first | exact hF2 | exact Fr.uB hF2 (by decide)) (by first | exact hNM2 | exact fun y a q => ⟨(uM_h (by decide)).trans (hNM2 y a q).1, (uM_h (by decide)).trans (hNM2 y a q).2⟩) (by first | exact h66N | exact fun y u a q p r z => (uM_h (by decide)).trans (h66N y u a q p r z)) (by first | exact h65N | exact fun u a q => (uM_h (by decide)).trans (h65N u a q)) hspN h47N (by omega)
            · skip
              refine R_iload_5 hC dX12_inOrder_51 ?_
              refine R_iconst hC dX12_inOrder_53 ⟨by decide, by decide⟩ ?_
              refine R_icmp_eq hC dX12_inOrder_54 (tgt := 106) (by decide) (fun hb54 => ?_) (fun hb54 => ?_)
              · skip
                have hend : n = iM (insOf c) (od k) ∨ ∀ w, 0 ≤ w → w < iW (insOf c) → ¬ (0 < M2 66 (6 * od k + w) ∧ 0 < M2 65 w) := .inr (hGT.elim (fun z => z.2) (fun z => absurd hb54 (by have := z.1.1; omega)))
                have hfin := ST.fin hbI hmn hST hI.2.1.1 hend
                have hspN : s2 = oP (insOf c) b od (k + 1).toNat := by
                  unfold oP
                  rw [sm_to hk0 rfl]
                  have z := hfin.2.1
                  have y : sp = sm k.toNat (fun j => wnn (insOf c) b (od j) (oS (insOf c) b od j.toNat)) := hsp
                  omega
                have h65N : ∀ u, 0 ≤ u → u < c 122 → M2 65 u = oS (insOf c) b od (k + 1).toNat u := fun u a q => by
                  rw [oS_s hk0 rfl]
                  exact hfin.2.2 u a q
                have h66N := h662
                have hw9 := hfin.1
                have hbb := bits_b32 (p := oL (insOf c) b od k) hL.1 hL.2
                have bnx := hI.2.2.2.2 (od k) bx.1 bx.2
                refine R_iload_4 hC dX12_inOrder_106 ?_
                refine R_aload_0 hC dX12_inOrder_108 ?_
                refine R_getR hC dX12_inOrder_109 fl_12_29 (by decide) rfl (by decide) (by decide) (fi := 18) rfl (r := 63) (gr_57_18 hg2) ?_
                refine R_iload_3 hC dX12_inOrder_112 ?_
                refine R_ialoadE hC dX12_inOrder_113 (by decide) rfl (by omega) (by omega) ((hNM2 _ bx.1 bx.2).1) ?_
                refine R_icmp_ge hC dX12_inOrder_114 (tgt := 129) (by decide) (fun hb114 => ?_) (fun hb114 => ?_)
                · skip
                  have h47N : M2 57 47 = bits (c 121).toNat (oL (insOf c) b od (k + 1)) := h472.trans (oL_f (I := insOf c) (b := b) (od := od) (by omega))
                  refine R_iinc_2 hC dX12_inOrder_129 rfl ⟨by omega, by omega⟩ ?_
                  refine R_goto hC dX12_inOrder_132 (tgt := 15) (by decide) ?_
                  refine R_weak (subL_c (subL_c (subL_c (subL_d (subL_d (subL_d subL_n)))))) ?_
                  exact ih15 _ _ _ (by omega) (by omega) hg2 hk2 (by first | exact hF2 | exact Fr.uB hF2 (by decide)) (by first | exact hNM2 | exact fun y a q => ⟨(uM_h (by decide)).trans (hNM2 y a q).1, (uM_h (by decide)).trans (hNM2 y a q).2⟩) (by first | exact h66N | exact fun y u a q p r z => (uM_h (by decide)).trans (h66N y u a q p r z)) (by first | exact h65N | exact fun u a q => (uM_h (by decide)).trans (h65N u a q)) hspN h47N (by omega)
                · skip
                  refine R_aload_0 hC dX12_inOrder_117 ?_
                  refine R_dup hC dX12_inOrder_118 rfl ?_
                  refine R_getIE hC dX12_inOrder_119 fl_12_314 (by decide) rfl (by decide) (by decide) (fi := 47) rfl h472 ?_
                  refine R_iconst hC dX12_inOrder_122 ⟨by decide, by decide⟩ ?_
                  refine R_iload_3 hC dX12_inOrder_123 ?_
                  refine R_shl1 hC dX12_inOrder_124 (by omega) (by omega) ?_
                  have bpw := pw_bd bx.1 (show od k < 10 by (have z : od k < c 121 := bx.2; omega))
                  refine R_ior hC dX12_inOrder_125 (by omega) (by omega) ?_
                  refine R_putI hC dX12_inOrder_126 fl_12_314 (by decide) rfl (by decide) (by decide) (fi := 47) rfl ?_
                  have h47N : (uM M2 57 47 ((((bits (c 121).toNat (oL (insOf c) b od k)).toNat ||| ((2 : Int) ^ (od k).toNat).toNat : Nat) : Int))) 57 47 = bits (c 121).toNat (oL (insOf c) b od (k + 1)) := uM_same.trans (oL_t (I := insOf c) (b := b) (od := od) hR hk0 (show k < c 121 by omega) (by omega))
                  refine R_iinc_2 hC dX12_inOrder_129 rfl ⟨by omega, by omega⟩ ?_
                  refine R_goto hC dX12_inOrder_132 (tgt := 15) (by decide) ?_
                  refine R_weak (subL_c (subL_c (subL_c (subL_d (subL_d (subL_d subL_n)))))) ?_
                  have hG8 : GR (uM M2 57 47 ((((bits (c 121).toNat (oL (insOf c) b od k)).toNat ||| ((2 : Int) ^ (od k).toNat).toNat : Nat) : Int))) := (GR.uF hg2 (by decide +kernel) (by decide))
                  have hk9 : RW (uM M2 57 47 ((((bits (c 121).toNat (oL (insOf c) b od k)).toNat ||| ((2 : Int) ^ (od k).toNat).toNat : Nat) : Int))) 0 c := (RW.uf hk2 (by decide))
                  exact ih15 _ _ _ (by omega) (by omega) hG8 hk9 (by first | exact hF2 | exact Fr.uB hF2 (by decide)) (by first | exact hNM2 | exact fun y a q => ⟨(uM_h (by decide)).trans (hNM2 y a q).1, (uM_h (by decide)).trans (hNM2 y a q).2⟩) (by first | exact h66N | exact fun y u a q p r z => (uM_h (by decide)).trans (h66N y u a q p r z)) (by first | exact h65N | exact fun u a q => (uM_h (by decide)).trans (h65N u a q)) hspN h47N (by omega)
              · skip
                have bv := hGT.rng hb54
                have av : 0 < M2 66 (6 * od k + v) ∧ 0 < M2 65 v := hGT.av hb54
                have bsz := (hI.2.2.2.1 v bv.1 bv.2).2
                have bsz : 1 ≤ c (10 + v) ∧ c (10 + v) ≤ 9 := bsz
                obtain ⟨i9, p9, hS9⟩ := hST
                obtain ⟨j9, j90, j91, hj9⟩ := hbI.sur bv.1 bv.2
                have b9 := hS9.bd hmn j90 j91
                rw [hj9] at b9
                have b9a : M2 66 (6 * od k + v) ≤ iO (insOf c) (od k) v := b9.1
                have b9b : M2 65 v ≤ oS (insOf c) b od k.toNat v := b9.2
                have b9c := hsbd v bv.1 bv.2
                have b9d := hI.2.2.1 (od k) v bx.1 bx.2 bv.1 bv.2
                refine R_aload_0 hC dX12_inOrder_57 ?_
                refine R_getR hC dX12_inOrder_58 fl_12_38 (by decide) rfl (by decide) (by decide) (fi := 21) rfl (r := 66) (gr_57_21 hg2) ?_
                refine R_iload_3 hC dX12_inOrder_61 ?_
                refine R_iload_5 hC dX12_inOrder_62 ?_
                refine R_callSq (as := [vI _, vI _]) hC dX12_inOrder_64 mo_12_cell ml_12_87 (c12_cell  (by omega) (by omega) (by omega) (by omega)) rfl rfl hRm (by decide) (by decide) (Nat.le_of_ble_eq_true rfl) ?_
                refine R_dup2 hC dX12_inOrder_67 rfl rfl ?_
                refine R_iaload hC dX12_inOrder_68 (by decide) rfl (by omega) (by omega) ?_
                refine R_iconst hC dX12_inOrder_69 ⟨by decide, by decide⟩ ?_
                refine R_isub hC dX12_inOrder_70 ⟨by omega, by omega⟩ ?_
                refine R_iastore hC dX12_inOrder_71 (by decide) rfl (by omega) (by omega) ?_
                refine R_aload_0 hC dX12_inOrder_72 ?_
                have hG10 : GR (uM M2 66 (6 * (od k) + v) ((M2 66 (6 * (od k) + v)) - 1)) := (GR.uA hg2 (by decide +kernel) (.inl (by decide)))
                refine R_getR hC dX12_inOrder_73 fl_12_35 (by decide) rfl (by decide) (by decide) (fi := 20) rfl (r := 65) (gr_57_20 hG10) ?_
                refine R_iload_5 hC dX12_inOrder_76 ?_
                refine R_dup2 hC dX12_inOrder_78 rfl rfl ?_
                refine R_ialoadE hC dX12_inOrder_79 (by decide) rfl (by omega) (by omega) (uM_h (by decide)) ?_
                refine R_iconst hC dX12_inOrder_80 ⟨by decide, by decide⟩ ?_
                refine R_isub hC dX12_inOrder_81 ⟨by omega, by omega⟩ ?_
                refine R_iastore hC dX12_inOrder_82 (by decide) rfl (by omega) (by omega) ?_
                refine R_iload_1 hC dX12_inOrder_83 ?_
                refine R_aload_0 hC dX12_inOrder_84 ?_
                have hG11 : GR (uM (uM M2 66 (6 * (od k) + v) ((M2 66 (6 * (od k) + v)) - 1)) 65 v ((M2 65 v) - 1)) := (GR.uA hG10 (by decide +kernel) (.inl (by decide)))
                refine R_getR hC dX12_inOrder_85 fl_12_13 (by decide) rfl (by decide) (by decide) (fi := 1) rfl (r := 59) (gr_57_1 hG11) ?_
                refine R_iload_5 hC dX12_inOrder_88 ?_
                have hk12 : RW (uM (uM M2 66 (6 * (od k) + v) ((M2 66 (6 * (od k) + v)) - 1)) 65 v ((M2 65 v) - 1)) 0 c := (RW.u (RW.u hk2 (by decide)) (by decide))
                refine R_ialoadE hC dX12_inOrder_90 (by decide) rfl (by omega) (by omega) (hk12.rs v (by omega) (by omega) (by omega)) ?_
                refine R_iadd hC dX12_inOrder_91 ⟨by omega, by omega⟩ ?_
                refine R_istore_1 hC dX12_inOrder_92 rfl ?_
                refine R_iinc_4 hC dX12_inOrder_93 rfl ⟨by omega, by omega⟩ ?_
                refine R_aload_0 hC dX12_inOrder_96 ?_
                refine R_iload_3 hC dX12_inOrder_97 ?_
                have hm98 := ST.more hI hbI hmn ⟨i9, p9, hS9⟩ (show n < iM (insOf c) (od k) by omega) hb54 hGT (o2 := fun u => (uM (uM M2 66 (6 * (od k) + v) ((M2 66 (6 * (od k) + v)) - 1)) 65 v ((M2 65 v) - 1)) 66 (6 * od k + u)) (s2 := fun u => (uM (uM M2 66 (6 * (od k) + v) ((M2 66 (6 * (od k) + v)) - 1)) 65 v ((M2 65 v) - 1)) 65 u) (fun u => (uM_h (by decide)).trans (by
                    by_cases e : u = v
                    · rw [if_pos e, e, uM_same]
                    · rw [if_neg e, uM_k (by omega)])) (fun u => by
                    show uM _ 65 v _ 65 u = _
                    by_cases e : u = v
                    · rw [if_pos e, e, uM_same]
                    · rw [if_neg e, uM_k e]; exact uM_h (by decide))
                refine R_callVp (as := [vI _]) hC dX12_inOrder_98 mo_12_greatestThatMay ml_12_317 (by decide) rfl rfl (c12_greatestThatMay  hG11 hk12 hM (by omega) (by omega)) rfl rfl hRm (by decide) (by decide) (Nat.le_of_ble_eq_true rfl) (fun v15 Mc13 hq14 => ?_)
                have hid98 := fun a j => hq14.1 a j List.not_mem_nil List.not_mem_nil
                have hSTn : (∃ i p, ST (insOf c) b (od k) (oS (insOf c) b od k.toNat) (fun u => Mc13 66 (6 * od k + u)) (fun u => Mc13 65 u) (n + 1) (s2 + c (10 + v) - sp) i p) := by
                  have e : Mc13 = (uM (uM M2 66 (6 * (od k) + v) ((M2 66 (6 * (od k) + v)) - 1)) 65 v ((M2 65 v) - 1)) := funext fun a => funext fun j => hid98 a j
                  rw [e, show s2 + c (10 + v) - sp = s2 - sp + c (10 + v) by omega]
                  exact hm98
                have hGTn : GT (fun u => Mc13 66 (6 * od k + u)) (fun u => Mc13 65 u) (fun u => c (10 + u)) (c 122) v15 := by
                  have e : Mc13 = (uM (uM M2 66 (6 * (od k) + v) ((M2 66 (6 * (od k) + v)) - 1)) 65 v ((M2 65 v) - 1)) := funext fun a => funext fun j => hid98 a j
                  rw [e]
                  exact hq14.2
                refine R_istore_5 hC dX12_inOrder_101 rfl ?_
                refine R_goto hC dX12_inOrder_103 (tgt := 40) (by decide) ?_
                have hG16 : GR Mc13 := (GR.fr hG11 hq14.1 (by decide +kernel))
                have hk17 : RW Mc13 0 c := (RW.fr hk12 hq14.1 (by decide +kernel))
                exact ih40 _ _ _ _ (by omega) (by omega) hG16 hk17 (Fr.tt (Fr.uA (Fr.uA hF2 (by decide)) (by decide)) (hq14.1.mo (by simp) (by simp))) (fun y a q => by (rw [hid98, hid98]; exact ⟨(uM_h (by decide)).trans ((uM_h (by decide)).trans (hNM2 y a q).1), (uM_h (by decide)).trans ((uM_h (by decide)).trans (hNM2 y a q).2)⟩)) (fun y u a q p r z => by (rw [hid98]; exact (uM_h (by decide)).trans ((uM_k (by (have z1 := z k hk0 (by omega); omega))).trans (h662 y u a q p r z)))) ((hid98 57 47).trans ((uM_h (by decide)).trans ((uM_h (by decide)).trans h472))) hSTn hGTn (⟨by omega, by omega⟩) (by omega)
        have hG18 : GR Mc3 := (GR.fr hg hq4.1 (by decide +kernel))
        have hk19 : RW Mc3 0 c := (RW.fr hk1 hq4.1 (by decide +kernel))
        exact L40 _ _ _ _ _ (Int.le_refl _) (Int.le_trans (hI.2.2.2.2 (od k) bx.1 bx.2).1.1 (hI.2.2.2.2 (od k) bx.1 bx.2).1.2) hG18 hk19 hF35 (fun y a q => by (rw [hid35, hid35]; exact hNM y a q)) (fun y u a q p r z => by (rw [hid35]; exact h66 y u a q p r (fun j d e => z j d (by omega)))) ((hid35 57 47).trans h47) (by (rw [Int.sub_self]; exact ST.start hmn hbI hI.2.1.1 (fun w a q => (hid35 66 _).trans (h66 _ w bx.1 bx.2 a q (fun j d e => hR.2 j k d e (by omega)))) (fun w a q => (hid35 65 _).trans (h65 w a q)))) hGT0 (⟨by omega, by omega⟩) (Nat.lt_succ_self _)
  have hG20 : GR (uM Mc1 57 47 0) := (GR.uF (GR.fr hG hq2.1 (by decide +kernel)) (by decide +kernel) (by decide))
  have hk21 : RW (uM Mc1 57 47 0) 0 c := (RW.uf (RW.fr hK hq2.1 (by decide +kernel)) (by decide))
  exact L15 _ _ _ _ (by omega) (by omega) hG20 hk21 (Fr.uB (hq2.1.mo (by simp) (by simp)) (by decide)) (fun y a q => ⟨(uM_h (by decide)).trans (hAa.n y a q), (uM_h (by decide)).trans (hAa.m y a q)⟩) (fun y u a q p r _ => (uM_h (by decide)).trans (hAa.o y u a q p r)) (fun u a q => (uM_h (by decide)).trans (hAa.s u a q)) rfl (uM_same.trans (bits_none (fun x _ _ ⟨j, a, q, _⟩ => by omega)).symm) (Nat.lt_succ_self _)
theorem dX12_byTurns_0 : decode cX12_byTurns 0 = .ok (.iconst 0, 1) := by decide +kernel
theorem dX12_byTurns_1 : decode cX12_byTurns 1 = .ok (.istore_n 2, 1) := by decide +kernel
theorem dX12_byTurns_2 : decode cX12_byTurns 2 = .ok (.iload_n 2, 1) := by decide +kernel
theorem dX12_byTurns_3 : decode cX12_byTurns 3 = .ok (.aload_n 0, 1) := by decide +kernel
theorem dX12_byTurns_4 : decode cX12_byTurns 4 = .ok (.getfield 105, 3) := by decide +kernel
theorem dX12_byTurns_7 : decode cX12_byTurns 7 = .ok (.if_icmp .ge 23, 3) := by decide +kernel
theorem dX12_byTurns_10 : decode cX12_byTurns 10 = .ok (.aload_n 0, 1) := by decide +kernel
theorem dX12_byTurns_11 : decode cX12_byTurns 11 = .ok (.getfield 72, 3) := by decide +kernel
theorem dX12_byTurns_14 : decode cX12_byTurns 14 = .ok (.iload_n 2, 1) := by decide +kernel
theorem dX12_byTurns_15 : decode cX12_byTurns 15 = .ok (.iload_n 1, 1) := by decide +kernel
theorem dX12_byTurns_16 : decode cX12_byTurns 16 = .ok (.iload_n 2, 1) := by decide +kernel
theorem dX12_byTurns_17 : decode cX12_byTurns 17 = .ok (.iadd, 1) := by decide +kernel
theorem dX12_byTurns_18 : decode cX12_byTurns 18 = .ok (.aload_n 0, 1) := by decide +kernel
theorem dX12_byTurns_19 : decode cX12_byTurns 19 = .ok (.getfield 105, 3) := by decide +kernel
theorem dX12_byTurns_22 : decode cX12_byTurns 22 = .ok (.irem, 1) := by decide +kernel
theorem dX12_byTurns_23 : decode cX12_byTurns 23 = .ok (.iastore, 1) := by decide +kernel
theorem dX12_byTurns_24 : decode cX12_byTurns 24 = .ok (.iinc 2 1, 3) := by decide +kernel
theorem dX12_byTurns_27 : decode cX12_byTurns 27 = .ok (.goto (-25), 3) := by decide +kernel
theorem dX12_byTurns_30 : decode cX12_byTurns 30 = .ok (.aload_n 0, 1) := by decide +kernel
theorem dX12_byTurns_31 : decode cX12_byTurns 31 = .ok (.invokevirtual 320, 3) := by decide +kernel
theorem dX12_byTurns_34 : decode cX12_byTurns 34 = .ok (.ireturn, 1) := by decide +kernel
set_option maxHeartbeats 400000 in
theorem c12_byTurns {G : Gl} {l : Launch}  {M : Mem} {c : Int → Int} {f : Int} {b : Int → Int} (hG : GR M) (hK : RW M 0 c) (hS : SP c) (hb : RK (c 122) (fun w => c (10 + w)) b) (hf0 : 0 ≤ f) (hf1 : f < c 121) : Ct G LY 82 l 6 m12_byTurns [vR 57, vI f] M (RP (fun v M' => Fr [63, 64, 65, 66, 77] [(57, 47)] M M' ∧ v = oP (insOf c) b (lib (c 121) f) (c 121).toNat ∧ M' 57 47 = bits (c 121).toNat (oL (insOf c) b (lib (c 121) f) (c 121)))) := by
  refine R_start (by decide +kernel) (Nat.le_of_ble_eq_true rfl) (fun C hC hRm hlau => ?_)
  show RZ G LY C (Zn G LY 82 C (RP (fun v M' => Fr [63, 64, 65, 66, 77] [(57, 47)] M M' ∧ v = oP (insOf c) b (lib (c 121) f) (c 121).toNat ∧ M' 57 47 = bits (c 121).toNat (oL (insOf c) b (lib (c 121) f) (c 121))))) 0 0 82 0 [some (vR 57), some (vI f), none] [] M
  have hM := hS.m
  have hI := hM.I
  have hL := hM.1.1
  have hW := hM.1.2
  refine R_iconst hC dX12_byTurns_0 ⟨by decide, by decide⟩ ?_
  refine R_istore_2 hC dX12_byTurns_1 rfl ?_
  have L2 : ∀ (mq : Nat) (k : Int) (M1 : Mem), (0 ≤ k) → (k ≤ c 121) → (GR M1) → (RW M1 0 c) → (Fr [63, 64, 65, 66, 77] [(57, 47)] M M1) → (∀ j, 0 ≤ j → j < k → M1 77 j = lib (c 121) f j) → (c 121 - k).toNat < mq → RZ G LY C (Zn G LY 82 C (RP (fun v M' => Fr [63, 64, 65, 66, 77] [(57, 47)] M M' ∧ v = oP (insOf c) b (lib (c 121) f) (c 121).toNat ∧ M' 57 47 = bits (c 121).toNat (oL (insOf c) b (lib (c 121) f) (c 121))))) 0 0 82 2 [some (vR 57), some (vI f), some (vI k)] [] M1 := by
    intro mq
    induction mq with
    | zero =>
      intro k M1 hk0 hkL hg hk1 hF h77 hm
      exact absurd hm (Nat.not_lt_zero _)
    | succ mq ih2 =>
      intro k M1 hk0 hkL hg hk1 hF h77 hm2
      refine R_iload_2 hC dX12_byTurns_2 ?_
      refine R_aload_0 hC dX12_byTurns_3 ?_
      refine R_getIE hC dX12_byTurns_4 fl_12_105 (by decide) rfl (by decide) (by decide) (fi := 5) rfl hk1.l ?_
      refine R_icmp_ge hC dX12_byTurns_7 (tgt := 30) (by decide) (fun hb7 => ?_) (fun hb7 => ?_)
      · skip
        refine R_aload_0 hC dX12_byTurns_30 ?_
        refine R_callVp (as := []) hC dX12_byTurns_31 mo_12_inOrder ml_12_320 (by decide) rfl rfl (c12_inOrder (od := (lib (c 121) f)) hg hk1 hS hb (fun j a q => h77 j a (by omega)) (lib_R hf0 hf1)) rfl rfl hRm (by decide) (by decide) (Nat.le_of_ble_eq_true rfl) (fun v3 Mc1 hq2 => ?_)
        exact R_ireturn hC dX12_byTurns_34 rfl (ret_P ⟨Fr.tt hF (hq2.1.mo (by simp) (by simp)), hq2.2⟩)
      · skip
        refine R_aload_0 hC dX12_byTurns_10 ?_
        refine R_getR hC dX12_byTurns_11 fl_12_72 (by decide) rfl (by decide) (by decide) (fi := 45) rfl (r := 77) (gr_57_45 hg) ?_
        refine R_iload_2 hC dX12_byTurns_14 ?_
        refine R_iload_1 hC dX12_byTurns_15 ?_
        refine R_iload_2 hC dX12_byTurns_16 ?_
        refine R_iadd hC dX12_byTurns_17 ⟨by omega, by omega⟩ ?_
        refine R_aload_0 hC dX12_byTurns_18 ?_
        refine R_getIE hC dX12_byTurns_19 fl_12_105 (by decide) rfl (by decide) (by decide) (fi := 5) rfl hk1.l ?_
        refine R_irem hC dX12_byTurns_22 (by omega) (by omega) ?_
        have bm1 := Int.emod_nonneg (f + k) (show c 121 ≠ 0 by omega)
        have bm2 := Int.emod_lt_of_pos (f + k) (show 0 < c 121 by omega)
        refine R_iastore hC dX12_byTurns_23 (by decide) rfl (by omega) (by omega) ?_
        refine R_iinc_2 hC dX12_byTurns_24 rfl ⟨by omega, by omega⟩ ?_
        refine R_goto hC dX12_byTurns_27 (tgt := 2) (by decide) ?_
        have hG4 : GR (uM M1 77 k ((f + k) % (c 121))) := (GR.uA hg (by decide +kernel) (.inl (by decide)))
        have hk5 : RW (uM M1 77 k ((f + k) % (c 121))) 0 c := (RW.u hk1 (by decide))
        exact ih2 _ _ (by omega) (by omega) hG4 hk5 (Fr.uA hF (by decide)) (row_set h77 rfl (lib_m hf0 hf1 hk0 (by omega))) (by omega)
  exact L2 _ _ _ (by omega) (by omega) hG hK Fr.rf (fun j a b => by omega) (Nat.lt_succ_self _)
