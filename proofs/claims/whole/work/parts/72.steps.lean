/-! the relation, call by call -/
def frOK (Hs : List Nat) (Fs : List (Nat × Int)) (A : List Nat) (B : List (Nat × Int)) : Bool := Hs.all (fun h => !A.contains h && B.all (fun q => !(q.1 == h))) && Fs.all (fun q => !A.contains q.1 && !B.contains q)
theorem fr_k {Hs : List Nat} {Fs : List (Nat × Int)} {A : List Nat} {B : List (Nat × Int)} {M M' : Mem} (hF : Fr A B M M') (e : frOK Hs Fs A B = true) : (∀ h ∈ Hs, M' h = M h) ∧ ∀ q ∈ Fs, M' q.1 q.2 = M q.1 q.2 := by
  unfold frOK at e
  rw [Bool.and_eq_true] at e
  refine ⟨fun h hh => ?_, fun q hq => ?_⟩
  · have z := List.all_eq_true.mp e.1 h hh
    rw [Bool.and_eq_true, Bool.not_eq_true'] at z
    refine hF.row (fun y => by rw [List.contains_iff_mem.mpr y] at z; cases z.1) (fun p hp y => ?_)
    have w := List.all_eq_true.mp z.2 p hp
    rw [y] at w
    simp at w
  · have z := List.all_eq_true.mp e.2 q hq
    rw [Bool.and_eq_true, Bool.not_eq_true', Bool.not_eq_true'] at z
    exact hF q.1 q.2 (fun y => by rw [List.contains_iff_mem.mpr y] at z; cases z.1) (fun y => by rw [List.contains_iff_mem.mpr y] at z; cases z.2)
section STEPS
variable {M M' : Mem} {x : GX}
def actX (x : GX) (e : Int → Int) : GX := ((e, kpF x.a.n x.a.f, kpN x.a.n, kpS x.a.n x.a.s x.a.d, x.a.k, x.a.no, x.a.rf), x.2)
theorem RC.act {p b q c v : Int} {e : Int → Int} (h : RC M x) (hb : (0 ≤ x.a.f ∧ x.a.f < 40) ∧ 0 ≤ x.a.n ∧ x.a.n ≤ 40) (ha : ACTC M M' x.a.f x.a.n p b q c v e)
    (hu : wdR (if 0 ≤ q ∧ q < 123 then upd1 (if 0 ≤ p ∧ p < 123 then upd1 e p b else e) q c else if 0 ≤ p ∧ p < 123 then upd1 e p b else e) v 1 = x.a.d) (hs : SB (if 0 ≤ q ∧ q < 123 then upd1 (if 0 ≤ p ∧ p < 123 then upd1 e p b else e) q c else if 0 ≤ p ∧ p < 123 then upd1 e p b else e)) : RC M' (actX x e) := by
  obtain ⟨hF, -, h10, h4, h53, h54, h6, h7, h8⟩ := ha
  have k := fr_k (Hs := [1, 9, 10, 13, 14, 15, 16, 17, 18, 19]) (Fs := rcF) hF (by decide +kernel)
  have r : ∀ g, g ∈ [1, 9, 10, 13, 14, 15, 16, 17, 18, 19] → M' g = M g := k.1
  have ke := kpF_e hb.1 hb.2
  obtain ⟨-, ⟨c1, ⟨c2, c3⟩, c4, c5, c6, c7⟩, ⟨h3, h4'⟩, h5, h6', h7'⟩ := h
  have lg := LG.add (p := p) (b := b) (q := q) (c := c) (v := v) (e := e) hb.1 hb.2 c4 hu hs
  rw [← h6, ← h7, ← h8] at lg
  refine ⟨fun z => absurd h10 z, ⟨h4, ⟨h53.trans ke.1.symm, h54.trans ke.2.symm⟩, ?_, (k.2 (2, 3) (by decide)).trans c5, fun i a b => by rw [r 9 (by decide)]; exact c6 i a b, fun i a b => by rw [r 10 (by decide)]; exact c7 i a b⟩, ⟨(k.2 (0, 1) (by decide)).trans h3, fun j a b => by rw [r 1 (by decide)]; exact h4' j a b⟩, (k.2 (0, 2) (by decide)).trans h5, (k.2 (0, 5) (by decide)).trans h6', fun z => (h7' z).eq (k.2 (11, 3) (by decide)) (r 13 (by decide)) (r 14 (by decide)) (r 15 (by decide)) (r 16 (by decide)) (r 17 (by decide)) (r 18 (by decide)) (r 19 (by decide))⟩
  show LG (M' 6) (M' 7) (M' 8) (kpF x.a.n x.a.f) (kpN x.a.n) e (kpS x.a.n x.a.s x.a.d)
  rw [ke.1, ke.2]
  exact lg
def rmG : List (Nat × Int) := [(57, 5), (57, 6), (57, 14), (57, 9), (57, 10), (57, 11), (57, 12), (57, 13), (57, 16), (57, 17)]
theorem RM.keep {A : List Nat} {B : List (Nat × Int)} {e : Int → Int} {n f : Int} {s : Int → Int → Int} (h : RM M x) (hF : Fr A B M M') (e1 : frOK [59, 60, 61, 62] rmG A B = true) (hi : HI M M') (hk : RW M' 0 e) (hr : RNG M' n f s) : RM M' ((e, f, n, s, x.a.k, x.a.no, x.a.rf), x.2) := by
  have k := fr_k hF e1
  have r : ∀ g, g ∈ [59, 60, 61, 62] → M' g = M g := k.1
  obtain ⟨⟨-, -, h6, h7, h8⟩, ⟨h9, h10⟩, h11, h12, h13⟩ := h
  exact ⟨⟨hk, hr, (k.2 (57, 9) (by decide)).trans h6, fun i i0 i1 => by rw [r 60 (by decide)]; exact h7 i i0 i1, fun i i0 i1 => by rw [r 61 (by decide)]; exact h8 i i0 i1⟩, ⟨(k.2 (57, 16) (by decide)).trans h9, fun j a b => by rw [r 62 (by decide)]; exact h10 j a b⟩, (k.2 (57, 17) (by decide)).trans h11, (k.2 (57, 13) (by decide)).trans h12, fun z => (h13 z).eq (fun j q => hi j q) (fun j => congrFun (r 59 (by decide)) j) (k.2 (57, 14) (by decide)) (k.2 (57, 5) (by decide)) (k.2 (57, 6) (by decide)) (k.2 (57, 10) (by decide)) (k.2 (57, 11) (by decide)) (k.2 (57, 12) (by decide)) (fun j _ => congrFun (r 60 (by decide)) j) (fun j _ => congrFun (r 61 (by decide)) j)⟩
theorem OKx.act {c : Int} {e : Int → Int} (h : OKx x c) (hc : 0 ≤ c) (he : SP e) (h9 : e 119 ≤ 90 * (c + 1)) : OKx (actX x e) (c + 1) := by
  have u := h.up (show c ≤ c + 1 by omega)
  obtain ⟨⟨⟨s1, s2⟩, ⟨b1, b2⟩, s3, s4, s5⟩, t, hh, hb⟩ := u
  have ke := kpF_e b1 b2
  have f0 := nf_b (n := x.a.n) b1
  have n0 := nn_b b2
  refine ⟨⟨⟨he, h9⟩, ⟨⟨by show 0 ≤ kpF _ _; rw [ke.1]; exact f0.1, by show kpF _ _ < 40; rw [ke.1]; exact f0.2⟩, by show 0 ≤ kpN _; rw [ke.2]; omega, by show kpN _ ≤ 40; rw [ke.2]; omega⟩, fun i i0 i1 => ?_, s4, s5⟩, t, hh, hb⟩
  have i2 : i < kpN x.a.n := i1
  rw [ke.2] at i2
  show SP (kpS x.a.n x.a.s x.a.d i) ∧ kpS x.a.n x.a.s x.a.d i 119 ≤ _
  have e9 : (if x.a.n = 40 then (39 : Int) else x.a.n) = nnF x.a.n := by unfold nnF; split <;> split <;> omega
  unfold kpS
  rw [e9]
  by_cases q : i = nnF x.a.n
  · rw [if_pos q]
    exact ⟨s1, s2⟩
  · rw [if_neg q]
    by_cases w : x.a.n = 40
    · rw [if_pos w]
      refine s3 (i + 1) (by omega) ?_
      rw [show nnF x.a.n = 39 by unfold nnF; rw [if_pos (by omega)]] at i2 q
      omega
    · rw [if_neg w]
      refine s3 i i0 ?_
      rw [show nnF x.a.n = x.a.n by unfold nnF; rw [if_neg (by omega)]] at i2 q
      omega
/-- something is refused -/
def refX (x : GX) (k : Int) : GX := ((x.a.d, x.a.f, x.a.n, x.a.s, x.a.k, x.a.no, upd1 x.a.rf k (x.a.rf k + 1)), x.2)
theorem RC.ref {A : List Nat} {B : List (Nat × Int)} {k : Int} (h : RC M x) (hF : Fr A B M M') (e : frOK [1, 4, 5, 6, 7, 8, 9, 13, 14, 15, 16, 17, 18, 19] rcF A B = true) (hp : FP M' x.a.d) (k0 : 0 ≤ k ∧ k < 3) (h1 : M' 10 k = M 10 k + 1) (h2 : ∀ j, j ≠ k → M' 10 j = M 10 j) : RC M' (refX x k) := by
  have kk := fr_k hF e
  have r : ∀ g, g ∈ [1, 4, 5, 6, 7, 8, 9, 13, 14, 15, 16, 17, 18, 19] → M' g = M g := kk.1
  obtain ⟨-, ⟨c1, ⟨c2, c3⟩, c4, c5, c6, c7⟩, ⟨h3, h4⟩, h5, h6, h7⟩ := h
  refine ⟨hp, ⟨by rw [r 4 (by decide)]; exact c1, ⟨by rw [r 5 (by decide)]; exact c2, by rw [r 5 (by decide)]; exact c3⟩, by rw [r 6 (by decide), r 7 (by decide), r 8 (by decide)]; exact c4, (kk.2 (2, 3) (by decide)).trans c5, fun i a b => by rw [r 9 (by decide)]; exact c6 i a b, fun i a b => ?_⟩, ⟨(kk.2 (0, 1) (by decide)).trans h3, fun j a b => by rw [r 1 (by decide)]; exact h4 j a b⟩, (kk.2 (0, 2) (by decide)).trans h5, (kk.2 (0, 5) (by decide)).trans h6, fun z => (h7 z).eq (kk.2 (11, 3) (by decide)) (r 13 (by decide)) (r 14 (by decide)) (r 15 (by decide)) (r 16 (by decide)) (r 17 (by decide)) (r 18 (by decide)) (r 19 (by decide))⟩
  show M' 10 i = upd1 x.a.rf k (x.a.rf k + 1) i
  by_cases q : i = k
  · rw [q, upd1_e, h1, c7 k k0.1 k0.2]
  · rw [upd1_o q, h2 i q]
    exact c7 i a b
theorem RM.ref {A : List Nat} {B : List (Nat × Int)} {k : Int} (h : RM M x) (hF : Fr A B M M') (e : frOK [58, 59, 60, 62] rmF A B = true) (k0 : 0 ≤ k ∧ k < 3) (h1 : M' 61 k = M 61 k + 1) (h2 : ∀ j, j ≠ k → M' 61 j = M 61 j) : RM M' (refX x k) := by
  have kk := fr_k hF e
  have r : ∀ g, g ∈ [58, 59, 60, 62] → M' g = M g := kk.1
  have e8 : ∀ j, M' 58 j = M 58 j := fun j => congrFun (r 58 (by decide)) j
  have e9 : ∀ j, M' 59 j = M 59 j := fun j => congrFun (r 59 (by decide)) j
  have a : M' 57 14 = M 57 14 := kk.2 (57, 14) (by decide)
  have a1 : M' 57 5 = M 57 5 := kk.2 (57, 5) (by decide)
  have a2 : M' 57 6 = M 57 6 := kk.2 (57, 6) (by decide)
  obtain ⟨⟨g1, ⟨g2, ⟨g3, g4⟩, g5⟩, h6, h7, h8⟩, ⟨h9, h10⟩, h11, h12, h13⟩ := h
  refine ⟨⟨ms_fr (fun j _ _ => e8 j) e9 a a1 a2 g1, ⟨g2, ⟨(kk.2 (57, 7) (by decide)).trans g3, (kk.2 (57, 8) (by decide)).trans g4⟩, fun i i0 i1 => ms_fr (fun j _ _ => e8 j) e9 a a1 a2 (g5 i i0 i1)⟩, (kk.2 (57, 9) (by decide)).trans h6, fun i i0 i1 => by rw [r 60 (by decide)]; exact h7 i i0 i1, fun i i0 i1 => ?_⟩, ⟨(kk.2 (57, 16) (by decide)).trans h9, fun j a b => by rw [r 62 (by decide)]; exact h10 j a b⟩, (kk.2 (57, 17) (by decide)).trans h11, (kk.2 (57, 13) (by decide)).trans h12, fun z => (h13 z).eq (fun j _ => e8 j) e9 a a1 a2 (kk.2 (57, 10) (by decide)) (kk.2 (57, 11) (by decide)) (kk.2 (57, 12) (by decide)) (fun j _ => congrFun (r 60 (by decide)) j) (fun j q => h2 j (by omega))⟩
  show M' 61 i = upd1 x.a.rf k (x.a.rf k + 1) i
  by_cases q : i = k
  · rw [q, upd1_e, h1, h8 k k0.1 k0.2]
  · rw [upd1_o q, h2 i q]
    exact h8 i i0 i1
theorem OKx.ref {c k : Int} (h : OKx x c) (k0 : 0 ≤ k ∧ k < 3) : OKx (refX x k) (c + 1) := by
  have u := h.up (show c ≤ c + 1 by omega)
  refine ⟨⟨u.1.1, u.1.2.1, u.1.2.2.1, u.1.2.2.2.1, fun i a b => ?_⟩, u.2⟩
  show 0 ≤ upd1 x.a.rf k (x.a.rf k + 1) i ∧ upd1 x.a.rf k (x.a.rf k + 1) i ≤ _
  by_cases q : i = k
  · rw [q, upd1_e]
    have := h.1.2.2.2.2 k k0.1 k0.2
    omega
  · rw [upd1_o q]
    exact u.1.2.2.2.2 i a b
/-- undone -/
def undX (x : GX) : GX := ((x.a.s (x.a.n - 1), x.a.f, x.a.n - 1, x.a.s, x.a.k, x.a.no, x.a.rf), x.2)
theorem RC.und (h : RC M x) (hn : 0 < x.a.n) (hF : Fr [4] [(5, 4), (0, 10)] M M') (h10 : M' 0 10 = 0) (h54 : M' 5 4 = x.a.n - 1) (h4 : M' 4 = unR (M 6) (M 7) (M 8) (slt x.a.f (x.a.n - 1)) x.a.d) : RC M' (undX x) := by
  have kk := fr_k (Hs := [1, 6, 7, 8, 9, 10, 13, 14, 15, 16, 17, 18, 19]) (Fs := (5, 3) :: rcF) hF (by decide +kernel)
  have r : ∀ g, g ∈ [1, 6, 7, 8, 9, 10, 13, 14, 15, 16, 17, 18, 19] → M' g = M g := kk.1
  obtain ⟨-, ⟨c1, ⟨c2, c3⟩, c4, c5, c6, c7⟩, ⟨h3, h4'⟩, h5, h6, h7⟩ := h
  have u := (c4 (x.a.n - 1) (by omega) (by omega)).1
  rw [if_pos (by omega)] at u
  refine ⟨fun z => absurd h10 z, ⟨h4.trans u, ⟨(kk.2 (5, 3) (by decide)).trans c2, h54⟩, ?_, (kk.2 (2, 3) (by decide)).trans c5, fun i a b => by rw [r 9 (by decide)]; exact c6 i a b, fun i a b => by rw [r 10 (by decide)]; exact c7 i a b⟩, ⟨(kk.2 (0, 1) (by decide)).trans h3, fun j a b => by rw [r 1 (by decide)]; exact h4' j a b⟩, (kk.2 (0, 2) (by decide)).trans h5, (kk.2 (0, 5) (by decide)).trans h6, fun z => (h7 z).eq (kk.2 (11, 3) (by decide)) (r 13 (by decide)) (r 14 (by decide)) (r 15 (by decide)) (r 16 (by decide)) (r 17 (by decide)) (r 18 (by decide)) (r 19 (by decide))⟩
  show LG (M' 6) (M' 7) (M' 8) x.a.f (x.a.n - 1) (x.a.s (x.a.n - 1)) x.a.s
  rw [r 6 (by decide), r 7 (by decide), r 8 (by decide)]
  exact c4.pop hn
theorem OKx.und {c : Int} (h : OKx x c) (hn : 0 < x.a.n) : OKx (undX x) (c + 1) := by
  have u := h.up (show c ≤ c + 1 by omega)
  have z := u.1.2.2.1 (x.a.n - 1) (by omega) (by omega)
  exact ⟨⟨z, ⟨u.1.2.1.1, by show 0 ≤ x.a.n - 1; omega, by show x.a.n - 1 ≤ 40; have := u.1.2.1.2.2; omega⟩, fun i a b => u.1.2.2.1 i a (by have : i < x.a.n - 1 := b; omega), u.1.2.2.2⟩, u.2⟩
/-- noted -/
def notX (x : GX) (y : Int) : GX := ((x.a.d, x.a.f, x.a.n, x.a.s, x.a.k + 1, upd1 x.a.no x.a.k y, x.a.rf), x.2)
def forX (x : GX) : GX := ((x.a.d, x.a.f, x.a.n, x.a.s, 0, x.a.no, x.a.rf), x.2)
theorem RC.nt {A : List Nat} {B : List (Nat × Int)} {k : Int} {no : Int → Int} (h : RC M x) (hF : Fr A B M M') (e : frOK [1, 4, 5, 6, 7, 8, 10, 13, 14, 15, 16, 17, 18, 19] [(0, 1), (0, 2), (0, 5), (11, 3)] A B = true) (hp : FP M' x.a.d) (h1 : M' 2 3 = k) (h2 : ∀ i, 0 ≤ i → i < 6 → M' 9 i = no i) : RC M' ((x.a.d, x.a.f, x.a.n, x.a.s, k, no, x.a.rf), x.2) := by
  have kk := fr_k hF e
  have r : ∀ g, g ∈ [1, 4, 5, 6, 7, 8, 10, 13, 14, 15, 16, 17, 18, 19] → M' g = M g := kk.1
  obtain ⟨-, ⟨c1, ⟨c2, c3⟩, c4, c5, c6, c7⟩, ⟨h3, h4⟩, h5, h6, h7⟩ := h
  exact ⟨hp, ⟨by rw [r 4 (by decide)]; exact c1, ⟨by rw [r 5 (by decide)]; exact c2, by rw [r 5 (by decide)]; exact c3⟩, by rw [r 6 (by decide), r 7 (by decide), r 8 (by decide)]; exact c4, h1, h2, fun i a b => by rw [r 10 (by decide)]; exact c7 i a b⟩, ⟨(kk.2 (0, 1) (by decide)).trans h3, fun j a b => by rw [r 1 (by decide)]; exact h4 j a b⟩, (kk.2 (0, 2) (by decide)).trans h5, (kk.2 (0, 5) (by decide)).trans h6, fun z => (h7 z).eq (kk.2 (11, 3) (by decide)) (r 13 (by decide)) (r 14 (by decide)) (r 15 (by decide)) (r 16 (by decide)) (r 17 (by decide)) (r 18 (by decide)) (r 19 (by decide))⟩
theorem RM.nt {A : List Nat} {B : List (Nat × Int)} {k : Int} {no : Int → Int} (h : RM M x) (hF : Fr A B M M') (e : frOK [58, 59, 61, 62] [(57, 5), (57, 6), (57, 14), (57, 7), (57, 8), (57, 10), (57, 11), (57, 12), (57, 13), (57, 16), (57, 17)] A B = true) (h1 : M' 57 9 = k) (h2 : ∀ i, 0 ≤ i → i < 6 → M' 60 i = no i) (h3 : ∀ j, 6 ≤ j → M' 60 j = M 60 j) : RM M' ((x.a.d, x.a.f, x.a.n, x.a.s, k, no, x.a.rf), x.2) := by
  have kk := fr_k hF e
  have r : ∀ g, g ∈ [58, 59, 61, 62] → M' g = M g := kk.1
  have e8 : ∀ j, M' 58 j = M 58 j := fun j => congrFun (r 58 (by decide)) j
  have e9 : ∀ j, M' 59 j = M 59 j := fun j => congrFun (r 59 (by decide)) j
  have a : M' 57 14 = M 57 14 := kk.2 (57, 14) (by decide)
  have a1 : M' 57 5 = M 57 5 := kk.2 (57, 5) (by decide)
  have a2 : M' 57 6 = M 57 6 := kk.2 (57, 6) (by decide)
  obtain ⟨⟨g1, ⟨g2, ⟨g3, g4⟩, g5⟩, h6, h7, h8⟩, ⟨h9, h10⟩, h11, h12, h13⟩ := h
  exact ⟨⟨ms_fr (fun j _ _ => e8 j) e9 a a1 a2 g1, ⟨g2, ⟨(kk.2 (57, 7) (by decide)).trans g3, (kk.2 (57, 8) (by decide)).trans g4⟩, fun i i0 i1 => ms_fr (fun j _ _ => e8 j) e9 a a1 a2 (g5 i i0 i1)⟩, h1, h2, fun i i0 i1 => by rw [r 61 (by decide)]; exact h8 i i0 i1⟩, ⟨(kk.2 (57, 16) (by decide)).trans h9, fun j a b => by rw [r 62 (by decide)]; exact h10 j a b⟩, (kk.2 (57, 17) (by decide)).trans h11, (kk.2 (57, 13) (by decide)).trans h12, fun z => (h13 z).eq (fun j _ => e8 j) e9 a a1 a2 (kk.2 (57, 10) (by decide)) (kk.2 (57, 11) (by decide)) (kk.2 (57, 12) (by decide)) (fun j q => h3 j q) (fun j _ => congrFun (r 61 (by decide)) j)⟩
theorem OKx.nt {c k : Int} {no : Int → Int} (h : OKx x c) (hk : 0 ≤ k ∧ k ≤ 6) : OKx ((x.a.d, x.a.f, x.a.n, x.a.s, k, no, x.a.rf), x.2) (c + 1) := by
  have u := h.up (show c ≤ c + 1 by omega)
  exact ⟨⟨u.1.1, u.1.2.1, u.1.2.2.1, hk, u.1.2.2.2.2⟩, u.2⟩
/-- an image -/
def imgX (x : GX) : GX := (x.a, x.a, x.t, x.ta, x.fp, 1)
def rstX (x : GX) : GX := (x.b, x.b, x.t, x.ta, x.fp, x.hi)
theorem RC.img (h : RC M x) (hb : (0 ≤ x.a.f ∧ x.a.f < 40) ∧ 0 ≤ x.a.n ∧ x.a.n ≤ 40) (hF : Fr [13, 15, 16, 17, 18, 19] [(14, 3), (14, 4), (11, 3), (0, 5)] M M') (h05 : M' 0 5 = 1) (h13 : M' 13 = x.a.d) (e15 : ∀ k, 0 ≤ k → k < 80 → M' 15 k = M 6 k) (e16 : ∀ k, 0 ≤ k → k < 80 → M' 16 k = M 7 k) (e17 : ∀ k, 0 ≤ k → k < 40 → M' 17 k = M 8 k) (e3 : M' 14 3 = M 5 3) (e4 : M' 14 4 = M 5 4) (e18 : ∀ k, 0 ≤ k → k < 6 → M' 18 k = M 9 k) (e11 : M' 11 3 = M 2 3) (e19 : ∀ k, 0 ≤ k → k < 3 → M' 19 k = M 10 k) : RC M' (imgX x) := by
  have kk := fr_k (Hs := [1, 4, 5, 6, 7, 8, 9, 10]) (Fs := [(0, 1), (0, 2), (2, 3)]) hF (by decide +kernel)
  have r : ∀ g, g ∈ [1, 4, 5, 6, 7, 8, 9, 10] → M' g = M g := kk.1
  have hp : FP M' x.a.d := h.1.fr hF (by decide +kernel)
  obtain ⟨-, ⟨c1, ⟨c2, c3⟩, c4, c5, c6, c7⟩, ⟨h3, h4⟩, h5, h6, h7⟩ := h
  exact ⟨hp, ⟨by rw [r 4 (by decide)]; exact c1, ⟨by rw [r 5 (by decide)]; exact c2, by rw [r 5 (by decide)]; exact c3⟩, by rw [r 6 (by decide), r 7 (by decide), r 8 (by decide)]; exact c4, (kk.2 (2, 3) (by decide)).trans c5, fun i a b => by rw [r 9 (by decide)]; exact c6 i a b, fun i a b => by rw [r 10 (by decide)]; exact c7 i a b⟩, ⟨(kk.2 (0, 1) (by decide)).trans h3, fun j a b => by rw [r 1 (by decide)]; exact h4 j a b⟩, (kk.2 (0, 2) (by decide)).trans h5, h05, fun _ => ⟨h13, ⟨e3.trans c2, e4.trans c3⟩, c4.cg hb.1 hb.2.2 e15 e16 e17, e11.trans c5, fun i a b => (e18 i a b).trans (c6 i a b), fun i a b => (e19 i a b).trans (c7 i a b)⟩⟩
theorem RC.rst (h : RC M x) (hh : x.hi ≠ 0) (hb : (0 ≤ x.b.f ∧ x.b.f < 40) ∧ 0 ≤ x.b.n ∧ x.b.n ≤ 40) (hF : Fr [4, 6, 7, 8, 9, 10] [(5, 3), (5, 4), (2, 3), (0, 10)] M M') (h10 : M' 0 10 = 0) (h4' : M' 4 = x.b.d) (e15 : ∀ k, 0 ≤ k → k < 80 → M' 6 k = M 15 k) (e16 : ∀ k, 0 ≤ k → k < 80 → M' 7 k = M 16 k) (e17 : ∀ k, 0 ≤ k → k < 40 → M' 8 k = M 17 k) (e3 : M' 5 3 = M 14 3) (e4 : M' 5 4 = M 14 4) (e18 : ∀ k, 0 ≤ k → k < 6 → M' 9 k = M 18 k) (e11 : M' 2 3 = M 11 3) (e19 : ∀ k, 0 ≤ k → k < 3 → M' 10 k = M 19 k) : RC M' (rstX x) := by
  have kk := fr_k (Hs := [1, 13, 14, 15, 16, 17, 18, 19]) (Fs := [(0, 1), (0, 2), (0, 5), (11, 3)]) hF (by decide +kernel)
  have r : ∀ g, g ∈ [1, 13, 14, 15, 16, 17, 18, 19] → M' g = M g := kk.1
  obtain ⟨-, -, ⟨h3, h4⟩, h5, h6, h7⟩ := h
  have h8 := h7 hh
  obtain ⟨c1, ⟨c2, c3⟩, c4, c5, c6, c7⟩ := h8
  exact ⟨fun z => absurd h10 z, ⟨h4', ⟨e3.trans c2, e4.trans c3⟩, c4.cg hb.1 hb.2.2 e15 e16 e17, e11.trans c5, fun i a b => (e18 i a b).trans (c6 i a b), fun i a b => (e19 i a b).trans (c7 i a b)⟩, ⟨(kk.2 (0, 1) (by decide)).trans h3, fun j a b => by rw [r 1 (by decide)]; exact h4 j a b⟩, (kk.2 (0, 2) (by decide)).trans h5, (kk.2 (0, 5) (by decide)).trans h6, fun z => (h7 z).eq (kk.2 (11, 3) (by decide)) (r 13 (by decide)) (r 14 (by decide)) (r 15 (by decide)) (r 16 (by decide)) (r 17 (by decide)) (r 18 (by decide)) (r 19 (by decide))⟩
theorem RW.sh {b b' : Int} {c : Int → Int} (h : RW M b c) (e8 : ∀ j, 0 ≤ j → j < 114 → M' 58 (b' + j) = M 58 (b + j)) (e9 : ∀ j, M' 59 j = M 59 j) (a : M' 57 14 = M 57 14) (a1 : M' 57 5 = M 57 5) (a2 : M' 57 6 = M 57 6) : RW M' b' c := by
  intro k k0 k1
  rw [← h k k0 k1]
  have o : ∀ y z, 0 ≤ y - b' → y - b' < 114 → z = b + (y - b') → M' 58 y = M 58 z := fun y z p q s => by
    have := e8 (y - b') p q
    rw [show b' + (y - b') = y by omega] at this
    rw [this, s]
  unfold ms
  by_cases q1 : k < 10
  · rw [if_pos q1, if_pos q1]; exact o _ _ (by omega) (by omega) (by omega)
  rw [if_neg q1, if_neg q1]
  by_cases q2 : k < 16
  · rw [if_pos q2, if_pos q2, a2, e9]
  rw [if_neg q2, if_neg q2]
  by_cases q3 : k < 22
  · rw [if_pos q3, if_pos q3]; exact o _ _ (by omega) (by omega) (by omega)
  rw [if_neg q3, if_neg q3]
  by_cases q4 : k < 28
  · rw [if_pos q4, if_pos q4]; exact o _ _ (by omega) (by omega) (by omega)
  rw [if_neg q4, if_neg q4]
  by_cases q5 : k < 118
  · rw [if_pos q5, if_pos q5]; exact o _ _ (by omega) (by omega) (by omega)
  rw [if_neg q5, if_neg q5]
  by_cases q6 : k < 120
  · rw [if_pos q6, if_pos q6]; exact o _ _ (by omega) (by omega) (by omega)
  rw [if_neg q6, if_neg q6, a, a1, a2]
theorem RM.img (h : RM M x) (hF : Fr [58, 60, 61] [(57, 4), (57, 10), (57, 11), (57, 12), (57, 13)] M M') (r8 : (∀ j, j < 4788 → M' 58 j = M 58 j) ∧ (∀ j, 0 ≤ j → j < 114 → M' 58 (4788 + j) = M 58 j) ∧ (∀ j, 0 ≤ j → j < 4560 → M' 58 (4902 + j) = M 58 (228 + j))) (f7 : M' 57 10 = M 57 7 ∧ M' 57 11 = M 57 8 ∧ M' 57 12 = M 57 9 ∧ M' 57 4 = 0) (f13 : M' 57 13 = 1) (r60 : (∀ q, 0 ≤ q → q < 6 → M' 60 q = M 60 q) ∧ (∀ q, 0 ≤ q → q < 6 → M' 60 (6 + q) = M 60 q)) (r61 : (∀ q, 0 ≤ q → q < 3 → M' 61 q = M 61 q) ∧ (∀ q, 0 ≤ q → q < 3 → M' 61 (3 + q) = M 61 q)) : RM M' (imgX x) := by
  have kk := fr_k (Hs := [59, 62]) (Fs := [(57, 5), (57, 6), (57, 14), (57, 7), (57, 8), (57, 9), (57, 16), (57, 17)]) hF (by decide +kernel)
  have e9 : ∀ j, M' 59 j = M 59 j := fun j => congrFun (kk.1 59 (by decide)) j
  have a : M' 57 14 = M 57 14 := kk.2 (57, 14) (by decide)
  have a1 : M' 57 5 = M 57 5 := kk.2 (57, 5) (by decide)
  have a2 : M' 57 6 = M 57 6 := kk.2 (57, 6) (by decide)
  obtain ⟨⟨g1, ⟨g2, ⟨g3, g4⟩, g5⟩, h6, h7, h8⟩, ⟨h9, h10⟩, h11, h12, h13⟩ := h
  refine ⟨⟨ms_fr (fun j j0 j1 => r8.1 j (by omega)) e9 a a1 a2 g1, ⟨g2, ⟨(kk.2 (57, 7) (by decide)).trans g3, (kk.2 (57, 8) (by decide)).trans g4⟩, fun i i0 i1 => ?_⟩, (kk.2 (57, 9) (by decide)).trans h6, fun i i0 i1 => (r60.1 i i0 i1).trans (h7 i i0 i1), fun i i0 i1 => (r61.1 i i0 i1).trans (h8 i i0 i1)⟩, ⟨(kk.2 (57, 16) (by decide)).trans h9, fun j p q => by rw [kk.1 62 (by decide)]; exact h10 j p q⟩, (kk.2 (57, 17) (by decide)).trans h11, f13, fun _ => ⟨g1.sh (fun j p q => (r8.2.1 j p q).trans (congrArg (M 58) (by omega))) e9 a a1 a2, ⟨f7.1.trans g3, f7.2.1.trans g4, f7.2.2.1.trans h6⟩, fun i i0 i1 => ?_, fun i i0 i1 => (r60.2 i i0 i1).trans (h7 i i0 i1), fun i i0 i1 => (r61.2 i i0 i1).trans (h8 i i0 i1)⟩⟩
  · have b : 228 ≤ slq (imgX x).a.f i ∧ slq (imgX x).a.f i + 114 ≤ 4788 := slq_b _ _
    exact ms_fr (fun j j0 j1 => r8.1 j (by omega)) e9 a a1 a2 (g5 i i0 i1)
  · have b := slq_b x.a.f i
    refine (g5 i i0 i1).sh (fun j p q => ?_) e9 a a1 a2
    have z := r8.2.2 (slq x.a.f i + j - 228) (by omega) (by omega)
    rw [show 4902 + (slq x.a.f i + j - 228) = slq x.a.f i + 4674 + j by omega, show 228 + (slq x.a.f i + j - 228) = slq x.a.f i + j by omega] at z
    exact z
theorem RM.rst (h : RM M x) (hh : x.hi ≠ 0) (hb : (0 ≤ x.b.f ∧ x.b.f < 40) ∧ 0 ≤ x.b.n ∧ x.b.n ≤ 40) (hF : Fr [58, 60, 61] [(57, 4), (57, 7), (57, 8), (57, 9)] M M') (r8 : (∀ j, 4788 ≤ j → M' 58 j = M 58 j) ∧ (∀ j, 0 ≤ j → j < 114 → M' 58 j = M 58 (4788 + j)) ∧ (∀ j, 0 ≤ j → j < 4560 → M' 58 (228 + j) = M 58 (4902 + j))) (f7 : M' 57 7 = M 57 10 ∧ M' 57 8 = M 57 11 ∧ M' 57 9 = M 57 12 ∧ M' 57 4 = 0) (r60 : (∀ q, 0 ≤ q → q < 6 → M' 60 (6 + q) = M 60 (6 + q)) ∧ (∀ q, 0 ≤ q → q < 6 → M' 60 q = M 60 (6 + q))) (r61 : (∀ q, 0 ≤ q → q < 3 → M' 61 (3 + q) = M 61 (3 + q)) ∧ (∀ q, 0 ≤ q → q < 3 → M' 61 q = M 61 (3 + q))) : RM M' (rstX x) := by
  have kk := fr_k (Hs := [59, 62]) (Fs := [(57, 5), (57, 6), (57, 14), (57, 10), (57, 11), (57, 12), (57, 13), (57, 16), (57, 17)]) hF (by decide +kernel)
  have e9 : ∀ j, M' 59 j = M 59 j := fun j => congrFun (kk.1 59 (by decide)) j
  have a : M' 57 14 = M 57 14 := kk.2 (57, 14) (by decide)
  have a1 : M' 57 5 = M 57 5 := kk.2 (57, 5) (by decide)
  have a2 : M' 57 6 = M 57 6 := kk.2 (57, 6) (by decide)
  obtain ⟨-, ⟨h9, h10⟩, h11, h12, h13⟩ := h
  obtain ⟨g1, ⟨g3, g4, h6⟩, g5, h7, h8⟩ := h13 hh
  refine ⟨⟨g1.sh (fun j p q => (congrArg (M' 58) (by omega)).trans (r8.2.1 j p q)) e9 a a1 a2, ⟨⟨⟨hb.2.1, hb.2.2⟩, hb.1⟩, ⟨f7.1.trans g3, f7.2.1.trans g4⟩, fun i i0 i1 => ?_⟩, f7.2.2.1.trans h6, fun i i0 i1 => (r60.2 i i0 i1).trans (h7 i i0 i1), fun i i0 i1 => (r61.2 i i0 i1).trans (h8 i i0 i1)⟩, ⟨(kk.2 (57, 16) (by decide)).trans h9, fun j p q => by rw [kk.1 62 (by decide)]; exact h10 j p q⟩, (kk.2 (57, 17) (by decide)).trans h11, (kk.2 (57, 13) (by decide)).trans h12, fun _ => ⟨ms_fr (fun j j0 j1 => r8.1 j j0) e9 a a1 a2 g1, ⟨(kk.2 (57, 10) (by decide)).trans g3, (kk.2 (57, 11) (by decide)).trans g4, (kk.2 (57, 12) (by decide)).trans h6⟩, fun i i0 i1 => ?_, fun i i0 i1 => (r60.1 i i0 i1).trans (h7 i i0 i1), fun i i0 i1 => (r61.1 i i0 i1).trans (h8 i i0 i1)⟩⟩
  · have b := slq_b x.b.f i
    refine (g5 i i0 i1).sh (fun j p q => ?_) e9 a a1 a2
    have z := r8.2.2 (slq x.b.f i + j - 228) (by omega) (by omega)
    rw [show 4902 + (slq x.b.f i + j - 228) = slq x.b.f i + 4674 + j by omega, show 228 + (slq x.b.f i + j - 228) = slq x.b.f i + j by omega] at z
    exact z
  · have b : 228 ≤ slq (rstX x).b.f i ∧ slq (rstX x).b.f i + 114 ≤ 4788 := slq_b _ _
    exact ms_fr (fun j j0 j1 => r8.1 j (by omega)) e9 a a1 a2 (g5 i i0 i1)
end STEPS

