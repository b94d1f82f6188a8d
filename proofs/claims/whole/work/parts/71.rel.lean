/-! the relation of the two sides -/
def LG (P B T : Int → Int) (f n : Int) (d : Int → Int) (s : Int → Int → Int) : Prop :=
  ∀ i, 0 ≤ i → i < n → unR P B T (slt f i) (if i + 1 = n then d else s (i + 1)) = s i ∧ SB (pbR P B (pbR P B (if i + 1 = n then d else s (i + 1)) (2 * slt f i)) (2 * slt f i + 1))
theorem un_cg {P B T P' B' T' : Int → Int} {k : Int} {d : Int → Int} (h1 : P' (2 * k) = P (2 * k)) (h2 : P' (2 * k + 1) = P (2 * k + 1)) (h3 : B' (2 * k) = B (2 * k)) (h4 : B' (2 * k + 1) = B (2 * k + 1)) (h5 : T' k = T k) :
    unR P' B' T' k d = unR P B T k d ∧ pbR P' B' (pbR P' B' d (2 * k)) (2 * k + 1) = pbR P B (pbR P B d (2 * k)) (2 * k + 1) := by
  have a : pbR P' B' d (2 * k) = pbR P B d (2 * k) := by unfold pbR; rw [h1, h3]
  have b : ∀ e, pbR P' B' e (2 * k + 1) = pbR P B e (2 * k + 1) := fun e => by unfold pbR; rw [h2, h4]
  refine ⟨?_, by rw [a, b]⟩
  unfold unR
  rw [a, b, h5]
theorem LG.cg {P B T P' B' T' : Int → Int} {f n : Int} {d : Int → Int} {s : Int → Int → Int} (hf : 0 ≤ f ∧ f < 40) (hn : n ≤ 40) (h : LG P B T f n d s) (h1 : ∀ k, 0 ≤ k → k < 80 → P' k = P k) (h2 : ∀ k, 0 ≤ k → k < 80 → B' k = B k) (h3 : ∀ k, 0 ≤ k → k < 40 → T' k = T k) : LG P' B' T' f n d s := fun i i0 i1 => by
  have b := slt_bd hf.1 hf.2 i0 (show i < 40 by omega)
  have u := fun e => un_cg (P := P) (B := B) (T := T) (P' := P') (B' := B') (T' := T') (k := slt f i) (d := e) (h1 _ (by omega) (by omega)) (h1 _ (by omega) (by omega)) (h2 _ (by omega) (by omega)) (h2 _ (by omega) (by omega)) (h3 _ b.1 b.2)
  rw [(u _).1, (u _).2]
  exact h i i0 i1
theorem kpF_e {f n : Int} (hf : 0 ≤ f ∧ f < 40) (hn : 0 ≤ n ∧ n ≤ 40) : kpF n f = nfF f n ∧ kpN n = nnF n + 1 := by
  unfold kpF nfF kpN nnF
  constructor
  · by_cases q : n = 40
    · rw [if_pos q, if_pos (by omega)]
      split <;> omega
    · rw [if_neg q, if_neg (by omega)]
  · by_cases q : n = 40
    · rw [if_pos q, if_pos (by omega)]; rfl
    · rw [if_neg q, if_neg (by omega)]
theorem nf_b {f n : Int} (hf : 0 ≤ f ∧ f < 40) : 0 ≤ nfF f n ∧ nfF f n < 40 := by
  unfold nfF
  by_cases q : 40 ≤ n
  · rw [if_pos q]
    split <;> omega
  · rw [if_neg q]
    exact hf
theorem nn_b {n : Int} (hn : 0 ≤ n ∧ n ≤ 40) : 0 ≤ nnF n ∧ nnF n < 40 := by
  unfold nnF
  split <;> omega
theorem LG.add {P B T : Int → Int} {f n : Int} {d e : Int → Int} {s : Int → Int → Int} {p b q c v : Int} (hf : 0 ≤ f ∧ f < 40) (hn : 0 ≤ n ∧ n ≤ 40) (h : LG P B T f n d s)
    (hu : wdR (if 0 ≤ q ∧ q < 123 then upd1 (if 0 ≤ p ∧ p < 123 then upd1 e p b else e) q c else if 0 ≤ p ∧ p < 123 then upd1 e p b else e) v 1 = d) (hs : SB (if 0 ≤ q ∧ q < 123 then upd1 (if 0 ≤ p ∧ p < 123 then upd1 e p b else e) q c else if 0 ≤ p ∧ p < 123 then upd1 e p b else e)) :
    LG (upd1 (upd1 P (2 * slt (nfF f n) (nnF n)) p) (2 * slt (nfF f n) (nnF n) + 1) q) (upd1 (upd1 B (2 * slt (nfF f n) (nnF n)) b) (2 * slt (nfF f n) (nnF n) + 1) c) (upd1 T (slt (nfF f n) (nnF n)) v) (nfF f n) (nnF n + 1) e (kpS n s d) := by
  have f0 := nf_b (n := n) hf
  have n0 := nn_b hn
  have kb := slt_bd f0.1 f0.2 n0.1 n0.2
  intro i i0 i1
  by_cases z : i = nnF n
  · rw [if_pos (by omega)]
    subst z
    have e9 : (if n = 40 then (39 : Int) else n) = nnF n := by unfold nnF; split <;> split <;> omega
    have es : kpS n s d (nnF n) = d := by unfold kpS; rw [e9, if_pos rfl]
    generalize slt (nfF f n) (nnF n) = k at kb ⊢
    have r1 : upd1 (upd1 P (2 * k) p) (2 * k + 1) q (2 * k) = p := (upd1_o (by omega)).trans upd1_e
    have r2 : upd1 (upd1 B (2 * k) b) (2 * k + 1) c (2 * k) = b := (upd1_o (by omega)).trans upd1_e
    have a1 : pbR (upd1 (upd1 P (2 * k) p) (2 * k + 1) q) (upd1 (upd1 B (2 * k) b) (2 * k + 1) c) e (2 * k) = if 0 ≤ p ∧ p < 123 then upd1 e p b else e := by
      unfold pbR
      rw [r1, r2]
    have a2 : ∀ x, pbR (upd1 (upd1 P (2 * k) p) (2 * k + 1) q) (upd1 (upd1 B (2 * k) b) (2 * k + 1) c) x (2 * k + 1) = if 0 ≤ q ∧ q < 123 then upd1 x q c else x := fun x => by
      unfold pbR
      rw [upd1_e, upd1_e]
    refine ⟨?_, ?_⟩
    · unfold unR
      rw [a1, a2, upd1_e, es]
      exact hu
    · rw [a1, a2]
      exact hs
  · have i2 : i < nnF n := by omega
    have j : ∃ j, 0 ≤ j ∧ j < n ∧ slt (nfF f n) i = slt f j ∧ kpS n s d i = s j ∧ (if i + 1 = nnF n + 1 then e else kpS n s d (i + 1)) = (if j + 1 = n then d else s (j + 1)) := by
      rw [if_neg (by omega)]
      unfold nnF at i2 z
      unfold nfF kpS
      by_cases w : n = 40
      · refine ⟨i + 1, by omega, by rw [if_pos (by omega)] at i2; omega, ?_, ?_, ?_⟩
        · rw [if_pos (by omega)]
          unfold slt
          split <;> split <;> split <;> omega
        · rw [if_pos w, if_pos w, if_neg (by rw [if_pos (by omega)] at i2; omega)]
        · rw [if_pos w]
          by_cases y : i + 1 = 39
          · rw [if_pos y, if_pos (by omega)]
          · rw [if_neg y, if_pos w, if_neg (by omega)]
      · rw [if_neg (by omega)] at i2 z
        refine ⟨i, i0, i2, ?_, ?_, ?_⟩
        · rw [if_neg (by omega)]
        · rw [if_neg w, if_neg (by omega), if_neg w]
        · rw [if_neg w]
          by_cases y : i + 1 = n
          · rw [if_pos y, if_pos y]
          · rw [if_neg y, if_neg y, if_neg w]
    obtain ⟨j, j0, j1, e1, e2, e3⟩ := j
    have hj := h j j0 j1
    have bj := slt_bd hf.1 hf.2 j0 (show j < 40 by omega)
    have ne : slt f j ≠ slt (nfF f n) (nnF n) := by
      rw [← e1]
      have i3 : i < nnF n ∧ nnF n < 40 := ⟨i2, n0.2⟩
      unfold slt
      split <;> split <;> omega
    rw [e1, e2, e3]
    generalize slt (nfF f n) (nnF n) = k at kb ne ⊢
    have u := un_cg (P := P) (B := B) (T := T) (P' := upd1 (upd1 P (2 * k) p) (2 * k + 1) q) (B' := upd1 (upd1 B (2 * k) b) (2 * k + 1) c) (T' := upd1 T k v) (k := slt f j) (d := if j + 1 = n then d else s (j + 1))
      ((upd1_o (by omega)).trans (upd1_o (by omega))) ((upd1_o (by omega)).trans (upd1_o (by omega))) ((upd1_o (by omega)).trans (upd1_o (by omega))) ((upd1_o (by omega)).trans (upd1_o (by omega))) (upd1_o ne)
    rw [u.1, u.2]
    exact hj
theorem LG.pop {P B T : Int → Int} {f n : Int} {d : Int → Int} {s : Int → Int → Int} (h : LG P B T f n d s) (hn : 0 < n) : LG P B T f (n - 1) (s (n - 1)) s := fun i i0 i1 => by
  have hi := h i i0 (by omega)
  rw [if_neg (by omega)] at hi
  by_cases q : i + 1 = n - 1
  · rw [if_pos q, ← q]
    exact hi
  · rw [if_neg q]
    exact hi
theorem pkd_0 {p : Int} : pkd 0 p = 0 := by
  unfold pkd
  have a : (Int64.ofInt 0).toUInt64 = 0 := by decide
  rw [a, UInt64.zero_shiftRight]
  decide
theorem wdR_0 {d : Int → Int} : wdR d 0 1 = d := funext fun b => by
  unfold wdR
  by_cases q : 28 ≤ b ∧ b < 58
  · rw [if_pos q, pkd_0]
    omega
  · rw [if_neg q]
abbrev SX : Type := (Int → Int) × Int × Int × (Int → Int → Int) × Int × (Int → Int) × (Int → Int)
abbrev SX.d (x : SX) : Int → Int := x.1
abbrev SX.f (x : SX) : Int := x.2.1
abbrev SX.n (x : SX) : Int := x.2.2.1
abbrev SX.s (x : SX) : Int → Int → Int := x.2.2.2.1
abbrev SX.k (x : SX) : Int := x.2.2.2.2.1
abbrev SX.no (x : SX) : Int → Int := x.2.2.2.2.2.1
abbrev SX.rf (x : SX) : Int → Int := x.2.2.2.2.2.2
abbrev GX : Type := SX × SX × Int × (Int → Int) × Int × Int
abbrev GX.a (x : GX) : SX := x.1
abbrev GX.b (x : GX) : SX := x.2.1
abbrev GX.t (x : GX) : Int := x.2.2.1
abbrev GX.ta (x : GX) : Int → Int := x.2.2.2.1
abbrev GX.fp (x : GX) : Int := x.2.2.2.2.1
abbrev GX.hi (x : GX) : Int := x.2.2.2.2.2
/-- the class's block of state -/
def SCl (M : Mem) (hs hd ha hp hb ht hn hr : Nat) (x : SX) : Prop := M hd = x.d ∧ (M ha 3 = x.f ∧ M ha 4 = x.n) ∧ LG (M hp) (M hb) (M ht) x.f x.n x.d x.s ∧ M hs 3 = x.k ∧ (∀ i, 0 ≤ i → i < 6 → M hn i = x.no i) ∧ ∀ i, 0 ≤ i → i < 3 → M hr i = x.rf i
def SM0 (M : Mem) (x : SX) : Prop := RW M 0 x.d ∧ RNG M x.n x.f x.s ∧ M 57 9 = x.k ∧ (∀ i, 0 ≤ i → i < 6 → M 60 i = x.no i) ∧ ∀ i, 0 ≤ i → i < 3 → M 61 i = x.rf i
def SM1 (M : Mem) (x : SX) : Prop := RW M 4788 x.d ∧ (M 57 10 = x.n ∧ M 57 11 = x.f ∧ M 57 12 = x.k) ∧ (∀ i, 0 ≤ i → i < x.n → RW M (slq x.f i + 4674) (x.s i)) ∧ (∀ i, 0 ≤ i → i < 6 → M 60 (6 + i) = x.no i) ∧ ∀ i, 0 ≤ i → i < 3 → M 61 (3 + i) = x.rf i
def RC (M : Mem) (x : GX) : Prop := FP M x.a.d ∧ SCl M 2 4 5 6 7 8 9 10 x.a ∧ (M 0 1 = x.t ∧ ∀ j, 0 ≤ j → j < x.t → M 1 j % 2 ^ 8 = x.ta j) ∧ M 0 2 = x.fp ∧ M 0 5 = x.hi ∧ (x.hi ≠ 0 → SCl M 11 13 14 15 16 17 18 19 x.b)
def RM (M : Mem) (x : GX) : Prop := SM0 M x.a ∧ (M 57 16 = x.t ∧ ∀ j, 0 ≤ j → j < x.t → M 62 j = x.ta j) ∧ M 57 17 = x.fp ∧ M 57 13 = x.hi ∧ (x.hi ≠ 0 → SM1 M x.b)
def OKs (x : SX) (c : Int) : Prop := (SP x.d ∧ x.d 119 ≤ 90 * c) ∧ ((0 ≤ x.f ∧ x.f < 40) ∧ 0 ≤ x.n ∧ x.n ≤ 40) ∧ (∀ i, 0 ≤ i → i < x.n → SP (x.s i) ∧ x.s i 119 ≤ 90 * c) ∧ (0 ≤ x.k ∧ x.k ≤ 6) ∧ ∀ i, 0 ≤ i → i < 3 → 0 ≤ x.rf i ∧ x.rf i ≤ c
def OKx (x : GX) (c : Int) : Prop := OKs x.a c ∧ (0 ≤ x.t ∧ x.t ≤ 700) ∧ (x.hi = 0 ∨ x.hi = 1) ∧ (x.hi ≠ 0 → OKs x.b c)
theorem OKs.up {x : SX} {c e : Int} (h : OKs x c) (q : c ≤ e) : OKs x e :=
  ⟨⟨h.1.1, by have := h.1.2; omega⟩, h.2.1, fun i a b => ⟨(h.2.2.1 i a b).1, by have := (h.2.2.1 i a b).2; omega⟩, h.2.2.2.1, fun i a b => ⟨(h.2.2.2.2 i a b).1, by have := (h.2.2.2.2 i a b).2; omega⟩⟩
theorem OKx.up {x : GX} {c e : Int} (h : OKx x c) (q : c ≤ e) : OKx x e := ⟨h.1.up q, h.2.1, h.2.2.1, fun z => (h.2.2.2 z).up q⟩
section RELS
variable {M M' : Mem} {x : GX}
theorem SCl.eq {hs hd ha hp hb ht hn hr : Nat} {y : SX} (h : SCl M hs hd ha hp hb ht hn hr y) (e1 : M' hs 3 = M hs 3) (e2 : M' hd = M hd) (e3 : M' ha = M ha) (e4 : M' hp = M hp) (e5 : M' hb = M hb) (e6 : M' ht = M ht) (e7 : M' hn = M hn) (e8 : M' hr = M hr) : SCl M' hs hd ha hp hb ht hn hr y := by
  unfold SCl
  rw [e1, e2, e3, e4, e5, e6, e7, e8]
  exact h
theorem SM1.eq {y : SX} (h : SM1 M y) (e8 : ∀ j, 4788 ≤ j → M' 58 j = M 58 j) (e9 : ∀ j, M' 59 j = M 59 j) (a : M' 57 14 = M 57 14) (a1 : M' 57 5 = M 57 5) (a2 : M' 57 6 = M 57 6) (b0 : M' 57 10 = M 57 10) (b1 : M' 57 11 = M 57 11) (b2 : M' 57 12 = M 57 12) (c0 : ∀ j, 6 ≤ j → M' 60 j = M 60 j) (c1 : ∀ j, 3 ≤ j → M' 61 j = M 61 j) : SM1 M' y := by
  obtain ⟨h1, ⟨h2, h3, h4⟩, h5, h6, h7⟩ := h
  refine ⟨ms_fr (fun j j0 _ => e8 j j0) e9 a a1 a2 h1, ⟨b0.trans h2, b1.trans h3, b2.trans h4⟩, fun i i0 i1 => ?_, fun i i0 i1 => (c0 _ (by omega)).trans (h6 i i0 i1), fun i i0 i1 => (c1 _ (by omega)).trans (h7 i i0 i1)⟩
  have b := slq_b y.f i
  exact ms_fr (fun j j0 _ => e8 j (by omega)) e9 a a1 a2 (h5 i i0 i1)
def rcH : List Nat := [1, 4, 5, 6, 7, 8, 9, 10, 13, 14, 15, 16, 17, 18, 19]
def rcF : List (Nat × Int) := [(0, 1), (0, 2), (0, 5), (2, 3), (11, 3)]
def rcOK (A : List Nat) (B : List (Nat × Int)) : Bool := rcH.all (fun h => !A.contains h && B.all (fun q => !(q.1 == h))) && rcF.all (fun q => !A.contains q.1 && !B.contains q)
theorem rc_k {A : List Nat} {B : List (Nat × Int)} (hF : Fr A B M M') (e : rcOK A B = true) : (∀ h ∈ rcH, M' h = M h) ∧ ∀ q ∈ rcF, M' q.1 q.2 = M q.1 q.2 := by
  unfold rcOK at e
  rw [Bool.and_eq_true] at e
  refine ⟨fun h hh => ?_, fun q hq => ?_⟩
  · have z := List.all_eq_true.mp e.1 h hh
    rw [Bool.and_eq_true, Bool.not_eq_true'] at z
    refine hF.row (fun y => by rw [List.contains_iff_mem.mpr y] at z; cases z.1) (fun p hp y => ?_)
    have w := List.all_eq_true.mp z.2 p hp
    rw [y] at w
    simp at w
  · have z := List.all_eq_true.mp e.2 q hq
    rw [Bool.and_eq_true, Bool.not_eq_true', Bool.not_eq_true'] at z
    exact hF q.1 q.2 (fun y => by rw [List.contains_iff_mem.mpr y] at z; cases z.1) (fun y => by rw [List.contains_iff_mem.mpr y] at z; cases z.2)
theorem RC.fr {A : List Nat} {B : List (Nat × Int)} (h : RC M x) (hF : Fr A B M M') (e : rcOK A B = true) (hp : FP M' x.a.d) : RC M' x := by
  have k := rc_k hF e
  have r : ∀ g, g ∈ rcH → M' g = M g := k.1
  obtain ⟨-, h2, ⟨h3, h4⟩, h5, h6, h7⟩ := h
  refine ⟨hp, h2.eq (k.2 (2, 3) (by decide)) (r 4 (by decide)) (r 5 (by decide)) (r 6 (by decide)) (r 7 (by decide)) (r 8 (by decide)) (r 9 (by decide)) (r 10 (by decide)), ⟨(k.2 (0, 1) (by decide)).trans h3, fun j a b => by rw [r 1 (by decide)]; exact h4 j a b⟩, (k.2 (0, 2) (by decide)).trans h5, (k.2 (0, 5) (by decide)).trans h6, fun z => (h7 z).eq (k.2 (11, 3) (by decide)) (r 13 (by decide)) (r 14 (by decide)) (r 15 (by decide)) (r 16 (by decide)) (r 17 (by decide)) (r 18 (by decide)) (r 19 (by decide))⟩
def rmF : List (Nat × Int) := [(57, 5), (57, 6), (57, 14), (57, 7), (57, 8), (57, 9), (57, 10), (57, 11), (57, 12), (57, 13), (57, 16), (57, 17)]
def rmOK (A : List Nat) (B : List (Nat × Int)) : Bool := [59, 60, 61, 62].all (fun h => !A.contains h && B.all (fun q => !(q.1 == h))) && rmF.all (fun q => !A.contains q.1 && !B.contains q)
theorem rm_k {A : List Nat} {B : List (Nat × Int)} (hF : Fr A B M M') (e : rmOK A B = true) : (∀ h ∈ [59, 60, 61, 62], M' h = M h) ∧ ∀ q ∈ rmF, M' q.1 q.2 = M q.1 q.2 := by
  unfold rmOK at e
  rw [Bool.and_eq_true] at e
  refine ⟨fun h hh => ?_, fun q hq => ?_⟩
  · have z := List.all_eq_true.mp e.1 h hh
    rw [Bool.and_eq_true, Bool.not_eq_true'] at z
    refine hF.row (fun y => by rw [List.contains_iff_mem.mpr y] at z; cases z.1) (fun p hp y => ?_)
    have w := List.all_eq_true.mp z.2 p hp
    rw [y] at w
    simp at w
  · have z := List.all_eq_true.mp e.2 q hq
    rw [Bool.and_eq_true, Bool.not_eq_true', Bool.not_eq_true'] at z
    exact hF q.1 q.2 (fun y => by rw [List.contains_iff_mem.mpr y] at z; cases z.1) (fun y => by rw [List.contains_iff_mem.mpr y] at z; cases z.2)
theorem RM.fr {A : List Nat} {B : List (Nat × Int)} (h : RM M x) (hF : Fr A B M M') (e : rmOK A B = true) (h8 : ∀ j : Int, (j < 114 ∨ 228 ≤ j) → M' 58 j = M 58 j) : RM M' x := by
  have k := rm_k hF e
  have r : ∀ g, g ∈ [59, 60, 61, 62] → M' g = M g := k.1
  have e9 : ∀ j, M' 59 j = M 59 j := fun j => congrFun (r 59 (by decide)) j
  have a : M' 57 14 = M 57 14 := k.2 (57, 14) (by decide)
  have a1 : M' 57 5 = M 57 5 := k.2 (57, 5) (by decide)
  have a2 : M' 57 6 = M 57 6 := k.2 (57, 6) (by decide)
  obtain ⟨⟨h1, ⟨h2, ⟨h3, h4⟩, h5⟩, h6, h7, h8'⟩, ⟨h9, h10⟩, h11, h12, h13⟩ := h
  refine ⟨⟨ms_fr (fun j j0 j1 => h8 j (.inl (by omega))) e9 a a1 a2 h1, ⟨h2, ⟨(k.2 (57, 7) (by decide)).trans h3, (k.2 (57, 8) (by decide)).trans h4⟩, fun i i0 i1 => ?_⟩, (k.2 (57, 9) (by decide)).trans h6, fun i i0 i1 => by rw [r 60 (by decide)]; exact h7 i i0 i1, fun i i0 i1 => by rw [r 61 (by decide)]; exact h8' i i0 i1⟩, ⟨(k.2 (57, 16) (by decide)).trans h9, fun j a b => by rw [r 62 (by decide)]; exact h10 j a b⟩, (k.2 (57, 17) (by decide)).trans h11, (k.2 (57, 13) (by decide)).trans h12, fun z => (h13 z).eq (fun j q => h8 j (.inr (by omega))) e9 a a1 a2 (k.2 (57, 10) (by decide)) (k.2 (57, 11) (by decide)) (k.2 (57, 12) (by decide)) (fun j _ => congrFun (r 60 (by decide)) j) (fun j _ => congrFun (r 61 (by decide)) j)⟩
  have b := slq_b x.a.f i
  exact ms_fr (fun j j0 j1 => h8 j (.inr (by omega))) e9 a a1 a2 (h5 i i0 i1)
theorem RM.fr8 {A : List Nat} {B : List (Nat × Int)} (h : RM M x) (hF : Fr A B M M') (e : rmOK A B = true) (e8 : (!A.contains 58 && B.all (fun q => !(q.1 == 58))) = true) : RM M' x := h.fr hF e (fun j _ => by
  rw [Bool.and_eq_true, Bool.not_eq_true'] at e8
  refine congrFun (hF.row (fun y => by rw [List.contains_iff_mem.mpr y] at e8; cases e8.1) (fun p hp y => ?_)) j
  have w := List.all_eq_true.mp e8.2 p hp
  rw [y] at w
  simp at w)
end RELS

