/-! the relation: what is fed and read; exact stocks -/
section SPS
variable {d : Int → Int}
theorem SP.of {k v : Int} (h : SP d) (hk : (0 ≤ k ∧ k < 10 ∧ 0 ≤ v ∧ v ≤ 20) ∨ (16 ≤ k ∧ k < 22 ∧ 0 ≤ v ∧ v ≤ 15) ∨ (22 ≤ k ∧ k < 28 ∧ 0 ≤ v ∧ v ≤ 20) ∨ (28 ≤ k ∧ k < 88 ∧ 0 ≤ v ∧ v ≤ 3) ∨ (88 ≤ k ∧ k < 118 ∧ 0 ≤ v ∧ v ≤ 60) ∨ (k = 118 ∧ 0 ≤ v ∧ v ≤ 61) ∨ (k = 119 ∧ 0 ≤ v ∧ v ≤ 90000) ∨ (k = 120 ∧ 0 ≤ v ∧ v ≤ 20) ∨ (k = 121 ∧ 0 ≤ v ∧ v ≤ 5)) : SP (upd1 d k v) := by
  have u : ∀ j, upd1 d k v j = if j = k then v else d j := fun _ => rfl
  have h0 := h
  obtain ⟨⟨a1, a2⟩, a3, a4, a5, ⟨a6, a7, a8⟩, a9⟩ := h0
  refine ⟨⟨?_, ?_⟩, fun x x0 x1 => ?_, fun w w0 w1 => ?_, fun p p0 p1 => ?_, ⟨?_, ?_, ?_⟩, fun w w0 w1 => ?_⟩
  · rw [u]; split <;> omega
  · rw [u]; split <;> omega
  · have := a3 x x0 x1
    rw [u, u]; split <;> split <;> omega
  · have := a4 w w0 w1
    rw [u, u, u]; split <;> split <;> split <;> omega
  · have := a5 p p0 p1
    rw [u, u, u]; split <;> split <;> split <;> omega
  · rw [u]; split <;> omega
  · rw [u]; split <;> omega
  · rw [u]; split <;> omega
  · rw [u] at w1 ⊢
    rw [if_neg (by omega)] at w1
    have := a9 w w0 w1
    rw [if_neg (by omega)]
    exact this
theorem SP.wk {w z : Int} (h : SP d) (hw : d 122 = w) (w1 : w < 6) (z0 : 1 ≤ z) (z1 : z ≤ 9) : SP (upd1 (upd1 d (10 + w) z) 122 (w + 1)) := by
  have h0 := h
  obtain ⟨⟨a1, a2⟩, a3, a4, a5, ⟨a6, a7, a8⟩, a9⟩ := h0
  have w0 : 0 ≤ w := by omega
  have u : ∀ j, j ≠ 122 → upd1 (upd1 d (10 + w) z) 122 (w + 1) j = if j = 10 + w then z else d j := fun j q => upd1_o q
  refine ⟨⟨?_, ?_⟩, fun x x0 x1 => ?_, fun v v0 v1 => ?_, fun p p0 p1 => ?_, ⟨?_, ?_, ?_⟩, fun v v0 v1 => ?_⟩
  · rw [u _ (by decide), if_neg (by omega)]; exact a1
  · rw [upd1_e]; omega
  · have := a3 x x0 x1
    rw [u _ (by omega), u _ (by omega), if_neg (by omega), if_neg (by omega)]; exact this
  · have := a4 v v0 v1
    rw [u _ (by omega), u _ (by omega), u _ (by omega), if_neg (show ¬ 16 + v = 10 + w by omega), if_neg (show ¬ 22 + v = 10 + w by omega)]
    split <;> omega
  · have := a5 p p0 p1
    rw [u _ (by omega), u _ (by omega), u _ (by omega), if_neg (by omega), if_neg (by omega), if_neg (by omega)]; exact this
  · rw [u _ (by decide), if_neg (by omega)]; exact a6
  · rw [u _ (by decide), if_neg (by omega)]; exact a7
  · rw [u _ (by decide), if_neg (by omega)]; exact a8
  · rw [upd1_e] at v1
    rw [u _ (by omega)]
    by_cases q : v = w
    · rw [if_pos (by omega)]; exact z0
    · rw [if_neg (by omega)]; exact a9 v v0 (by omega)
end SPS
def QS (d : Int → Int) : Prop := SP d ∧ d 119 = 0
section QSS
variable {r : Int → Int} {n : Int}
theorem cl_SP {X : RX} (h : QS X.1) : QS (clR r n X).1 := by
  obtain ⟨d, s, S⟩ := X
  have h' : QS d := h
  obtain ⟨hS, h9⟩ := h'
  have hL := hS.1.1
  have hW := hS.1.2
  have l2b : ∀ c : Int × RT, 0 ≤ (lb2 r n c).1 ∧ (lb2 r n c).1 ≤ 20 := fun c => by
    unfold lb2
    split
    · exact rn_b (by decide)
    · exact ⟨(by decide : (0 : Int) ≤ 20), (by decide : (20 : Int) ≤ 20)⟩
  by_cases h0 : wdP r n S 0
  · rw [clc_0 h0]
    show QS (lbR r n d S).1
    unfold lbR
    by_cases q : d 121 < 5
    · rw [if_pos q]
      have b1 := rn_b (r := r) (n := n) (S := nxR r n S) (show (0 : Int) ≤ 20 by decide)
      have b2 := l2b (rnR r n 0 20 (nxR r n S))
      have s1 := hS.of (k := 0 + d 121) (v := (rnR r n 0 20 (nxR r n S)).1) (.inl (by omega))
      have s2 := s1.of (k := 5 + d 121) (v := (lb2 r n (rnR r n 0 20 (nxR r n S))).1) (.inl (by omega))
      refine ⟨s2.of (k := 121) (v := d 121 + 1) (by omega), ?_⟩
      dsimp only
      rw [upd1_o (by decide), upd1_o (by omega), upd1_o (by omega)]
      exact h9
    · rw [if_neg q]; exact ⟨hS, h9⟩
  by_cases h1 : wdP r n S 1
  · rw [clc_1 h0 h1]
    show QS (wkR r n d S).1
    unfold wkR
    by_cases q : d 122 < 6
    · rw [if_pos q]
      have b1 := rn_b (r := r) (n := n) (S := nxR r n S) (show (1 : Int) ≤ 9 by decide)
      have b2 := rn_b (r := r) (n := n) (S := (rnR r n 1 9 (nxR r n S)).2) (show (0 : Int) ≤ 15 by decide)
      have s1 := hS.of (k := 16 + d 122) (v := (rnR r n 0 15 (rnR r n 1 9 (nxR r n S)).2).1) (.inr (.inl (by omega)))
      have s2 := s1.wk (w := d 122) (upd1_o (by omega)) q b1.1 b1.2
      refine ⟨?_, ?_⟩
      · show SP (upd1 (upd1 (upd1 d (10 + d 122) _) (16 + d 122) _) 122 (d 122 + 1))
        rw [upd1_c (show 10 + d 122 ≠ 16 + d 122 by omega)]
        exact s2
      · dsimp only
        rw [upd1_o (by decide), upd1_o (by omega), upd1_o (by omega)]
        exact h9
    · rw [if_neg q]; exact ⟨hS, h9⟩
  have bL := hdL_b (r := r) (n := n) (d := d) (S := S)
  by_cases h2 : wdP r n S 2
  · rw [clc_2 h0 h1 h2]
    have bW := hdW_b (r := r) (n := n) (d := d) (b := 28) (S := S)
    have bC : 1 ≤ (hdC r n d S).1 ∧ (hdC r n d S).1 ≤ 3 := rn_b (by decide)
    show QS (if (sgR r n (hdC r n d S).2).2.2.2.1 = 0 then _ else d)
    split
    · refine ⟨hS.of (by omega), ?_⟩
      rw [upd1_o (by omega)]; exact h9
    · exact ⟨hS, h9⟩
  by_cases h3 : wdP r n S 3
  · rw [clc_3 h0 h1 h2 h3]
    have bW := hdW_b (r := r) (n := n) (d := d) (b := 58) (S := S)
    have bM : 1 ≤ (pmM r n d S).1 ∧ (pmM r n d S).1 ≤ 3 := rn_b (by decide)
    have bY : 0 ≤ (pmY r n d S).1 ∧ (pmY r n d S).1 ≤ 60 := rn_b (by decide)
    show QS (if (sgR r n (pmY r n d S).2).2.2.2.1 = 0 then _ else d)
    split
    · refine ⟨(hS.of (k := 58 + (hdL r n d S).1 * 6 + (hdW r n d 58 S).1) (v := (pmM r n d S).1) (by omega)).of (by omega), ?_⟩
      rw [upd1_o (by omega), upd1_o (by omega)]; exact h9
    · exact ⟨hS, h9⟩
  by_cases h4 : wdP r n S 4
  · rw [clc_4 h0 h1 h2 h3 h4]
    have b1 := rn_b (r := r) (n := n) (S := nxR r n S) (show (0 : Int) ≤ 20 by decide)
    show QS (if s = 0 then upd1 d 120 (rnR r n 0 20 (nxR r n S)).1 else d)
    split
    · exact ⟨hS.of (by omega), (upd1_o (by decide)).trans h9⟩
    · exact ⟨hS, h9⟩
  rw [clc_5 h0 h1 h2 h3 h4]
  exact ⟨hS, h9⟩
theorem z_SP : QS (fun _ => 0) := by
  have a : (0 : Int) ≤ 0 := Int.le_refl _
  refine ⟨⟨⟨⟨a, ?_⟩, a, ?_⟩, fun _ _ _ => ⟨⟨a, ?_⟩, a, ?_⟩, fun _ _ _ => ⟨⟨a, ?_⟩, ⟨a, ?_⟩, a, ?_⟩, fun _ _ _ => ⟨⟨a, ?_⟩, ⟨a, ?_⟩, a, ?_⟩, ⟨⟨a, ?_⟩, ⟨a, ?_⟩, a, ?_⟩, fun w a b => absurd b (by show ¬ w < 0; omega)⟩, rfl⟩
  · show (0 : Int) ≤ 5; decide
  · show (0 : Int) ≤ 6; decide
  · show (0 : Int) ≤ 20; decide
  · show (0 : Int) ≤ 20; decide
  · show (0 : Int) ≤ 9; decide
  · show (0 : Int) ≤ 15; decide
  · show (0 : Int) ≤ 20; decide
  · show (0 : Int) ≤ 3; decide
  · show (0 : Int) ≤ 3; decide
  · show (0 : Int) ≤ 60; decide
  · show (0 : Int) ≤ 61; decide
  · show (0 : Int) ≤ 90000; decide
  · show (0 : Int) ≤ 20; decide
theorem rdI_SP : ∀ k : Nat, QS (rdI r n k).1
  | 0 => z_SP
  | k + 1 => cl_SP (rdI_SP k)
end QSS
section STEP2
variable {M M' : Mem} {x : GX}
def fedX (x : GX) (u : Int → Int) : GX := (x.a, x.b, x.t + 20, (fun j => if x.t ≤ j ∧ j < x.t + 20 then u (j - x.t) else x.ta j), x.fp, x.hi)
theorem RC.fed {u : Int → Int} (h : RC M x) (hF : Fr [1] [(0, 1)] M M') (ht : M' 0 1 = x.t + 20) (h1 : ∀ j, 0 ≤ j → j < 20 → M' 1 (x.t + j) % 2 ^ 8 = u j) (h2 : ∀ j, (j < x.t ∨ x.t + 20 ≤ j) → M' 1 j = M 1 j) : RC M' (fedX x u) := by
  have kk := fr_k (Hs := [4, 5, 6, 7, 8, 9, 10, 13, 14, 15, 16, 17, 18, 19]) (Fs := [(0, 2), (0, 5), (2, 3), (11, 3)]) hF (by decide +kernel)
  have r : ∀ g, g ∈ [4, 5, 6, 7, 8, 9, 10, 13, 14, 15, 16, 17, 18, 19] → M' g = M g := kk.1
  have hp : FP M' x.a.d := h.1.fr hF (by decide +kernel)
  obtain ⟨-, c, ⟨h3, h4⟩, h5, h6, h7⟩ := h
  refine ⟨hp, c.eq (kk.2 (2, 3) (by decide)) (r 4 (by decide)) (r 5 (by decide)) (r 6 (by decide)) (r 7 (by decide)) (r 8 (by decide)) (r 9 (by decide)) (r 10 (by decide)), ⟨ht, fun j a b => ?_⟩, (kk.2 (0, 2) (by decide)).trans h5, (kk.2 (0, 5) (by decide)).trans h6, fun z => (h7 z).eq (kk.2 (11, 3) (by decide)) (r 13 (by decide)) (r 14 (by decide)) (r 15 (by decide)) (r 16 (by decide)) (r 17 (by decide)) (r 18 (by decide)) (r 19 (by decide))⟩
  have b' : j < x.t + 20 := b
  show M' 1 j % 2 ^ 8 = if x.t ≤ j ∧ j < x.t + 20 then u (j - x.t) else x.ta j
  by_cases q : x.t ≤ j
  · rw [if_pos ⟨q, b'⟩]
    have := h1 (j - x.t) (by omega) (by omega)
    rw [show x.t + (j - x.t) = j by omega] at this
    exact this
  · rw [if_neg (fun z => q z.1), h2 j (by omega)]
    exact h4 j a (by omega)
theorem RM.fed {u : Int → Int} (h : RM M x) (hF : Fr [62] [(57, 4), (57, 16)] M M') (ht : M' 57 16 = x.t + 20) (h1 : ∀ j, 0 ≤ j → j < 20 → M' 62 (x.t + j) = u j) (h2 : ∀ j, (j < x.t ∨ x.t + 20 ≤ j) → M' 62 j = M 62 j) : RM M' (fedX x u) := by
  have kk := fr_k (Hs := [58, 59, 60, 61]) (Fs := [(57, 5), (57, 6), (57, 14), (57, 7), (57, 8), (57, 9), (57, 10), (57, 11), (57, 12), (57, 13), (57, 17)]) hF (by decide +kernel)
  have r : ∀ g, g ∈ [58, 59, 60, 61] → M' g = M g := kk.1
  have e8 : ∀ j, M' 58 j = M 58 j := fun j => congrFun (r 58 (by decide)) j
  have e9 : ∀ j, M' 59 j = M 59 j := fun j => congrFun (r 59 (by decide)) j
  have a : M' 57 14 = M 57 14 := kk.2 (57, 14) (by decide)
  have a1 : M' 57 5 = M 57 5 := kk.2 (57, 5) (by decide)
  have a2 : M' 57 6 = M 57 6 := kk.2 (57, 6) (by decide)
  obtain ⟨⟨g1, ⟨g2, ⟨g3, g4⟩, g5⟩, h6, h7, h8⟩, ⟨h9, h10⟩, h11, h12, h13⟩ := h
  refine ⟨⟨ms_fr (fun j _ _ => e8 j) e9 a a1 a2 g1, ⟨g2, ⟨(kk.2 (57, 7) (by decide)).trans g3, (kk.2 (57, 8) (by decide)).trans g4⟩, fun i i0 i1 => ms_fr (fun j _ _ => e8 j) e9 a a1 a2 (g5 i i0 i1)⟩, (kk.2 (57, 9) (by decide)).trans h6, fun i i0 i1 => by rw [r 60 (by decide)]; exact h7 i i0 i1, fun i i0 i1 => by rw [r 61 (by decide)]; exact h8 i i0 i1⟩, ⟨ht, fun j p b => ?_⟩, (kk.2 (57, 17) (by decide)).trans h11, (kk.2 (57, 13) (by decide)).trans h12, fun z => (h13 z).eq (fun j _ => e8 j) e9 a a1 a2 (kk.2 (57, 10) (by decide)) (kk.2 (57, 11) (by decide)) (kk.2 (57, 12) (by decide)) (fun j _ => congrFun (r 60 (by decide)) j) (fun j _ => congrFun (r 61 (by decide)) j)⟩
  have b' : j < x.t + 20 := b
  show M' 62 j = if x.t ≤ j ∧ j < x.t + 20 then u (j - x.t) else x.ta j
  by_cases q : x.t ≤ j
  · rw [if_pos ⟨q, b'⟩]
    have := h1 (j - x.t) (by omega) (by omega)
    rw [show x.t + (j - x.t) = j by omega] at this
    exact this
  · rw [if_neg (fun z => q z.1), h2 j (by omega)]
    exact h10 j p (by omega)
theorem OKx.fed {c : Int} {u : Int → Int} (h : OKx x c) (ht : x.t ≤ 680) : OKx (fedX x u) (c + 1) := by
  have v := h.up (show c ≤ c + 1 by omega)
  exact ⟨v.1, ⟨by show 0 ≤ x.t + 20; have := v.2.1.1; omega, by show x.t + 20 ≤ 700; omega⟩, v.2.2⟩
/-- a text with a fault -/
def dfX (x : GX) (fp : Int) : GX := ((x.a.d, x.a.f, x.a.n, x.a.s, x.a.k, x.a.no, upd1 x.a.rf 0 (x.a.rf 0 + 1)), x.b, 0, x.ta, fp, x.hi)
theorem RC.df {fp : Int} (h : RC M x) (hF : Fr [10, 21] [(0, 1), (0, 2), (22, 0), (22, 1), (22, 2), (22, 3), (22, 4), (22, 5), (22, 6), (22, 7), (22, 8)] M M') (hp : FP M' x.a.d) (h01 : M' 0 1 = 0) (h02 : M' 0 2 = fp) (h1 : M' 10 0 = M 10 0 + 1) (h2 : ∀ j, j ≠ 0 → M' 10 j = M 10 j) : RC M' (dfX x fp) := by
  have kk := fr_k (Hs := [4, 5, 6, 7, 8, 9, 13, 14, 15, 16, 17, 18, 19]) (Fs := [(0, 5), (2, 3), (11, 3)]) hF (by decide +kernel)
  have r : ∀ g, g ∈ [4, 5, 6, 7, 8, 9, 13, 14, 15, 16, 17, 18, 19] → M' g = M g := kk.1
  obtain ⟨-, ⟨c1, ⟨c2, c3⟩, c4, c5, c6, c7⟩, ⟨h3, h4⟩, h5, h6, h7⟩ := h
  refine ⟨hp, ⟨by rw [r 4 (by decide)]; exact c1, ⟨by rw [r 5 (by decide)]; exact c2, by rw [r 5 (by decide)]; exact c3⟩, by rw [r 6 (by decide), r 7 (by decide), r 8 (by decide)]; exact c4, (kk.2 (2, 3) (by decide)).trans c5, fun i a b => by rw [r 9 (by decide)]; exact c6 i a b, fun i a b => ?_⟩, ⟨h01, fun j a b => absurd b (by show ¬ j < 0; omega)⟩, h02, (kk.2 (0, 5) (by decide)).trans h6, fun z => (h7 z).eq (kk.2 (11, 3) (by decide)) (r 13 (by decide)) (r 14 (by decide)) (r 15 (by decide)) (r 16 (by decide)) (r 17 (by decide)) (r 18 (by decide)) (r 19 (by decide))⟩
  show M' 10 i = upd1 x.a.rf 0 (x.a.rf 0 + 1) i
  by_cases q : i = 0
  · rw [q, upd1_e, h1, c7 0 (by decide) (by decide)]
  · rw [upd1_o q, h2 i q]
    exact c7 i a b
theorem RM.df {A : List Nat} {B : List (Nat × Int)} {fp : Int} (h : RM M x) (hF : Fr A B M M') (e : frOK [58, 59, 60] [(57, 5), (57, 6), (57, 14), (57, 7), (57, 8), (57, 9), (57, 10), (57, 11), (57, 12), (57, 13)] A B = true) (h16 : M' 57 16 = 0) (h17 : M' 57 17 = fp) (h1 : M' 61 0 = M 61 0 + 1) (h2 : ∀ j, j ≠ 0 → M' 61 j = M 61 j) : RM M' (dfX x fp) := by
  have kk := fr_k hF e
  have r : ∀ g, g ∈ [58, 59, 60] → M' g = M g := kk.1
  have e8 : ∀ j, M' 58 j = M 58 j := fun j => congrFun (r 58 (by decide)) j
  have e9 : ∀ j, M' 59 j = M 59 j := fun j => congrFun (r 59 (by decide)) j
  have a : M' 57 14 = M 57 14 := kk.2 (57, 14) (by decide)
  have a1 : M' 57 5 = M 57 5 := kk.2 (57, 5) (by decide)
  have a2 : M' 57 6 = M 57 6 := kk.2 (57, 6) (by decide)
  obtain ⟨⟨g1, ⟨g2, ⟨g3, g4⟩, g5⟩, h6, h7, h8⟩, ⟨h9, h10⟩, h11, h12, h13⟩ := h
  refine ⟨⟨ms_fr (fun j _ _ => e8 j) e9 a a1 a2 g1, ⟨g2, ⟨(kk.2 (57, 7) (by decide)).trans g3, (kk.2 (57, 8) (by decide)).trans g4⟩, fun i i0 i1 => ms_fr (fun j _ _ => e8 j) e9 a a1 a2 (g5 i i0 i1)⟩, (kk.2 (57, 9) (by decide)).trans h6, fun i i0 i1 => by rw [r 60 (by decide)]; exact h7 i i0 i1, fun i i0 i1 => ?_⟩, ⟨h16, fun j a b => absurd b (by show ¬ j < 0; omega)⟩, h17, (kk.2 (57, 13) (by decide)).trans h12, fun z => (h13 z).eq (fun j _ => e8 j) e9 a a1 a2 (kk.2 (57, 10) (by decide)) (kk.2 (57, 11) (by decide)) (kk.2 (57, 12) (by decide)) (fun j _ => congrFun (r 60 (by decide)) j) (fun j q => h2 j (by omega))⟩
  show M' 61 i = upd1 x.a.rf 0 (x.a.rf 0 + 1) i
  by_cases q : i = 0
  · rw [q, upd1_e, h1, h8 0 (by decide) (by decide)]
  · rw [upd1_o q, h2 i q]
    exact h8 i i0 i1
theorem OKx.df {c fp : Int} (h : OKx x c) : OKx (dfX x fp) (c + 1) := by
  have v := OKx.ref h (k := 0) ⟨by decide, by decide⟩
  exact ⟨v.1, ⟨Int.le_refl _, by show (0 : Int) ≤ 700; decide⟩, v.2.2⟩
/-- a text that is taken -/
def dsX (x : GX) (e : Int → Int) (fp : Int) : GX := ((e, 0, 0, x.a.s, 0, x.a.no, x.a.rf), x.b, 0, x.ta, fp, 0)
theorem RC.ds {A : List Nat} {B : List (Nat × Int)} {e : Int → Int} {fp : Int} (h : RC M x) (hF : Fr A B M M') (ek : frOK [9, 10] [] A B = true) (h01 : M' 0 1 = 0) (h02 : M' 0 2 = fp) (h4' : M' 4 = e) (h53 : M' 5 3 = 0) (h54 : M' 5 4 = 0) (h23 : M' 2 3 = 0) (h05 : M' 0 5 = 0) (h10 : M' 0 10 = 0) : RC M' (dsX x e fp) := by
  have kk := fr_k hF ek
  obtain ⟨-, ⟨c1, ⟨c2, c3⟩, c4, c5, c6, c7⟩, ⟨h3, h4⟩, h5, h6, h7⟩ := h
  exact ⟨fun z => absurd h10 z, ⟨h4', ⟨h53, h54⟩, fun i a b => absurd b (by show ¬ i < 0; omega), h23, fun i a b => by rw [kk.1 9 (by decide)]; exact c6 i a b, fun i a b => by rw [kk.1 10 (by decide)]; exact c7 i a b⟩, ⟨h01, fun j a b => absurd b (by show ¬ j < 0; omega)⟩, h02, h05, fun z => absurd rfl z⟩
theorem RM.ds {A : List Nat} {B : List (Nat × Int)} {e : Int → Int} {fp : Int} (h : RM M x) (hF : Fr A B M M') (ek : frOK [60, 61] [] A B = true) (hk : RW M' 0 e) (h7 : M' 57 7 = 0) (h8 : M' 57 8 = 0) (h9 : M' 57 9 = 0) (h13 : M' 57 13 = 0) (h16 : M' 57 16 = 0) (h17 : M' 57 17 = fp) : RM M' (dsX x e fp) := by
  have kk := fr_k hF ek
  obtain ⟨⟨-, -, -, g7, g8⟩, -, -, -, -⟩ := h
  exact ⟨⟨hk, ⟨⟨⟨Int.le_refl _, by show (0 : Int) ≤ 40; decide⟩, Int.le_refl _, by show (0 : Int) < 40; decide⟩, ⟨h7, h8⟩, fun i a b => absurd b (by show ¬ i < 0; omega)⟩, h9, fun i i0 i1 => by rw [kk.1 60 (by decide)]; exact g7 i i0 i1, fun i i0 i1 => by rw [kk.1 61 (by decide)]; exact g8 i i0 i1⟩, ⟨h16, fun j a b => absurd b (by show ¬ j < 0; omega)⟩, h17, h13, fun z => absurd rfl z⟩
theorem OKx.ds {c fp : Int} {e : Int → Int} (h : OKx x c) (hc : 0 ≤ c) (he : QS e) : OKx (dsX x e fp) (c + 1) := by
  have v := h.up (show c ≤ c + 1 by omega)
  exact ⟨⟨⟨he.1, by show e 119 ≤ _; rw [he.2]; omega⟩, ⟨⟨Int.le_refl _, by show (0 : Int) < 40; decide⟩, Int.le_refl _, by show (0 : Int) ≤ 40; decide⟩, fun i a b => absurd b (by show ¬ i < 0; omega), ⟨Int.le_refl _, by show (0 : Int) ≤ 6; decide⟩, v.1.2.2.2.2⟩, ⟨Int.le_refl _, by show (0 : Int) ≤ 700; decide⟩, .inl rfl, fun z => absurd rfl z⟩
end STEP2

