/-! what is read is a stock; acts undone -/
theorem upd1_2 {f : Int → Int} {k a v : Int} : upd1 (upd1 f k a) k v = upd1 f k v := funext fun j => by unfold upd1; split <;> rfl
theorem upd1_sf {f : Int → Int} {k : Int} : upd1 f k (f k) = f := funext fun j => by
  unfold upd1
  split
  · rename_i e; rw [e]
  · rfl
theorem upd1_c {f : Int → Int} {a b u v : Int} (h : a ≠ b) : upd1 (upd1 f a u) b v = upd1 (upd1 f b v) a u := funext fun k => by
  by_cases e : k = a
  · subst e; rw [upd1_o h, upd1_e, upd1_e]
  · by_cases e2 : k = b
    · subst e2; rw [upd1_e, upd1_o e, upd1_e]
    · rw [upd1_o e2, upd1_o e, upd1_o e, upd1_o e2]
theorem pkd_0 {p : Int} : pkd 0 p = 0 := by
  unfold pkd
  have a : (Int64.ofInt 0).toUInt64 = 0 := by decide
  rw [a, UInt64.zero_shiftRight]
  decide
theorem wdR_0 {d : Int → Int} : wdR d 0 1 = d := funext fun b => by
  unfold wdR
  by_cases q : 28 ≤ b ∧ b < 58
  · rw [if_pos q, pkd_0]
    omega
  · rw [if_neg q]
theorem rn_b {r : Int → Int} {n a b : Int} {S : RT} (h : a ≤ b) : a ≤ (rnR r n a b S).1 ∧ (rnR r n a b S).1 ≤ b := by
  have z := ck_bd2 (r := r) (n := n) (S := S) h
  unfold rnR
  split
  · exact z
  · exact z
theorem hdL_b {r d : Int → Int} {n : Int} {S : RT} : 0 ≤ (hdL r n d S).1 ∧ (hdL r n d S).1 ≤ 4 := noR_bd (by decide)
theorem hdW_b {r d : Int → Int} {n b : Int} {S : RT} : 0 ≤ (hdW r n d b S).1 ∧ (hdW r n d b S).1 ≤ 5 := noR_bd (by decide)

section SPS
variable {d : Int → Int}
theorem SP.of {k v : Int} (h : SP d) (hk : (0 ≤ k ∧ k < 10 ∧ 0 ≤ v ∧ v ≤ 20) ∨ (16 ≤ k ∧ k < 22 ∧ 0 ≤ v ∧ v ≤ 15) ∨ (22 ≤ k ∧ k < 28 ∧ 0 ≤ v ∧ v ≤ 20) ∨ (28 ≤ k ∧ k < 88 ∧ 0 ≤ v ∧ v ≤ 3) ∨ (88 ≤ k ∧ k < 118 ∧ 0 ≤ v ∧ v ≤ 60) ∨ (k = 118 ∧ 0 ≤ v ∧ v ≤ 61) ∨ (k = 119 ∧ 0 ≤ v ∧ v ≤ 90000) ∨ (k = 120 ∧ 0 ≤ v ∧ v ≤ 20) ∨ (k = 121 ∧ 0 ≤ v ∧ v ≤ 5)) : SP (upd1 d k v) := by
  have u : ∀ j, upd1 d k v j = if j = k then v else d j := fun _ => rfl
  have h0 := h
  obtain ⟨⟨a1, a2⟩, a3, a4, a5, ⟨a6, a7, a8⟩, a9⟩ := h0
  refine ⟨⟨?_, ?_⟩, fun x x0 x1 => ?_, fun w w0 w1 => ?_, fun p p0 p1 => ?_, ⟨?_, ?_, ?_⟩, fun w w0 w1 => ?_⟩
  · rw [u]; split <;> omega
  · rw [u]; split <;> omega
  · have := a3 x x0 x1
    rw [u, u]; split <;> split <;> omega
  · have := a4 w w0 w1
    rw [u, u, u]; split <;> split <;> split <;> omega
  · have := a5 p p0 p1
    rw [u, u, u]; split <;> split <;> split <;> omega
  · rw [u]; split <;> omega
  · rw [u]; split <;> omega
  · rw [u]; split <;> omega
  · rw [u] at w1 ⊢
    rw [if_neg (by omega)] at w1
    have := a9 w w0 w1
    rw [if_neg (by omega)]
    exact this
theorem SP.wk {w z : Int} (h : SP d) (hw : d 122 = w) (w1 : w < 6) (z0 : 1 ≤ z) (z1 : z ≤ 9) : SP (upd1 (upd1 d (10 + w) z) 122 (w + 1)) := by
  have h0 := h
  obtain ⟨⟨a1, a2⟩, a3, a4, a5, ⟨a6, a7, a8⟩, a9⟩ := h0
  have w0 : 0 ≤ w := by omega
  have u : ∀ j, j ≠ 122 → upd1 (upd1 d (10 + w) z) 122 (w + 1) j = if j = 10 + w then z else d j := fun j q => upd1_o q
  refine ⟨⟨?_, ?_⟩, fun x x0 x1 => ?_, fun v v0 v1 => ?_, fun p p0 p1 => ?_, ⟨?_, ?_, ?_⟩, fun v v0 v1 => ?_⟩
  · rw [u _ (by decide), if_neg (by omega)]; exact a1
  · rw [upd1_e]; omega
  · have := a3 x x0 x1
    rw [u _ (by omega), u _ (by omega), if_neg (by omega), if_neg (by omega)]; exact this
  · have := a4 v v0 v1
    rw [u _ (by omega), u _ (by omega), u _ (by omega), if_neg (show ¬ 16 + v = 10 + w by omega), if_neg (show ¬ 22 + v = 10 + w by omega)]
    split <;> omega
  · have := a5 p p0 p1
    rw [u _ (by omega), u _ (by omega), u _ (by omega), if_neg (by omega), if_neg (by omega), if_neg (by omega)]; exact this
  · rw [u _ (by decide), if_neg (by omega)]; exact a6
  · rw [u _ (by decide), if_neg (by omega)]; exact a7
  · rw [u _ (by decide), if_neg (by omega)]; exact a8
  · rw [upd1_e] at v1
    rw [u _ (by omega)]
    by_cases q : v = w
    · rw [if_pos (by omega)]; exact z0
    · rw [if_neg (by omega)]; exact a9 v v0 (by omega)
end SPS
def QS (d : Int → Int) : Prop := SP d ∧ d 119 = 0
section QSS
variable {r : Int → Int} {n : Int}
theorem cl_SP {X : RX} (h : QS X.1) : QS (clR r n X).1 := by
  obtain ⟨d, s, S⟩ := X
  have h' : QS d := h
  obtain ⟨hS, h9⟩ := h'
  have hL := hS.1.1
  have hW := hS.1.2
  have l2b : ∀ c : Int × RT, 0 ≤ (lb2 r n c).1 ∧ (lb2 r n c).1 ≤ 20 := fun c => by
    unfold lb2
    split
    · exact rn_b (by decide)
    · exact ⟨(by decide : (0 : Int) ≤ 20), (by decide : (20 : Int) ≤ 20)⟩
  by_cases h0 : wdP r n S 0
  · rw [clc_0 h0]
    show QS (lbR r n d S).1
    unfold lbR
    by_cases q : d 121 < 5
    · rw [if_pos q]
      have b1 := rn_b (r := r) (n := n) (S := nxR r n S) (show (0 : Int) ≤ 20 by decide)
      have b2 := l2b (rnR r n 0 20 (nxR r n S))
      have s1 := hS.of (k := 0 + d 121) (v := (rnR r n 0 20 (nxR r n S)).1) (.inl (by omega))
      have s2 := s1.of (k := 5 + d 121) (v := (lb2 r n (rnR r n 0 20 (nxR r n S))).1) (.inl (by omega))
      refine ⟨s2.of (k := 121) (v := d 121 + 1) (by omega), ?_⟩
      dsimp only
      rw [upd1_o (by decide), upd1_o (by omega), upd1_o (by omega)]
      exact h9
    · rw [if_neg q]; exact ⟨hS, h9⟩
  by_cases h1 : wdP r n S 1
  · rw [clc_1 h0 h1]
    show QS (wkR r n d S).1
    unfold wkR
    by_cases q : d 122 < 6
    · rw [if_pos q]
      have b1 := rn_b (r := r) (n := n) (S := nxR r n S) (show (1 : Int) ≤ 9 by decide)
      have b2 := rn_b (r := r) (n := n) (S := (rnR r n 1 9 (nxR r n S)).2) (show (0 : Int) ≤ 15 by decide)
      have s1 := hS.of (k := 16 + d 122) (v := (rnR r n 0 15 (rnR r n 1 9 (nxR r n S)).2).1) (.inr (.inl (by omega)))
      have s2 := s1.wk (w := d 122) (upd1_o (by omega)) q b1.1 b1.2
      refine ⟨?_, ?_⟩
      · show SP (upd1 (upd1 (upd1 d (10 + d 122) _) (16 + d 122) _) 122 (d 122 + 1))
        rw [upd1_c (show 10 + d 122 ≠ 16 + d 122 by omega)]
        exact s2
      · dsimp only
        rw [upd1_o (by decide), upd1_o (by omega), upd1_o (by omega)]
        exact h9
    · rw [if_neg q]; exact ⟨hS, h9⟩
  have bL := hdL_b (r := r) (n := n) (d := d) (S := S)
  by_cases h2 : wdP r n S 2
  · rw [clc_2 h0 h1 h2]
    have bW := hdW_b (r := r) (n := n) (d := d) (b := 28) (S := S)
    have bC : 1 ≤ (hdC r n d S).1 ∧ (hdC r n d S).1 ≤ 3 := rn_b (by decide)
    show QS (if (sgR r n (hdC r n d S).2).2.2.2.1 = 0 then _ else d)
    split
    · refine ⟨hS.of (by omega), ?_⟩
      rw [upd1_o (by omega)]; exact h9
    · exact ⟨hS, h9⟩
  by_cases h3 : wdP r n S 3
  · rw [clc_3 h0 h1 h2 h3]
    have bW := hdW_b (r := r) (n := n) (d := d) (b := 58) (S := S)
    have bM : 1 ≤ (pmM r n d S).1 ∧ (pmM r n d S).1 ≤ 3 := rn_b (by decide)
    have bY : 0 ≤ (pmY r n d S).1 ∧ (pmY r n d S).1 ≤ 60 := rn_b (by decide)
    show QS (if (sgR r n (pmY r n d S).2).2.2.2.1 = 0 then _ else d)
    split
    · refine ⟨(hS.of (k := 58 + (hdL r n d S).1 * 6 + (hdW r n d 58 S).1) (v := (pmM r n d S).1) (by omega)).of (by omega), ?_⟩
      rw [upd1_o (by omega), upd1_o (by omega)]; exact h9
    · exact ⟨hS, h9⟩
  by_cases h4 : wdP r n S 4
  · rw [clc_4 h0 h1 h2 h3 h4]
    have b1 := rn_b (r := r) (n := n) (S := nxR r n S) (show (0 : Int) ≤ 20 by decide)
    show QS (if s = 0 then upd1 d 120 (rnR r n 0 20 (nxR r n S)).1 else d)
    split
    · exact ⟨hS.of (by omega), (upd1_o (by decide)).trans h9⟩
    · exact ⟨hS, h9⟩
  rw [clc_5 h0 h1 h2 h3 h4]
  exact ⟨hS, h9⟩
theorem z_SP : QS (fun _ => 0) := by
  have a : (0 : Int) ≤ 0 := Int.le_refl _
  refine ⟨⟨⟨⟨a, ?_⟩, a, ?_⟩, fun _ _ _ => ⟨⟨a, ?_⟩, a, ?_⟩, fun _ _ _ => ⟨⟨a, ?_⟩, ⟨a, ?_⟩, a, ?_⟩, fun _ _ _ => ⟨⟨a, ?_⟩, ⟨a, ?_⟩, a, ?_⟩, ⟨⟨a, ?_⟩, ⟨a, ?_⟩, a, ?_⟩, fun w a b => absurd b (by show ¬ w < 0; omega)⟩, rfl⟩
  · show (0 : Int) ≤ 5; decide
  · show (0 : Int) ≤ 6; decide
  · show (0 : Int) ≤ 20; decide
  · show (0 : Int) ≤ 20; decide
  · show (0 : Int) ≤ 9; decide
  · show (0 : Int) ≤ 15; decide
  · show (0 : Int) ≤ 20; decide
  · show (0 : Int) ≤ 3; decide
  · show (0 : Int) ≤ 3; decide
  · show (0 : Int) ≤ 60; decide
  · show (0 : Int) ≤ 61; decide
  · show (0 : Int) ≤ 90000; decide
  · show (0 : Int) ≤ 20; decide
theorem rdI_SP : ∀ k : Nat, QS (rdI r n k).1
  | 0 => z_SP
  | k + 1 => cl_SP (rdI_SP k)
end QSS
def ub (p b q c : Int) (e : Int → Int) : Int → Int := if 0 ≤ q ∧ q < 123 then upd1 (if 0 ≤ p ∧ p < 123 then upd1 e p b else e) q c else if 0 ≤ p ∧ p < 123 then upd1 e p b else e
theorem a1_e {d : Int → Int} {p v : Int} (p0 : 0 ≤ p) (p1 : p < 123) : ub p (d p) (-1) 0 (upd1 d p v) = d := by
  unfold ub
  rw [if_neg (by decide), if_pos ⟨p0, p1⟩, upd1_2, upd1_sf]
theorem a2_e {d : Int → Int} {p v s u : Int} (p0 : 0 ≤ p) (p1 : p < 123) (s0 : 0 ≤ s) (s1 : s < 123) : ub p (d p) s (d s) (upd1 (upd1 d p v) s u) = d := by
  unfold ub
  rw [if_pos ⟨s0, s1⟩, if_pos ⟨p0, p1⟩]
  funext j
  by_cases q : j = s
  · rw [q, upd1_e]
  · rw [upd1_o q]
    by_cases w : j = p
    · rw [w, upd1_e]
    · rw [upd1_o w, upd1_o q, upd1_o w]
theorem ac_e {d : Int → Int} {v : Int} : ub 119 (d 119) (-1) 0 (upd1 (coP d) 119 v) = coP d := by
  unfold ub
  rw [if_neg (by decide), if_pos ⟨by decide, by decide⟩, upd1_2]
  funext j
  by_cases q : j = 119
  · rw [q, upd1_e]
    exact (if_neg (by decide)).symm
  · rw [upd1_o q]
theorem ac_u {d : Int → Int} (hS : SP d) : wdR (coP d) (pkF (plT (insOf d)) 30) 1 = d := funext fun b => by
  unfold wdR coP
  by_cases q : 28 ≤ b ∧ b < 58
  · rw [if_pos q, if_pos q, pkd_F (fun q a b => plT_3 (SP.I hS) a) (by omega) (by omega)]
    omega
  · rw [if_neg q, if_neg q]
theorem ac_s {d : Int → Int} (hS : SP d) : SB (coP d) := by
  have h9 := hS.2.2.2.2.1.2.1
  have z := (hS.coPp (v := d 119) h9.1 h9.2).B
  have e : upd1 (coP d) 119 (d 119) = coP d := funext fun j => by
    by_cases q : j = 119
    · rw [q, upd1_e]
      exact (if_neg (by decide)).symm
    · rw [upd1_o q]
  rw [e] at z
  exact z
theorem u119 {d : Int → Int} {k v : Int} (h : k ≠ 119) : upd1 d k v 119 = d 119 := upd1_o (Ne.symm h)
/-- one cell changed -/
theorem ub1 {d : Int → Int} {p v : Int} (hS : SP d) (p0 : 0 ≤ p) (p1 : p < 123) : wdR (ub p (d p) (-1) 0 (upd1 d p v)) 0 1 = d ∧ SB (ub p (d p) (-1) 0 (upd1 d p v)) := by
  rw [a1_e p0 p1]
  exact ⟨wdR_0, hS.B⟩
theorem ub2 {d : Int → Int} {p v s u : Int} (hS : SP d) (p0 : 0 ≤ p) (p1 : p < 123) (s0 : 0 ≤ s) (s1 : s < 123) : wdR (ub p (d p) s (d s) (upd1 (upd1 d p v) s u)) 0 1 = d ∧ SB (ub p (d p) s (d s) (upd1 (upd1 d p v) s u)) := by
  rw [a2_e p0 p1 s0 s1]
  exact ⟨wdR_0, hS.B⟩
def frOK (Hs : List Nat) (Fs : List (Nat × Int)) (A : List Nat) (B : List (Nat × Int)) : Bool := Hs.all (fun h => !A.contains h && B.all (fun q => !(q.1 == h))) && Fs.all (fun q => !A.contains q.1 && !B.contains q)
theorem fr_k {Hs : List Nat} {Fs : List (Nat × Int)} {A : List Nat} {B : List (Nat × Int)} {M M' : Mem} (hF : Fr A B M M') (e : frOK Hs Fs A B = true) : (∀ h ∈ Hs, M' h = M h) ∧ ∀ q ∈ Fs, M' q.1 q.2 = M q.1 q.2 := by
  unfold frOK at e
  rw [Bool.and_eq_true] at e
  refine ⟨fun h hh => ?_, fun q hq => ?_⟩
  · have z := List.all_eq_true.mp e.1 h hh
    rw [Bool.and_eq_true, Bool.not_eq_true'] at z
    refine hF.row (fun y => by rw [List.contains_iff_mem.mpr y] at z; cases z.1) (fun p hp y => ?_)
    have w := List.all_eq_true.mp z.2 p hp
    rw [y] at w
    simp at w
  · have z := List.all_eq_true.mp e.2 q hq
    rw [Bool.and_eq_true, Bool.not_eq_true', Bool.not_eq_true'] at z
    exact hF q.1 q.2 (fun y => by rw [List.contains_iff_mem.mpr y] at z; cases z.1) (fun y => by rw [List.contains_iff_mem.mpr y] at z; cases z.2)
theorem un_cg {P B T P' B' T' : Int → Int} {k : Int} {d : Int → Int} (h1 : P' (2 * k) = P (2 * k)) (h2 : P' (2 * k + 1) = P (2 * k + 1)) (h3 : B' (2 * k) = B (2 * k)) (h4 : B' (2 * k + 1) = B (2 * k + 1)) (h5 : T' k = T k) :
    unR P' B' T' k d = unR P B T k d ∧ pbR P' B' (pbR P' B' d (2 * k)) (2 * k + 1) = pbR P B (pbR P B d (2 * k)) (2 * k + 1) := by
  have a : pbR P' B' d (2 * k) = pbR P B d (2 * k) := by unfold pbR; rw [h1, h3]
  have b : ∀ e, pbR P' B' e (2 * k + 1) = pbR P B e (2 * k + 1) := fun e => by unfold pbR; rw [h2, h4]
  refine ⟨?_, by rw [a, b]⟩
  unfold unR
  rw [a, b, h5]
section MONO
variable {G : Gl} {l : Launch} {M : Mem}
theorem Ct.mono {S : Sh} {n d : Nat} {y : Mt} {as : List V} {Q Q' : Option V → Mem → Prop} (h : Ct G S n l d y as M Q) (hq : ∀ r M', Q r M' → Q' r M') : Ct G S n l d y as M Q' := by
  unfold Ct at h ⊢
  unfold Met at h ⊢
  refine MetFree.mono h (fun _ _ z => z) (fun _ _ _ _ _ z => z) (fun a s o t _ z => ?_)
  obtain ⟨⟨⟨r, M', z1, z2, z3⟩, z4⟩, z5⟩ := z
  exact ⟨⟨⟨r, M', z1, hq r M' z2, z3⟩, z4⟩, z5⟩
end MONO
/-! the law's own relation -/
abbrev aC : List Nat := [25, 26, 27, 28, 29, 30, 31, 32, 33, 34, 35, 37, 40, 42, 43, 44, 47, 48, 50, 51, 54, 56]
abbrev bC : List (Nat × Int) := [(24, 11), (24, 12), (24, 13), (36, 2), (36, 3), (0, 10), (38, 2), (38, 3), (41, 3), (41, 5), (41, 6), (41, 7), (41, 8), (45, 3), (45, 4), (49, 3), (49, 4), (49, 5), (49, 6), (52, 1), (52, 3), (53, 2), (53, 3)]
/-- after questions: the stock is d still -/
def WI (M0 : Mem) (d : Int → Int) (M : Mem) : Prop := Fr aC bC M0 M ∧ GR M ∧ FP M d ∧ M 4 = d
/-- a stock that the law may come to -/
def PQ (L W : Int) (d : Int → Int) : Prop := SP d ∧ d 121 = L ∧ d 122 = W ∧ stor d ≤ d 120
def LG0 (P B T : Int → Int) (n : Int) (d : Int → Int) (s : Int → Int → Int) : Prop :=
  ∀ i, 0 ≤ i → i < n → unR P B T i (if i + 1 = n then d else s (i + 1)) = s i ∧ SB (pbR P B (pbR P B (if i + 1 = n then d else s (i + 1)) (2 * i)) (2 * i + 1))
def sn (n : Int) (s : Int → Int → Int) (d : Int → Int) : Int → Int → Int := fun i => if i = n then d else s i
def IMG (M : Mem) (d0 : Int → Int) : Prop := M 13 = d0 ∧ M 0 5 = 1 ∧ M 19 1 = 0
/-- the class's state: its stock, n acts that lead back by s, r acts refused, the image of d0 -/
def CI (L W : Int) (d0 : Int → Int) (M : Mem) (d : Int → Int) (n : Int) (s : Int → Int → Int) (r : Int) : Prop :=
  (GR M ∧ M 4 = d ∧ FP M d) ∧ (PQ L W d ∧ d 119 ≤ 90 * n) ∧ (M 5 3 = 0 ∧ M 5 4 = n ∧ LG0 (M 6) (M 7) (M 8) n d s) ∧ (∀ i, 0 ≤ i → i < n → PQ L W (s i) ∧ s i 119 ≤ 90 * i) ∧ M 10 1 = r ∧ IMG M d0 ∧ (if n = 0 then d else s 0) = d0
section CIS
variable {L W : Int} {d0 : Int → Int} {M M' : Mem} {d : Int → Int} {n r : Int} {s : Int → Int → Int}
theorem WI.rf (hG : GR M) (hF : FP M d) (h4 : M 4 = d) : WI M d M := ⟨Fr.rf, hG, hF, h4⟩
theorem WI.ak {M0 : Mem} (h : WI M0 d M) (hF : Fr aC bC M M') (hG : GR M') (hP : FP M' d) : WI M0 d M' := ⟨Fr.tt h.1 hF, hG, hP, (hF.row (by decide) (by decide)).trans h.2.2.2⟩
theorem WI.tr {M0 M1 : Mem} (h : WI M0 d M1) (k : WI M1 d M) : WI M0 d M := ⟨Fr.tt h.1 k.1, k.2.1, k.2.2.1, k.2.2.2⟩
theorem CI.ask (h : CI L W d0 M d n s r) (k : WI M d M') : CI L W d0 M' d n s r := by
  obtain ⟨⟨h1, h2, h3⟩, h4, ⟨h5, h6, h7⟩, h8, h9, ⟨h10, h11, h12⟩, h13⟩ := h
  obtain ⟨k1, k2, k3, k4⟩ := k
  have z := fr_k (Hs := [6, 7, 8, 10, 13, 19]) (Fs := [(5, 3), (5, 4), (0, 5)]) k1 (by decide +kernel)
  refine ⟨⟨k2, k4, k3⟩, h4, ⟨(z.2 (5, 3) (by decide)).trans h5, (z.2 (5, 4) (by decide)).trans h6, ?_⟩, h8, (congrFun (z.1 10 (by decide)) 1).trans h9, ⟨(z.1 13 (by decide)).trans h10, (z.2 (0, 5) (by decide)).trans h11, (congrFun (z.1 19 (by decide)) 1).trans h12⟩, h13⟩
  rw [z.1 6 (by decide), z.1 7 (by decide), z.1 8 (by decide)]
  exact h7
theorem slt0 {i : Int} (h : i < 40) : slt 0 i = i := by
  unfold slt
  rw [if_pos (by omega)]
  omega
theorem nf0 {n : Int} (h : n < 40) : nfF 0 n = 0 := by
  unfold nfF
  rw [if_neg (by omega)]
theorem nn0 {n : Int} (h : n < 40) : nnF n = n := by
  unfold nnF
  rw [if_neg (by omega)]
theorem LG0.add {P B T : Int → Int} {e : Int → Int} {p b q c v : Int} (hn : 0 ≤ n ∧ n < 40) (h : LG0 P B T n d s) (hu : wdR (ub p b q c e) v 1 = d) (hs : SB (ub p b q c e)) :
    LG0 (upd1 (upd1 P (2 * n) p) (2 * n + 1) q) (upd1 (upd1 B (2 * n) b) (2 * n + 1) c) (upd1 T n v) (n + 1) e (sn n s d) := fun i i0 i1 => by
  by_cases z : i = n
  · subst z
    rw [if_pos rfl]
    have r1 : upd1 (upd1 P (2 * i) p) (2 * i + 1) q (2 * i) = p := (upd1_o (by omega)).trans upd1_e
    have r2 : upd1 (upd1 B (2 * i) b) (2 * i + 1) c (2 * i) = b := (upd1_o (by omega)).trans upd1_e
    have a1 : pbR (upd1 (upd1 P (2 * i) p) (2 * i + 1) q) (upd1 (upd1 B (2 * i) b) (2 * i + 1) c) e (2 * i) = if 0 ≤ p ∧ p < 123 then upd1 e p b else e := by
      unfold pbR
      rw [r1, r2]
    have a2 : ∀ x, pbR (upd1 (upd1 P (2 * i) p) (2 * i + 1) q) (upd1 (upd1 B (2 * i) b) (2 * i + 1) c) x (2 * i + 1) = if 0 ≤ q ∧ q < 123 then upd1 x q c else x := fun x => by
      unfold pbR
      rw [upd1_e, upd1_e]
    refine ⟨?_, ?_⟩
    · unfold unR
      rw [a1, a2, upd1_e]
      exact hu.trans (if_pos rfl).symm
    · rw [a1, a2]
      exact hs
  · have e1 : (if i + 1 = n + 1 then e else sn n s d (i + 1)) = if i + 1 = n then d else s (i + 1) := by
      rw [if_neg (by omega)]
      rfl
    have e2 : sn n s d i = s i := if_neg z
    rw [e1, e2]
    have u := un_cg (P := P) (B := B) (T := T) (P' := upd1 (upd1 P (2 * n) p) (2 * n + 1) q) (B' := upd1 (upd1 B (2 * n) b) (2 * n + 1) c) (T' := upd1 T n v) (k := i) (d := if i + 1 = n then d else s (i + 1))
      ((upd1_o (by omega)).trans (upd1_o (by omega))) ((upd1_o (by omega)).trans (upd1_o (by omega))) ((upd1_o (by omega)).trans (upd1_o (by omega))) ((upd1_o (by omega)).trans (upd1_o (by omega))) (upd1_o z)
    rw [u.1, u.2]
    exact h i i0 (by omega)
theorem CI.act {e : Int → Int} {p b q c v : Int} (h : CI L W d0 M d n s r) (hn : 0 ≤ n ∧ n < 40) (ha : ACTC M M' 0 n p b q c v e) (hu : wdR (ub p b q c e) v 1 = d) (hs : SB (ub p b q c e)) (he : PQ L W e) (h9 : e 119 ≤ d 119 + 90) : CI L W d0 M' e (n + 1) (sn n s d) r := by
  obtain ⟨⟨h1, h2, h3⟩, ⟨h4, h49⟩, ⟨h5, h6, h7⟩, h8, h9', ⟨h10, h11, h12⟩, h13⟩ := h
  obtain ⟨hF, hG, a10, a4, a53, a54, a6, a7, a8⟩ := ha
  rw [nf0 hn.2] at a53 a6 a7 a8
  rw [nn0 hn.2] at a54 a6 a7 a8
  rw [slt0 hn.2] at a6 a7 a8
  have z := fr_k (Hs := [10, 13, 19]) (Fs := [(0, 5)]) hF (by decide +kernel)
  refine ⟨⟨hG, a4, fun y => absurd a10 y⟩, ⟨he, by omega⟩, ⟨a53, a54, ?_⟩, fun i i0 i1 => ?_, (congrFun (z.1 10 (by decide)) 1).trans h9', ⟨(z.1 13 (by decide)).trans h10, (z.2 (0, 5) (by decide)).trans h11, (congrFun (z.1 19 (by decide)) 1).trans h12⟩, ?_⟩
  · rw [a6, a7, a8]
    exact h7.add hn hu hs
  · by_cases y : i = n
    · subst y
      have : sn i s d i = d := if_pos rfl
      rw [this]
      exact ⟨h4, h49⟩
    · have : sn n s d i = s i := if_neg y
      rw [this]
      exact h8 i i0 (by omega)
  · rw [if_neg (by omega)]
    show (if (0 : Int) = n then d else s 0) = d0
    by_cases y : n = 0
    · rw [if_pos y.symm]
      rw [if_pos y] at h13
      exact h13
    · rw [if_neg (Ne.symm y)]
      rw [if_neg y] at h13
      exact h13
theorem CI.ref (h : CI L W d0 M d n s r) (hr : REFC M M' d 1) : CI L W d0 M' d n s (r + 1) := by
  obtain ⟨⟨h1, h2, h3⟩, h4, ⟨h5, h6, h7⟩, h8, h9, ⟨h10, h11, h12⟩, h13⟩ := h
  obtain ⟨k1, k2, k3, k4, -⟩ := hr
  have z := fr_k (Hs := [4, 6, 7, 8, 13, 19]) (Fs := [(5, 3), (5, 4), (0, 5)]) k1 (by decide +kernel)
  refine ⟨⟨k2, (z.1 4 (by decide)).trans h2, k3⟩, h4, ⟨(z.2 (5, 3) (by decide)).trans h5, (z.2 (5, 4) (by decide)).trans h6, ?_⟩, h8, by omega, ⟨(z.1 13 (by decide)).trans h10, (z.2 (0, 5) (by decide)).trans h11, (congrFun (z.1 19 (by decide)) 1).trans h12⟩, h13⟩
  rw [z.1 6 (by decide), z.1 7 (by decide), z.1 8 (by decide)]
  exact h7
theorem CI.sb (h : CI L W d0 M d n s r) (hn : 0 ≤ n ∧ n < 40) : n ≠ 0 → SB (pbR (M 6) (M 7) (pbR (M 6) (M 7) d (2 * slt 0 (n - 1))) (2 * slt 0 (n - 1) + 1)) := fun h0 => by
  have z := (h.2.2.1.2.2 (n - 1) (by omega) (by omega)).2
  rw [if_pos (by omega)] at z
  rw [slt0 (by omega)]
  exact z
theorem CI.und (h : CI L W d0 M d n s r) (hn : 0 < n ∧ n < 40) (k1 : Fr [4] [(5, 4), (0, 10)] M M') (k2 : GR M') (k3 : M' 0 10 = 0) (k4 : M' 5 4 = n - 1) (k5 : M' 4 = unR (M 6) (M 7) (M 8) (slt 0 (n - 1)) d) : CI L W d0 M' (s (n - 1)) (n - 1) s r := by
  obtain ⟨⟨h1, h2, h3⟩, h4, ⟨h5, h6, h7⟩, h8, h9, ⟨h10, h11, h12⟩, h13⟩ := h
  have z := fr_k (Hs := [6, 7, 8, 10, 13, 19]) (Fs := [(5, 3), (0, 5)]) k1 (by decide +kernel)
  have y := (h7 (n - 1) (by omega) (by omega)).1
  rw [if_pos (by omega)] at y
  rw [slt0 (by omega), y] at k5
  refine ⟨⟨k2, k5, fun w => absurd k3 w⟩, h8 (n - 1) (by omega) (by omega), ⟨(z.2 (5, 3) (by decide)).trans h5, k4, ?_⟩, fun i i0 i1 => h8 i i0 (by omega), (congrFun (z.1 10 (by decide)) 1).trans h9, ⟨(z.1 13 (by decide)).trans h10, (z.2 (0, 5) (by decide)).trans h11, (congrFun (z.1 19 (by decide)) 1).trans h12⟩, ?_⟩
  · rw [z.1 6 (by decide), z.1 7 (by decide), z.1 8 (by decide)]
    intro i i0 i1
    have hi := h7 i i0 (by omega)
    rw [if_neg (by omega)] at hi
    by_cases q : i + 1 = n - 1
    · rw [if_pos q, ← q]
      exact hi
    · rw [if_neg q]
      exact hi
  · rw [if_neg (by omega)] at h13
    by_cases q : n - 1 = 0
    · rw [if_pos q, q]
      exact h13
    · rw [if_neg q]
      exact h13
theorem CI.dn (h : CI L W d0 M d n s r) (hM : ∀ a, a < 57 → M' a = M a) : CI L W d0 M' d n s r := by
  obtain ⟨⟨h1, h2, h3⟩, h4, ⟨h5, h6, h7⟩, h8, h9, ⟨h10, h11, h12⟩, h13⟩ := h
  refine ⟨⟨h1.lo hM, (hM 4 (by decide)).trans h2, h3.lo hM⟩, h4, ⟨by rw [hM 5 (by decide)]; exact h5, by rw [hM 5 (by decide)]; exact h6, ?_⟩, h8, by rw [hM 10 (by decide)]; exact h9, ⟨by rw [hM 13 (by decide)]; exact h10, by rw [hM 0 (by decide)]; exact h11, by rw [hM 19 (by decide)]; exact h12⟩, h13⟩
  rw [hM 6 (by decide), hM 7 (by decide), hM 8 (by decide)]
  exact h7
end CIS

