/-! the model's reader: what is told, as a Stock -/
def tmM (M : Mem) : Mem := fun h j => if h = 58 then M 73 j else if h = 59 then M 74 j else if h = 57 then (if j = 5 then M 57 42 else if j = 6 then M 57 43 else if j = 14 then max 0 (M 57 44) else 0) else 0
def TD (M : Mem) (d : Int → Int) : Prop := RW (tmM M) 0 d
section TDS
variable {M M' : Mem} {b : Int} {c d : Int → Int}
theorem RW.w9 (h : RW M b c) {i v : Int} (i1 : c 122 ≤ i) : RW (uM M 59 i v) b c := by
  intro j j0 j1
  have h6 : M 57 6 = c 122 := h 122 (by decide) (by decide)
  have o : ∀ z, uM M 59 i v 58 z = M 58 z := fun z => uM_h (by decide)
  have o7 : ∀ z, uM M 59 i v 57 z = M 57 z := fun z => uM_h (by decide)
  rw [← h j j0 j1]
  unfold ms
  simp only [o, o7]
  by_cases q1 : j < 10
  · rw [if_pos q1, if_pos q1]
  · rw [if_neg q1, if_neg q1]
    by_cases q2 : j < 16
    · rw [if_pos q2, if_pos q2]
      by_cases q3 : j - 10 < M 57 6
      · rw [if_pos q3, if_pos q3]; exact uM_k (by omega)
      · rw [if_neg q3, if_neg q3]
    · rw [if_neg q2, if_neg q2]
theorem RW.w6 (h : RW M b c) {i v : Int} (hi : c 122 = i) (i0 : 0 ≤ i) (i1 : i < 6) (hv : M 59 i = v) : RW (uM M 57 6 (i + 1)) b (upd1 (upd1 c (10 + i) v) 122 (i + 1)) := by
  intro j j0 j1
  have h6 : M 57 6 = c 122 := h 122 (by decide) (by decide)
  have hj := h j j0 j1
  have o : ∀ z, uM M 57 6 (i + 1) 58 z = M 58 z := fun z => uM_h (by decide)
  have o9 : ∀ z, uM M 57 6 (i + 1) 59 z = M 59 z := fun z => uM_h (by decide)
  by_cases q : j = 122
  · rw [q, upd1_e]
    exact (uM_same : uM M 57 6 (i + 1) 57 6 = i + 1)
  by_cases q' : j = 10 + i
  · rw [upd1_o q, q', upd1_e]
    unfold ms
    rw [if_neg (by omega), if_pos (by omega), show 10 + i - 10 = i by omega, uM_same, if_pos (by omega), o9]
    exact hv
  rw [upd1_o q, upd1_o q', ← hj]
  unfold ms
  simp only [o, o9]
  by_cases a1 : j < 10
  · rw [if_pos a1, if_pos a1]
  rw [if_neg a1, if_neg a1]
  by_cases a2 : j < 16
  · rw [if_pos a2, if_pos a2, uM_same]
    by_cases q3 : j - 10 < i
    · rw [if_pos (by omega), if_pos (by omega)]
    · rw [if_neg (by omega), if_neg (by omega)]
  rw [if_neg a2, if_neg a2]
  by_cases a3 : j < 22
  · rw [if_pos a3, if_pos a3]
  rw [if_neg a3, if_neg a3]
  by_cases a4 : j < 28
  · rw [if_pos a4, if_pos a4]
  rw [if_neg a4, if_neg a4]
  by_cases a5 : j < 118
  · rw [if_pos a5, if_pos a5]
  rw [if_neg a5, if_neg a5]
  by_cases a8 : j < 120
  · rw [if_pos a8, if_pos a8]
  rw [if_neg a8, if_neg a8]
  by_cases a6 : j = 120
  · rw [if_pos a6, if_pos a6]; exact uM_k (by decide)
  rw [if_neg a6, if_neg a6]
  by_cases a7 : j = 121
  · rw [if_pos a7, if_pos a7]; exact uM_k (by decide)
  exfalso
  omega
theorem RW.wf (h : RW M b c) {k : Int} {p v : Int} (hk : (k = 120 ∧ p = 14) ∨ (k = 121 ∧ p = 5)) : RW (uM M 57 p v) b (upd1 c k v) := by
  intro j j0 j1
  have hj := h j j0 j1
  have o : ∀ z, uM M 57 p v 58 z = M 58 z := fun z => uM_h (by decide)
  have o9 : ∀ z, uM M 57 p v 59 z = M 59 z := fun z => uM_h (by decide)
  by_cases q : j = k
  · rw [q, upd1_e]
    unfold ms
    rw [if_neg (by omega), if_neg (by omega), if_neg (by omega), if_neg (by omega), if_neg (by omega), if_neg (by omega)]
    rcases hk with ⟨rfl, rfl⟩ | ⟨rfl, rfl⟩
    · rw [if_pos rfl]; exact uM_same
    · rw [if_neg (by decide), if_pos rfl]; exact uM_same
  · rw [upd1_o q, ← hj]
    unfold ms
    simp only [o, o9]
    by_cases q1 : j < 120
    · by_cases a1 : j < 10
      · rw [if_pos a1, if_pos a1]
      rw [if_neg a1, if_neg a1]
      by_cases a2 : j < 16
      · rw [if_pos a2, if_pos a2, show uM M 57 p v 57 6 = M 57 6 from uM_k (by omega)]
      rw [if_neg a2, if_neg a2]
      by_cases a3 : j < 22
      · rw [if_pos a3, if_pos a3]
      rw [if_neg a3, if_neg a3]
      by_cases a4 : j < 28
      · rw [if_pos a4, if_pos a4]
      rw [if_neg a4, if_neg a4]
      by_cases a5 : j < 118
      · rw [if_pos a5, if_pos a5]
      rw [if_neg a5, if_neg a5, if_pos q1, if_pos q1]
    · have e1 : ¬ j < 10 := by omega
      have e2 : ¬ j < 16 := by omega
      have e3 : ¬ j < 22 := by omega
      have e4 : ¬ j < 28 := by omega
      have e5 : ¬ j < 118 := by omega
      rw [if_neg e1, if_neg e1, if_neg e2, if_neg e2, if_neg e3, if_neg e3, if_neg e4, if_neg e4, if_neg e5, if_neg e5, if_neg q1, if_neg q1]
      by_cases a6 : j = 120
      · rw [if_pos a6, if_pos a6]; exact uM_k (by omega)
      rw [if_neg a6, if_neg a6]
      by_cases a7 : j = 121
      · rw [if_pos a7, if_pos a7]; exact uM_k (by omega)
      rw [if_neg a7, if_neg a7]
      exact uM_k (by omega)
theorem tm_of (e3 : ∀ j, M' 73 j = M 73 j) (e4 : ∀ j, M' 74 j = M 74 j) (a : M' 57 42 = M 57 42) (a1 : M' 57 43 = M 57 43) (a2 : M' 57 44 = M 57 44) (h : TD M d) : TD M' d := by
  refine ms_fr (fun j _ _ => ?_) (fun j => ?_) ?_ ?_ ?_ h
  · exact e3 j
  · exact e4 j
  · show max 0 (M' 57 44) = max 0 (M 57 44); rw [a2]
  · exact a
  · exact a1
def tdOK (A : List Nat) (B : List (Nat × Int)) : Bool := !A.contains 57 && !A.contains 73 && !A.contains 74 && B.all (fun q => !(q.1 == 73) && !(q.1 == 74) && !(q.1 == 57 && (q.2 == 42 || q.2 == 43 || q.2 == 44)))
theorem TD.fr {A : List Nat} {B : List (Nat × Int)} (h : TD M d) (hF : Fr A B M M') (e : tdOK A B = true) : TD M' d := by
  unfold tdOK at e
  simp only [Bool.and_eq_true, Bool.not_eq_true'] at e
  obtain ⟨⟨⟨e7, e8⟩, e9⟩, eB⟩ := e
  have nA : ∀ k : Nat, A.contains k = false → k ∉ A := fun k q z => by rw [List.contains_iff_mem.mpr z] at q; cases q
  have nB : ∀ (a : Nat) (j : Int), (!(a == 73) && !(a == 74) && !(a == 57 && (j == 42 || j == 43 || j == 44))) = false → (a, j) ∉ B := fun a j q z => by
    have := List.all_eq_true.mp eB _ z
    rw [q] at this
    cases this
  exact tm_of (fun j => hF 73 j (nA _ e8) (nB _ _ rfl)) (fun j => hF 74 j (nA _ e9) (nB _ _ rfl)) (hF 57 42 (nA _ e7) (nB _ _ rfl)) (hF 57 43 (nA _ e7) (nB _ _ rfl)) (hF 57 44 (nA _ e7) (nB _ _ rfl)) h
theorem TD.w3 (h : TD M d) {i k v : Int} (k0 : (0 ≤ k ∧ k < 10) ∨ (16 ≤ k ∧ k < 120)) (e : i = mj k) : TD (uM M 73 i v) (upd1 d k v) := by
  have z := RW.wr (v := v) (i := i) h k0 (by omega)
  have t : tmM (uM M 73 i v) = uM (tmM M) 58 i v := funext fun a => funext fun j => by
    by_cases a8 : a = 58
    · subst a8
      by_cases q : j = i
      · rw [q, uM_same]; exact uM_same
      · rw [uM_k q]; exact uM_k q
    · rw [uM_h a8]
      unfold tmM
      rw [if_neg a8, if_neg a8]
      rw [show uM M 73 i v 57 = M 57 from funext fun _ => uM_h (by decide), show uM M 73 i v 74 = M 74 from funext fun _ => uM_h (by decide)]
  unfold TD
  rw [t]
  exact z
theorem TD.w4 (h : TD M d) {i v : Int} (i1 : d 122 ≤ i) : TD (uM M 74 i v) d := by
  have z := RW.w9 (v := v) h i1
  have t : tmM (uM M 74 i v) = uM (tmM M) 59 i v := funext fun a => funext fun j => by
    by_cases a9 : a = 59
    · subst a9
      by_cases q : j = i
      · rw [q, uM_same]; exact uM_same
      · rw [uM_k q]; exact uM_k q
    · rw [uM_h a9]
      unfold tmM
      rw [show uM M 74 i v 57 = M 57 from funext fun _ => uM_h (by decide), show uM M 74 i v 73 = M 73 from funext fun _ => uM_h (by decide), if_neg a9, if_neg a9]
  unfold TD
  rw [t]
  exact z
theorem tm_wl {k p v : Int} (hk : (k = 120 ∧ p = 44 ∧ 0 ≤ v) ∨ (k = 121 ∧ p = 42) ∨ (k = 122 ∧ p = 43)) : tmM (uM M 57 p v) = uM (tmM M) 57 (if k = 120 then 14 else if k = 121 then 5 else 6) v := funext fun a => funext fun j => by
  by_cases a7 : a = 57
  · subst a7
    have R : ∀ x : Int, j ≠ x → uM (tmM M) 57 x v 57 j = (if j = 5 then M 57 42 else if j = 6 then M 57 43 else if j = 14 then max 0 (M 57 44) else 0) := fun x q => uM_k q
    show (if j = 5 then uM M 57 p v 57 42 else if j = 6 then uM M 57 p v 57 43 else if j = 14 then max 0 (uM M 57 p v 57 44) else 0) = _
    rcases hk with ⟨rfl, rfl, hv⟩ | ⟨rfl, rfl⟩ | ⟨rfl, rfl⟩
    · rw [if_pos rfl, uM_k (show (42 : Int) ≠ 44 by decide), uM_k (show (43 : Int) ≠ 44 by decide), uM_same]
      by_cases q : j = 14
      · subst q; rw [uM_same, if_neg (by decide), if_neg (by decide), if_pos rfl]; omega
      · rw [R 14 q, if_neg q, if_neg q]
    · rw [if_neg (show ¬ (121 : Int) = 120 by decide), if_pos rfl, uM_same, uM_k (show (43 : Int) ≠ 42 by decide), uM_k (show (44 : Int) ≠ 42 by decide)]
      by_cases q : j = 5
      · subst q; rw [uM_same, if_pos rfl]
      · rw [R 5 q, if_neg q, if_neg q]
    · rw [if_neg (show ¬ (122 : Int) = 120 by decide), if_neg (show ¬ (122 : Int) = 121 by decide), uM_same, uM_k (show (42 : Int) ≠ 43 by decide), uM_k (show (44 : Int) ≠ 43 by decide)]
      by_cases q : j = 6
      · subst q; rw [uM_same, if_neg (by decide), if_pos rfl]
      · rw [R 6 q, if_neg q, if_neg q]
  · rw [uM_h a7]
    unfold tmM
    rw [show uM M 57 p v 73 = M 73 from funext fun _ => uM_h (by decide), show uM M 57 p v 74 = M 74 from funext fun _ => uM_h (by decide), if_neg a7, if_neg a7]
theorem TD.wl (h : TD M d) {k p v : Int} (hk : (k = 120 ∧ p = 44 ∧ 0 ≤ v) ∨ (k = 121 ∧ p = 42)) : TD (uM M 57 p v) (upd1 d k v) := by
  have z := RW.wf (v := v) (p := if k = 120 then 14 else if k = 121 then 5 else 6) h (k := k) (by rcases hk with ⟨rfl, _⟩ | ⟨rfl, _⟩ <;> simp)
  have t := tm_wl (M := M) (k := k) (p := p) (v := v) (hk.elim .inl (fun q => .inr (.inl q)))
  unfold TD
  rw [t]
  exact z
theorem TD.w6 (h : TD M d) {i v : Int} (hi : d 122 = i) (i0 : 0 ≤ i) (i1 : i < 6) (hv : M 74 i = v) : TD (uM M 57 43 (i + 1)) (upd1 (upd1 d (10 + i) v) 122 (i + 1)) := by
  have z := RW.w6 (M := tmM M) h hi i0 i1 (v := v) hv
  have t := tm_wl (M := M) (k := 122) (p := 43) (v := i + 1) (.inr (.inr ⟨rfl, rfl⟩))
  unfold TD
  rw [t]
  exact z
theorem upd1_c {f : Int → Int} {a b u v : Int} (h : a ≠ b) : upd1 (upd1 f a u) b v = upd1 (upd1 f b v) a u := funext fun k => by
  by_cases e : k = a
  · subst e; rw [upd1_o h, upd1_e, upd1_e]
  · by_cases e2 : k = b
    · subst e2; rw [upd1_e, upd1_o e, upd1_e]
    · rw [upd1_o e2, upd1_o e, upd1_o e, upd1_o e2]
theorem TD.l (h : TD M d) : M 57 42 = d 121 := RW.l h
theorem TD.w (h : TD M d) : M 57 43 = d 122 := RW.w h
end TDS
theorem MRS.u {M : Mem} {r : Int → Int} {n : Int} {S : RT} (h : MRS M r n S) {a : Nat} {j x : Int} (e : a ≠ 57) : MRS (uM M a j x) r n S := by
  have k : ∀ i, uM M a j x 57 i = M 57 i := fun i => uM_h (Ne.symm e)
  unfold MRS MRD
  rw [k, k, k, k, k, k, k]
  exact h
theorem MRS.uf {M : Mem} {r : Int → Int} {n : Int} {S : RT} (h : MRS M r n S) {j x : Int} (e : 37 < j ∧ j < 60) : MRS (uM M 57 j x) r n S := by
  have k : ∀ i : Int, i ≠ j → uM M 57 j x 57 i = M 57 i := fun i q => uM_k q
  unfold MRS MRD
  rw [k 34 (by omega), k 32 (by omega), k 31 (by omega), k 37 (by omega), k 17 (by omega), k 35 (by omega), k 36 (by omega)]
  exact h
/-- the clauses without their sign -/
noncomputable def wk0 (r : Int → Int) (n : Int) (d : Int → Int) (S : RT) : (Int → Int) × RT :=
  itc (d 122 < 6) (upd1 (upd1 (upd1 d (10 + d 122) (rnR r n 1 9 (nxR r n S)).1) (16 + d 122) (rnR r n 0 15 (rnR r n 1 9 (nxR r n S)).2).1) 122 (d 122 + 1), (rnR r n 0 15 (rnR r n 1 9 (nxR r n S)).2).2) (d, refR 2 S)
noncomputable def lb0 (r : Int → Int) (n : Int) (d : Int → Int) (S : RT) : (Int → Int) × RT :=
  itc (d 121 < 5) (upd1 (upd1 (upd1 d (0 + d 121) (rnR r n 0 20 (nxR r n S)).1) (5 + d 121) (lb2 r n (rnR r n 0 20 (nxR r n S))).1) 121 (d 121 + 1), (lb2 r n (rnR r n 0 20 (nxR r n S))).2) (d, refR 2 S)
theorem rn_b {r : Int → Int} {n a b : Int} {S : RT} (h : a ≤ b) : a ≤ (rnR r n a b S).1 ∧ (rnR r n a b S).1 ≤ b := by
  have z := ck_bd2 (r := r) (n := n) (S := S) h
  unfold rnR
  split
  · exact z
  · exact z
section NOS
variable {r d : Int → Int} {n m t row : Int} {S : RT}
theorem no_of {c : Int × RT} {T : RT} {v : Int} (h1 : ckR r n 0 (m - 1) S = c) (h2 : noC r n (noB d row c.1 (noA t c)) = T) (h3 : (if T.2.2.2.1 = 0 then c.1 else 0) = v) : noR r n d m t row S = (v, T) := by
  unfold noR
  rw [h1, h2, h3]
theorem noC_n {T : RT} (h : T.2.2.2.1 ≠ 0) : noC r n T = T := if_neg h
theorem no_bad (h : S.2.2.2.1 ≠ 0) : noR r n d m t row S = (0, S) := by
  refine no_of (c := (0, S)) (if_neg h) ?_ (if_neg h)
  rw [noA_n (c := ((0 : Int), S)) h, noB_n h, noC_n h]
theorem no_1 (h : S.2.2.2.1 = 0) (k : S.1 ≠ 2) : noR r n d m t row S = (0, refR 1 S) := by
  have f : (refR 1 S).2.2.2.1 ≠ 0 := rf_ne h (by decide)
  refine no_of (c := (0, refR 1 S)) ((if_pos h).trans (if_neg k)) ?_ (if_neg f)
  rw [noA_n (c := ((0 : Int), refR 1 S)) f, noB_n f, noC_n f]
theorem no_2 (hg : RG n S) (h : S.2.2.2.1 = 0) (k : S.1 = 2) (hm : m ≤ 900) (w : ¬ (0 ≤ vlS r n S ∧ vlS r n S ≤ m - 1)) : noR r n d m t row S = (0, refR 2 S) := by
  have v := vl_n (r := r) hg k
  have f : (refR 2 S).2.2.2.1 ≠ 0 := rf_ne h (by decide)
  refine no_of (c := (0, refR 2 S)) ((if_pos h).trans ((if_pos k).trans (if_neg (fun z => w (by rw [v.1 z.1]; exact z.2))))) ?_ (if_neg f)
  rw [noA_n (c := ((0 : Int), refR 2 S)) f, noB_n f, noC_n f]
theorem no_ck (hg : RG n S) (h : S.2.2.2.1 = 0) (k : S.1 = 2) (hm : m ≤ 900) (w : 0 ≤ vlS r n S ∧ vlS r n S ≤ m - 1) : ckR r n 0 (m - 1) S = (vlS r n S, S) := by
  have v := vl_n (r := r) hg k
  have l : S.2.2.1 - S.2.1 ≤ 2 := Classical.byContradiction (fun z => by have := v.2 z; omega)
  exact (if_pos h).trans ((if_pos k).trans ((if_pos ⟨l, by rw [← v.1 l]; exact w⟩).trans (by rw [v.1 l])))
theorem no_3 (hg : RG n S) (h : S.2.2.2.1 = 0) (k : S.1 = 2) (hm : m ≤ 900) (w : 0 ≤ vlS r n S ∧ vlS r n S ≤ m - 1) (g : ¬ vlS r n S < t) : noR r n d m t row S = (0, refR 3 S) := by
  have f : (refR 3 S).2.2.2.1 ≠ 0 := rf_ne h (by decide)
  refine no_of (no_ck hg h k hm w) ?_ (if_neg f)
  rw [noA_t (c := (vlS r n S, S)) (by show t ≤ vlS r n S; omega), noB_n f, noC_n f]
theorem no_4 (hg : RG n S) (h : S.2.2.2.1 = 0) (k : S.1 = 2) (hm : m ≤ 900) (w : 0 ≤ vlS r n S ∧ vlS r n S ≤ m - 1) (g : vlS r n S < t) (y : 0 ≤ row ∧ row + vlS r n S < 123 ∧ 0 < d (row + vlS r n S)) : noR r n d m t row S = (0, refR 4 S) := by
  have f : (refR 4 S).2.2.2.1 ≠ 0 := rf_ne h (by decide)
  refine no_of (no_ck hg h k hm w) ?_ (if_neg f)
  rw [noA_f (c := (vlS r n S, S)) (by show ¬ t ≤ vlS r n S; omega), noB_t y, noC_n f]
theorem no_g (hg : RG n S) (h : S.2.2.2.1 = 0) (k : S.1 = 2) (hm : m ≤ 900) (w : 0 ≤ vlS r n S ∧ vlS r n S ≤ m - 1) (g : vlS r n S < t) (y : ¬ (0 ≤ row ∧ row + vlS r n S < 123 ∧ 0 < d (row + vlS r n S))) : noR r n d m t row S = (vlS r n S, nxR r n S) := by
  refine no_of (no_ck hg h k hm w) ?_ (if_pos h)
  rw [noA_f (c := (vlS r n S, S)) (by show ¬ t ≤ vlS r n S; omega), noB_f y]
  exact if_pos h
end NOS

theorem dX12_work1_0 : decode cX12_work1 0 = .ok (.aload_n 0, 1) := by decide +kernel
theorem dX12_work1_1 : decode cX12_work1 1 = .ok (.aload_n 0, 1) := by decide +kernel
theorem dX12_work1_2 : decode cX12_work1 2 = .ok (.getfield 247, 3) := by decide +kernel
theorem dX12_work1_5 : decode cX12_work1 5 = .ok (.bipush 6, 2) := by decide +kernel
theorem dX12_work1_7 : decode cX12_work1 7 = .ok (.if_icmp .ge 7, 3) := by decide +kernel
theorem dX12_work1_10 : decode cX12_work1 10 = .ok (.iconst 1, 1) := by decide +kernel
theorem dX12_work1_11 : decode cX12_work1 11 = .ok (.goto 4, 3) := by decide +kernel
theorem dX12_work1_14 : decode cX12_work1 14 = .ok (.iconst 0, 1) := by decide +kernel
theorem dX12_work1_15 : decode cX12_work1 15 = .ok (.iconst 2, 1) := by decide +kernel
theorem dX12_work1_16 : decode cX12_work1 16 = .ok (.invokevirtual 231, 3) := by decide +kernel
theorem dX12_work1_19 : decode cX12_work1 19 = .ok (.ifCond .ne 4, 3) := by decide +kernel
theorem dX12_work1_22 : decode cX12_work1 22 = .ok (.return_, 1) := by decide +kernel
theorem dX12_work1_23 : decode cX12_work1 23 = .ok (.aload_n 0, 1) := by decide +kernel
theorem dX12_work1_24 : decode cX12_work1 24 = .ok (.invokevirtual 238, 3) := by decide +kernel
theorem dX12_work1_27 : decode cX12_work1 27 = .ok (.aload_n 0, 1) := by decide +kernel
theorem dX12_work1_28 : decode cX12_work1 28 = .ok (.getfield 62, 3) := by decide +kernel
theorem dX12_work1_31 : decode cX12_work1 31 = .ok (.aload_n 0, 1) := by decide +kernel
theorem dX12_work1_32 : decode cX12_work1 32 = .ok (.getfield 247, 3) := by decide +kernel
theorem dX12_work1_35 : decode cX12_work1 35 = .ok (.aload_n 0, 1) := by decide +kernel
theorem dX12_work1_36 : decode cX12_work1 36 = .ok (.iconst 1, 1) := by decide +kernel
theorem dX12_work1_37 : decode cX12_work1 37 = .ok (.bipush 9, 2) := by decide +kernel
theorem dX12_work1_39 : decode cX12_work1 39 = .ok (.invokevirtual 244, 3) := by decide +kernel
theorem dX12_work1_42 : decode cX12_work1 42 = .ok (.iastore, 1) := by decide +kernel
theorem dX12_work1_43 : decode cX12_work1 43 = .ok (.aload_n 0, 1) := by decide +kernel
theorem dX12_work1_44 : decode cX12_work1 44 = .ok (.getfield 59, 3) := by decide +kernel
theorem dX12_work1_47 : decode cX12_work1 47 = .ok (.bipush 100, 2) := by decide +kernel
theorem dX12_work1_49 : decode cX12_work1 49 = .ok (.aload_n 0, 1) := by decide +kernel
theorem dX12_work1_50 : decode cX12_work1 50 = .ok (.getfield 247, 3) := by decide +kernel
theorem dX12_work1_53 : decode cX12_work1 53 = .ok (.iadd, 1) := by decide +kernel
theorem dX12_work1_54 : decode cX12_work1 54 = .ok (.aload_n 0, 1) := by decide +kernel
theorem dX12_work1_55 : decode cX12_work1 55 = .ok (.iconst 0, 1) := by decide +kernel
theorem dX12_work1_56 : decode cX12_work1 56 = .ok (.bipush 15, 2) := by decide +kernel
theorem dX12_work1_58 : decode cX12_work1 58 = .ok (.invokevirtual 244, 3) := by decide +kernel
theorem dX12_work1_61 : decode cX12_work1 61 = .ok (.iastore, 1) := by decide +kernel
theorem dX12_work1_62 : decode cX12_work1 62 = .ok (.aload_n 0, 1) := by decide +kernel
theorem dX12_work1_63 : decode cX12_work1 63 = .ok (.dup, 1) := by decide +kernel
theorem dX12_work1_64 : decode cX12_work1 64 = .ok (.getfield 247, 3) := by decide +kernel
theorem dX12_work1_67 : decode cX12_work1 67 = .ok (.iconst 1, 1) := by decide +kernel
theorem dX12_work1_68 : decode cX12_work1 68 = .ok (.iadd, 1) := by decide +kernel
theorem dX12_work1_69 : decode cX12_work1 69 = .ok (.putfield 247, 3) := by decide +kernel
theorem dX12_work1_72 : decode cX12_work1 72 = .ok (.return_, 1) := by decide +kernel
set_option maxHeartbeats 1000000 in
theorem c12_work1 {G : Gl} {l : Launch}  {M : Mem} {d : Int → Int} {n : Int} {r : Int → Int} {S : RT} (hG : GR M) (hn : M 57 33 = n) (htp : ∀ k, 0 ≤ k → k < n → M 62 k = r k % 2 ^ 8) (hn0 : 0 ≤ n) (hn1 : n ≤ 700) (hm : MRS M r n S) (hd : TD M d) (hf : S.2.2.2.1 = 0) (hw0 : 0 ≤ d 122) (hw1 : d 122 ≤ 6) : Ct G LY 82 l 4 m12_work1 [vR 57] M (RV (fun M' => Fr [73, 74] [(57, 31), (57, 32), (57, 34), (57, 35), (57, 36), (57, 37), (57, 17), (57, 42), (57, 43)] M M' ∧ MRS M' r n (wk0 r n d S).2 ∧ TD M' (wk0 r n d S).1)) := by
  refine R_start (by decide +kernel) (Nat.le_of_ble_eq_true rfl) (fun C hC hRm hlau => ?_)
  show RZ G LY C (Zn G LY 82 C (RV (fun M' => Fr [73, 74] [(57, 31), (57, 32), (57, 34), (57, 35), (57, 36), (57, 37), (57, 17), (57, 42), (57, 43)] M M' ∧ MRS M' r n (wk0 r n d S).2 ∧ TD M' (wk0 r n d S).1))) 0 0 82 0 [some (vR 57)] [] M
  refine R_aload_0 hC dX12_work1_0 ?_
  refine R_aload_0 hC dX12_work1_1 ?_
  refine R_getIE hC dX12_work1_2 fl_12_247 (by decide) rfl (by decide) (by decide) (fi := 43) rfl hd.w ?_
  refine R_bipush hC dX12_work1_5 (by decide +kernel) ⟨by decide, by decide⟩ ?_
  refine R_icmp_ge hC dX12_work1_7 (tgt := 14) (by decide) (fun hb7 => ?_) (fun hb7 => ?_)
  · skip
    refine R_iconst hC dX12_work1_14 ⟨by decide, by decide⟩ ?_
    refine R_iconst hC dX12_work1_15 ⟨by decide, by decide⟩ ?_
    refine R_callVp (as := [vI _, vI _]) hC dX12_work1_16 mo_12_wants ml_12_231 (by decide) rfl rfl (c12_wants  hG) rfl rfl hRm (by decide) (by decide) (Nat.le_of_ble_eq_true rfl) (fun v3 Mc1 hq2 => ?_)
    have hmA : MRS Mc1 r n (itc (d 122 < 6) S (refR 2 S)) := by
      have z := hm.wt hq2.1 hq2.2.1
      by_cases y : d 122 < 6
      · rw [itc_t y]; first | exact z | (exfalso; omega)
      · rw [itc_f y]; first | exact z | (exfalso; omega)
    have hvv : v3 = bP (d 122 < 6) := by
      rw [hq2.2.2, hmA.f]
      by_cases z : d 122 < 6
      · rw [itc_t z, bP_pos z, bP_pos hf]
      · rw [itc_f z, bP_neg z, bP_neg (rf_ne hf (by decide))]
    have hFa : Fr [73, 74] [(57, 31), (57, 32), (57, 34), (57, 35), (57, 36), (57, 37), (57, 17), (57, 42), (57, 43)] M Mc1 := hq2.1.mo (by simp) (by simp)
    have hdA := hd.fr hq2.1 (by decide)
    refine R_if_ne hC dX12_work1_19 (tgt := 23) (by decide) (fun hb19 => ?_) (fun hb19 => ?_)
    · skip
      have hlt := bP_nz (fun z => hb19 (hvv.trans z))
      have hma : MRS Mc1 r n S := by rw [itc_t hlt] at hmA; exact hmA
      refine R_aload_0 hC dX12_work1_23 ?_
      have hr0 := hma.2.2.1
      have hr1 := hma.2.2.2.1
      have hr2 := hma.2.2.2.2
      have hG4 : GR Mc1 := (GR.fr hG hq2.1 (by decide +kernel))
      refine R_callVv (as := []) hC dX12_work1_24 mo_12_go ml_12_238 (by decide) rfl rfl (c12_go (e := S.2.2.1) hG4 ((hFa 57 33 (by decide) (by decide)).trans hn) (fun j p q => (congrFun (hFa.row (by decide) (by decide)) j).trans (htp j p q)) (by omega) (by omega) hma.e (by omega) (by omega)) rfl rfl hRm (by decide) (by decide) (Nat.le_of_ble_eq_true rfl) (fun Mc5 hq6 => ?_)
      have hFg : Fr [73, 74] [(57, 31), (57, 32), (57, 34), (57, 35), (57, 36), (57, 37), (57, 17), (57, 42), (57, 43)] M Mc5 := Fr.tt hFa (hq6.1.mo (by simp) (by simp))
      have hmg := hma.go hq6.1 hq6.2
      have hdg := hdA.fr hq6.1 (by decide)
      refine R_aload_0 hC dX12_work1_27 ?_
      have hG7 : GR Mc5 := (GR.fr hG4 hq6.1 (by decide +kernel))
      refine R_getR hC dX12_work1_28 fl_12_62 (by decide) rfl (by decide) (by decide) (fi := 39) rfl (r := 74) (gr_57_39 hG7) ?_
      refine R_aload_0 hC dX12_work1_31 ?_
      refine R_getIE hC dX12_work1_32 fl_12_247 (by decide) rfl (by decide) (by decide) (fi := 43) rfl hdg.w ?_
      refine R_aload_0 hC dX12_work1_35 ?_
      refine R_iconst hC dX12_work1_36 ⟨by decide, by decide⟩ ?_
      refine R_bipush hC dX12_work1_37 (by decide +kernel) ⟨by decide, by decide⟩ ?_
      refine R_callVp (as := [vI _, vI _]) hC dX12_work1_39 mo_12_number ml_12_244 (by decide) rfl rfl (c12_number  hG7 ((hFg 57 33 (by decide) (by decide)).trans hn) (fun j p q => (congrFun (hFg.row (by decide) (by decide)) j).trans (htp j p q)) (by omega) (by omega) hmg (by omega)) rfl rfl hRm (by decide) (by decide) (Nat.le_of_ble_eq_true rfl) (fun v10 Mc8 hq9 => ?_)
      have hF1 : Fr [73, 74] [(57, 31), (57, 32), (57, 34), (57, 35), (57, 36), (57, 37), (57, 17), (57, 42), (57, 43)] M Mc8 := Fr.tt hFg (hq9.1.mo (by simp) (by simp))
      have hm1 := hq9.2.1
      have hd1 := hdg.fr hq9.1 (by decide)
      have hv1 := hq9.2.2
      refine R_iastore hC dX12_work1_42 (by decide) rfl (by omega) (by omega) ?_
      have hF2 : Fr [73, 74] [(57, 31), (57, 32), (57, 34), (57, 35), (57, 36), (57, 37), (57, 17), (57, 42), (57, 43)] M (uM Mc8 74 (d 122) v10) := Fr.uA hF1 (by decide)
      have hm2 : MRS (uM Mc8 74 (d 122) v10) r n (rnR r n 1 9 (nxR r n S)).2 := hm1.u (by decide)
      have hd2 : TD (uM Mc8 74 (d 122) v10) d := hd1.w4 (Int.le_refl _)
      have hz2 : (uM Mc8 74 (d 122) v10) 74 (d 122) = (rnR r n 1 9 (nxR r n S)).1 := uM_same.trans hv1
      refine R_aload_0 hC dX12_work1_43 ?_
      have hG11 : GR (uM Mc8 74 (d 122) v10) := (GR.uA (GR.fr hG7 hq9.1 (by decide +kernel)) (by decide +kernel) (.inl (by decide)))
      refine R_getR hC dX12_work1_44 fl_12_59 (by decide) rfl (by decide) (by decide) (fi := 38) rfl (r := 73) (gr_57_38 hG11) ?_
      refine R_bipush hC dX12_work1_47 (by decide +kernel) ⟨by decide, by decide⟩ ?_
      refine R_aload_0 hC dX12_work1_49 ?_
      refine R_getIE hC dX12_work1_50 fl_12_247 (by decide) rfl (by decide) (by decide) (fi := 43) rfl hd2.w ?_
      refine R_iadd hC dX12_work1_53 ⟨by omega, by omega⟩ ?_
      refine R_aload_0 hC dX12_work1_54 ?_
      refine R_iconst hC dX12_work1_55 ⟨by decide, by decide⟩ ?_
      refine R_bipush hC dX12_work1_56 (by decide +kernel) ⟨by decide, by decide⟩ ?_
      refine R_callVp (as := [vI _, vI _]) hC dX12_work1_58 mo_12_number ml_12_244 (by decide) rfl rfl (c12_number  hG11 ((hF2 57 33 (by decide) (by decide)).trans hn) (fun j p q => (congrFun (hF2.row (by decide) (by decide)) j).trans (htp j p q)) (by omega) (by omega) hm2 (by omega)) rfl rfl hRm (by decide) (by decide) (Nat.le_of_ble_eq_true rfl) (fun v14 Mc12 hq13 => ?_)
      have hF3 : Fr [73, 74] [(57, 31), (57, 32), (57, 34), (57, 35), (57, 36), (57, 37), (57, 17), (57, 42), (57, 43)] M Mc12 := Fr.tt hF2 (hq13.1.mo (by simp) (by simp))
      have hm3 := hq13.2.1
      have hd3 := hd2.fr hq13.1 (by decide)
      have hv3 := hq13.2.2
      have hz3 : Mc12 74 (d 122) = (rnR r n 1 9 (nxR r n S)).1 := (hq13.1 74 _ (by decide) (by simp)).trans hz2
      refine R_iastore hC dX12_work1_61 (by decide) rfl (by omega) (by omega) ?_
      have hF4 : Fr [73, 74] [(57, 31), (57, 32), (57, 34), (57, 35), (57, 36), (57, 37), (57, 17), (57, 42), (57, 43)] M (uM Mc12 73 (100 + d 122) v14) := Fr.uA hF3 (by decide)
      have hm4 : MRS (uM Mc12 73 (100 + d 122) v14) r n (rnR r n 0 15 (rnR r n 1 9 (nxR r n S)).2).2 := hm3.u (by decide)
      have hd4 : TD (uM Mc12 73 (100 + d 122) v14) (upd1 d (16 + d 122) (rnR r n 0 15 (rnR r n 1 9 (nxR r n S)).2).1) := by
        rw [← hv3]
        exact hd3.w3 (.inr (by omega)) (by (rw [mj2 (by omega) (by omega)]; omega))
      have hz4 : (uM Mc12 73 (100 + d 122) v14) 74 (d 122) = (rnR r n 1 9 (nxR r n S)).1 := (uM_h (by decide)).trans hz3
      refine R_aload_0 hC dX12_work1_62 ?_
      refine R_dup hC dX12_work1_63 rfl ?_
      refine R_getIE hC dX12_work1_64 fl_12_247 (by decide) rfl (by decide) (by decide) (fi := 43) rfl ((uM_h (by decide)).trans hd3.w) ?_
      refine R_iconst hC dX12_work1_67 ⟨by decide, by decide⟩ ?_
      refine R_iadd hC dX12_work1_68 ⟨by omega, by omega⟩ ?_
      refine R_putI hC dX12_work1_69 fl_12_247 (by decide) rfl (by decide) (by decide) (fi := 43) rfl ?_
      exact R_return hC dX12_work1_72 rfl (ret_V (by
          unfold wk0
          rw [itc_t hlt]
          exact ⟨Fr.uB hF4 (by decide), hm4.uf (by decide), (by (rw [upd1_c (show 10 + d 122 ≠ 16 + d 122 by omega)]; exact hd4.w6 (upd1_o (by omega)) hw0 hlt hz4))⟩))
    · skip
      have hge := bP_z (hvv.symm.trans hb19)
      exact R_return hC dX12_work1_22 rfl (ret_V (by (unfold wk0; rw [itc_f hge] at hmA ⊢; exact ⟨hFa, hmA, hdA⟩)))
  · skip
    refine R_iconst hC dX12_work1_10 ⟨by decide, by decide⟩ ?_
    refine R_goto hC dX12_work1_11 (tgt := 15) (by decide) ?_
    refine R_iconst hC dX12_work1_15 ⟨by decide, by decide⟩ ?_
    refine R_callVp (as := [vI _, vI _]) hC dX12_work1_16 mo_12_wants ml_12_231 (by decide) rfl rfl (c12_wants  hG) rfl rfl hRm (by decide) (by decide) (Nat.le_of_ble_eq_true rfl) (fun v17 Mc15 hq16 => ?_)
    have hmA : MRS Mc15 r n (itc (d 122 < 6) S (refR 2 S)) := by
      have z := hm.wt hq16.1 hq16.2.1
      by_cases y : d 122 < 6
      · rw [itc_t y]; first | exact z | (exfalso; omega)
      · rw [itc_f y]; first | exact z | (exfalso; omega)
    have hvv : v17 = bP (d 122 < 6) := by
      rw [hq16.2.2, hmA.f]
      by_cases z : d 122 < 6
      · rw [itc_t z, bP_pos z, bP_pos hf]
      · rw [itc_f z, bP_neg z, bP_neg (rf_ne hf (by decide))]
    have hFa : Fr [73, 74] [(57, 31), (57, 32), (57, 34), (57, 35), (57, 36), (57, 37), (57, 17), (57, 42), (57, 43)] M Mc15 := hq16.1.mo (by simp) (by simp)
    have hdA := hd.fr hq16.1 (by decide)
    refine R_if_ne hC dX12_work1_19 (tgt := 23) (by decide) (fun hb19 => ?_) (fun hb19 => ?_)
    · skip
      have hlt := bP_nz (fun z => hb19 (hvv.trans z))
      have hma : MRS Mc15 r n S := by rw [itc_t hlt] at hmA; exact hmA
      refine R_aload_0 hC dX12_work1_23 ?_
      have hr0 := hma.2.2.1
      have hr1 := hma.2.2.2.1
      have hr2 := hma.2.2.2.2
      have hG18 : GR Mc15 := (GR.fr hG hq16.1 (by decide +kernel))
      refine R_callVv (as := []) hC dX12_work1_24 mo_12_go ml_12_238 (by decide) rfl rfl (c12_go (e := S.2.2.1) hG18 ((hFa 57 33 (by decide) (by decide)).trans hn) (fun j p q => (congrFun (hFa.row (by decide) (by decide)) j).trans (htp j p q)) (by omega) (by omega) hma.e (by omega) (by omega)) rfl rfl hRm (by decide) (by decide) (Nat.le_of_ble_eq_true rfl) (fun Mc19 hq20 => ?_)
      have hFg : Fr [73, 74] [(57, 31), (57, 32), (57, 34), (57, 35), (57, 36), (57, 37), (57, 17), (57, 42), (57, 43)] M Mc19 := Fr.tt hFa (hq20.1.mo (by simp) (by simp))
      have hmg := hma.go hq20.1 hq20.2
      have hdg := hdA.fr hq20.1 (by decide)
      refine R_aload_0 hC dX12_work1_27 ?_
      have hG21 : GR Mc19 := (GR.fr hG18 hq20.1 (by decide +kernel))
      refine R_getR hC dX12_work1_28 fl_12_62 (by decide) rfl (by decide) (by decide) (fi := 39) rfl (r := 74) (gr_57_39 hG21) ?_
      refine R_aload_0 hC dX12_work1_31 ?_
      refine R_getIE hC dX12_work1_32 fl_12_247 (by decide) rfl (by decide) (by decide) (fi := 43) rfl hdg.w ?_
      refine R_aload_0 hC dX12_work1_35 ?_
      refine R_iconst hC dX12_work1_36 ⟨by decide, by decide⟩ ?_
      refine R_bipush hC dX12_work1_37 (by decide +kernel) ⟨by decide, by decide⟩ ?_
      refine R_callVp (as := [vI _, vI _]) hC dX12_work1_39 mo_12_number ml_12_244 (by decide) rfl rfl (c12_number  hG21 ((hFg 57 33 (by decide) (by decide)).trans hn) (fun j p q => (congrFun (hFg.row (by decide) (by decide)) j).trans (htp j p q)) (by omega) (by omega) hmg (by omega)) rfl rfl hRm (by decide) (by decide) (Nat.le_of_ble_eq_true rfl) (fun v24 Mc22 hq23 => ?_)
      have hF1 : Fr [73, 74] [(57, 31), (57, 32), (57, 34), (57, 35), (57, 36), (57, 37), (57, 17), (57, 42), (57, 43)] M Mc22 := Fr.tt hFg (hq23.1.mo (by simp) (by simp))
      have hm1 := hq23.2.1
      have hd1 := hdg.fr hq23.1 (by decide)
      have hv1 := hq23.2.2
      refine R_iastore hC dX12_work1_42 (by decide) rfl (by omega) (by omega) ?_
      have hF2 : Fr [73, 74] [(57, 31), (57, 32), (57, 34), (57, 35), (57, 36), (57, 37), (57, 17), (57, 42), (57, 43)] M (uM Mc22 74 (d 122) v24) := Fr.uA hF1 (by decide)
      have hm2 : MRS (uM Mc22 74 (d 122) v24) r n (rnR r n 1 9 (nxR r n S)).2 := hm1.u (by decide)
      have hd2 : TD (uM Mc22 74 (d 122) v24) d := hd1.w4 (Int.le_refl _)
      have hz2 : (uM Mc22 74 (d 122) v24) 74 (d 122) = (rnR r n 1 9 (nxR r n S)).1 := uM_same.trans hv1
      refine R_aload_0 hC dX12_work1_43 ?_
      have hG25 : GR (uM Mc22 74 (d 122) v24) := (GR.uA (GR.fr hG21 hq23.1 (by decide +kernel)) (by decide +kernel) (.inl (by decide)))
      refine R_getR hC dX12_work1_44 fl_12_59 (by decide) rfl (by decide) (by decide) (fi := 38) rfl (r := 73) (gr_57_38 hG25) ?_
      refine R_bipush hC dX12_work1_47 (by decide +kernel) ⟨by decide, by decide⟩ ?_
      refine R_aload_0 hC dX12_work1_49 ?_
      refine R_getIE hC dX12_work1_50 fl_12_247 (by decide) rfl (by decide) (by decide) (fi := 43) rfl hd2.w ?_
      refine R_iadd hC dX12_work1_53 ⟨by omega, by omega⟩ ?_
      refine R_aload_0 hC dX12_work1_54 ?_
      refine R_iconst hC dX12_work1_55 ⟨by decide, by decide⟩ ?_
      refine R_bipush hC dX12_work1_56 (by decide +kernel) ⟨by decide, by decide⟩ ?_
      refine R_callVp (as := [vI _, vI _]) hC dX12_work1_58 mo_12_number ml_12_244 (by decide) rfl rfl (c12_number  hG25 ((hF2 57 33 (by decide) (by decide)).trans hn) (fun j p q => (congrFun (hF2.row (by decide) (by decide)) j).trans (htp j p q)) (by omega) (by omega) hm2 (by omega)) rfl rfl hRm (by decide) (by decide) (Nat.le_of_ble_eq_true rfl) (fun v28 Mc26 hq27 => ?_)
      have hF3 : Fr [73, 74] [(57, 31), (57, 32), (57, 34), (57, 35), (57, 36), (57, 37), (57, 17), (57, 42), (57, 43)] M Mc26 := Fr.tt hF2 (hq27.1.mo (by simp) (by simp))
      have hm3 := hq27.2.1
      have hd3 := hd2.fr hq27.1 (by decide)
      have hv3 := hq27.2.2
      have hz3 : Mc26 74 (d 122) = (rnR r n 1 9 (nxR r n S)).1 := (hq27.1 74 _ (by decide) (by simp)).trans hz2
      refine R_iastore hC dX12_work1_61 (by decide) rfl (by omega) (by omega) ?_
      have hF4 : Fr [73, 74] [(57, 31), (57, 32), (57, 34), (57, 35), (57, 36), (57, 37), (57, 17), (57, 42), (57, 43)] M (uM Mc26 73 (100 + d 122) v28) := Fr.uA hF3 (by decide)
      have hm4 : MRS (uM Mc26 73 (100 + d 122) v28) r n (rnR r n 0 15 (rnR r n 1 9 (nxR r n S)).2).2 := hm3.u (by decide)
      have hd4 : TD (uM Mc26 73 (100 + d 122) v28) (upd1 d (16 + d 122) (rnR r n 0 15 (rnR r n 1 9 (nxR r n S)).2).1) := by
        rw [← hv3]
        exact hd3.w3 (.inr (by omega)) (by (rw [mj2 (by omega) (by omega)]; omega))
      have hz4 : (uM Mc26 73 (100 + d 122) v28) 74 (d 122) = (rnR r n 1 9 (nxR r n S)).1 := (uM_h (by decide)).trans hz3
      refine R_aload_0 hC dX12_work1_62 ?_
      refine R_dup hC dX12_work1_63 rfl ?_
      refine R_getIE hC dX12_work1_64 fl_12_247 (by decide) rfl (by decide) (by decide) (fi := 43) rfl ((uM_h (by decide)).trans hd3.w) ?_
      refine R_iconst hC dX12_work1_67 ⟨by decide, by decide⟩ ?_
      refine R_iadd hC dX12_work1_68 ⟨by omega, by omega⟩ ?_
      refine R_putI hC dX12_work1_69 fl_12_247 (by decide) rfl (by decide) (by decide) (fi := 43) rfl ?_
      exact R_return hC dX12_work1_72 rfl (ret_V (by
          unfold wk0
          rw [itc_t hlt]
          exact ⟨Fr.uB hF4 (by decide), hm4.uf (by decide), (by (rw [upd1_c (show 10 + d 122 ≠ 16 + d 122 by omega)]; exact hd4.w6 (upd1_o (by omega)) hw0 hlt hz4))⟩))
    · skip
      have hge := bP_z (hvv.symm.trans hb19)
      exact R_return hC dX12_work1_22 rfl (ret_V (by (unfold wk0; rw [itc_f hge] at hmA ⊢; exact ⟨hFa, hmA, hdA⟩)))
theorem dX12_library1_0 : decode cX12_library1 0 = .ok (.aload_n 0, 1) := by decide +kernel
theorem dX12_library1_1 : decode cX12_library1 1 = .ok (.aload_n 0, 1) := by decide +kernel
theorem dX12_library1_2 : decode cX12_library1 2 = .ok (.getfield 241, 3) := by decide +kernel
theorem dX12_library1_5 : decode cX12_library1 5 = .ok (.iconst 5, 1) := by decide +kernel
theorem dX12_library1_6 : decode cX12_library1 6 = .ok (.if_icmp .ge 7, 3) := by decide +kernel
theorem dX12_library1_9 : decode cX12_library1 9 = .ok (.iconst 1, 1) := by decide +kernel
theorem dX12_library1_10 : decode cX12_library1 10 = .ok (.goto 4, 3) := by decide +kernel
theorem dX12_library1_13 : decode cX12_library1 13 = .ok (.iconst 0, 1) := by decide +kernel
theorem dX12_library1_14 : decode cX12_library1 14 = .ok (.iconst 2, 1) := by decide +kernel
theorem dX12_library1_15 : decode cX12_library1 15 = .ok (.invokevirtual 231, 3) := by decide +kernel
theorem dX12_library1_18 : decode cX12_library1 18 = .ok (.ifCond .ne 4, 3) := by decide +kernel
theorem dX12_library1_21 : decode cX12_library1 21 = .ok (.return_, 1) := by decide +kernel
theorem dX12_library1_22 : decode cX12_library1 22 = .ok (.aload_n 0, 1) := by decide +kernel
theorem dX12_library1_23 : decode cX12_library1 23 = .ok (.invokevirtual 238, 3) := by decide +kernel
theorem dX12_library1_26 : decode cX12_library1 26 = .ok (.aload_n 0, 1) := by decide +kernel
theorem dX12_library1_27 : decode cX12_library1 27 = .ok (.getfield 59, 3) := by decide +kernel
theorem dX12_library1_30 : decode cX12_library1 30 = .ok (.iconst 0, 1) := by decide +kernel
theorem dX12_library1_31 : decode cX12_library1 31 = .ok (.aload_n 0, 1) := by decide +kernel
theorem dX12_library1_32 : decode cX12_library1 32 = .ok (.getfield 241, 3) := by decide +kernel
theorem dX12_library1_35 : decode cX12_library1 35 = .ok (.iadd, 1) := by decide +kernel
theorem dX12_library1_36 : decode cX12_library1 36 = .ok (.aload_n 0, 1) := by decide +kernel
theorem dX12_library1_37 : decode cX12_library1 37 = .ok (.iconst 0, 1) := by decide +kernel
theorem dX12_library1_38 : decode cX12_library1 38 = .ok (.bipush 20, 2) := by decide +kernel
theorem dX12_library1_40 : decode cX12_library1 40 = .ok (.invokevirtual 244, 3) := by decide +kernel
theorem dX12_library1_43 : decode cX12_library1 43 = .ok (.iastore, 1) := by decide +kernel
theorem dX12_library1_44 : decode cX12_library1 44 = .ok (.aload_n 0, 1) := by decide +kernel
theorem dX12_library1_45 : decode cX12_library1 45 = .ok (.getfield 59, 3) := by decide +kernel
theorem dX12_library1_48 : decode cX12_library1 48 = .ok (.iconst 5, 1) := by decide +kernel
theorem dX12_library1_49 : decode cX12_library1 49 = .ok (.aload_n 0, 1) := by decide +kernel
theorem dX12_library1_50 : decode cX12_library1 50 = .ok (.getfield 241, 3) := by decide +kernel
theorem dX12_library1_53 : decode cX12_library1 53 = .ok (.iadd, 1) := by decide +kernel
theorem dX12_library1_54 : decode cX12_library1 54 = .ok (.aload_n 0, 1) := by decide +kernel
theorem dX12_library1_55 : decode cX12_library1 55 = .ok (.getfield 228, 3) := by decide +kernel
theorem dX12_library1_58 : decode cX12_library1 58 = .ok (.ifCond .ne 21, 3) := by decide +kernel
theorem dX12_library1_61 : decode cX12_library1 61 = .ok (.aload_n 0, 1) := by decide +kernel
theorem dX12_library1_62 : decode cX12_library1 62 = .ok (.getfield 219, 3) := by decide +kernel
theorem dX12_library1_65 : decode cX12_library1 65 = .ok (.iconst 2, 1) := by decide +kernel
theorem dX12_library1_66 : decode cX12_library1 66 = .ok (.if_icmp .ne 13, 3) := by decide +kernel
theorem dX12_library1_69 : decode cX12_library1 69 = .ok (.aload_n 0, 1) := by decide +kernel
theorem dX12_library1_70 : decode cX12_library1 70 = .ok (.iconst 0, 1) := by decide +kernel
theorem dX12_library1_71 : decode cX12_library1 71 = .ok (.bipush 20, 2) := by decide +kernel
theorem dX12_library1_73 : decode cX12_library1 73 = .ok (.invokevirtual 244, 3) := by decide +kernel
theorem dX12_library1_76 : decode cX12_library1 76 = .ok (.goto 5, 3) := by decide +kernel
theorem dX12_library1_79 : decode cX12_library1 79 = .ok (.bipush 20, 2) := by decide +kernel
theorem dX12_library1_81 : decode cX12_library1 81 = .ok (.iastore, 1) := by decide +kernel
theorem dX12_library1_82 : decode cX12_library1 82 = .ok (.aload_n 0, 1) := by decide +kernel
theorem dX12_library1_83 : decode cX12_library1 83 = .ok (.dup, 1) := by decide +kernel
theorem dX12_library1_84 : decode cX12_library1 84 = .ok (.getfield 241, 3) := by decide +kernel
theorem dX12_library1_87 : decode cX12_library1 87 = .ok (.iconst 1, 1) := by decide +kernel
theorem dX12_library1_88 : decode cX12_library1 88 = .ok (.iadd, 1) := by decide +kernel
theorem dX12_library1_89 : decode cX12_library1 89 = .ok (.putfield 241, 3) := by decide +kernel
theorem dX12_library1_92 : decode cX12_library1 92 = .ok (.return_, 1) := by decide +kernel
set_option maxHeartbeats 1000000 in
theorem c12_library1 {G : Gl} {l : Launch}  {M : Mem} {d : Int → Int} {n : Int} {r : Int → Int} {S : RT} (hG : GR M) (hn : M 57 33 = n) (htp : ∀ k, 0 ≤ k → k < n → M 62 k = r k % 2 ^ 8) (hn0 : 0 ≤ n) (hn1 : n ≤ 700) (hm : MRS M r n S) (hd : TD M d) (hf : S.2.2.2.1 = 0) (hL0 : 0 ≤ d 121) (hL1 : d 121 ≤ 5) : Ct G LY 82 l 4 m12_library1 [vR 57] M (RV (fun M' => Fr [73, 74] [(57, 31), (57, 32), (57, 34), (57, 35), (57, 36), (57, 37), (57, 17), (57, 42), (57, 43)] M M' ∧ MRS M' r n (lb0 r n d S).2 ∧ TD M' (lb0 r n d S).1)) := by
  refine R_start (by decide +kernel) (Nat.le_of_ble_eq_true rfl) (fun C hC hRm hlau => ?_)
  show RZ G LY C (Zn G LY 82 C (RV (fun M' => Fr [73, 74] [(57, 31), (57, 32), (57, 34), (57, 35), (57, 36), (57, 37), (57, 17), (57, 42), (57, 43)] M M' ∧ MRS M' r n (lb0 r n d S).2 ∧ TD M' (lb0 r n d S).1))) 0 0 82 0 [some (vR 57)] [] M
  refine R_aload_0 hC dX12_library1_0 ?_
  refine R_aload_0 hC dX12_library1_1 ?_
  refine R_getIE hC dX12_library1_2 fl_12_241 (by decide) rfl (by decide) (by decide) (fi := 42) rfl hd.l ?_
  refine R_iconst hC dX12_library1_5 ⟨by decide, by decide⟩ ?_
  refine R_icmp_ge hC dX12_library1_6 (tgt := 13) (by decide) (fun hb6 => ?_) (fun hb6 => ?_)
  · skip
    refine R_iconst hC dX12_library1_13 ⟨by decide, by decide⟩ ?_
    refine R_iconst hC dX12_library1_14 ⟨by decide, by decide⟩ ?_
    refine R_callVp (as := [vI _, vI _]) hC dX12_library1_15 mo_12_wants ml_12_231 (by decide) rfl rfl (c12_wants  hG) rfl rfl hRm (by decide) (by decide) (Nat.le_of_ble_eq_true rfl) (fun v3 Mc1 hq2 => ?_)
    have hmA : MRS Mc1 r n (itc (d 121 < 5) S (refR 2 S)) := by
      have z := hm.wt hq2.1 hq2.2.1
      by_cases y : d 121 < 5
      · rw [itc_t y]; first | exact z | (exfalso; omega)
      · rw [itc_f y]; first | exact z | (exfalso; omega)
    have hvv : v3 = bP (d 121 < 5) := by
      rw [hq2.2.2, hmA.f]
      by_cases z : d 121 < 5
      · rw [itc_t z, bP_pos z, bP_pos hf]
      · rw [itc_f z, bP_neg z, bP_neg (rf_ne hf (by decide))]
    have hFa : Fr [73, 74] [(57, 31), (57, 32), (57, 34), (57, 35), (57, 36), (57, 37), (57, 17), (57, 42), (57, 43)] M Mc1 := hq2.1.mo (by simp) (by simp)
    have hdA := hd.fr hq2.1 (by decide)
    refine R_if_ne hC dX12_library1_18 (tgt := 22) (by decide) (fun hb18 => ?_) (fun hb18 => ?_)
    · skip
      have hlt := bP_nz (fun z => hb18 (hvv.trans z))
      have hma : MRS Mc1 r n S := by rw [itc_t hlt] at hmA; exact hmA
      refine R_aload_0 hC dX12_library1_22 ?_
      have hr0 := hma.2.2.1
      have hr1 := hma.2.2.2.1
      have hr2 := hma.2.2.2.2
      have hG4 : GR Mc1 := (GR.fr hG hq2.1 (by decide +kernel))
      refine R_callVv (as := []) hC dX12_library1_23 mo_12_go ml_12_238 (by decide) rfl rfl (c12_go (e := S.2.2.1) hG4 ((hFa 57 33 (by decide) (by decide)).trans hn) (fun j p q => (congrFun (hFa.row (by decide) (by decide)) j).trans (htp j p q)) (by omega) (by omega) hma.e (by omega) (by omega)) rfl rfl hRm (by decide) (by decide) (Nat.le_of_ble_eq_true rfl) (fun Mc5 hq6 => ?_)
      have hFg : Fr [73, 74] [(57, 31), (57, 32), (57, 34), (57, 35), (57, 36), (57, 37), (57, 17), (57, 42), (57, 43)] M Mc5 := Fr.tt hFa (hq6.1.mo (by simp) (by simp))
      have hmg := hma.go hq6.1 hq6.2
      have hdg := hdA.fr hq6.1 (by decide)
      refine R_aload_0 hC dX12_library1_26 ?_
      have hG7 : GR Mc5 := (GR.fr hG4 hq6.1 (by decide +kernel))
      refine R_getR hC dX12_library1_27 fl_12_59 (by decide) rfl (by decide) (by decide) (fi := 38) rfl (r := 73) (gr_57_38 hG7) ?_
      refine R_iconst hC dX12_library1_30 ⟨by decide, by decide⟩ ?_
      refine R_aload_0 hC dX12_library1_31 ?_
      refine R_getIE hC dX12_library1_32 fl_12_241 (by decide) rfl (by decide) (by decide) (fi := 42) rfl hdg.l ?_
      refine R_iadd hC dX12_library1_35 ⟨by omega, by omega⟩ ?_
      refine R_aload_0 hC dX12_library1_36 ?_
      refine R_iconst hC dX12_library1_37 ⟨by decide, by decide⟩ ?_
      refine R_bipush hC dX12_library1_38 (by decide +kernel) ⟨by decide, by decide⟩ ?_
      refine R_callVp (as := [vI _, vI _]) hC dX12_library1_40 mo_12_number ml_12_244 (by decide) rfl rfl (c12_number  hG7 ((hFg 57 33 (by decide) (by decide)).trans hn) (fun j p q => (congrFun (hFg.row (by decide) (by decide)) j).trans (htp j p q)) (by omega) (by omega) hmg (by omega)) rfl rfl hRm (by decide) (by decide) (Nat.le_of_ble_eq_true rfl) (fun v10 Mc8 hq9 => ?_)
      have hF1 : Fr [73, 74] [(57, 31), (57, 32), (57, 34), (57, 35), (57, 36), (57, 37), (57, 17), (57, 42), (57, 43)] M Mc8 := Fr.tt hFg (hq9.1.mo (by simp) (by simp))
      have hm1 := hq9.2.1
      have hd1 := hdg.fr hq9.1 (by decide)
      have hv1 := hq9.2.2
      refine R_iastore hC dX12_library1_43 (by decide) rfl (by omega) (by omega) ?_
      have hF2 : Fr [73, 74] [(57, 31), (57, 32), (57, 34), (57, 35), (57, 36), (57, 37), (57, 17), (57, 42), (57, 43)] M (uM Mc8 73 (0 + d 121) v10) := Fr.uA hF1 (by decide)
      have hm2 : MRS (uM Mc8 73 (0 + d 121) v10) r n (rnR r n 0 20 (nxR r n S)).2 := hm1.u (by decide)
      have hd2 : TD (uM Mc8 73 (0 + d 121) v10) (upd1 d (0 + d 121) (rnR r n 0 20 (nxR r n S)).1) := by
        rw [← hv1]
        exact hd1.w3 (.inl (by omega)) (by (rw [mj1 (by omega)]))
      refine R_aload_0 hC dX12_library1_44 ?_
      have hG11 : GR (uM Mc8 73 (0 + d 121) v10) := (GR.uA (GR.fr hG7 hq9.1 (by decide +kernel)) (by decide +kernel) (.inl (by decide)))
      refine R_getR hC dX12_library1_45 fl_12_59 (by decide) rfl (by decide) (by decide) (fi := 38) rfl (r := 73) (gr_57_38 hG11) ?_
      refine R_iconst hC dX12_library1_48 ⟨by decide, by decide⟩ ?_
      refine R_aload_0 hC dX12_library1_49 ?_
      refine R_getIE hC dX12_library1_50 fl_12_241 (by decide) rfl (by decide) (by decide) (fi := 42) rfl (hd2.l.trans (upd1_o (by omega))) ?_
      refine R_iadd hC dX12_library1_53 ⟨by omega, by omega⟩ ?_
      refine R_aload_0 hC dX12_library1_54 ?_
      refine R_getIE hC dX12_library1_55 fl_12_228 (by decide) rfl (by decide) (by decide) (fi := 37) rfl hm2.f ?_
      refine R_if_ne hC dX12_library1_58 (tgt := 79) (by decide) (fun hb58 => ?_) (fun hb58 => ?_)
      · skip
        have hl2 : (lb2 r n (rnR r n 0 20 (nxR r n S))) = (20, (rnR r n 0 20 (nxR r n S)).2) := lb2_f (fun z => hb58 z.1)
        have hm3 : MRS (uM Mc8 73 (0 + d 121) v10) r n (lb2 r n (rnR r n 0 20 (nxR r n S))).2 := by (rw [hl2]; exact hm2)
        have hd3 : TD (uM Mc8 73 (0 + d 121) v10) (upd1 d (0 + d 121) (rnR r n 0 20 (nxR r n S)).1) := hd2
        have hv3 : (20 : Int) = (lb2 r n (rnR r n 0 20 (nxR r n S))).1 := by rw [hl2]
        have hF3 : Fr [73, 74] [(57, 31), (57, 32), (57, 34), (57, 35), (57, 36), (57, 37), (57, 17), (57, 42), (57, 43)] M (uM Mc8 73 (0 + d 121) v10) := hF2
        refine R_bipush hC dX12_library1_79 (by decide +kernel) ⟨by decide, by decide⟩ ?_
        refine R_iastore hC dX12_library1_81 (by decide) rfl (by omega) (by omega) ?_
        have hF4 : Fr [73, 74] [(57, 31), (57, 32), (57, 34), (57, 35), (57, 36), (57, 37), (57, 17), (57, 42), (57, 43)] M (uM (uM Mc8 73 (0 + d 121) v10) 73 (5 + d 121) 20) := Fr.uA hF3 (by decide)
        have hm4 : MRS (uM (uM Mc8 73 (0 + d 121) v10) 73 (5 + d 121) 20) r n (lb2 r n (rnR r n 0 20 (nxR r n S))).2 := hm3.u (by decide)
        have hd4 : TD (uM (uM Mc8 73 (0 + d 121) v10) 73 (5 + d 121) 20) (upd1 (upd1 d (0 + d 121) (rnR r n 0 20 (nxR r n S)).1) (5 + d 121) (lb2 r n (rnR r n 0 20 (nxR r n S))).1) := by
          rw [← hv3]
          exact hd3.w3 (.inl (by omega)) (by (rw [mj1 (by omega)]))
        refine R_aload_0 hC dX12_library1_82 ?_
        refine R_dup hC dX12_library1_83 rfl ?_
        refine R_getIE hC dX12_library1_84 fl_12_241 (by decide) rfl (by decide) (by decide) (fi := 42) rfl ((uM_h (by decide)).trans (hd3.l.trans (upd1_o (by omega)))) ?_
        refine R_iconst hC dX12_library1_87 ⟨by decide, by decide⟩ ?_
        refine R_iadd hC dX12_library1_88 ⟨by omega, by omega⟩ ?_
        refine R_putI hC dX12_library1_89 fl_12_241 (by decide) rfl (by decide) (by decide) (fi := 42) rfl ?_
        exact R_return hC dX12_library1_92 rfl (ret_V (by
            unfold lb0
            rw [itc_t hlt]
            exact ⟨Fr.uB hF4 (by decide), hm4.uf (by decide), hd4.wl (.inr ⟨rfl, rfl⟩)⟩))
      · skip
        refine R_aload_0 hC dX12_library1_61 ?_
        refine R_getIE hC dX12_library1_62 fl_12_219 (by decide) rfl (by decide) (by decide) (fi := 34) rfl hm2.k ?_
        refine R_iconst hC dX12_library1_65 ⟨by decide, by decide⟩ ?_
        refine R_icmp_ne hC dX12_library1_66 (tgt := 79) (by decide) (fun hb66 => ?_) (fun hb66 => ?_)
        · skip
          have hl2 : (lb2 r n (rnR r n 0 20 (nxR r n S))) = (20, (rnR r n 0 20 (nxR r n S)).2) := lb2_f (fun z => hb66 z.2)
          have hm3 : MRS (uM Mc8 73 (0 + d 121) v10) r n (lb2 r n (rnR r n 0 20 (nxR r n S))).2 := by (rw [hl2]; exact hm2)
          have hd3 : TD (uM Mc8 73 (0 + d 121) v10) (upd1 d (0 + d 121) (rnR r n 0 20 (nxR r n S)).1) := hd2
          have hv3 : (20 : Int) = (lb2 r n (rnR r n 0 20 (nxR r n S))).1 := by rw [hl2]
          have hF3 : Fr [73, 74] [(57, 31), (57, 32), (57, 34), (57, 35), (57, 36), (57, 37), (57, 17), (57, 42), (57, 43)] M (uM Mc8 73 (0 + d 121) v10) := hF2
          refine R_bipush hC dX12_library1_79 (by decide +kernel) ⟨by decide, by decide⟩ ?_
          refine R_iastore hC dX12_library1_81 (by decide) rfl (by omega) (by omega) ?_
          have hF4 : Fr [73, 74] [(57, 31), (57, 32), (57, 34), (57, 35), (57, 36), (57, 37), (57, 17), (57, 42), (57, 43)] M (uM (uM Mc8 73 (0 + d 121) v10) 73 (5 + d 121) 20) := Fr.uA hF3 (by decide)
          have hm4 : MRS (uM (uM Mc8 73 (0 + d 121) v10) 73 (5 + d 121) 20) r n (lb2 r n (rnR r n 0 20 (nxR r n S))).2 := hm3.u (by decide)
          have hd4 : TD (uM (uM Mc8 73 (0 + d 121) v10) 73 (5 + d 121) 20) (upd1 (upd1 d (0 + d 121) (rnR r n 0 20 (nxR r n S)).1) (5 + d 121) (lb2 r n (rnR r n 0 20 (nxR r n S))).1) := by
            rw [← hv3]
            exact hd3.w3 (.inl (by omega)) (by (rw [mj1 (by omega)]))
          refine R_aload_0 hC dX12_library1_82 ?_
          refine R_dup hC dX12_library1_83 rfl ?_
          refine R_getIE hC dX12_library1_84 fl_12_241 (by decide) rfl (by decide) (by decide) (fi := 42) rfl ((uM_h (by decide)).trans (hd3.l.trans (upd1_o (by omega)))) ?_
          refine R_iconst hC dX12_library1_87 ⟨by decide, by decide⟩ ?_
          refine R_iadd hC dX12_library1_88 ⟨by omega, by omega⟩ ?_
          refine R_putI hC dX12_library1_89 fl_12_241 (by decide) rfl (by decide) (by decide) (fi := 42) rfl ?_
          exact R_return hC dX12_library1_92 rfl (ret_V (by
              unfold lb0
              rw [itc_t hlt]
              exact ⟨Fr.uB hF4 (by decide), hm4.uf (by decide), hd4.wl (.inr ⟨rfl, rfl⟩)⟩))
        · skip
          refine R_aload_0 hC dX12_library1_69 ?_
          refine R_iconst hC dX12_library1_70 ⟨by decide, by decide⟩ ?_
          refine R_bipush hC dX12_library1_71 (by decide +kernel) ⟨by decide, by decide⟩ ?_
          refine R_callVp (as := [vI _, vI _]) hC dX12_library1_73 mo_12_number ml_12_244 (by decide) rfl rfl (c12_number  hG11 ((hF2 57 33 (by decide) (by decide)).trans hn) (fun j p q => (congrFun (hF2.row (by decide) (by decide)) j).trans (htp j p q)) (by omega) (by omega) hm2 (by omega)) rfl rfl hRm (by decide) (by decide) (Nat.le_of_ble_eq_true rfl) (fun v14 Mc12 hq13 => ?_)
          have hF3 : Fr [73, 74] [(57, 31), (57, 32), (57, 34), (57, 35), (57, 36), (57, 37), (57, 17), (57, 42), (57, 43)] M Mc12 := Fr.tt hF2 (hq13.1.mo (by simp) (by simp))
          have hl2 : (lb2 r n (rnR r n 0 20 (nxR r n S))) = rnR r n 0 20 (rnR r n 0 20 (nxR r n S)).2 := lb2_t hb58 hb66
          have hm3 : MRS Mc12 r n (lb2 r n (rnR r n 0 20 (nxR r n S))).2 := by (rw [hl2]; exact hq13.2.1)
          have hd3 := hd2.fr hq13.1 (by decide)
          have hv3 : v14 = (lb2 r n (rnR r n 0 20 (nxR r n S))).1 := by (rw [hl2]; exact hq13.2.2)
          refine R_goto hC dX12_library1_76 (tgt := 81) (by decide) ?_
          refine R_iastore hC dX12_library1_81 (by decide) rfl (by omega) (by omega) ?_
          have hF4 : Fr [73, 74] [(57, 31), (57, 32), (57, 34), (57, 35), (57, 36), (57, 37), (57, 17), (57, 42), (57, 43)] M (uM Mc12 73 (5 + d 121) v14) := Fr.uA hF3 (by decide)
          have hm4 : MRS (uM Mc12 73 (5 + d 121) v14) r n (lb2 r n (rnR r n 0 20 (nxR r n S))).2 := hm3.u (by decide)
          have hd4 : TD (uM Mc12 73 (5 + d 121) v14) (upd1 (upd1 d (0 + d 121) (rnR r n 0 20 (nxR r n S)).1) (5 + d 121) (lb2 r n (rnR r n 0 20 (nxR r n S))).1) := by
            rw [← hv3]
            exact hd3.w3 (.inl (by omega)) (by (rw [mj1 (by omega)]))
          refine R_aload_0 hC dX12_library1_82 ?_
          refine R_dup hC dX12_library1_83 rfl ?_
          refine R_getIE hC dX12_library1_84 fl_12_241 (by decide) rfl (by decide) (by decide) (fi := 42) rfl ((uM_h (by decide)).trans (hd3.l.trans (upd1_o (by omega)))) ?_
          refine R_iconst hC dX12_library1_87 ⟨by decide, by decide⟩ ?_
          refine R_iadd hC dX12_library1_88 ⟨by omega, by omega⟩ ?_
          refine R_putI hC dX12_library1_89 fl_12_241 (by decide) rfl (by decide) (by decide) (fi := 42) rfl ?_
          exact R_return hC dX12_library1_92 rfl (ret_V (by
              unfold lb0
              rw [itc_t hlt]
              exact ⟨Fr.uB hF4 (by decide), hm4.uf (by decide), hd4.wl (.inr ⟨rfl, rfl⟩)⟩))
    · skip
      have hge := bP_z (hvv.symm.trans hb18)
      exact R_return hC dX12_library1_21 rfl (ret_V (by (unfold lb0; rw [itc_f hge] at hmA ⊢; exact ⟨hFa, hmA, hdA⟩)))
  · skip
    refine R_iconst hC dX12_library1_9 ⟨by decide, by decide⟩ ?_
    refine R_goto hC dX12_library1_10 (tgt := 14) (by decide) ?_
    refine R_iconst hC dX12_library1_14 ⟨by decide, by decide⟩ ?_
    refine R_callVp (as := [vI _, vI _]) hC dX12_library1_15 mo_12_wants ml_12_231 (by decide) rfl rfl (c12_wants  hG) rfl rfl hRm (by decide) (by decide) (Nat.le_of_ble_eq_true rfl) (fun v17 Mc15 hq16 => ?_)
    have hmA : MRS Mc15 r n (itc (d 121 < 5) S (refR 2 S)) := by
      have z := hm.wt hq16.1 hq16.2.1
      by_cases y : d 121 < 5
      · rw [itc_t y]; first | exact z | (exfalso; omega)
      · rw [itc_f y]; first | exact z | (exfalso; omega)
    have hvv : v17 = bP (d 121 < 5) := by
      rw [hq16.2.2, hmA.f]
      by_cases z : d 121 < 5
      · rw [itc_t z, bP_pos z, bP_pos hf]
      · rw [itc_f z, bP_neg z, bP_neg (rf_ne hf (by decide))]
    have hFa : Fr [73, 74] [(57, 31), (57, 32), (57, 34), (57, 35), (57, 36), (57, 37), (57, 17), (57, 42), (57, 43)] M Mc15 := hq16.1.mo (by simp) (by simp)
    have hdA := hd.fr hq16.1 (by decide)
    refine R_if_ne hC dX12_library1_18 (tgt := 22) (by decide) (fun hb18 => ?_) (fun hb18 => ?_)
    · skip
      have hlt := bP_nz (fun z => hb18 (hvv.trans z))
      have hma : MRS Mc15 r n S := by rw [itc_t hlt] at hmA; exact hmA
      refine R_aload_0 hC dX12_library1_22 ?_
      have hr0 := hma.2.2.1
      have hr1 := hma.2.2.2.1
      have hr2 := hma.2.2.2.2
      have hG18 : GR Mc15 := (GR.fr hG hq16.1 (by decide +kernel))
      refine R_callVv (as := []) hC dX12_library1_23 mo_12_go ml_12_238 (by decide) rfl rfl (c12_go (e := S.2.2.1) hG18 ((hFa 57 33 (by decide) (by decide)).trans hn) (fun j p q => (congrFun (hFa.row (by decide) (by decide)) j).trans (htp j p q)) (by omega) (by omega) hma.e (by omega) (by omega)) rfl rfl hRm (by decide) (by decide) (Nat.le_of_ble_eq_true rfl) (fun Mc19 hq20 => ?_)
      have hFg : Fr [73, 74] [(57, 31), (57, 32), (57, 34), (57, 35), (57, 36), (57, 37), (57, 17), (57, 42), (57, 43)] M Mc19 := Fr.tt hFa (hq20.1.mo (by simp) (by simp))
      have hmg := hma.go hq20.1 hq20.2
      have hdg := hdA.fr hq20.1 (by decide)
      refine R_aload_0 hC dX12_library1_26 ?_
      have hG21 : GR Mc19 := (GR.fr hG18 hq20.1 (by decide +kernel))
      refine R_getR hC dX12_library1_27 fl_12_59 (by decide) rfl (by decide) (by decide) (fi := 38) rfl (r := 73) (gr_57_38 hG21) ?_
      refine R_iconst hC dX12_library1_30 ⟨by decide, by decide⟩ ?_
      refine R_aload_0 hC dX12_library1_31 ?_
      refine R_getIE hC dX12_library1_32 fl_12_241 (by decide) rfl (by decide) (by decide) (fi := 42) rfl hdg.l ?_
      refine R_iadd hC dX12_library1_35 ⟨by omega, by omega⟩ ?_
      refine R_aload_0 hC dX12_library1_36 ?_
      refine R_iconst hC dX12_library1_37 ⟨by decide, by decide⟩ ?_
      refine R_bipush hC dX12_library1_38 (by decide +kernel) ⟨by decide, by decide⟩ ?_
      refine R_callVp (as := [vI _, vI _]) hC dX12_library1_40 mo_12_number ml_12_244 (by decide) rfl rfl (c12_number  hG21 ((hFg 57 33 (by decide) (by decide)).trans hn) (fun j p q => (congrFun (hFg.row (by decide) (by decide)) j).trans (htp j p q)) (by omega) (by omega) hmg (by omega)) rfl rfl hRm (by decide) (by decide) (Nat.le_of_ble_eq_true rfl) (fun v24 Mc22 hq23 => ?_)
      have hF1 : Fr [73, 74] [(57, 31), (57, 32), (57, 34), (57, 35), (57, 36), (57, 37), (57, 17), (57, 42), (57, 43)] M Mc22 := Fr.tt hFg (hq23.1.mo (by simp) (by simp))
      have hm1 := hq23.2.1
      have hd1 := hdg.fr hq23.1 (by decide)
      have hv1 := hq23.2.2
      refine R_iastore hC dX12_library1_43 (by decide) rfl (by omega) (by omega) ?_
      have hF2 : Fr [73, 74] [(57, 31), (57, 32), (57, 34), (57, 35), (57, 36), (57, 37), (57, 17), (57, 42), (57, 43)] M (uM Mc22 73 (0 + d 121) v24) := Fr.uA hF1 (by decide)
      have hm2 : MRS (uM Mc22 73 (0 + d 121) v24) r n (rnR r n 0 20 (nxR r n S)).2 := hm1.u (by decide)
      have hd2 : TD (uM Mc22 73 (0 + d 121) v24) (upd1 d (0 + d 121) (rnR r n 0 20 (nxR r n S)).1) := by
        rw [← hv1]
        exact hd1.w3 (.inl (by omega)) (by (rw [mj1 (by omega)]))
      refine R_aload_0 hC dX12_library1_44 ?_
      have hG25 : GR (uM Mc22 73 (0 + d 121) v24) := (GR.uA (GR.fr hG21 hq23.1 (by decide +kernel)) (by decide +kernel) (.inl (by decide)))
      refine R_getR hC dX12_library1_45 fl_12_59 (by decide) rfl (by decide) (by decide) (fi := 38) rfl (r := 73) (gr_57_38 hG25) ?_
      refine R_iconst hC dX12_library1_48 ⟨by decide, by decide⟩ ?_
      refine R_aload_0 hC dX12_library1_49 ?_
      refine R_getIE hC dX12_library1_50 fl_12_241 (by decide) rfl (by decide) (by decide) (fi := 42) rfl (hd2.l.trans (upd1_o (by omega))) ?_
      refine R_iadd hC dX12_library1_53 ⟨by omega, by omega⟩ ?_
      refine R_aload_0 hC dX12_library1_54 ?_
      refine R_getIE hC dX12_library1_55 fl_12_228 (by decide) rfl (by decide) (by decide) (fi := 37) rfl hm2.f ?_
      refine R_if_ne hC dX12_library1_58 (tgt := 79) (by decide) (fun hb58 => ?_) (fun hb58 => ?_)
      · skip
        have hl2 : (lb2 r n (rnR r n 0 20 (nxR r n S))) = (20, (rnR r n 0 20 (nxR r n S)).2) := lb2_f (fun z => hb58 z.1)
        have hm3 : MRS (uM Mc22 73 (0 + d 121) v24) r n (lb2 r n (rnR r n 0 20 (nxR r n S))).2 := by (rw [hl2]; exact hm2)
        have hd3 : TD (uM Mc22 73 (0 + d 121) v24) (upd1 d (0 + d 121) (rnR r n 0 20 (nxR r n S)).1) := hd2
        have hv3 : (20 : Int) = (lb2 r n (rnR r n 0 20 (nxR r n S))).1 := by rw [hl2]
        have hF3 : Fr [73, 74] [(57, 31), (57, 32), (57, 34), (57, 35), (57, 36), (57, 37), (57, 17), (57, 42), (57, 43)] M (uM Mc22 73 (0 + d 121) v24) := hF2
        refine R_bipush hC dX12_library1_79 (by decide +kernel) ⟨by decide, by decide⟩ ?_
        refine R_iastore hC dX12_library1_81 (by decide) rfl (by omega) (by omega) ?_
        have hF4 : Fr [73, 74] [(57, 31), (57, 32), (57, 34), (57, 35), (57, 36), (57, 37), (57, 17), (57, 42), (57, 43)] M (uM (uM Mc22 73 (0 + d 121) v24) 73 (5 + d 121) 20) := Fr.uA hF3 (by decide)
        have hm4 : MRS (uM (uM Mc22 73 (0 + d 121) v24) 73 (5 + d 121) 20) r n (lb2 r n (rnR r n 0 20 (nxR r n S))).2 := hm3.u (by decide)
        have hd4 : TD (uM (uM Mc22 73 (0 + d 121) v24) 73 (5 + d 121) 20) (upd1 (upd1 d (0 + d 121) (rnR r n 0 20 (nxR r n S)).1) (5 + d 121) (lb2 r n (rnR r n 0 20 (nxR r n S))).1) := by
          rw [← hv3]
          exact hd3.w3 (.inl (by omega)) (by (rw [mj1 (by omega)]))
        refine R_aload_0 hC dX12_library1_82 ?_
        refine R_dup hC dX12_library1_83 rfl ?_
        refine R_getIE hC dX12_library1_84 fl_12_241 (by decide) rfl (by decide) (by decide) (fi := 42) rfl ((uM_h (by decide)).trans (hd3.l.trans (upd1_o (by omega)))) ?_
        refine R_iconst hC dX12_library1_87 ⟨by decide, by decide⟩ ?_
        refine R_iadd hC dX12_library1_88 ⟨by omega, by omega⟩ ?_
        refine R_putI hC dX12_library1_89 fl_12_241 (by decide) rfl (by decide) (by decide) (fi := 42) rfl ?_
        exact R_return hC dX12_library1_92 rfl (ret_V (by
            unfold lb0
            rw [itc_t hlt]
            exact ⟨Fr.uB hF4 (by decide), hm4.uf (by decide), hd4.wl (.inr ⟨rfl, rfl⟩)⟩))
      · skip
        refine R_aload_0 hC dX12_library1_61 ?_
        refine R_getIE hC dX12_library1_62 fl_12_219 (by decide) rfl (by decide) (by decide) (fi := 34) rfl hm2.k ?_
        refine R_iconst hC dX12_library1_65 ⟨by decide, by decide⟩ ?_
        refine R_icmp_ne hC dX12_library1_66 (tgt := 79) (by decide) (fun hb66 => ?_) (fun hb66 => ?_)
        · skip
          have hl2 : (lb2 r n (rnR r n 0 20 (nxR r n S))) = (20, (rnR r n 0 20 (nxR r n S)).2) := lb2_f (fun z => hb66 z.2)
          have hm3 : MRS (uM Mc22 73 (0 + d 121) v24) r n (lb2 r n (rnR r n 0 20 (nxR r n S))).2 := by (rw [hl2]; exact hm2)
          have hd3 : TD (uM Mc22 73 (0 + d 121) v24) (upd1 d (0 + d 121) (rnR r n 0 20 (nxR r n S)).1) := hd2
          have hv3 : (20 : Int) = (lb2 r n (rnR r n 0 20 (nxR r n S))).1 := by rw [hl2]
          have hF3 : Fr [73, 74] [(57, 31), (57, 32), (57, 34), (57, 35), (57, 36), (57, 37), (57, 17), (57, 42), (57, 43)] M (uM Mc22 73 (0 + d 121) v24) := hF2
          refine R_bipush hC dX12_library1_79 (by decide +kernel) ⟨by decide, by decide⟩ ?_
          refine R_iastore hC dX12_library1_81 (by decide) rfl (by omega) (by omega) ?_
          have hF4 : Fr [73, 74] [(57, 31), (57, 32), (57, 34), (57, 35), (57, 36), (57, 37), (57, 17), (57, 42), (57, 43)] M (uM (uM Mc22 73 (0 + d 121) v24) 73 (5 + d 121) 20) := Fr.uA hF3 (by decide)
          have hm4 : MRS (uM (uM Mc22 73 (0 + d 121) v24) 73 (5 + d 121) 20) r n (lb2 r n (rnR r n 0 20 (nxR r n S))).2 := hm3.u (by decide)
          have hd4 : TD (uM (uM Mc22 73 (0 + d 121) v24) 73 (5 + d 121) 20) (upd1 (upd1 d (0 + d 121) (rnR r n 0 20 (nxR r n S)).1) (5 + d 121) (lb2 r n (rnR r n 0 20 (nxR r n S))).1) := by
            rw [← hv3]
            exact hd3.w3 (.inl (by omega)) (by (rw [mj1 (by omega)]))
          refine R_aload_0 hC dX12_library1_82 ?_
          refine R_dup hC dX12_library1_83 rfl ?_
          refine R_getIE hC dX12_library1_84 fl_12_241 (by decide) rfl (by decide) (by decide) (fi := 42) rfl ((uM_h (by decide)).trans (hd3.l.trans (upd1_o (by omega)))) ?_
          refine R_iconst hC dX12_library1_87 ⟨by decide, by decide⟩ ?_
          refine R_iadd hC dX12_library1_88 ⟨by omega, by omega⟩ ?_
          refine R_putI hC dX12_library1_89 fl_12_241 (by decide) rfl (by decide) (by decide) (fi := 42) rfl ?_
          exact R_return hC dX12_library1_92 rfl (ret_V (by
              unfold lb0
              rw [itc_t hlt]
              exact ⟨Fr.uB hF4 (by decide), hm4.uf (by decide), hd4.wl (.inr ⟨rfl, rfl⟩)⟩))
        · skip
          refine R_aload_0 hC dX12_library1_69 ?_
          refine R_iconst hC dX12_library1_70 ⟨by decide, by decide⟩ ?_
          refine R_bipush hC dX12_library1_71 (by decide +kernel) ⟨by decide, by decide⟩ ?_
          refine R_callVp (as := [vI _, vI _]) hC dX12_library1_73 mo_12_number ml_12_244 (by decide) rfl rfl (c12_number  hG25 ((hF2 57 33 (by decide) (by decide)).trans hn) (fun j p q => (congrFun (hF2.row (by decide) (by decide)) j).trans (htp j p q)) (by omega) (by omega) hm2 (by omega)) rfl rfl hRm (by decide) (by decide) (Nat.le_of_ble_eq_true rfl) (fun v28 Mc26 hq27 => ?_)
          have hF3 : Fr [73, 74] [(57, 31), (57, 32), (57, 34), (57, 35), (57, 36), (57, 37), (57, 17), (57, 42), (57, 43)] M Mc26 := Fr.tt hF2 (hq27.1.mo (by simp) (by simp))
          have hl2 : (lb2 r n (rnR r n 0 20 (nxR r n S))) = rnR r n 0 20 (rnR r n 0 20 (nxR r n S)).2 := lb2_t hb58 hb66
          have hm3 : MRS Mc26 r n (lb2 r n (rnR r n 0 20 (nxR r n S))).2 := by (rw [hl2]; exact hq27.2.1)
          have hd3 := hd2.fr hq27.1 (by decide)
          have hv3 : v28 = (lb2 r n (rnR r n 0 20 (nxR r n S))).1 := by (rw [hl2]; exact hq27.2.2)
          refine R_goto hC dX12_library1_76 (tgt := 81) (by decide) ?_
          refine R_iastore hC dX12_library1_81 (by decide) rfl (by omega) (by omega) ?_
          have hF4 : Fr [73, 74] [(57, 31), (57, 32), (57, 34), (57, 35), (57, 36), (57, 37), (57, 17), (57, 42), (57, 43)] M (uM Mc26 73 (5 + d 121) v28) := Fr.uA hF3 (by decide)
          have hm4 : MRS (uM Mc26 73 (5 + d 121) v28) r n (lb2 r n (rnR r n 0 20 (nxR r n S))).2 := hm3.u (by decide)
          have hd4 : TD (uM Mc26 73 (5 + d 121) v28) (upd1 (upd1 d (0 + d 121) (rnR r n 0 20 (nxR r n S)).1) (5 + d 121) (lb2 r n (rnR r n 0 20 (nxR r n S))).1) := by
            rw [← hv3]
            exact hd3.w3 (.inl (by omega)) (by (rw [mj1 (by omega)]))
          refine R_aload_0 hC dX12_library1_82 ?_
          refine R_dup hC dX12_library1_83 rfl ?_
          refine R_getIE hC dX12_library1_84 fl_12_241 (by decide) rfl (by decide) (by decide) (fi := 42) rfl ((uM_h (by decide)).trans (hd3.l.trans (upd1_o (by omega)))) ?_
          refine R_iconst hC dX12_library1_87 ⟨by decide, by decide⟩ ?_
          refine R_iadd hC dX12_library1_88 ⟨by omega, by omega⟩ ?_
          refine R_putI hC dX12_library1_89 fl_12_241 (by decide) rfl (by decide) (by decide) (fi := 42) rfl ?_
          exact R_return hC dX12_library1_92 rfl (ret_V (by
              unfold lb0
              rw [itc_t hlt]
              exact ⟨Fr.uB hF4 (by decide), hm4.uf (by decide), hd4.wl (.inr ⟨rfl, rfl⟩)⟩))
    · skip
      have hge := bP_z (hvv.symm.trans hb18)
      exact R_return hC dX12_library1_21 rfl (ret_V (by (unfold lb0; rw [itc_f hge] at hmA ⊢; exact ⟨hFa, hmA, hdA⟩)))
theorem dX12_storeTold_0 : decode cX12_storeTold 0 = .ok (.aload_n 0, 1) := by decide +kernel
theorem dX12_storeTold_1 : decode cX12_storeTold 1 = .ok (.aload_n 0, 1) := by decide +kernel
theorem dX12_storeTold_2 : decode cX12_storeTold 2 = .ok (.getfield 250, 3) := by decide +kernel
theorem dX12_storeTold_5 : decode cX12_storeTold 5 = .ok (.iconst (-1), 1) := by decide +kernel
theorem dX12_storeTold_6 : decode cX12_storeTold 6 = .ok (.if_icmp .ne 7, 3) := by decide +kernel
theorem dX12_storeTold_9 : decode cX12_storeTold 9 = .ok (.iconst 1, 1) := by decide +kernel
theorem dX12_storeTold_10 : decode cX12_storeTold 10 = .ok (.goto 4, 3) := by decide +kernel
theorem dX12_storeTold_13 : decode cX12_storeTold 13 = .ok (.iconst 0, 1) := by decide +kernel
theorem dX12_storeTold_14 : decode cX12_storeTold 14 = .ok (.iconst 4, 1) := by decide +kernel
theorem dX12_storeTold_15 : decode cX12_storeTold 15 = .ok (.invokevirtual 231, 3) := by decide +kernel
theorem dX12_storeTold_18 : decode cX12_storeTold 18 = .ok (.ifCond .ne 4, 3) := by decide +kernel
theorem dX12_storeTold_21 : decode cX12_storeTold 21 = .ok (.return_, 1) := by decide +kernel
theorem dX12_storeTold_22 : decode cX12_storeTold 22 = .ok (.aload_n 0, 1) := by decide +kernel
theorem dX12_storeTold_23 : decode cX12_storeTold 23 = .ok (.invokevirtual 238, 3) := by decide +kernel
theorem dX12_storeTold_26 : decode cX12_storeTold 26 = .ok (.aload_n 0, 1) := by decide +kernel
theorem dX12_storeTold_27 : decode cX12_storeTold 27 = .ok (.aload_n 0, 1) := by decide +kernel
theorem dX12_storeTold_28 : decode cX12_storeTold 28 = .ok (.iconst 0, 1) := by decide +kernel
theorem dX12_storeTold_29 : decode cX12_storeTold 29 = .ok (.bipush 20, 2) := by decide +kernel
theorem dX12_storeTold_31 : decode cX12_storeTold 31 = .ok (.invokevirtual 244, 3) := by decide +kernel
theorem dX12_storeTold_34 : decode cX12_storeTold 34 = .ok (.putfield 250, 3) := by decide +kernel
theorem dX12_storeTold_37 : decode cX12_storeTold 37 = .ok (.return_, 1) := by decide +kernel
set_option maxHeartbeats 1000000 in
theorem c12_storeTold {G : Gl} {l : Launch}  {M : Mem} {s1 : Int} {d : Int → Int} {n : Int} {r : Int → Int} {S : RT} (hG : GR M) (hn : M 57 33 = n) (htp : ∀ k, 0 ≤ k → k < n → M 62 k = r k % 2 ^ 8) (hn0 : 0 ≤ n) (hn1 : n ≤ 700) (hm : MRS M r n S) (hd : TD M d) (hf : S.2.2.2.1 = 0) (hst : M 57 44 = s1) : Ct G LY 82 l 4 m12_storeTold [vR 57] M (RV (fun M' => Fr [73, 74] [(57, 31), (57, 32), (57, 34), (57, 35), (57, 36), (57, 37), (57, 17), (57, 42), (57, 43), (57, 44)] M M' ∧ MRS M' r n (itc (s1 = -1) (rnR r n 0 20 (nxR r n S)).2 (refR 4 S)) ∧ TD M' (itc (s1 = -1) (upd1 d 120 (rnR r n 0 20 (nxR r n S)).1) d) ∧ M' 57 44 = itc (s1 = -1) (rnR r n 0 20 (nxR r n S)).1 s1)) := by
  refine R_start (by decide +kernel) (Nat.le_of_ble_eq_true rfl) (fun C hC hRm hlau => ?_)
  show RZ G LY C (Zn G LY 82 C (RV (fun M' => Fr [73, 74] [(57, 31), (57, 32), (57, 34), (57, 35), (57, 36), (57, 37), (57, 17), (57, 42), (57, 43), (57, 44)] M M' ∧ MRS M' r n (itc (s1 = -1) (rnR r n 0 20 (nxR r n S)).2 (refR 4 S)) ∧ TD M' (itc (s1 = -1) (upd1 d 120 (rnR r n 0 20 (nxR r n S)).1) d) ∧ M' 57 44 = itc (s1 = -1) (rnR r n 0 20 (nxR r n S)).1 s1))) 0 0 82 0 [some (vR 57)] [] M
  refine R_aload_0 hC dX12_storeTold_0 ?_
  refine R_aload_0 hC dX12_storeTold_1 ?_
  refine R_getIE hC dX12_storeTold_2 fl_12_250 (by decide) rfl (by decide) (by decide) (fi := 44) rfl hst ?_
  refine R_iconst hC dX12_storeTold_5 ⟨by decide, by decide⟩ ?_
  refine R_icmp_ne hC dX12_storeTold_6 (tgt := 13) (by decide) (fun hb6 => ?_) (fun hb6 => ?_)
  · skip
    refine R_iconst hC dX12_storeTold_13 ⟨by decide, by decide⟩ ?_
    refine R_iconst hC dX12_storeTold_14 ⟨by decide, by decide⟩ ?_
    refine R_callVp (as := [vI _, vI _]) hC dX12_storeTold_15 mo_12_wants ml_12_231 (by decide) rfl rfl (c12_wants  hG) rfl rfl hRm (by decide) (by decide) (Nat.le_of_ble_eq_true rfl) (fun v3 Mc1 hq2 => ?_)
    have hmA : MRS Mc1 r n (itc (s1 = -1) S (refR 4 S)) := by
      have z := hm.wt hq2.1 hq2.2.1
      by_cases y : s1 = -1
      · rw [itc_t y]; first | exact z | (exfalso; omega)
      · rw [itc_f y]; first | exact z | (exfalso; omega)
    have hvv : v3 = bP (s1 = -1) := by
      rw [hq2.2.2, hmA.f]
      by_cases z : s1 = -1
      · rw [itc_t z, bP_pos z, bP_pos hf]
      · rw [itc_f z, bP_neg z, bP_neg (rf_ne hf (by decide))]
    have hFa : Fr [73, 74] [(57, 31), (57, 32), (57, 34), (57, 35), (57, 36), (57, 37), (57, 17), (57, 42), (57, 43), (57, 44)] M Mc1 := hq2.1.mo (by simp) (by simp)
    have hdA := hd.fr hq2.1 (by decide)
    have h44 := (hq2.1 57 44 (by decide) (by decide)).trans hst
    refine R_if_ne hC dX12_storeTold_18 (tgt := 22) (by decide) (fun hb18 => ?_) (fun hb18 => ?_)
    · skip
      have hlt := bP_nz (fun z => hb18 (hvv.trans z))
      have hma : MRS Mc1 r n S := by rw [itc_t hlt] at hmA; exact hmA
      refine R_aload_0 hC dX12_storeTold_22 ?_
      have hr0 := hma.2.2.1
      have hr1 := hma.2.2.2.1
      have hr2 := hma.2.2.2.2
      have hG4 : GR Mc1 := (GR.fr hG hq2.1 (by decide +kernel))
      refine R_callVv (as := []) hC dX12_storeTold_23 mo_12_go ml_12_238 (by decide) rfl rfl (c12_go (e := S.2.2.1) hG4 ((hFa 57 33 (by decide) (by decide)).trans hn) (fun j p q => (congrFun (hFa.row (by decide) (by decide)) j).trans (htp j p q)) (by omega) (by omega) hma.e (by omega) (by omega)) rfl rfl hRm (by decide) (by decide) (Nat.le_of_ble_eq_true rfl) (fun Mc5 hq6 => ?_)
      have hFg : Fr [73, 74] [(57, 31), (57, 32), (57, 34), (57, 35), (57, 36), (57, 37), (57, 17), (57, 42), (57, 43), (57, 44)] M Mc5 := Fr.tt hFa (hq6.1.mo (by simp) (by simp))
      have hmg := hma.go hq6.1 hq6.2
      have hdg := hdA.fr hq6.1 (by decide)
      refine R_aload_0 hC dX12_storeTold_26 ?_
      refine R_aload_0 hC dX12_storeTold_27 ?_
      refine R_iconst hC dX12_storeTold_28 ⟨by decide, by decide⟩ ?_
      refine R_bipush hC dX12_storeTold_29 (by decide +kernel) ⟨by decide, by decide⟩ ?_
      have hG7 : GR Mc5 := (GR.fr hG4 hq6.1 (by decide +kernel))
      refine R_callVp (as := [vI _, vI _]) hC dX12_storeTold_31 mo_12_number ml_12_244 (by decide) rfl rfl (c12_number  hG7 ((hFg 57 33 (by decide) (by decide)).trans hn) (fun j p q => (congrFun (hFg.row (by decide) (by decide)) j).trans (htp j p q)) (by omega) (by omega) hmg (by omega)) rfl rfl hRm (by decide) (by decide) (Nat.le_of_ble_eq_true rfl) (fun v10 Mc8 hq9 => ?_)
      have hF1 : Fr [73, 74] [(57, 31), (57, 32), (57, 34), (57, 35), (57, 36), (57, 37), (57, 17), (57, 42), (57, 43), (57, 44)] M Mc8 := Fr.tt hFg (hq9.1.mo (by simp) (by simp))
      have hm1 := hq9.2.1
      have hd1 := hdg.fr hq9.1 (by decide)
      have hv1 := hq9.2.2
      have hb1 := rn_b (r := r) (n := n) (S := nxR r n S) (show (0 : Int) ≤ 20 by decide)
      rw [← hv1] at hb1
      refine R_putI hC dX12_storeTold_34 fl_12_250 (by decide) rfl (by decide) (by decide) (fi := 44) rfl ?_
      exact R_return hC dX12_storeTold_37 rfl (ret_V (by
          rw [itc_t hlt, itc_t hlt, itc_t hlt, ← hv1]
          exact ⟨Fr.uB hF1 (by decide), hm1.uf (by decide), hd1.wl (.inl ⟨rfl, rfl, hb1.1⟩), uM_same⟩))
    · skip
      have hge := bP_z (hvv.symm.trans hb18)
      exact R_return hC dX12_storeTold_21 rfl (ret_V (by (rw [itc_f hge] at hmA; rw [itc_f hge, itc_f hge, itc_f hge]; exact ⟨hFa, hmA, hdA, h44⟩)))
  · skip
    refine R_iconst hC dX12_storeTold_9 ⟨by decide, by decide⟩ ?_
    refine R_goto hC dX12_storeTold_10 (tgt := 14) (by decide) ?_
    refine R_iconst hC dX12_storeTold_14 ⟨by decide, by decide⟩ ?_
    refine R_callVp (as := [vI _, vI _]) hC dX12_storeTold_15 mo_12_wants ml_12_231 (by decide) rfl rfl (c12_wants  hG) rfl rfl hRm (by decide) (by decide) (Nat.le_of_ble_eq_true rfl) (fun v13 Mc11 hq12 => ?_)
    have hmA : MRS Mc11 r n (itc (s1 = -1) S (refR 4 S)) := by
      have z := hm.wt hq12.1 hq12.2.1
      by_cases y : s1 = -1
      · rw [itc_t y]; first | exact z | (exfalso; omega)
      · rw [itc_f y]; first | exact z | (exfalso; omega)
    have hvv : v13 = bP (s1 = -1) := by
      rw [hq12.2.2, hmA.f]
      by_cases z : s1 = -1
      · rw [itc_t z, bP_pos z, bP_pos hf]
      · rw [itc_f z, bP_neg z, bP_neg (rf_ne hf (by decide))]
    have hFa : Fr [73, 74] [(57, 31), (57, 32), (57, 34), (57, 35), (57, 36), (57, 37), (57, 17), (57, 42), (57, 43), (57, 44)] M Mc11 := hq12.1.mo (by simp) (by simp)
    have hdA := hd.fr hq12.1 (by decide)
    have h44 := (hq12.1 57 44 (by decide) (by decide)).trans hst
    refine R_if_ne hC dX12_storeTold_18 (tgt := 22) (by decide) (fun hb18 => ?_) (fun hb18 => ?_)
    · skip
      have hlt := bP_nz (fun z => hb18 (hvv.trans z))
      have hma : MRS Mc11 r n S := by rw [itc_t hlt] at hmA; exact hmA
      refine R_aload_0 hC dX12_storeTold_22 ?_
      have hr0 := hma.2.2.1
      have hr1 := hma.2.2.2.1
      have hr2 := hma.2.2.2.2
      have hG14 : GR Mc11 := (GR.fr hG hq12.1 (by decide +kernel))
      refine R_callVv (as := []) hC dX12_storeTold_23 mo_12_go ml_12_238 (by decide) rfl rfl (c12_go (e := S.2.2.1) hG14 ((hFa 57 33 (by decide) (by decide)).trans hn) (fun j p q => (congrFun (hFa.row (by decide) (by decide)) j).trans (htp j p q)) (by omega) (by omega) hma.e (by omega) (by omega)) rfl rfl hRm (by decide) (by decide) (Nat.le_of_ble_eq_true rfl) (fun Mc15 hq16 => ?_)
      have hFg : Fr [73, 74] [(57, 31), (57, 32), (57, 34), (57, 35), (57, 36), (57, 37), (57, 17), (57, 42), (57, 43), (57, 44)] M Mc15 := Fr.tt hFa (hq16.1.mo (by simp) (by simp))
      have hmg := hma.go hq16.1 hq16.2
      have hdg := hdA.fr hq16.1 (by decide)
      refine R_aload_0 hC dX12_storeTold_26 ?_
      refine R_aload_0 hC dX12_storeTold_27 ?_
      refine R_iconst hC dX12_storeTold_28 ⟨by decide, by decide⟩ ?_
      refine R_bipush hC dX12_storeTold_29 (by decide +kernel) ⟨by decide, by decide⟩ ?_
      have hG17 : GR Mc15 := (GR.fr hG14 hq16.1 (by decide +kernel))
      refine R_callVp (as := [vI _, vI _]) hC dX12_storeTold_31 mo_12_number ml_12_244 (by decide) rfl rfl (c12_number  hG17 ((hFg 57 33 (by decide) (by decide)).trans hn) (fun j p q => (congrFun (hFg.row (by decide) (by decide)) j).trans (htp j p q)) (by omega) (by omega) hmg (by omega)) rfl rfl hRm (by decide) (by decide) (Nat.le_of_ble_eq_true rfl) (fun v20 Mc18 hq19 => ?_)
      have hF1 : Fr [73, 74] [(57, 31), (57, 32), (57, 34), (57, 35), (57, 36), (57, 37), (57, 17), (57, 42), (57, 43), (57, 44)] M Mc18 := Fr.tt hFg (hq19.1.mo (by simp) (by simp))
      have hm1 := hq19.2.1
      have hd1 := hdg.fr hq19.1 (by decide)
      have hv1 := hq19.2.2
      have hb1 := rn_b (r := r) (n := n) (S := nxR r n S) (show (0 : Int) ≤ 20 by decide)
      rw [← hv1] at hb1
      refine R_putI hC dX12_storeTold_34 fl_12_250 (by decide) rfl (by decide) (by decide) (fi := 44) rfl ?_
      exact R_return hC dX12_storeTold_37 rfl (ret_V (by
          rw [itc_t hlt, itc_t hlt, itc_t hlt, ← hv1]
          exact ⟨Fr.uB hF1 (by decide), hm1.uf (by decide), hd1.wl (.inl ⟨rfl, rfl, hb1.1⟩), uM_same⟩))
    · skip
      have hge := bP_z (hvv.symm.trans hb18)
      exact R_return hC dX12_storeTold_21 rfl (ret_V (by (rw [itc_f hge] at hmA; rw [itc_f hge, itc_f hge, itc_f hge]; exact ⟨hFa, hmA, hdA, h44⟩)))
