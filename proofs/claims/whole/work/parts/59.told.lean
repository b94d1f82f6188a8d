/-! the model's reader: what is told, as a Stock -/
def tmM (M : Mem) : Mem := fun h j => if h = 58 then M 73 j else if h = 59 then M 74 j else if h = 57 then (if j = 5 then M 57 42 else if j = 6 then M 57 43 else if j = 14 then max 0 (M 57 44) else 0) else 0
def TD (M : Mem) (d : Int → Int) : Prop := RW (tmM M) 0 d
section TDS
variable {M M' : Mem} {b : Int} {c d : Int → Int}
theorem RW.w9 (h : RW M b c) {i v : Int} (i0 : 0 ≤ i) (i1 : i < 6) : RW (uM M 59 i v) b (upd1 c (10 + i) v) := by
  intro j j0 j1
  have hj := h j j0 j1
  have o : ∀ z, uM M 59 i v 58 z = M 58 z := fun z => uM_h (by decide)
  have o7 : ∀ z, uM M 59 i v 57 z = M 57 z := fun z => uM_h (by decide)
  by_cases q : j = 10 + i
  · rw [q, upd1_e]
    unfold ms
    rw [if_neg (by omega), if_pos (by omega)]
    exact uM_at (by omega)
  · rw [upd1_o q, ← hj]
    unfold ms
    simp only [o, o7]
    by_cases q1 : j < 10
    · rw [if_pos q1, if_pos q1]
    · rw [if_neg q1, if_neg q1]
      by_cases q2 : j < 16
      · rw [if_pos q2, if_pos q2]; exact uM_k (by omega)
      · rw [if_neg q2, if_neg q2]
theorem RW.wf (h : RW M b c) {k : Int} {p v : Int} (hk : (k = 120 ∧ p = 14) ∨ (k = 121 ∧ p = 5) ∨ (k = 122 ∧ p = 6)) : RW (uM M 57 p v) b (upd1 c k v) := by
  intro j j0 j1
  have hj := h j j0 j1
  have o : ∀ z, uM M 57 p v 58 z = M 58 z := fun z => uM_h (by decide)
  have o9 : ∀ z, uM M 57 p v 59 z = M 59 z := fun z => uM_h (by decide)
  by_cases q : j = k
  · rw [q, upd1_e]
    unfold ms
    rw [if_neg (by omega), if_neg (by omega), if_neg (by omega), if_neg (by omega), if_neg (by omega), if_neg (by omega)]
    rcases hk with ⟨rfl, rfl⟩ | ⟨rfl, rfl⟩ | ⟨rfl, rfl⟩
    · rw [if_pos rfl]; exact uM_same
    · rw [if_neg (by decide), if_pos rfl]; exact uM_same
    · rw [if_neg (by decide), if_neg (by decide)]; exact uM_same
  · rw [upd1_o q, ← hj]
    unfold ms
    simp only [o, o9]
    by_cases q1 : j < 120
    · by_cases a1 : j < 10
      · rw [if_pos a1, if_pos a1]
      rw [if_neg a1, if_neg a1]
      by_cases a2 : j < 16
      · rw [if_pos a2, if_pos a2]
      rw [if_neg a2, if_neg a2]
      by_cases a3 : j < 22
      · rw [if_pos a3, if_pos a3]
      rw [if_neg a3, if_neg a3]
      by_cases a4 : j < 28
      · rw [if_pos a4, if_pos a4]
      rw [if_neg a4, if_neg a4]
      by_cases a5 : j < 118
      · rw [if_pos a5, if_pos a5]
      rw [if_neg a5, if_neg a5, if_pos q1, if_pos q1]
    · have e1 : ¬ j < 10 := by omega
      have e2 : ¬ j < 16 := by omega
      have e3 : ¬ j < 22 := by omega
      have e4 : ¬ j < 28 := by omega
      have e5 : ¬ j < 118 := by omega
      rw [if_neg e1, if_neg e1, if_neg e2, if_neg e2, if_neg e3, if_neg e3, if_neg e4, if_neg e4, if_neg e5, if_neg e5, if_neg q1, if_neg q1]
      by_cases a6 : j = 120
      · rw [if_pos a6, if_pos a6]; exact uM_k (by omega)
      rw [if_neg a6, if_neg a6]
      by_cases a7 : j = 121
      · rw [if_pos a7, if_pos a7]; exact uM_k (by omega)
      rw [if_neg a7, if_neg a7]
      exact uM_k (by omega)
theorem tm_of (e3 : ∀ j, M' 73 j = M 73 j) (e4 : ∀ j, M' 74 j = M 74 j) (a : M' 57 42 = M 57 42) (a1 : M' 57 43 = M 57 43) (a2 : M' 57 44 = M 57 44) (h : TD M d) : TD M' d := by
  refine ms_fr (fun j _ _ => ?_) (fun j => ?_) ?_ ?_ ?_ h
  · exact e3 j
  · exact e4 j
  · show max 0 (M' 57 44) = max 0 (M 57 44); rw [a2]
  · exact a
  · exact a1
def tdOK (A : List Nat) (B : List (Nat × Int)) : Bool := !A.contains 57 && !A.contains 73 && !A.contains 74 && B.all (fun q => !(q.1 == 73) && !(q.1 == 74) && !(q.1 == 57 && (q.2 == 42 || q.2 == 43 || q.2 == 44)))
theorem TD.fr {A : List Nat} {B : List (Nat × Int)} (h : TD M d) (hF : Fr A B M M') (e : tdOK A B = true) : TD M' d := by
  unfold tdOK at e
  simp only [Bool.and_eq_true, Bool.not_eq_true'] at e
  obtain ⟨⟨⟨e7, e8⟩, e9⟩, eB⟩ := e
  have nA : ∀ k : Nat, A.contains k = false → k ∉ A := fun k q z => by rw [List.contains_iff_mem.mpr z] at q; cases q
  have nB : ∀ (a : Nat) (j : Int), (!(a == 73) && !(a == 74) && !(a == 57 && (j == 42 || j == 43 || j == 44))) = false → (a, j) ∉ B := fun a j q z => by
    have := List.all_eq_true.mp eB _ z
    rw [q] at this
    cases this
  exact tm_of (fun j => hF 73 j (nA _ e8) (nB _ _ rfl)) (fun j => hF 74 j (nA _ e9) (nB _ _ rfl)) (hF 57 42 (nA _ e7) (nB _ _ rfl)) (hF 57 43 (nA _ e7) (nB _ _ rfl)) (hF 57 44 (nA _ e7) (nB _ _ rfl)) h
theorem TD.w3 (h : TD M d) {i k v : Int} (k0 : (0 ≤ k ∧ k < 10) ∨ (16 ≤ k ∧ k < 120)) (e : i = mj k) : TD (uM M 73 i v) (upd1 d k v) := by
  have z := RW.wr (v := v) (i := i) h k0 (by omega)
  have t : tmM (uM M 73 i v) = uM (tmM M) 58 i v := funext fun a => funext fun j => by
    by_cases a8 : a = 58
    · subst a8
      by_cases q : j = i
      · rw [q, uM_same]; exact uM_same
      · rw [uM_k q]; exact uM_k q
    · rw [uM_h a8]
      unfold tmM
      rw [if_neg a8, if_neg a8]
      rw [show uM M 73 i v 57 = M 57 from funext fun _ => uM_h (by decide), show uM M 73 i v 74 = M 74 from funext fun _ => uM_h (by decide)]
  unfold TD
  rw [t]
  exact z
theorem TD.w4 (h : TD M d) {i v : Int} (i0 : 0 ≤ i) (i1 : i < 6) : TD (uM M 74 i v) (upd1 d (10 + i) v) := by
  have z := RW.w9 (v := v) h i0 i1
  have t : tmM (uM M 74 i v) = uM (tmM M) 59 i v := funext fun a => funext fun j => by
    by_cases a9 : a = 59
    · subst a9
      by_cases q : j = i
      · rw [q, uM_same]; exact uM_same
      · rw [uM_k q]; exact uM_k q
    · rw [uM_h a9]
      unfold tmM
      rw [show uM M 74 i v 57 = M 57 from funext fun _ => uM_h (by decide), show uM M 74 i v 73 = M 73 from funext fun _ => uM_h (by decide), if_neg a9, if_neg a9]
  unfold TD
  rw [t]
  exact z
theorem TD.wl (h : TD M d) {k p v : Int} (hk : (k = 120 ∧ p = 44 ∧ 0 ≤ v) ∨ (k = 121 ∧ p = 42) ∨ (k = 122 ∧ p = 43)) : TD (uM M 57 p v) (upd1 d k v) := by
  have z := RW.wf (v := v) (p := if k = 120 then 14 else if k = 121 then 5 else 6) h (k := k) (by rcases hk with ⟨rfl, _⟩ | ⟨rfl, _⟩ | ⟨rfl, _⟩ <;> simp)
  have t : tmM (uM M 57 p v) = uM (tmM M) 57 (if k = 120 then 14 else if k = 121 then 5 else 6) v := funext fun a => funext fun j => by
    by_cases a7 : a = 57
    · subst a7
      have R : ∀ x : Int, j ≠ x → uM (tmM M) 57 x v 57 j = (if j = 5 then M 57 42 else if j = 6 then M 57 43 else if j = 14 then max 0 (M 57 44) else 0) := fun x q => uM_k q
      show (if j = 5 then uM M 57 p v 57 42 else if j = 6 then uM M 57 p v 57 43 else if j = 14 then max 0 (uM M 57 p v 57 44) else 0) = _
      rcases hk with ⟨rfl, rfl, hv⟩ | ⟨rfl, rfl⟩ | ⟨rfl, rfl⟩
      · rw [if_pos rfl, uM_k (show (42 : Int) ≠ 44 by decide), uM_k (show (43 : Int) ≠ 44 by decide), uM_same]
        by_cases q : j = 14
        · subst q; rw [uM_same, if_neg (by decide), if_neg (by decide), if_pos rfl]; omega
        · rw [R 14 q, if_neg q, if_neg q]
      · rw [if_neg (show ¬ (121 : Int) = 120 by decide), if_pos rfl, uM_same, uM_k (show (43 : Int) ≠ 42 by decide), uM_k (show (44 : Int) ≠ 42 by decide)]
        by_cases q : j = 5
        · subst q; rw [uM_same, if_pos rfl]
        · rw [R 5 q, if_neg q, if_neg q]
      · rw [if_neg (show ¬ (122 : Int) = 120 by decide), if_neg (show ¬ (122 : Int) = 121 by decide), uM_same, uM_k (show (42 : Int) ≠ 43 by decide), uM_k (show (44 : Int) ≠ 43 by decide)]
        by_cases q : j = 6
        · subst q; rw [uM_same, if_neg (by decide), if_pos rfl]
        · rw [R 6 q, if_neg q, if_neg q]
    · rw [uM_h a7]
      unfold tmM
      rw [show uM M 57 p v 73 = M 73 from funext fun _ => uM_h (by decide), show uM M 57 p v 74 = M 74 from funext fun _ => uM_h (by decide), if_neg a7, if_neg a7]
  unfold TD
  rw [t]
  exact z
theorem TD.l (h : TD M d) : M 57 42 = d 121 := RW.l h
theorem TD.w (h : TD M d) : M 57 43 = d 122 := RW.w h
end TDS

