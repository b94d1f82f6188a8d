/-! the law's text, read by the class's reader -/
def AT (r : Int → Int) (n p : Int) (ρ : List Int) : Prop := 0 ≤ p ∧ p + ρ.length ≤ n ∧ ∀ j : Nat, j < ρ.length → r (p + j) % 2 ^ 8 = ρ.getD j 0
noncomputable def cur (r : Int → Int) (n p pl : Int) : RT := ((nxT r n p).1, (nxT r n p).2.1, (nxT r n p).2.2, 0, pl)
section PARSE
variable {r : Int → Int} {n p pl : Int} {ρ σ : List Int}
theorem AT.by (h : AT r n p ρ) {j : Nat} (hj : j < ρ.length) : byA r n (p + j) = ρ.getD j 0 := by
  unfold byA
  rw [if_pos ⟨by have := h.1; omega, by have := h.2.1; omega⟩]
  exact h.2.2 j hj
theorem AT.b0 (h : AT r n p ρ) (hj : 0 < ρ.length) : byA r n p = ρ.getD 0 0 := by
  have z := h.by hj
  rw [show p + ((0 : Nat) : Int) = p by omega] at z
  exact z
theorem AT.l (h : AT r n p (ρ ++ σ)) : AT r n p ρ := by
  refine ⟨h.1, ?_, fun j hj => ?_⟩
  · have := h.2.1
    rw [List.length_append] at this
    omega
  · rw [h.2.2 j (by rw [List.length_append]; omega), List.getD_eq_getElem?_getD, List.getD_eq_getElem?_getD, List.getElem?_append_left hj]
theorem AT.rr (h : AT r n p (ρ ++ σ)) : AT r n (p + ρ.length) σ := by
  have h0 := h.1
  have h1 := h.2.1
  rw [List.length_append] at h1
  refine ⟨by omega, by omega, fun j hj => ?_⟩
  have z := h.2.2 (ρ.length + j) (by rw [List.length_append]; omega)
  rw [List.getD_eq_getElem?_getD, List.getElem?_append_right (by omega), show ρ.length + j - ρ.length = j by omega, ← List.getD_eq_getElem?_getD] at z
  rw [show p + (ρ.length : Int) + (j : Int) = p + ((ρ.length + j : Nat) : Int) by omega]
  exact z
theorem scn_m {P : Int → Prop} : ∀ (m : Nat) (a : Int), (∀ i : Nat, i < m → a + i < n ∧ P (a + i)) → ¬ P (a + m) → scn P n a = a + m
  | 0, a, _, hn => by
    rw [show a + ((0 : Nat) : Int) = a by omega] at hn ⊢
    exact scn_f hn
  | m + 1, a, hp, hn => by
    have h0 := hp 0 (Nat.succ_pos m)
    rw [show a + ((0 : Nat) : Int) = a by omega] at h0
    rw [scn_t h0.1 h0.2, scn_m m (a + 1) (fun i hi => by
      have := hp (i + 1) (by omega)
      rw [show a + ((i + 1 : Nat) : Int) = a + 1 + i by omega] at this
      exact this) (by rw [show a + 1 + (m : Int) = a + ((m + 1 : Nat) : Int) by omega]; exact hn)]
    omega
theorem by_lt {a : Int} (h : 0 ≤ byA r n a) : 0 ≤ a ∧ a < n := by
  by_cases e : 0 ≤ a ∧ a < n
  · exact e
  · unfold byA at h
    rw [if_neg e] at h
    omega
theorem tk_sp {p' : Int} (h : byA r n p = 32) (e : p' = p + 1) : cur r n p pl = cur r n p' pl := by
  have z : nxT r n p = nxT r n p' := by
    subst e
    unfold nxT
    rw [scn_t (by_lt (by omega : 0 ≤ byA r n p)).2 (.inl h)]
  unfold cur
  rw [z]
theorem nxT_nb (h : ¬ blP (byA r n p)) : nxT r n p = nxW r n p := by
  show nxW r n (scn (fun j => blP (byA r n j)) n p) = _
  rw [scn_f (P := fun j => blP (byA r n j)) h]
theorem tk_sg (h : byA r n p = 59) : nxT r n p = (3, p, p + 1) := by
  rw [nxT_nb (by unfold blP; omega)]
  exact nx_3 (by_lt (r := r) (n := n) (a := p) (by omega)).2 (by unfold ltP; omega) (by unfold dgP; omega) h
theorem dc_dg {v : Int} (h0 : 0 ≤ v) (h1 : v < 100) : ∀ j : Nat, j < (dcL v).length → 48 ≤ (dcL v).getD j 0 ∧ (dcL v).getD j 0 ≤ 57 := by
  unfold dcL
  split
  · intro j hj
    have : j = 0 := by simp only [List.length_cons, List.length_nil] at hj; omega
    subst this
    show 48 ≤ 48 + v ∧ 48 + v ≤ 57
    omega
  · intro j hj
    have : j = 0 ∨ j = 1 := by simp only [List.length_cons, List.length_nil] at hj; omega
    rcases this with rfl | rfl
    · show 48 ≤ 48 + v / 10 ∧ 48 + v / 10 ≤ 57
      omega
    · show 48 ≤ 48 + v % 10 ∧ 48 + v % 10 ≤ 57
      omega
theorem tk_nm {v p' : Int} (h : AT r n p (dcL v)) (h0 : 0 ≤ v) (h1 : v < 100) (hp : p' = p + (dcL v).length) (hc : ¬ dgP (byA r n p')) : nxT r n p = (2, p, p') := by
  have hl := dcL_len v
  have hl1 : 1 ≤ (dcL v).length ∧ (dcL v).length ≤ 2 := by
    split at hl <;> omega
  have b0 := h.b0 (by omega)
  have g0 := dc_dg h0 h1 0 (by omega)
  rw [nxT_nb (by unfold blP; omega), nx_2 (by_lt (by omega : 0 ≤ byA r n p)).2 (by unfold ltP; omega) (by unfold dgP; omega)]
  rw [scn_m ((dcL v).length - 1) (p + 1) (fun i hi => ?_) (by
    rw [show p + 1 + (((dcL v).length - 1 : Nat) : Int) = p' by omega]
    exact hc)]
  · rw [show p + 1 + (((dcL v).length - 1 : Nat) : Int) = p' by omega]
  · have z := h.by (j := i + 1) (by omega)
    have g := dc_dg h0 h1 (i + 1) (by omega)
    rw [show p + 1 + (i : Int) = p + ((i + 1 : Nat) : Int) by omega]
    refine ⟨by have := h.2.1; omega, ?_⟩
    show dgP (byA r n _)
    unfold dgP
    omega
theorem nm_v {v p' : Int} (h : AT r n p (dcL v)) (h0 : 0 ≤ v) (h1 : v < 100) (hp : p' = p + (dcL v).length) : numV r n (2, p, p', 0, pl) = v ∧ p' - p ≤ 2 := by
  have hl := dcL_len v
  have e : numV r n (2, p, p', 0, pl) = nmF r n p (min p' (p + 2) - p).toNat := rfl
  have b0 := h.b0 (by split at hl <;> omega)
  by_cases q : v < 10
  · rw [if_pos q] at hl
    rw [e, show (min p' (p + 2) - p).toNat = 1 by omega]
    refine ⟨?_, by omega⟩
    have e1 : (dcL v).getD 0 0 = 48 + v := by unfold dcL; rw [if_pos q]; rfl
    rw [e1] at b0
    show 10 * 0 + byA r n (p + ((0 : Nat) : Int)) - 48 = v
    rw [show p + ((0 : Nat) : Int) = p by omega, b0]
    omega
  · rw [if_neg q] at hl
    rw [e, show (min p' (p + 2) - p).toNat = 2 by omega]
    refine ⟨?_, by omega⟩
    have e1 : (dcL v).getD 0 0 = 48 + v / 10 := by unfold dcL; rw [if_neg q]; rfl
    have e2 : (dcL v).getD 1 0 = 48 + v % 10 := by unfold dcL; rw [if_neg q]; rfl
    have b1 := h.by (j := 1) (by omega)
    rw [e1] at b0
    rw [e2] at b1
    show 10 * (10 * 0 + byA r n (p + ((0 : Nat) : Int)) - 48) + byA r n (p + ((1 : Nat) : Int)) - 48 = v
    rw [show p + ((0 : Nat) : Int) = p by omega, b0, b1]
    omega
theorem cur_nm {v p' : Int} (h : AT r n p (dcL v)) (h0 : 0 ≤ v) (h1 : v < 100) (hp : p' = p + (dcL v).length) (hc : ¬ dgP (byA r n p')) : cur r n p pl = (2, p, p', 0, pl) := by
  unfold cur
  rw [tk_nm h h0 h1 hp hc]
theorem ck_n {v p' a b : Int} (h : AT r n p (dcL v)) (h0 : 0 ≤ v) (h1 : v < 100) (hp : p' = p + (dcL v).length) (hc : ¬ dgP (byA r n p')) (ha : a ≤ v) (hb : v ≤ b) : ckR r n a b (cur r n p pl) = (v, (2, p, p', 0, pl)) := by
  rw [cur_nm h h0 h1 hp hc]
  have z := nm_v (pl := pl) h h0 h1 hp
  unfold ckR
  rw [if_pos rfl, if_pos rfl, if_pos ⟨z.2, by rw [z.1]; exact ha, by rw [z.1]; exact hb⟩, z.1]
theorem rn_n {v p' a b : Int} (h : AT r n p (dcL v)) (h0 : 0 ≤ v) (h1 : v < 100) (hp : p' = p + (dcL v).length) (hc : ¬ dgP (byA r n p')) (ha : a ≤ v) (hb : v ≤ b) : rnR r n a b (cur r n p pl) = (v, cur r n p' pl) := by
  unfold rnR
  rw [ck_n h h0 h1 hp hc ha hb, if_pos rfl]
  rfl
theorem no_n {d : Int → Int} {v p' most told row : Int} (h : AT r n p (dcL v)) (h0 : 0 ≤ v) (h1 : v < 100) (hp : p' = p + (dcL v).length) (hc : ¬ dgP (byA r n p')) (hm : v ≤ most - 1) (ht : v < told) (hr : ¬ (0 ≤ row ∧ row + v < 123 ∧ 0 < d (row + v))) : noR r n d most told row (cur r n p pl) = (v, cur r n p' pl) := by
  unfold noR
  rw [ck_n h h0 h1 hp hc h0 hm]
  rw [noA_f (show ¬ told ≤ v by omega)]
  have e1 : noB d row v (2, p, p', 0, pl) = (2, p, p', 0, pl) := if_neg hr
  show ((if (noC r n (noB d row v (2, p, p', 0, pl))).2.2.2.1 = 0 then v else 0), noC r n (noB d row v (2, p, p', 0, pl))) = _
  rw [e1]
  have e2 : noC r n (2, p, p', 0, pl) = cur r n p' pl := if_pos rfl
  rw [e2]
  rfl
theorem sg_n {p' : Int} (h : byA r n p = 59) (e : p' = p + 1) : sgR r n (cur r n p pl) = cur r n p' pl := by
  subst e
  unfold sgR
  have e1 : cur r n p pl = (3, p, p + 1, 0, pl) := by
    unfold cur
    rw [tk_sg h]
  rw [e1, if_pos rfl, if_pos rfl]
  rfl
/-- the word i is what the constant j begins with -/
def WJ (i j : Nat) : Prop := (sL j).length = lnS i + 1 ∧ (sL j).getD (lnS i) 0 = 32 ∧ 1 ≤ lnS i ∧ ∀ m, m < lnS i → 97 ≤ (sL j).getD m 0 ∧ (sL j).getD m 0 ≤ 122 ∧ (sL j).getD m 0 = bS i m % 2 ^ 8
theorem wj_0 : WJ 0 6 := by unfold WJ; decide
theorem wj_1 : WJ 1 10 := by unfold WJ; decide
theorem wj_2 : WJ 2 11 := by unfold WJ; decide
theorem wj_3 : WJ 3 12 := by unfold WJ; decide
theorem wj_4 : WJ 4 9 := by unfold WJ; decide
theorem tk_wd {i j : Nat} (w : WJ i j) (h : AT r n p (sL j)) : nxT r n p = (1, p, p + lnS i) := by
  obtain ⟨w1, w2, w3, w4⟩ := w
  have b0 := h.b0 (by omega)
  have g0 := w4 0 (by omega)
  rw [nxT_nb (by unfold blP; omega), nx_1 (by_lt (by omega : 0 ≤ byA r n p)).2 (by unfold ltP; omega)]
  rw [scn_m (lnS i - 1) (p + 1) (fun m hm => ?_) (by
    have z := h.by (j := lnS i) (by omega)
    rw [show p + 1 + ((lnS i - 1 : Nat) : Int) = p + (lnS i : Int) by omega]
    show ¬ ltP (byA r n _)
    unfold ltP
    omega)]
  · rw [show p + 1 + ((lnS i - 1 : Nat) : Int) = p + (lnS i : Int) by omega]
  · have z := h.by (j := m + 1) (by omega)
    have g := w4 (m + 1) (by omega)
    rw [show p + 1 + (m : Int) = p + ((m + 1 : Nat) : Int) by omega]
    refine ⟨by have := h.2.1; omega, ?_⟩
    show ltP (byA r n _)
    unfold ltP
    omega
theorem wd_y {i j : Nat} (w : WJ i j) (h : AT r n p (sL j)) : wdP r n (cur r n p pl) i := by
  unfold cur wdP
  rw [tk_wd w h]
  refine ⟨rfl, by show p + (lnS i : Int) - p = _; omega, fun k k0 k1 => ?_⟩
  have z := h.by (j := k.toNat) (by have := w.1; omega)
  rw [Int.toNat_of_nonneg k0] at z
  have g := (w.2.2.2 k.toNat (by omega)).2.2
  rw [Int.toNat_of_nonneg k0] at g
  exact z.trans g
theorem wd_n {i j i' : Nat} (w : WJ i j) (h : AT r n p (sL j)) (hl : lnS i' ≠ lnS i ∨ (0 < lnS i' ∧ bS i' 0 % 2 ^ 8 ≠ (sL j).getD 0 0)) : ¬ wdP r n (cur r n p pl) i' := fun z => by
  unfold cur wdP at z
  rw [tk_wd w h] at z
  rcases hl with hl | ⟨h0, hl⟩
  · have := z.2.1
    have : p + (lnS i : Int) - p = (lnS i' : Int) := this
    omega
  · have y := z.2.2 0 (by decide) (by omega)
    rw [show ((1 : Int), p, p + (lnS i : Int), (0 : Int), pl).2.1 + 0 = p by show p + 0 = p; omega] at y
    have b0 := h.b0 (by have := w.1; omega)
    exact hl (y.symm.trans b0)
theorem nx_wd {i j : Nat} {p' : Int} (w : WJ i j) (h : AT r n p (sL j)) (e : p' = p + (sL j).length) : nxR r n (cur r n p pl) = cur r n p' pl := by
  have e1 : nxR r n (cur r n p pl) = cur r n (p + lnS i) pl := by
    unfold cur nxR
    rw [tk_wd w h]
  rw [e1]
  have z := h.by (j := lnS i) (by have := w.1; omega)
  rw [w.2.1] at z
  exact tk_sp z (by have := w.1; omega)
theorem kd_wd {i j : Nat} (w : WJ i j) (h : AT r n p (sL j)) : (cur r n p pl).1 = 1 := by
  unfold cur
  rw [tk_wd w h]
theorem nd_c {j : Nat} (h : AT r n p (sL j)) (hl : 0 < (sL j).length) (hn : ¬ dgP ((sL j).getD 0 0)) : ¬ dgP (byA r n p) := by
  rw [h.b0 hl]
  exact hn
theorem nd7 (h : AT r n p (sL 7)) : ¬ dgP (byA r n p) := nd_c h (by decide) (by unfold dgP; decide)
theorem nd8 (h : AT r n p (sL 8)) : ¬ dgP (byA r n p) := nd_c h (by decide) (by unfold dgP; decide)
theorem by7 (h : AT r n p (sL 7)) : byA r n p = 32 := (h.b0 (by decide)).trans (by decide)
theorem by8 (h : AT r n p (sL 8)) : byA r n p = 59 := (h.b0 (by decide)).trans (by decide)
/-- a library's clause -/
theorem cl_A {d : Int → Int} {s a b : Int} {o : List Int} {p' : Int} (h : AT r n p (sL 6 ++ dcL a ++ o ++ sL 8)) (a0 : 0 ≤ a) (a1 : a ≤ 20) (ho : o = [] ∨ (o = sL 7 ++ dcL b ∧ 0 ≤ b ∧ b ≤ 20)) (hd : d 121 < 5) (e : p' = p + (sL 6 ++ dcL a ++ o ++ sL 8).length) : (cur r n p pl).1 = 1 ∧ ∃ v u, clR r n (d, s, cur r n p pl) = (upd1 (upd1 (upd1 d (0 + d 121) v) (5 + d 121) u) 121 (d 121 + 1), s, cur r n p' pl) := by
  have h6 := h.l.l.l
  have ha := h.l.l.rr
  have hO := h.l.rr
  have h8 := h.rr
  have l6 : ((sL 6).length : Int) = 8 := rfl
  have l7 : ((sL 7).length : Int) = 1 := rfl
  have l8 : ((sL 8).length : Int) = 1 := rfl
  simp only [List.length_append, Int.natCast_add] at ha hO h8 e
  refine ⟨kd_wd wj_0 h6, a, (if o = [] then 20 else b), ?_⟩
  rw [clc_0 (wd_y wj_0 h6)]
  unfold lbR
  rw [if_pos hd, nx_wd (p' := p + (sL 6).length) wj_0 h6 rfl]
  rcases ho with rfl | ⟨rfl, b0, b1⟩
  · simp only [List.length_nil] at h8 e
    rw [rn_n (p' := p + ((sL 6).length + (dcL a).length + (0 : Nat))) ha a0 (by omega) (by omega) (nd8 h8) a0 a1, if_pos rfl]
    have k3 : (cur r n (p + ((sL 6).length + (dcL a).length + (0 : Nat))) pl).1 = 3 := by
      unfold cur
      rw [tk_sg (by8 h8)]
    rw [lb2_f (fun z => by
      have := z.2
      rw [k3] at this
      exact absurd this (by decide))]
    show (_, s, sgR r n (cur r n _ pl)) = _
    rw [sg_n (p' := p') (by8 h8) (by omega)]
  · have h7 := hO.l
    have hb := hO.rr
    simp only [List.length_append, Int.natCast_add] at h8 e
    rw [rn_n (p' := p + ((sL 6).length + (dcL a).length)) ha a0 (by omega) (by omega) (nd7 h7) a0 a1, if_neg (by
      intro z
      have := congrArg List.length z
      rw [List.length_append] at this
      exact absurd this (by
        show ¬ (1 + (dcL b).length = 0)
        omega))]
    rw [tk_sp (p' := p + ((sL 6).length + (dcL a).length) + (sL 7).length) (by7 h7) (by omega)]
    have hn8 := nd8 h8
    have k2 : (cur r n (p + ((sL 6).length + (dcL a).length) + (sL 7).length) pl).1 = 2 := by
      rw [cur_nm (p' := p + ((sL 6).length + (dcL a).length + ((sL 7).length + (dcL b).length))) hb b0 (by omega) (by omega) hn8]
    rw [lb2_t rfl k2, rn_n (p' := p + ((sL 6).length + (dcL a).length + ((sL 7).length + (dcL b).length))) hb b0 (by omega) (by omega) hn8 b0 b1]
    show (_, s, sgR r n (cur r n _ pl)) = _
    rw [sg_n (p' := p') (by8 h8) (by omega)]
/-- the store's -/
theorem cl_B {d : Int → Int} {a : Int} {p' : Int} (h : AT r n p (sL 9 ++ dcL a ++ sL 8)) (a0 : 0 ≤ a) (a1 : a ≤ 20) (e : p' = p + (sL 9 ++ dcL a ++ sL 8).length) : (cur r n p pl).1 = 1 ∧ clR r n (d, 0, cur r n p pl) = (upd1 d 120 a, 1, cur r n p' pl) := by
  have h6 := h.l.l
  have ha := h.l.rr
  have h8 := h.rr
  have l8 : ((sL 8).length : Int) = 1 := rfl
  simp only [List.length_append, Int.natCast_add] at ha h8 e
  refine ⟨kd_wd wj_4 h6, ?_⟩
  rw [clc_4 (wd_n wj_4 h6 (.inl (by decide))) (wd_n wj_4 h6 (.inl (by decide))) (wd_n wj_4 h6 (.inr ⟨by decide, by decide⟩)) (wd_n wj_4 h6 (.inl (by decide))) (wd_y wj_4 h6)]
  show ((if (0 : Int) = 0 then _ else _), (if (0 : Int) = 0 then _ else _), (if (0 : Int) = 0 then _ else _)) = _
  rw [if_pos rfl, if_pos rfl, if_pos rfl]
  show (upd1 d 120 (rnR r n 0 20 (nxR r n (cur r n p pl))).1, (1 : Int), sgR r n (rnR r n 0 20 (nxR r n (cur r n p pl))).2) = _
  rw [nx_wd (p' := p + (sL 9).length) wj_4 h6 rfl, rn_n (p' := p + ((sL 9).length + (dcL a).length)) ha a0 (by omega) (by omega) (nd8 h8) a0 a1]
  show (_, _, sgR r n (cur r n _ pl)) = _
  rw [sg_n (p' := p') (by8 h8) (by omega)]
/-- a work's -/
theorem cl_C {d : Int → Int} {s a b : Int} {p' : Int} (h : AT r n p (sL 10 ++ dcL a ++ sL 7 ++ dcL b ++ sL 8)) (a0 : 1 ≤ a) (a1 : a ≤ 9) (b0 : 0 ≤ b) (b1 : b ≤ 15) (hd : d 122 < 6) (e : p' = p + (sL 10 ++ dcL a ++ sL 7 ++ dcL b ++ sL 8).length) : (cur r n p pl).1 = 1 ∧ ∃ v u, clR r n (d, s, cur r n p pl) = (upd1 (upd1 (upd1 d (10 + d 122) v) (16 + d 122) u) 122 (d 122 + 1), s, cur r n p' pl) := by
  have h6 := h.l.l.l.l
  have ha := h.l.l.l.rr
  have h7 := h.l.l.rr
  have hb := h.l.rr
  have h8 := h.rr
  have l7 : ((sL 7).length : Int) = 1 := rfl
  have l8 : ((sL 8).length : Int) = 1 := rfl
  simp only [List.length_append, Int.natCast_add] at ha h7 hb h8 e
  refine ⟨kd_wd wj_1 h6, a, b, ?_⟩
  rw [clc_1 (wd_n wj_1 h6 (.inl (by decide))) (wd_y wj_1 h6)]
  unfold wkR
  rw [if_pos hd, nx_wd (p' := p + (sL 10).length) wj_1 h6 rfl, rn_n (p' := p + ((sL 10).length + (dcL a).length)) ha (by omega) (by omega) (by omega) (nd7 h7) a0 a1]
  rw [tk_sp (p' := p + ((sL 10).length + (dcL a).length + (sL 7).length)) (by7 h7) (by omega)]
  rw [rn_n (p' := p + ((sL 10).length + (dcL a).length + (sL 7).length + (dcL b).length)) hb b0 (by omega) (by omega) (nd8 h8) b0 b1]
  show (_, s, sgR r n (cur r n _ pl)) = _
  rw [sg_n (p' := p') (by8 h8) (by omega)]
/-- what is held -/
theorem cl_H {d : Int → Int} {s x w c : Int} {p' : Int} (h : AT r n p (sL 11 ++ dcL x ++ sL 7 ++ dcL w ++ sL 7 ++ dcL c ++ sL 8)) (x0 : 0 ≤ x) (x1 : x < d 121) (x5 : x < 5) (w0 : 0 ≤ w) (w1 : w < d 122) (w6 : w < 6) (c0 : 1 ≤ c) (c1 : c ≤ 3) (hz : d (28 + x * 6 + w) = 0) (e : p' = p + (sL 11 ++ dcL x ++ sL 7 ++ dcL w ++ sL 7 ++ dcL c ++ sL 8).length) : (cur r n p pl).1 = 1 ∧ clR r n (d, s, cur r n p pl) = (upd1 d (28 + x * 6 + w) c, s, cur r n p' pl) := by
  have h6 := h.l.l.l.l.l.l
  have hx := h.l.l.l.l.l.rr
  have h7 := h.l.l.l.l.rr
  have hw := h.l.l.l.rr
  have h72 := h.l.l.rr
  have hc := h.l.rr
  have h8 := h.rr
  have l7 : ((sL 7).length : Int) = 1 := rfl
  have l8 : ((sL 8).length : Int) = 1 := rfl
  simp only [List.length_append, Int.natCast_add] at hx h7 hw h72 hc h8 e
  refine ⟨kd_wd wj_2 h6, ?_⟩
  rw [clc_2 (wd_n wj_2 h6 (.inl (by decide))) (wd_n wj_2 h6 (.inl (by decide))) (wd_y wj_2 h6)]
  have eL : hdL r n d (cur r n p pl) = (x, cur r n (p + ((sL 11).length + (dcL x).length + (sL 7).length)) pl) := by
    unfold hdL
    rw [nx_wd (p' := p + (sL 11).length) wj_2 h6 rfl, no_n (p' := p + ((sL 11).length + (dcL x).length)) hx x0 (by omega) (by omega) (nd7 h7) (by omega) x1 (fun z => absurd z.1 (by decide))]
    rw [tk_sp (p' := p + ((sL 11).length + (dcL x).length + (sL 7).length)) (by7 h7) (by omega)]
  have eW : hdW r n d 28 (cur r n p pl) = (w, cur r n (p + ((sL 11).length + (dcL x).length + (sL 7).length + (dcL w).length + (sL 7).length)) pl) := by
    unfold hdW
    rw [eL]
    show noR r n d 6 (d 122) (28 + x * 6) (cur r n _ pl) = _
    rw [no_n (p' := p + ((sL 11).length + (dcL x).length + (sL 7).length + (dcL w).length)) hw w0 (by omega) (by omega) (nd7 h72) (by omega) w1 (fun z => by
      have := z.2.2
      omega)]
    rw [tk_sp (p' := p + ((sL 11).length + (dcL x).length + (sL 7).length + (dcL w).length + (sL 7).length)) (by7 h72) (by omega)]
  have eC : hdC r n d (cur r n p pl) = (c, cur r n (p + ((sL 11).length + (dcL x).length + (sL 7).length + (dcL w).length + (sL 7).length + (dcL c).length)) pl) := by
    unfold hdC
    rw [eW]
    show rnR r n 1 3 (cur r n _ pl) = _
    rw [rn_n (p' := p + ((sL 11).length + (dcL x).length + (sL 7).length + (dcL w).length + (sL 7).length + (dcL c).length)) hc (by omega) (by omega) (by omega) (nd8 h8) c0 c1]
  unfold hdR
  rw [eC, eL, eW]
  show ((if (sgR r n (cur r n _ pl)).2.2.2.1 = 0 then upd1 d (28 + x * 6 + w) c else d), s, sgR r n (cur r n _ pl)) = _
  rw [sg_n (p' := p') (by8 h8) (by omega)]
  rfl
/-- what is promised -/
theorem cl_P {d : Int → Int} {s x w c y : Int} {p' : Int} (h : AT r n p (sL 12 ++ dcL x ++ sL 7 ++ dcL w ++ sL 7 ++ dcL c ++ sL 7 ++ dcL y ++ sL 8)) (x0 : 0 ≤ x) (x1 : x < d 121) (x5 : x < 5) (w0 : 0 ≤ w) (w1 : w < d 122) (w6 : w < 6) (c0 : 1 ≤ c) (c1 : c ≤ 3) (y0 : 0 ≤ y) (y1 : y ≤ 60) (hz : d (58 + x * 6 + w) = 0) (e : p' = p + (sL 12 ++ dcL x ++ sL 7 ++ dcL w ++ sL 7 ++ dcL c ++ sL 7 ++ dcL y ++ sL 8).length) : (cur r n p pl).1 = 1 ∧ clR r n (d, s, cur r n p pl) = (upd1 (upd1 d (58 + x * 6 + w) c) (88 + x * 6 + w) y, s, cur r n p' pl) := by
  have h6 := h.l.l.l.l.l.l.l.l
  have hx := h.l.l.l.l.l.l.l.rr
  have h7 := h.l.l.l.l.l.l.rr
  have hw := h.l.l.l.l.l.rr
  have h72 := h.l.l.l.l.rr
  have hc := h.l.l.l.rr
  have h73 := h.l.l.rr
  have hy := h.l.rr
  have h8 := h.rr
  have l7 : ((sL 7).length : Int) = 1 := rfl
  have l8 : ((sL 8).length : Int) = 1 := rfl
  simp only [List.length_append, Int.natCast_add] at hx h7 hw h72 hc h73 hy h8 e
  refine ⟨kd_wd wj_3 h6, ?_⟩
  rw [clc_3 (wd_n wj_3 h6 (.inr ⟨by decide, by decide⟩)) (wd_n wj_3 h6 (.inl (by decide))) (wd_n wj_3 h6 (.inl (by decide))) (wd_y wj_3 h6)]
  have eL : hdL r n d (cur r n p pl) = (x, cur r n (p + ((sL 12).length + (dcL x).length + (sL 7).length)) pl) := by
    unfold hdL
    rw [nx_wd (p' := p + (sL 12).length) wj_3 h6 rfl, no_n (p' := p + ((sL 12).length + (dcL x).length)) hx x0 (by omega) (by omega) (nd7 h7) (by omega) x1 (fun z => absurd z.1 (by decide))]
    rw [tk_sp (p' := p + ((sL 12).length + (dcL x).length + (sL 7).length)) (by7 h7) (by omega)]
  have eW : hdW r n d 58 (cur r n p pl) = (w, cur r n (p + ((sL 12).length + (dcL x).length + (sL 7).length + (dcL w).length + (sL 7).length)) pl) := by
    unfold hdW
    rw [eL]
    show noR r n d 6 (d 122) (58 + x * 6) (cur r n _ pl) = _
    rw [no_n (p' := p + ((sL 12).length + (dcL x).length + (sL 7).length + (dcL w).length)) hw w0 (by omega) (by omega) (nd7 h72) (by omega) w1 (fun z => by
      have := z.2.2
      omega)]
    rw [tk_sp (p' := p + ((sL 12).length + (dcL x).length + (sL 7).length + (dcL w).length + (sL 7).length)) (by7 h72) (by omega)]
  have eM : pmM r n d (cur r n p pl) = (c, cur r n (p + ((sL 12).length + (dcL x).length + (sL 7).length + (dcL w).length + (sL 7).length + (dcL c).length + (sL 7).length)) pl) := by
    unfold pmM
    rw [eW]
    show rnR r n 1 3 (cur r n _ pl) = _
    rw [rn_n (p' := p + ((sL 12).length + (dcL x).length + (sL 7).length + (dcL w).length + (sL 7).length + (dcL c).length)) hc (by omega) (by omega) (by omega) (nd7 h73) c0 c1]
    rw [tk_sp (p' := p + ((sL 12).length + (dcL x).length + (sL 7).length + (dcL w).length + (sL 7).length + (dcL c).length + (sL 7).length)) (by7 h73) (by omega)]
  have eY : pmY r n d (cur r n p pl) = (y, cur r n (p + ((sL 12).length + (dcL x).length + (sL 7).length + (dcL w).length + (sL 7).length + (dcL c).length + (sL 7).length + (dcL y).length)) pl) := by
    unfold pmY
    rw [eM]
    show rnR r n 0 60 (cur r n _ pl) = _
    rw [rn_n (p' := p + ((sL 12).length + (dcL x).length + (sL 7).length + (dcL w).length + (sL 7).length + (dcL c).length + (sL 7).length + (dcL y).length)) hy (by omega) (by omega) (by omega) (nd8 h8) y0 y1]
  unfold pmR
  rw [eY, eL, eW, eM]
  show ((if (sgR r n (cur r n _ pl)).2.2.2.1 = 0 then upd1 (upd1 d (58 + x * 6 + w) c) (88 + x * 6 + w) y else d), s, sgR r n (cur r n _ pl)) = _
  rw [sg_n (p' := p') (by8 h8) (by omega)]
  rfl
/-- the state behind the clauses of a text so far -/
def RDS (r : Int → Int) (n : Int) (π : List Int) (d : Int → Int) (s : Int) : Prop := ∃ k : Nat, k ≤ π.length ∧ rdI r n k = (d, s, cur r n π.length (-1)) ∧ ∀ j, j < k → (rdI r n j).2.2.2.2.2.1 = 0 ∧ (rdI r n j).2.2.1 ≠ 0
theorem RDS.next {π κ : List Int} {d d' : Int → Int} {s s' : Int} (h : RDS r n π d s) (hk : 0 < κ.length) (k1 : (cur r n π.length (-1)).1 = 1) (hc : clR r n (d, s, cur r n π.length (-1)) = (d', s', cur r n (π ++ κ).length (-1))) : RDS r n (π ++ κ) d' s' := by
  obtain ⟨k, kl, ke, kj⟩ := h
  refine ⟨k + 1, by rw [List.length_append]; omega, ?_, fun j hj => ?_⟩
  · show clR r n (rdI r n k) = _
    rw [ke]
    exact hc
  · by_cases e : j = k
    · subst e
      rw [ke]
      exact ⟨rfl, by show (cur r n π.length (-1)).1 ≠ 0; rw [k1]; decide⟩
    · exact kj j (by omega)
theorem RDS.nil : RDS r n [] (fun _ => 0) 0 := ⟨0, Nat.le_refl _, rfl, fun j hj => absurd hj (Nat.not_lt_zero j)⟩
theorem RDS.fin {π : List Int} {d : Int → Int} {s : Int} (h : RDS r n π d s) (hn : n = π.length) {k : Nat} (hz : rdZ r n k) : (rdI r n k).1 = d ∧ (rdI r n k).2.2.2.2.2.1 = 0 := by
  obtain ⟨K, kl, ke, kj⟩ := h
  have k0 : (cur r n π.length (-1)).1 = 0 := by
    unfold cur nxT
    rw [scn_e (by omega), nx_0 (by omega)]
  have e : k = K := by
    rcases Nat.lt_trichotomy k K with h | h | h
    · have z := kj k h
      rcases hz.2 with y | y | y
      · exact absurd z.1 y
      · exact absurd y z.2
      · omega
    · exact h
    · have z := (hz.1 K h).2
      rw [ke] at z
      exact absurd k0 z
  subst e
  rw [ke]
  exact ⟨rfl, rfl⟩
end PARSE
/-- so many libraries and works are told, and of no later pair anything -/
def PDT (d : Int → Int) (L W a b : Int) : Prop := d 121 = L ∧ d 122 = W ∧ (∀ q, a ≤ q → q < 30 → d (28 + q) = 0) ∧ ∀ q, b ≤ q → q < 30 → d (58 + q) = 0
def RDE (r : Int → Int) (n : Int) (π : List Int) (L W s a b : Int) : Prop := ∃ d, RDS r n π d s ∧ PDT d L W a b
section PTXT
variable {r : Int → Int} {n : Int} {g0 : Nat → Nat}
theorem RDE.mo {π : List Int} {L W s a b a' b' : Int} (h : RDE r n π L W s a b) (ha : a ≤ a') (hb : b ≤ b') : RDE r n π L W s a' b' := by
  obtain ⟨d, h, h1, h2, h3, h4⟩ := h
  exact ⟨d, h, h1, h2, fun q x y => h3 q (by omega) y, fun q x y => h4 q (by omega) y⟩
theorem len_e (τ κ : List Int) : ((τ ++ κ).length : Int) = τ.length + κ.length := by
  rw [List.length_append, Int.natCast_add]
theorem dc_1 (v : Int) : 1 ≤ (dcL v).length := by
  have := dcL_len v
  split at this <;> omega
theorem ap4 (τ a b c d : List Int) : τ ++ a ++ b ++ c ++ d = τ ++ (a ++ b ++ c ++ d) := by simp only [List.append_assoc]
theorem at0 {π : List Int} (h : AT r n 0 π) {τ κ : List Int} (e : π = τ ++ κ) : AT r n 0 τ ∧ AT r n τ.length κ := by
  subst e
  have z := h.rr
  rw [Int.zero_add] at z
  exact ⟨h.l, z⟩
theorem eA (g0 : Nat → Nat) (x : Int) (τ : List Int) : ytA g0 x τ = τ ++ (sL 6 ++ dcL (frI (scK g0 (4 + x)) 0 8) ++ (if scK g0 (4 + x) / 2 ^ 5 % 2 ^ 1 = 0 then [] else sL 7 ++ dcL (frI (scK g0 (4 + x) / 2 ^ 6) 0 6)) ++ sL 8) := by
  unfold ytA
  simp only [List.append_assoc]
theorem eC (g0 : Nat → Nat) (w : Int) (τ : List Int) : ytC g0 w τ = τ ++ (sL 10 ++ dcL (frI (scK g0 7 / 2 ^ (8 * w).toNat) 1 9) ++ sL 7 ++ dcL (frI (scK g0 8 / 2 ^ (7 * w).toNat) 0 5) ++ sL 8) := by
  unfold ytC
  simp only [List.append_assoc]
theorem PDT.up {d : Int → Int} {L W a b : Int} {c v : Int} (a0 : 0 ≤ a) (b0 : 0 ≤ b) (h : PDT d L W a b) (hc : c ≠ 121 ∧ c ≠ 122 ∧ (c < 28 ∨ 88 ≤ c)) : PDT (upd1 d c v) L W a b := by
  obtain ⟨h1, h2, h3, h4⟩ := h
  refine ⟨(upd1_o (by omega)).trans h1, (upd1_o (by omega)).trans h2, fun q x y => ?_, fun q x y => ?_⟩
  · rw [upd1_o (by omega)]
    exact h3 q x y
  · rw [upd1_o (by omega)]
    exact h4 q x y
theorem pA (x : Nat) (hx : x ≤ 3) : AT r n 0 (txA g0 x) → RDE r n (txA g0 x) x 0 0 0 0 := by
  induction x with
  | zero => exact fun _ => ⟨_, RDS.nil, rfl, rfl, fun _ _ _ => rfl, fun _ _ _ => rfl⟩
  | succ x ih =>
    intro h
    rw [txA] at h ⊢
    have ⟨h1, h2⟩ := at0 h (eA g0 x (txA g0 x))
    obtain ⟨d, hd, hp⟩ := ih (by omega) h1
    have hA := frI_b (v := scK g0 (4 + x)) (show (0 : Int) ≤ 8 by decide)
    have hB := frI_b (v := scK g0 (4 + x) / 2 ^ 6) (show (0 : Int) ≤ 6 by decide)
    have hd1 := hp.1
    obtain ⟨k1, v, u, hc⟩ := cl_A (pl := -1) (s := 0) (d := d) (b := frI (scK g0 (4 + x) / 2 ^ 6) 0 6) h2 hA.1 (by omega) (by
      split
      · exact .inl rfl
      · exact .inr ⟨rfl, hB.1, by omega⟩) (by rw [hd1]; omega) (len_e _ _)
    rw [eA]
    refine ⟨_, hd.next (by simp only [List.length_append, sl_6]; omega) k1 hc, ?_⟩
    obtain ⟨p1, p2, p3, p4⟩ := hp
    rw [p1]
    refine ⟨upd1_e.trans (by omega), ((upd1_o (by decide)).trans ((upd1_o (by omega)).trans (upd1_o (by omega)))).trans p2, fun q a b => ?_, fun q a b => ?_⟩
    · exact ((upd1_o (by omega)).trans ((upd1_o (by omega)).trans (upd1_o (by omega)))).trans (p3 q a b)
    · exact ((upd1_o (by omega)).trans ((upd1_o (by omega)).trans (upd1_o (by omega)))).trans (p4 q a b)
theorem pB {τ : List Int} {L : Int} (ih : AT r n 0 τ → RDE r n τ L 0 0 0 0) : AT r n 0 (ytB g0 τ) → ∃ s, RDE r n (ytB g0 τ) L 0 s 0 0 := by
  intro h
  unfold ytB at h ⊢
  split at h
  · rename_i e
    rw [if_pos e]
    have e2 : τ ++ sL 9 ++ dcL (frI (scK g0 9 / 2 ^ 13) 0 20) ++ sL 8 = τ ++ (sL 9 ++ dcL (frI (scK g0 9 / 2 ^ 13) 0 20) ++ sL 8) := by simp only [List.append_assoc]
    have ⟨h1, h2⟩ := at0 h e2
    obtain ⟨d, hd, hp⟩ := ih h1
    have hA := frI_b (v := scK g0 9 / 2 ^ 13) (show (0 : Int) ≤ 20 by decide)
    obtain ⟨k1, hc⟩ := cl_B (pl := -1) (d := d) h2 hA.1 hA.2 (len_e _ _)
    rw [e2]
    exact ⟨1, _, hd.next (by simp only [List.length_append, sl_9]; omega) k1 hc, hp.up (Int.le_refl _) (Int.le_refl _) ⟨by decide, by decide, .inr (by decide)⟩⟩
  · rename_i e
    rw [if_neg e]
    exact ⟨0, ih h⟩
theorem pC {τ : List Int} {L s : Int} (ih0 : AT r n 0 τ → RDE r n τ L 0 s 0 0) (x : Nat) (hx : x ≤ 3) : AT r n 0 (txC g0 τ x) → RDE r n (txC g0 τ x) L x s 0 0 := by
  induction x with
  | zero => exact ih0
  | succ x ih =>
    intro h
    rw [txC] at h ⊢
    have ⟨h1, h2⟩ := at0 h (eC g0 x (txC g0 τ x))
    obtain ⟨d, hd, hp⟩ := ih (by omega) h1
    have hA := frI_b (v := scK g0 7 / 2 ^ (8 * (x : Int)).toNat) (show (1 : Int) ≤ 9 by decide)
    have hB := frI_b (v := scK g0 8 / 2 ^ (7 * (x : Int)).toNat) (show (0 : Int) ≤ 5 by decide)
    have hd1 := hp.2.1
    obtain ⟨k1, v, u, hc⟩ := cl_C (pl := -1) (s := s) (d := d) h2 hA.1 hA.2 hB.1 (by omega) (by rw [hd1]; omega) (len_e _ _)
    rw [eC]
    refine ⟨_, hd.next (by simp only [List.length_append, sl_10]; omega) k1 hc, ?_⟩
    obtain ⟨p1, p2, p3, p4⟩ := hp
    rw [p2]
    refine ⟨((upd1_o (by decide)).trans ((upd1_o (by omega)).trans (upd1_o (by omega)))).trans p1, upd1_e.trans (by omega), fun q a b => ?_, fun q a b => ?_⟩
    · exact ((upd1_o (by omega)).trans ((upd1_o (by omega)).trans (upd1_o (by omega)))).trans (p3 q a b)
    · exact ((upd1_o (by omega)).trans ((upd1_o (by omega)).trans (upd1_o (by omega)))).trans (p4 q a b)
theorem pH {τ : List Int} {L W s x w : Int} (x0 : 0 ≤ x) (x1 : x < L) (x3 : L ≤ 3) (w0 : 0 ≤ w) (w1 : w < W) (w3 : W ≤ 3) (ih : AT r n 0 τ → RDE r n τ L W s (x * 6 + w) (x * 6 + w)) : AT r n 0 (ytH g0 x w τ) → RDE r n (ytH g0 x w τ) L W s (x * 6 + w + 1) (x * 6 + w) := by
  intro h
  unfold ytH at h ⊢
  have hb := holdsN_b g0 x w
  split at h
  · rename_i e
    rw [if_pos e]
    have e2 : τ ++ sL 11 ++ dcL x ++ sL 7 ++ dcL w ++ sL 7 ++ dcL (holdsN g0 x w) ++ sL 8 = τ ++ (sL 11 ++ dcL x ++ sL 7 ++ dcL w ++ sL 7 ++ dcL (holdsN g0 x w) ++ sL 8) := by simp only [List.append_assoc]
    have ⟨h1, h2⟩ := at0 h e2
    obtain ⟨d, hd, p1, p2, p3, p4⟩ := ih h1
    obtain ⟨k1, hc⟩ := cl_H (pl := -1) (s := s) (d := d) h2 x0 (by omega) (by omega) w0 (by omega) (by omega) (by omega) hb.2 (by rw [show 28 + x * 6 + w = 28 + (x * 6 + w) by omega]; exact p3 _ (Int.le_refl _) (by omega)) (len_e _ _)
    rw [e2]
    refine ⟨_, hd.next (by simp only [List.length_append, sl_11]; omega) k1 hc, (upd1_o (by omega)).trans p1, (upd1_o (by omega)).trans p2, fun q a b => ?_, fun q a b => ?_⟩
    · exact (upd1_o (by omega)).trans (p3 q (by omega) b)
    · exact (upd1_o (by omega)).trans (p4 q a b)
  · rename_i e
    rw [if_neg e]
    exact (ih h).mo (by omega) (Int.le_refl _)
theorem pP {τ : List Int} {L W s x w : Int} (x0 : 0 ≤ x) (x1 : x < L) (x3 : L ≤ 3) (w0 : 0 ≤ w) (w1 : w < W) (w3 : W ≤ 3) (ih : AT r n 0 τ → RDE r n τ L W s (x * 6 + w + 1) (x * 6 + w)) : AT r n 0 (ytP g0 x w τ) → RDE r n (ytP g0 x w τ) L W s (x * 6 + w + 1) (x * 6 + w + 1) := by
  intro h
  unfold ytP at h ⊢
  have hb := muchN_b g0 x w
  split at h
  · rename_i e
    rw [if_pos e]
    have e2 : τ ++ sL 12 ++ dcL x ++ sL 7 ++ dcL w ++ sL 7 ++ dcL (muchN g0 x w) ++ sL 7 ++ dcL (frI (scK g0 9 / 2 ^ (3 * w + x).toNat) 0 20) ++ sL 8 = τ ++ (sL 12 ++ dcL x ++ sL 7 ++ dcL w ++ sL 7 ++ dcL (muchN g0 x w) ++ sL 7 ++ dcL (frI (scK g0 9 / 2 ^ (3 * w + x).toNat) 0 20) ++ sL 8) := by simp only [List.append_assoc]
    have ⟨h1, h2⟩ := at0 h e2
    obtain ⟨d, hd, p1, p2, p3, p4⟩ := ih h1
    have hy := frI_b (v := scK g0 9 / 2 ^ (3 * w + x).toNat) (show (0 : Int) ≤ 20 by decide)
    obtain ⟨k1, hc⟩ := cl_P (pl := -1) (s := s) (d := d) h2 x0 (by omega) (by omega) w0 (by omega) (by omega) (by omega) (by omega) hy.1 (by omega) (by rw [show 58 + x * 6 + w = 58 + (x * 6 + w) by omega]; exact p4 _ (Int.le_refl _) (by omega)) (len_e _ _)
    rw [e2]
    refine ⟨_, hd.next (by simp only [List.length_append, sl_12]; omega) k1 hc, ((upd1_o (by omega)).trans (upd1_o (by omega))).trans p1, ((upd1_o (by omega)).trans (upd1_o (by omega))).trans p2, fun q a b => ?_, fun q a b => ?_⟩
    · exact ((upd1_o (by omega)).trans (upd1_o (by omega))).trans (p3 q a b)
    · exact ((upd1_o (by omega)).trans (upd1_o (by omega))).trans (p4 q (by omega) b)
  · rename_i e
    rw [if_neg e]
    exact (ih h).mo (Int.le_refl _) (by omega)
theorem pW {τ : List Int} {L W s x : Int} (x0 : 0 ≤ x) (x1 : x < L) (x3 : L ≤ 3) (w3 : W ≤ 3) (ih0 : AT r n 0 τ → RDE r n τ L W s (x * 6) (x * 6)) (y : Nat) (hy : y ≤ W) : AT r n 0 (txW g0 x τ y) → RDE r n (txW g0 x τ y) L W s (x * 6 + y) (x * 6 + y) := by
  induction y with
  | zero =>
    rw [show x * 6 + ((0 : Nat) : Int) = x * 6 by omega]
    exact ih0
  | succ y ih =>
    rw [txW, show x * 6 + ((y + 1 : Nat) : Int) = x * 6 + y + 1 by omega]
    exact pP x0 x1 x3 (by omega) (by omega) w3 (pH x0 x1 x3 (by omega) (by omega) w3 (ih (by omega)))
theorem pL {τ : List Int} {L s : Int} (x3 : L ≤ 3) (ih0 : AT r n 0 τ → RDE r n τ L (worksN g0) s 0 0) (x : Nat) (hx : x ≤ L) : AT r n 0 (txL g0 τ x) → RDE r n (txL g0 τ x) L (worksN g0) s (x * 6) (x * 6) := by
  have hW := worksN_b g0
  induction x with
  | zero => exact ih0
  | succ x ih =>
    intro h
    have z := pW (g0 := g0) (τ := txL g0 τ x) (L := L) (W := worksN g0) (s := s) (x := x) (by omega) (by omega) x3 hW.2 (ih (by omega)) (worksN g0).toNat (by omega) h
    exact z.mo (by omega) (by omega)
theorem AT.txt {τ : List Int} (h : ∀ j : Nat, j < τ.length → r j % 2 ^ 8 = τ.getD j 0) (hn : n = τ.length) : AT r n 0 τ := ⟨Int.le_refl _, by omega, fun j hj => by rw [Int.zero_add]; exact h j hj⟩
/-- the law's text is read without a fault, with its libraries and works -/
theorem txt_read {k : Nat} (h : ∀ j : Nat, j < (txt g0).length → r j % 2 ^ 8 = (txt g0).getD j 0) (hz : rdZ r (txt g0).length k) : (rdI r (txt g0).length k).2.2.2.2.2.1 = 0 ∧ (rdI r (txt g0).length k).1 121 = libsN g0 ∧ (rdI r (txt g0).length k).1 122 = worksN g0 := by
  have hL := libsN_b g0
  have hW := worksN_b g0
  have hA := AT.txt (n := (txt g0).length) h rfl
  have eL : ((libsN g0).toNat : Int) = libsN g0 := Int.toNat_of_nonneg (by omega)
  have eW : ((worksN g0).toNat : Int) = worksN g0 := Int.toNat_of_nonneg (by omega)
  have main : ∃ s, RDE r (txt g0).length (txt g0) (libsN g0) (worksN g0) s ((libsN g0).toNat * 6) ((libsN g0).toNat * 6) := by
    have hB : ∀ {n : Int}, AT r n 0 (ytB g0 (txA g0 (libsN g0).toNat)) → ∃ s, RDE r n (ytB g0 (txA g0 (libsN g0).toNat)) (libsN g0) 0 s 0 0 := fun {n} hb => pB (L := libsN g0) (fun z => by
      have y := pA (libsN g0).toNat (by omega) z
      rw [eL] at y
      exact y) hb
    have pre : AT r (txt g0).length 0 (ytB g0 (txA g0 (libsN g0).toNat)) → ∃ s, RDE r (txt g0).length (txt g0) (libsN g0) (worksN g0) s ((libsN g0).toNat * 6) ((libsN g0).toNat * 6) := fun hb => by
      obtain ⟨s, hs⟩ := hB hb
      refine ⟨s, pL hL.2 (fun z => ?_) (libsN g0).toNat (by omega) hA⟩
      have y := pC (g0 := g0) (fun _ => hs) (worksN g0).toNat (by omega) z
      rw [eW] at y
      exact y
    refine pre ?_
    have pW2 : ∀ (x : Int) (τ : List Int) (y : Nat), AT r (txt g0).length 0 (txW g0 x τ y) → AT r (txt g0).length 0 τ := fun x τ y => by
      induction y with
      | zero => exact id
      | succ y ih =>
        intro h
        rw [txW] at h
        refine ih ?_
        have hh : AT r (txt g0).length 0 (ytH g0 x y (txW g0 x τ y)) := by
          unfold ytP at h
          split at h
          · exact h.l.l.l.l.l.l.l.l.l
          · exact h
        unfold ytH at hh
        split at hh
        · exact hh.l.l.l.l.l.l.l
        · exact hh
    have pL2 : ∀ (τ : List Int) (x : Nat), AT r (txt g0).length 0 (txL g0 τ x) → AT r (txt g0).length 0 τ := fun τ x => by
      induction x with
      | zero => exact id
      | succ x ih => exact fun h => ih (pW2 _ _ _ h)
    have pC2 : ∀ (τ : List Int) (x : Nat), AT r (txt g0).length 0 (txC g0 τ x) → AT r (txt g0).length 0 τ := fun τ x => by
      induction x with
      | zero => exact id
      | succ x ih =>
        intro h
        rw [txC] at h
        unfold ytC at h
        exact ih h.l.l.l.l.l
    exact pC2 _ _ (pL2 _ _ hA)
  obtain ⟨s, d, hd, hp⟩ := main
  have z := hd.fin rfl hz
  rw [z.1]
  exact ⟨z.2, hp.1, hp.2.1⟩
end PTXT
