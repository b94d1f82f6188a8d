/-! HELP, as the model tells it, and as the class does -/
theorem RW.trb {M M' : Mem} {a b : Int} {c : Int → Int} {A : List Nat} {B : List (Nat × Int)} (h : RW M a c) (hF : Fr A B M M') (ht : ∀ j : Int, (j < b ∨ b + 114 ≤ j) → M' 58 j = M 58 j) (hab : a + 114 ≤ b ∨ b + 114 ≤ a) (e : troOK A B = true) : RW M' a c := by
  unfold troOK at e
  simp only [Bool.and_eq_true, Bool.not_eq_true'] at e
  obtain ⟨⟨e7, e9⟩, eB⟩ := e
  have nA : ∀ k : Nat, A.contains k = false → k ∉ A := fun k q z => by rw [List.contains_iff_mem.mpr z] at q; cases q
  have nB : ∀ (a : Nat) (j : Int), (!(a == 59) && !(a == 57 && (j == 5 || j == 6 || j == 14))) = false → (a, j) ∉ B := fun a j q z => by
    have := List.all_eq_true.mp eB _ z
    rw [q] at this
    cases this
  exact ms_fr (fun j j0 j1 => ht j (by omega)) (fun j => hF 59 j (nA _ e9) (nB _ _ rfl)) (hF 57 14 (nA _ e7) (nB _ _ rfl)) (hF 57 5 (nA _ e7) (nB _ _ rfl)) (hF 57 6 (nA _ e7) (nB _ _ rfl)) h
def G1 (c : Int → Int) (x t w : Int) : Prop := mayGive c x t w ∧ planI (insOf (mvR c x t w))
def rg3 (c : Int → Int) (x t w : Int) : Prop := (0 ≤ x ∧ x < c 121) ∧ (0 ≤ t ∧ t < c 121) ∧ 0 ≤ w ∧ w < c 122
def G2 (c : Int → Int) (x t w : Int) : Prop := mayGive c x t w ∧ ∃ x' t' w', rg3 c x' t' w' ∧ G1 (mvR c x t w) x' t' w'
def Gf (c : Int → Int) (f : Int) (x t w : Int) : Prop := if f = 0 then G1 c x t w else G2 c x t w
def HelpM (c : Int → Int) (f v : Int) : Prop := (planI (insOf c) ∧ v = if f = 0 then 0 else -1) ∨ (¬ planI (insOf c) ∧ ∃ v1, FstV (c 121) (c 122) (G1 c) v1 ∧
  ((v1 ≠ -1 ∧ v = if f = 0 then 1 else v1) ∨ (v1 = -1 ∧ ∃ v2, FstV (c 121) (c 122) (G2 c) v2 ∧ v = if f = 0 then (if v2 = -1 then -1 else 2) else v2)))
section GIVE
variable {d : Int → Int} {x t w : Int}
theorem mvH (hne : x ≠ t) {y u : Int} (w0 : 0 ≤ w) (w1 : w < 6) (u0 : 0 ≤ u) (u1 : u < 6) : mvR d x t w (28 + y * 6 + u) = d (28 + y * 6 + u) + (if y = t ∧ u = w then 1 else 0) - (if y = x ∧ u = w then 1 else 0) := by
  rw [mv_at]
  dsimp only
  by_cases a : y = t ∧ u = w
  · rw [if_pos (by omega), if_neg (by omega), if_pos a, if_neg (by omega), show 28 + (t * 6 + w) = 28 + y * 6 + u by omega]
    omega
  · rw [if_neg (by omega), if_neg a]
    by_cases b : y = x ∧ u = w
    · rw [if_pos (by omega), if_pos b, show 28 + (x * 6 + w) = 28 + y * 6 + u by omega]
      omega
    · rw [if_neg (by omega), if_neg b]
      omega
theorem mvO {k : Int} (hk : k < 28 ∨ 58 ≤ k) (x0 : 0 ≤ x) (x1 : x < 5) (t0 : 0 ≤ t) (t1 : t < 5) (w0 : 0 ≤ w) (w1 : w < 6) : mvR d x t w k = d k := by
  rw [mv_at]
  dsimp only
  rw [if_neg (by omega), if_neg (by omega)]
theorem gv_in (h : SP d) (hr : rg3 d x t w) (hne : x ≠ t) (y : Int) : inAll (mvR d x t w) y = inAll d y + (if y = t then 1 else 0) - (if y = x then 1 else 0) := by
  obtain ⟨⟨x0, x1⟩, ⟨t0, t1⟩, w0, w1⟩ := hr
  have a := h.1
  unfold inAll
  rw [mvO (by omega) x0 (by omega) t0 (by omega) w0 (by omega)]
  rw [sm_chg (f := fun u => d (28 + y * 6 + u)) (g := fun u => mvR d x t w (28 + y * 6 + u)) (a := w) (d := (if y = t then 1 else 0) - (if y = x then 1 else 0)) _ w0 (by omega) (fun k k0 k1 ne => by
    rw [mvH hne w0 (by omega) k0 (by omega), if_neg (fun z => ne z.2), if_neg (fun z => ne z.2)]; omega) (by
    rw [mvH hne w0 (by omega) w0 (by omega)]
    by_cases q : y = t
    · rw [if_pos ⟨q, rfl⟩, if_pos q, if_neg (fun z => hne (z.1.symm.trans q)), if_neg (fun z => hne (z.symm.trans q))]; omega
    · rw [if_neg (fun z => q z.1), if_neg q]
      by_cases p : y = x
      · rw [if_pos ⟨p, rfl⟩, if_pos p]; omega
      · rw [if_neg (fun z => p z.1), if_neg p]; omega)]
  omega
theorem gv_all (h : SP d) (hr : rg3 d x t w) (hne : x ≠ t) {u : Int} (u0 : 0 ≤ u) (u1 : u < 6) : allOf (mvR d x t w) u = allOf d u := by
  obtain ⟨⟨x0, x1⟩, ⟨t0, t1⟩, w0, w1⟩ := hr
  have a := h.1
  unfold allOf
  rw [mvO (k := 121) (by omega) x0 (by omega) t0 (by omega) w0 (by omega), mvO (k := 22 + u) (by omega) x0 (by omega) t0 (by omega) w0 (by omega)]
  congr 1
  by_cases q : u = w
  · have e1 := sm_chg (f := fun y => d (28 + y * 6 + u)) (g := fun y => d (28 + y * 6 + u) + (if y = t then 1 else 0)) (a := t) (d := 1) (d 121).toNat t0 (by omega) (fun k _ _ ne => by rw [if_neg ne]; omega) (by rw [if_pos rfl])
    have e2 := sm_chg (f := fun y => d (28 + y * 6 + u) + (if y = t then 1 else 0)) (g := fun y => mvR d x t w (28 + y * 6 + u)) (a := x) (d := -1) (d 121).toNat x0 (by omega) (fun k k0 k1 ne => by
      rw [mvH hne w0 (by omega) u0 u1, if_neg (show ¬ (k = x ∧ u = w) from fun z => ne z.1)]
      by_cases p : k = t
      · rw [if_pos ⟨p, q⟩, if_pos p]; omega
      · rw [if_neg (show ¬ (k = t ∧ u = w) from fun z => p z.1), if_neg p]; omega) (by
      rw [mvH hne w0 (by omega) u0 u1, if_neg (show ¬ (x = t ∧ u = w) from fun z => hne z.1), if_pos ⟨rfl, q⟩, if_neg hne]; omega)
    omega
  · exact sm_congr _ (fun k _ _ => by rw [mvH hne w0 (by omega) u0 u1, if_neg (fun z => q z.2), if_neg (fun z => q z.2)]; omega)
theorem gv_off (h : SP d) (hr : rg3 d x t w) (hne : x ≠ t) (ho : 0 < offr d x w) {y u : Int} (y0 : 0 ≤ y) (y1 : y < 5) (u0 : 0 ≤ u) (u1 : u < 6) : (u ≠ w → offr (mvR d x t w) y u = offr d y u) ∧ (y ≠ x → y ≠ t → offr (mvR d x t w) y u = offr d y u) ∧ offr (mvR d x t w) x w = offr d x w - 1 ∧ (offr (mvR d x t w) t w = offr d t w ∨ offr (mvR d x t w) t w = offr d t w + 1) := by
  obtain ⟨⟨x0, x1⟩, ⟨t0, t1⟩, w0, w1⟩ := hr
  have a := h.1
  have o : ∀ k, (k < 28 ∨ 58 ≤ k) → mvR d x t w k = d k := fun k hk => mvO hk x0 (by omega) t0 (by omega) w0 (by omega)
  have e : ∀ y u, 0 ≤ y → y < 5 → 0 ≤ u → u < 6 → offr (mvR d x t w) y u = max 0 (d (28 + y * 6 + u) + (if y = t ∧ u = w then 1 else 0) - (if y = x ∧ u = w then 1 else 0) - (if 0 < d (58 + y * 6 + u) ∧ d 118 ≤ d (88 + y * 6 + u) then d (58 + y * 6 + u) else 0)) := fun y u a b c f => by
    unfold offr
    rw [mvH hne w0 (by omega) c f, o (58 + y * 6 + u) (by omega), o (88 + y * 6 + u) (by omega), o 118 (by omega)]
  have f : ∀ y u, offr d y u = max 0 (d (28 + y * 6 + u) - (if 0 < d (58 + y * 6 + u) ∧ d 118 ≤ d (88 + y * 6 + u) then d (58 + y * 6 + u) else 0)) := fun _ _ => rfl
  refine ⟨fun q => ?_, fun q p => ?_, ?_, ?_⟩
  · rw [e y u y0 y1 u0 u1, f, if_neg (fun z => q z.2), if_neg (fun z => q z.2)]; omega
  · rw [e y u y0 y1 u0 u1, f, if_neg (fun z => p z.1), if_neg (fun z => q z.1)]; omega
  · rw [f] at ho
    rw [e x w x0 (by omega) w0 (by omega), f, if_neg (fun z => hne z.1), if_pos ⟨rfl, rfl⟩]; omega
  · rw [e t w t0 (by omega) w0 (by omega), f, if_pos ⟨rfl, rfl⟩, if_neg (fun z => hne z.1.symm)]; omega
theorem gv_lack (h : SP d) (hr : rg3 d x t w) (hg : mayGive d x t w) {s : Int} (s0 : 0 ≤ s) (s1 : s < 2 ^ (d 121).toNat) : lackI (insOf (mvR d x t w)) s ≤ ltI (insOf d) x w s ∧ (btI s t = 0 → lackI (insOf (mvR d x t w)) s = ltI (insOf d) x w s) ∧ lackI (insOf d) s - 1 ≤ lackI (insOf (mvR d x t w)) s := by
  have hr0 := hr
  obtain ⟨hne, ho, ht3, hroom⟩ := hg
  obtain ⟨⟨x0, x1⟩, ⟨t0, t1⟩, w0, w1⟩ := hr
  have a := h.1
  have hI := h.I
  have o : ∀ k, (k < 28 ∨ 58 ≤ k) → mvR d x t w k = d k := fun k hk => mvO hk x0 (by omega) t0 (by omega) w0 (by omega)
  have eL : mvR d x t w 121 = d 121 := o _ (by omega)
  have eW : mvR d x t w 122 = d 122 := o _ (by omega)
  have en : ∀ y, 0 ≤ y → y < 5 → nee (mvR d x t w) y = nee d y - (if y = x then (if 0 < nee d x then 1 else 0) else 0) := fun y y0 y1 => by
    unfold nee
    rw [gv_in h hr0 hne, o y (by omega)]
    by_cases q : y = x
    · rw [if_pos q, if_pos q, if_neg (fun z => hne (q.symm.trans z)), q]
      split <;> omega
    · rw [if_neg q, if_neg q]
      by_cases p : y = t
      · rw [if_pos p, p]; omega
      · rw [if_neg p]; omega
  have N : ss (nee (mvR d x t w)) s = ss (nee d) s - btI s x * (if 0 < nee d x then 1 else 0) := by
    rw [ss_L a.1.1 a.1.2 s0 s1, ss_L a.1.1 a.1.2 s0 s1]
    have := sm_chg (f := fun y => s / 2 ^ y.toNat % 2 * nee d y) (g := fun y => s / 2 ^ y.toNat % 2 * nee (mvR d x t w) y) (a := x) (d := - (btI s x * (if 0 < nee d x then 1 else 0))) (d 121).toNat x0 (by omega) (fun k k0 k1 ne => by rw [en k k0 (by omega), if_neg ne]; simp) (by
      rw [en x x0 (by omega), if_pos rfl, Int.mul_sub]; unfold btI; omega)
    omega
  obtain ⟨δ, hδ, O⟩ : ∃ δ, (δ = 0 ∨ δ = 1) ∧ ss (fun y => offr (mvR d x t w) y w) s = ss (fun y => offr d y w) s - btI s x + btI s t * δ := by
    have g := gv_off h hr0 hne ho (y := t) (u := w) t0 (by omega) w0 (by omega)
    refine ⟨offr (mvR d x t w) t w - offr d t w, by have := g.2.2.2; omega, ?_⟩
    rw [ss_L a.1.1 a.1.2 s0 s1, ss_L a.1.1 a.1.2 s0 s1]
    have e1 := sm_chg (f := fun y => s / 2 ^ y.toNat % 2 * offr d y w) (g := fun y => s / 2 ^ y.toNat % 2 * (if y = x then offr d x w - 1 else offr d y w)) (a := x) (d := - btI s x) (d 121).toNat x0 (by omega) (fun k _ _ ne => by rw [if_neg ne]) (by
      rw [if_pos rfl, Int.mul_sub, Int.mul_one]; unfold btI; omega)
    have e2 := sm_chg (f := fun y => s / 2 ^ y.toNat % 2 * (if y = x then offr d x w - 1 else offr d y w)) (g := fun y => s / 2 ^ y.toNat % 2 * offr (mvR d x t w) y w) (a := t) (d := btI s t * (offr (mvR d x t w) t w - offr d t w)) (d 121).toNat t0 (by omega) (fun k k0 k1 ne => by
      by_cases q : k = x
      · rw [if_pos q, q, g.2.2.1]
      · rw [if_neg q, (gv_off h hr0 hne ho k0 (by omega) w0 (by omega)).2.1 q ne]) (by
      rw [if_neg (Ne.symm hne), Int.mul_sub]; unfold btI; omega)
    omega
  have K : ∀ u, 0 ≤ u → u < d 122 → spr (mvR d x t w) u = spr d u := fun u u0 u1 => by
    unfold spr
    rw [gv_all h hr0 hne u0 (by omega), o (16 + u) (by omega)]
  have Cn : canI (insOf (mvR d x t w)) s = canI (insOf d) s + (min (ss (fun y => offr (mvR d x t w) y w) s) (spr d w) - canw (insOf d) w s) := by
    unfold canI
    have eW2 : iW (insOf (mvR d x t w)) = iW (insOf d) := eW
    rw [eW2]
    refine sm_chg _ w0 (show w < ((d 122).toNat : Int) by omega) (fun k k0 k1 ne => ?_) ?_
    · have k1 : k < d 122 := by have : k < ((d 122).toNat : Int) := k1; omega
      show min (ss (fun y => offr (mvR d x t w) y k) s) (spr (mvR d x t w) k) = min (ss (fun y => offr d y k) s) (spr d k)
      rw [K k k0 k1, ss_congr a.1.1 a.1.2 s0 s1 (fun y y0 y1 => (gv_off h hr0 hne ho y0 (by omega) k0 (by omega)).1 ne)]
    · show min (ss (fun y => offr (mvR d x t w) y w) s) (spr (mvR d x t w) w) = _
      rw [K w w0 w1]
      omega
  have hc : canw (insOf d) w s = min (ss (fun y => offr d y w) s) (spr d w) := rfl
  have hl : ltI (insOf d) x w s = lackI (insOf d) s - btI s x * (if 0 < nee d x then 1 else 0) + canw (insOf d) w s - min (ss (fun y => offr d y w) s - btI s x) (spr d w) := rfl
  have l1 : lackI (insOf (mvR d x t w)) s = ss (nee (mvR d x t w)) s - canI (insOf (mvR d x t w)) s := rfl
  have l0 : lackI (insOf d) s = ss (nee d) s - canI (insOf d) s := rfl
  rw [l1, N, Cn, O, hl, l0, hc]
  have bx := btI_01 s x
  have bt := btI_01 s t
  have hz : btI s x * (if 0 < nee d x then (1 : Int) else 0) = 0 ∨ (btI s x = 1 ∧ btI s x * (if 0 < nee d x then (1 : Int) else 0) = 1) := by
    rcases bx with q | q <;> rw [q] <;> split <;> simp
  have hd : btI s t * δ = 0 ∨ (btI s t = 1 ∧ btI s t * δ = 1) := by
    rcases bt with q | q <;> rcases hδ with p | p <;> rw [q, p] <;> simp
  refine ⟨by omega, fun q => ?_, by omega⟩
  have : btI s t * δ = 0 := by rw [q, Int.zero_mul]
  omega
/-- a copy given helps just if no set lacks then -/
theorem end_pl (h : SP d) (hr : rg3 d x t w) (hg : mayGive d x t w) : endP (insOf d) x w ↔ planI (insOf (mvR d x t w)) := by
  have hr0 := hr
  have a := h.1
  have hI := h.I
  have eL : iL (insOf (mvR d x t w)) = d 121 := by
    obtain ⟨⟨x0, x1⟩, ⟨t0, t1⟩, w0, w1⟩ := hr
    exact mvO (by omega) x0 (by omega) t0 (by omega) w0 (by omega)
  constructor
  · intro e s s0 s1
    rw [eL] at s1
    have := e s s0 s1
    have := (gv_lack h hr0 hg s0 s1).1
    omega
  · intro p s s0 s1
    have s1 : s < 2 ^ (d 121).toNat := s1
    obtain ⟨⟨x0, x1⟩, ⟨t0, t1⟩, w0, w1⟩ := hr
    obtain ⟨hne, ho, ht3, hroom⟩ := hg
    have hg : mayGive d x t w := ⟨hne, ho, ht3, hroom⟩
    by_cases q : btI s t = 0
    · rw [← (gv_lack h hr0 hg s0 s1).2.1 q]
      exact p s s0 (by rw [eL]; exact s1)
    · have hb := bits_bd (fun y => y ≠ t ∧ s / 2 ^ y.toNat % 2 = 1) (d 121).toNat
      generalize hu : bits (d 121).toNat (fun y => y ≠ t ∧ s / 2 ^ y.toNat % 2 = 1) = u at hb
      have bt : ∀ y : Int, 0 ≤ y → y < d 121 → u / 2 ^ y.toNat % 2 = if y = t then 0 else s / 2 ^ y.toNat % 2 := by
        intro y y0 y1
        rw [← hu, bits_at _ _ _ (by omega), Int.toNat_of_nonneg y0]
        by_cases z : y = t
        · rw [if_pos z]; exact bP_neg (fun v => v.1 z)
        · rw [if_neg z]
          rcases bt_01 s y.toNat with v | v
          · rw [v]; exact bP_neg (fun w => by have := w.2; omega)
          · rw [v]; exact bP_pos ⟨z, rfl⟩
      have ut : btI u t = 0 := by unfold btI; rw [bt t t0 t1, if_pos rfl]
      have ux : btI u x = btI s x := by unfold btI; rw [bt x x0 x1, if_neg hne]
      have e1 := (gv_lack h hr0 hg hb.1 hb.2).2.1 ut
      have e2 := p u hb.1 (by rw [eL]; exact hb.2)
      rw [e1] at e2
      have n0 : nee d t = 0 := by unfold nee; omega
      have N : ss (nee d) u = ss (nee d) s := by
        rw [ss_L a.1.1 a.1.2 hb.1 hb.2, ss_L a.1.1 a.1.2 s0 s1]
        refine sm_congr _ (fun y y0 y1 => ?_)
        rw [bt y y0 (by omega)]
        by_cases z : y = t
        · rw [if_pos z, z, n0]; simp
        · rw [if_neg z]
      have O : ∀ v, 0 ≤ v → v < d 122 → ss (fun y => offr d y v) u ≤ ss (fun y => offr d y v) s := fun v v0 v1 => by
        rw [ss_L a.1.1 a.1.2 hb.1 hb.2, ss_L a.1.1 a.1.2 s0 s1]
        refine sm_le _ (fun y y0 y1 => ?_)
        have := h.off y0 (show y < 5 by omega) v0 (show v < 6 by omega)
        rw [bt y y0 (by omega)]
        by_cases z : y = t
        · rw [if_pos z]
          rcases bt_01 s y.toNat with r | r <;> rw [r] <;> omega
        · rw [if_neg z]
          exact Int.le_refl _
      have Cn : canI (insOf d) u - canw (insOf d) w u ≤ canI (insOf d) s - canw (insOf d) w s := by
        have s1' := sm_split (fun v => canw (insOf d) v u) (fun v => if v = w then 1 else 0) (d 122).toNat
        have s2' := sm_split (fun v => canw (insOf d) v s) (fun v => if v = w then 1 else 0) (d 122).toNat
        have f1 := sm_one (f := fun v => (if v = w then 1 else 0) * canw (insOf d) v u) (i := w) (d 122).toNat w0 (by omega) (fun k _ _ ne => by rw [if_neg ne]; simp)
        have f2 := sm_one (f := fun v => (if v = w then 1 else 0) * canw (insOf d) v s) (i := w) (d 122).toNat w0 (by omega) (fun k _ _ ne => by rw [if_neg ne]; simp)
        rw [if_pos rfl, Int.one_mul] at f1 f2
        have le : sm (d 122).toNat (fun v => (1 - if v = w then 1 else 0) * canw (insOf d) v u) ≤ sm (d 122).toNat (fun v => (1 - if v = w then 1 else 0) * canw (insOf d) v s) := by
          refine sm_le _ (fun v v0 v1 => ?_)
          have := O v v0 (by omega)
          have c : canw (insOf d) v u ≤ canw (insOf d) v s := by
            show min (ss (fun y => offr d y v) u) (spr d v) ≤ min (ss (fun y => offr d y v) s) (spr d v)
            omega
          split <;> omega
        have g1 : canI (insOf d) u = sm (d 122).toNat (fun v => canw (insOf d) v u) := rfl
        have g2 : canI (insOf d) s = sm (d 122).toNat (fun v => canw (insOf d) v s) := rfl
        omega
      have Ow := O w w0 w1
      have h1 : ltI (insOf d) x w u = (ss (nee d) u - canI (insOf d) u) - btI u x * (if 0 < nee d x then 1 else 0) + canw (insOf d) w u - min (ss (fun y => offr d y w) u - btI u x) (spr d w) := rfl
      have h2 : ltI (insOf d) x w s = (ss (nee d) s - canI (insOf d) s) - btI s x * (if 0 < nee d x then 1 else 0) + canw (insOf d) w s - min (ss (fun y => offr d y w) s - btI s x) (spr d w) := rfl
      rw [h2]
      rw [h1, ux, N] at e2
      omega
theorem gv_w (h : SP d) (hr : rg3 d x t w) (hg : mayGive d x t w) : SP (mvR d x t w) ∧ lackI (insOf d) (worst (insOf d)) - 1 ≤ lackI (insOf (mvR d x t w)) (worst (insOf (mvR d x t w))) ∧ mvR d x t w 121 = d 121 ∧ mvR d x t w 122 = d 122 := by
  have hr0 := hr
  have a := h.1
  obtain ⟨⟨x0, x1⟩, ⟨t0, t1⟩, w0, w1⟩ := hr
  have bo := h.off x0 (show x < 5 by omega) w0 (show w < 6 by omega)
  have h2 := h.mv x0 (by omega) t0 (by omega) w0 (by omega) hg.1 (by have := hg.2.1; omega) hg.2.2.1
  have eL : mvR d x t w 121 = d 121 := mvO (by omega) x0 (by omega) t0 (by omega) w0 (by omega)
  have eW : mvR d x t w 122 = d 122 := mvO (by omega) x0 (by omega) t0 (by omega) w0 (by omega)
  refine ⟨h2, ?_, eL, eW⟩
  have wb := h.I.wb
  have g := (gv_lack h hr0 hg wb.1 wb.2).2.2
  have m := wsF_m h2.I (fullS (insOf (mvR d x t w))).toNat (worst (insOf d)) wb.1 (by
    have hf := h2.I.fs
    rw [hf.2.2]
    unfold fullS
    have e : iL (insOf (mvR d x t w)) = iL (insOf d) := eL
    rw [e]
    omega)
  rw [wsF_2 h2.I] at m
  have e : (wsF (insOf (mvR d x t w)) (fullS (insOf (mvR d x t w))).toNat).1 = worst (insOf (mvR d x t w)) := rfl
  rw [e] at m
  omega
theorem lk_ge {I : Ins} (h : IB I) : 0 ≤ lackI I (worst I) := by
  have m := wsF_m h (fullS I).toNat 0 (Int.le_refl _) (by omega)
  rw [wsF_2 h, lack0 h] at m
  exact m
theorem G1_P1 (h : SP d) (hr : rg3 d x t w) : G1 d x t w ↔ P1 d x t w :=
  ⟨fun z => ⟨z.1, (end_pl h hr z.1).mpr z.2⟩, fun z => ⟨z.1, (end_pl h hr z.1).mp z.2⟩⟩
theorem G1_no (h : SP d) (hr : rg3 d x t w) (hl : 2 ≤ lackI (insOf d) (worst (insOf d))) : ¬ G1 d x t w := fun z => by
  have g := gv_w h hr z.1
  have := (g.1.I.wp).mpr z.2
  omega
theorem G2_P2 (h : SP d) (hr : rg3 d x t w) : G2 d x t w ↔ P2 d x t w := by
  constructor
  · rintro ⟨hg, x', t', w', hr', g1⟩
    have g := gv_w h hr hg
    have hr2 : rg3 (mvR d x t w) x' t' w' := by unfold rg3; rw [g.2.2.1, g.2.2.2]; exact hr'
    refine ⟨hg, ?_, fun z => ?_⟩
    · refine Classical.byContradiction (fun z => ?_)
      exact G1_no g.1 hr2 (by omega) g1
    · exact FstV_n z rfl x' t' w' hr'.1.1 hr'.1.2 hr'.2.1.1 hr'.2.1.2 hr'.2.2.1 hr'.2.2.2 ((G1_P1 g.1 hr2).mp g1)
  · rintro ⟨hg, hl, hn⟩
    have g := gv_w h hr hg
    refine ⟨hg, Classical.byContradiction (fun z => hn (.inl ⟨rfl, fun x' t' w' a1 a2 a3 a4 a5 a6 p => z ⟨x', t', w', ⟨⟨a1, a2⟩, ⟨a3, a4⟩, a5, a6⟩, ?_⟩⟩))⟩
    exact (G1_P1 g.1 (by unfold rg3; rw [g.2.2.1, g.2.2.2]; exact ⟨⟨a1, a2⟩, ⟨a3, a4⟩, a5, a6⟩)).mpr p
theorem G2_no (h : SP d) (hr : rg3 d x t w) (hl : 3 ≤ lackI (insOf d) (worst (insOf d))) : ¬ G2 d x t w := fun z => by
  have p := (G2_P2 h hr).mp z
  have g := gv_w h hr z.1
  have := p.2.1
  omega
end GIVE
theorem FstV_c {L W v : Int} {P Q : Int → Int → Int → Prop} (h : ∀ x t w, 0 ≤ x → x < L → 0 ≤ t → t < L → 0 ≤ w → w < W → (P x t w ↔ Q x t w)) (g : FstV L W P v) : FstV L W Q v := by
  rcases g with ⟨e, n⟩ | ⟨x, t, w, hr, p, e, n⟩
  · exact .inl ⟨e, fun x t w a b c d f i q => n x t w a b c d f i ((h x t w a b c d f i).mpr q)⟩
  · exact .inr ⟨x, t, w, hr, (h x t w hr.1 hr.2.1 hr.2.2.1 hr.2.2.2.1 hr.2.2.2.2.1 hr.2.2.2.2.2).mp p, e, fun x t w a b c d f i j q => n x t w a b c d f i j ((h x t w a b c d f i).mpr q)⟩
theorem FstV_u {L W v u : Int} {P : Int → Int → Int → Prop} (g : FstV L W P v) (g' : FstV L W P u) : v = u := by
  rcases g with ⟨e, n⟩ | ⟨x, t, w, hr, p, e, n⟩
  · rcases g' with ⟨e', _⟩ | ⟨x', t', w', hr', p', e', _⟩
    · omega
    · exact absurd p' (n x' t' w' hr'.1 hr'.2.1 hr'.2.2.1 hr'.2.2.2.1 hr'.2.2.2.2.1 hr'.2.2.2.2.2)
  · rcases g' with ⟨e', n'⟩ | ⟨x', t', w', hr', p', e', n'⟩
    · exact absurd p (n' x t w hr.1 hr.2.1 hr.2.2.1 hr.2.2.2.1 hr.2.2.2.2.1 hr.2.2.2.2.2)
    · by_cases a : v < u
      · exact absurd p (n' x t w hr.1 hr.2.1 hr.2.2.1 hr.2.2.2.1 hr.2.2.2.2.1 hr.2.2.2.2.2 (by omega))
      · by_cases b : u < v
        · exact absurd p' (n x' t' w' hr'.1 hr'.2.1 hr'.2.2.1 hr'.2.2.2.1 hr'.2.2.2.2.1 hr'.2.2.2.2.2 (by omega))
        · omega
theorem FstV_o {L W : Int} {P : Int → Int → Int → Prop} (h : ∀ x t w, 0 ≤ x → x < L → 0 ≤ t → t < L → 0 ≤ w → w < W → ¬ P x t w) : FstV L W P (-1) := .inl ⟨rfl, h⟩
/-- HELP: both tell the same -/
theorem help_eq {d : Int → Int} (h : SP d) {fw fs f v : Int} (hc : HelpC d fw fs) (hm : HelpM d f v) : v = if f = 0 then fw else fs := by
  have ge := lk_ge h.I
  have wp := h.I.wp
  have e1 : ∀ x t w, 0 ≤ x → x < d 121 → 0 ≤ t → t < d 121 → 0 ≤ w → w < d 122 → (P1 d x t w ↔ G1 d x t w) := fun x t w a b c e f g => (G1_P1 h ⟨⟨a, b⟩, ⟨c, e⟩, f, g⟩).symm
  have e2 : ∀ x t w, 0 ≤ x → x < d 121 → 0 ≤ t → t < d 121 → 0 ≤ w → w < d 122 → (P2 d x t w ↔ G2 d x t w) := fun x t w a b c e f g => (G2_P2 h ⟨⟨a, b⟩, ⟨c, e⟩, f, g⟩).symm
  rcases hm with ⟨hp, rfl⟩ | ⟨hp, v1, f1, hv⟩
  · rcases hc with ⟨_, rfl, rfl⟩ | ⟨z, _⟩ | ⟨z, _⟩
    · rfl
    · exact absurd (wp.mpr hp) z
    · exact absurd (wp.mpr hp) z
  · have hz : lackI (insOf d) (worst (insOf d)) ≠ 0 := fun z => hp (wp.mp z)
    have n1 : 2 ≤ lackI (insOf d) (worst (insOf d)) → v1 = -1 := fun z => FstV_u f1 (FstV_o (fun x t w a b c e f g => G1_no h ⟨⟨a, b⟩, ⟨c, e⟩, f, g⟩ z))
    rcases hc with ⟨z, _⟩ | ⟨_, l3, rfl, rfl⟩ | ⟨_, l2, u1, hu, hw⟩
    · exact absurd z hz
    · have q := n1 (by omega)
      rcases hv with ⟨z, _⟩ | ⟨_, v2, f2, rfl⟩
      · exact absurd q z
      · have : v2 = -1 := FstV_u f2 (FstV_o (fun x t w a b c e f g => G2_no h ⟨⟨a, b⟩, ⟨c, e⟩, f, g⟩ (by omega)))
        rw [this]; rfl
    · have eu : u1 = v1 := by
        rcases hu with ⟨_, g⟩ | ⟨z, e⟩
        · exact FstV_u (FstV_c e1 g) f1
        · rw [e, n1 (by omega)]
      subst eu
      rcases hv with ⟨z, rfl⟩ | ⟨z, v2, f2, rfl⟩
      · rcases hw with ⟨_, rfl, rfl⟩ | ⟨y, _⟩
        · rfl
        · exact absurd y z
      · rcases hw with ⟨y, _⟩ | ⟨_, g, rfl⟩
        · exact absurd z y
        · rw [FstV_u (FstV_c e2 g) f2]

theorem dX12_canGive_0 : decode cX12_canGive 0 = .ok (.iload_n 2, 1) := by decide +kernel
theorem dX12_canGive_1 : decode cX12_canGive 1 = .ok (.iload_n 3, 1) := by decide +kernel
theorem dX12_canGive_2 : decode cX12_canGive 2 = .ok (.if_icmp .eq 49, 3) := by decide +kernel
theorem dX12_canGive_5 : decode cX12_canGive 5 = .ok (.aload_n 0, 1) := by decide +kernel
theorem dX12_canGive_6 : decode cX12_canGive 6 = .ok (.iload_n 1, 1) := by decide +kernel
theorem dX12_canGive_7 : decode cX12_canGive 7 = .ok (.iload_n 2, 1) := by decide +kernel
theorem dX12_canGive_8 : decode cX12_canGive 8 = .ok (.iload 4, 2) := by decide +kernel
theorem dX12_canGive_10 : decode cX12_canGive 10 = .ok (.invokevirtual 117, 3) := by decide +kernel
theorem dX12_canGive_13 : decode cX12_canGive 13 = .ok (.ifCond .le 38, 3) := by decide +kernel
theorem dX12_canGive_16 : decode cX12_canGive 16 = .ok (.aload_n 0, 1) := by decide +kernel
theorem dX12_canGive_17 : decode cX12_canGive 17 = .ok (.iload_n 1, 1) := by decide +kernel
theorem dX12_canGive_18 : decode cX12_canGive 18 = .ok (.iload_n 3, 1) := by decide +kernel
theorem dX12_canGive_19 : decode cX12_canGive 19 = .ok (.iload 4, 2) := by decide +kernel
theorem dX12_canGive_21 : decode cX12_canGive 21 = .ok (.invokevirtual 95, 3) := by decide +kernel
theorem dX12_canGive_24 : decode cX12_canGive 24 = .ok (.iconst 3, 1) := by decide +kernel
theorem dX12_canGive_25 : decode cX12_canGive 25 = .ok (.if_icmp .ge 26, 3) := by decide +kernel
theorem dX12_canGive_28 : decode cX12_canGive 28 = .ok (.aload_n 0, 1) := by decide +kernel
theorem dX12_canGive_29 : decode cX12_canGive 29 = .ok (.iload_n 1, 1) := by decide +kernel
theorem dX12_canGive_30 : decode cX12_canGive 30 = .ok (.iload_n 3, 1) := by decide +kernel
theorem dX12_canGive_31 : decode cX12_canGive 31 = .ok (.invokevirtual 111, 3) := by decide +kernel
theorem dX12_canGive_34 : decode cX12_canGive 34 = .ok (.aload_n 0, 1) := by decide +kernel
theorem dX12_canGive_35 : decode cX12_canGive 35 = .ok (.getfield 9, 3) := by decide +kernel
theorem dX12_canGive_38 : decode cX12_canGive 38 = .ok (.iload_n 1, 1) := by decide +kernel
theorem dX12_canGive_39 : decode cX12_canGive 39 = .ok (.iconst 0, 1) := by decide +kernel
theorem dX12_canGive_40 : decode cX12_canGive 40 = .ok (.iadd, 1) := by decide +kernel
theorem dX12_canGive_41 : decode cX12_canGive 41 = .ok (.iload_n 3, 1) := by decide +kernel
theorem dX12_canGive_42 : decode cX12_canGive 42 = .ok (.iadd, 1) := by decide +kernel
theorem dX12_canGive_43 : decode cX12_canGive 43 = .ok (.iaload, 1) := by decide +kernel
theorem dX12_canGive_44 : decode cX12_canGive 44 = .ok (.if_icmp .ge 7, 3) := by decide +kernel
theorem dX12_canGive_47 : decode cX12_canGive 47 = .ok (.iconst 1, 1) := by decide +kernel
theorem dX12_canGive_48 : decode cX12_canGive 48 = .ok (.goto 4, 3) := by decide +kernel
theorem dX12_canGive_51 : decode cX12_canGive 51 = .ok (.iconst 0, 1) := by decide +kernel
theorem dX12_canGive_52 : decode cX12_canGive 52 = .ok (.ireturn, 1) := by decide +kernel
set_option maxHeartbeats 400000 in
theorem c12_canGive {G : Gl} {l : Launch}  {M : Mem} {b : Int} {c : Int → Int} {x t w : Int} (hG : GR M) (hK : RW M b c) (hb0 : 0 ≤ b) (hb1 : b ≤ 9686) (hM : SM c) (hx0 : 0 ≤ x) (hx1 : x < 5) (ht0 : 0 ≤ t) (ht1 : t < 5) (hw0 : 0 ≤ w) (hw1 : w < 6) : Ct G LY 82 l 3 m12_canGive [vR 57, vI b, vI x, vI t, vI w] M (Ret (vI (bP (mayGive c x t w))) M) := by
  refine R_start (by decide +kernel) (Nat.le_of_ble_eq_true rfl) (fun C hC hRm hlau => ?_)
  show RZ G LY C (Zn G LY 82 C (Ret (vI (bP (mayGive c x t w))) M)) 0 0 82 0 [some (vR 57), some (vI b), some (vI x), some (vI t), some (vI w)] [] M
  refine R_iload_2 hC dX12_canGive_0 ?_
  refine R_iload_3 hC dX12_canGive_1 ?_
  refine R_icmp_eq hC dX12_canGive_2 (tgt := 51) (by decide) (fun hb2 => ?_) (fun hb2 => ?_)
  · skip
    refine R_iconst hC dX12_canGive_51 ⟨by decide, by decide⟩ ?_
    exact R_zreturn hC dX12_canGive_52 rfl (.inl rfl) (ret_f (by unfold mayGive; omega))
  · skip
    refine R_aload_0 hC dX12_canGive_5 ?_
    refine R_iload_1 hC dX12_canGive_6 ?_
    refine R_iload_2 hC dX12_canGive_7 ?_
    refine R_iload_4 hC dX12_canGive_8 ?_
    refine R_callVq (as := [vI _, vI _, vI _]) hC dX12_canGive_10 mo_12_offerOf ml_12_117 (by decide) rfl rfl (c12_offerOf  hG hK (by omega) (by omega) (by omega) (by omega) (by omega) (by omega) hM) rfl rfl hRm (by decide) (by decide) (Nat.le_of_ble_eq_true rfl) ?_
    have e10_1 := (hM).off (x := x) (w := w) (by omega) (by omega) (by omega) (by omega)
    refine R_if_le hC dX12_canGive_13 (tgt := 51) (by decide) (fun hb13 => ?_) (fun hb13 => ?_)
    · skip
      refine R_iconst hC dX12_canGive_51 ⟨by decide, by decide⟩ ?_
      exact R_zreturn hC dX12_canGive_52 rfl (.inl rfl) (ret_f (by unfold mayGive; omega))
    · skip
      refine R_aload_0 hC dX12_canGive_16 ?_
      refine R_iload_1 hC dX12_canGive_17 ?_
      refine R_iload_3 hC dX12_canGive_18 ?_
      refine R_iload_4 hC dX12_canGive_19 ?_
      refine R_callVq (as := [vI _, vI _, vI _]) hC dX12_canGive_21 mo_12_holds ml_12_95 (by decide) rfl rfl (c12_holds  hG hK (by omega) (by omega) (by omega) (by omega) (by omega) (by omega)) rfl rfl hRm (by decide) (by decide) (Nat.le_of_ble_eq_true rfl) ?_
      refine R_iconst hC dX12_canGive_24 ⟨by decide, by decide⟩ ?_
      refine R_icmp_ge hC dX12_canGive_25 (tgt := 51) (by decide) (fun hb25 => ?_) (fun hb25 => ?_)
      · skip
        refine R_iconst hC dX12_canGive_51 ⟨by decide, by decide⟩ ?_
        exact R_zreturn hC dX12_canGive_52 rfl (.inl rfl) (ret_f (by unfold mayGive; omega))
      · skip
        refine R_aload_0 hC dX12_canGive_28 ?_
        refine R_iload_1 hC dX12_canGive_29 ?_
        refine R_iload_3 hC dX12_canGive_30 ?_
        refine R_callVq (as := [vI _, vI _]) hC dX12_canGive_31 mo_12_inAll ml_12_111 (by decide) rfl rfl (c12_inAll  hG hK (by omega) (by omega) (by omega) (by omega) hM) rfl rfl hRm (by decide) (by decide) (Nat.le_of_ble_eq_true rfl) ?_
        refine R_aload_0 hC dX12_canGive_34 ?_
        refine R_getR hC dX12_canGive_35 fl_12_9 (by decide) rfl (by decide) (by decide) (fi := 0) rfl (r := 58) (gr_57_0 hG) ?_
        refine R_iload_1 hC dX12_canGive_38 ?_
        refine R_iconst hC dX12_canGive_39 ⟨by decide, by decide⟩ ?_
        refine R_iadd hC dX12_canGive_40 ⟨by omega, by omega⟩ ?_
        refine R_iload_3 hC dX12_canGive_41 ?_
        refine R_iadd hC dX12_canGive_42 ⟨by omega, by omega⟩ ?_
        refine R_ialoadE hC dX12_canGive_43 (by decide) rfl (by omega) (by omega) (hK.r1 (k := t) (by omega) (by omega) (by omega)) ?_
        refine R_icmp_ge hC dX12_canGive_44 (tgt := 51) (by decide) (fun hb44 => ?_) (fun hb44 => ?_)
        · skip
          refine R_iconst hC dX12_canGive_51 ⟨by decide, by decide⟩ ?_
          exact R_zreturn hC dX12_canGive_52 rfl (.inl rfl) (ret_f (by unfold mayGive; omega))
        · skip
          refine R_iconst hC dX12_canGive_47 ⟨by decide, by decide⟩ ?_
          refine R_goto hC dX12_canGive_48 (tgt := 52) (by decide) ?_
          exact R_zreturn hC dX12_canGive_52 rfl (.inr rfl) (ret_t (by unfold mayGive; omega))
theorem dX12_gives_0 : decode cX12_gives 0 = .ok (.aload_n 0, 1) := by decide +kernel
theorem dX12_gives_1 : decode cX12_gives 1 = .ok (.getfield 9, 3) := by decide +kernel
theorem dX12_gives_4 : decode cX12_gives 4 = .ok (.iload_n 1, 1) := by decide +kernel
theorem dX12_gives_5 : decode cX12_gives 5 = .ok (.bipush 10, 2) := by decide +kernel
theorem dX12_gives_7 : decode cX12_gives 7 = .ok (.iadd, 1) := by decide +kernel
theorem dX12_gives_8 : decode cX12_gives 8 = .ok (.iload_n 2, 1) := by decide +kernel
theorem dX12_gives_9 : decode cX12_gives 9 = .ok (.iload 4, 2) := by decide +kernel
theorem dX12_gives_11 : decode cX12_gives 11 = .ok (.invokestatic 87, 3) := by decide +kernel
theorem dX12_gives_14 : decode cX12_gives 14 = .ok (.iadd, 1) := by decide +kernel
theorem dX12_gives_15 : decode cX12_gives 15 = .ok (.dup2, 1) := by decide +kernel
theorem dX12_gives_16 : decode cX12_gives 16 = .ok (.iaload, 1) := by decide +kernel
theorem dX12_gives_17 : decode cX12_gives 17 = .ok (.iconst 1, 1) := by decide +kernel
theorem dX12_gives_18 : decode cX12_gives 18 = .ok (.isub, 1) := by decide +kernel
theorem dX12_gives_19 : decode cX12_gives 19 = .ok (.iastore, 1) := by decide +kernel
theorem dX12_gives_20 : decode cX12_gives 20 = .ok (.aload_n 0, 1) := by decide +kernel
theorem dX12_gives_21 : decode cX12_gives 21 = .ok (.getfield 9, 3) := by decide +kernel
theorem dX12_gives_24 : decode cX12_gives 24 = .ok (.iload_n 1, 1) := by decide +kernel
theorem dX12_gives_25 : decode cX12_gives 25 = .ok (.bipush 10, 2) := by decide +kernel
theorem dX12_gives_27 : decode cX12_gives 27 = .ok (.iadd, 1) := by decide +kernel
theorem dX12_gives_28 : decode cX12_gives 28 = .ok (.iload_n 3, 1) := by decide +kernel
theorem dX12_gives_29 : decode cX12_gives 29 = .ok (.iload 4, 2) := by decide +kernel
theorem dX12_gives_31 : decode cX12_gives 31 = .ok (.invokestatic 87, 3) := by decide +kernel
theorem dX12_gives_34 : decode cX12_gives 34 = .ok (.iadd, 1) := by decide +kernel
theorem dX12_gives_35 : decode cX12_gives 35 = .ok (.dup2, 1) := by decide +kernel
theorem dX12_gives_36 : decode cX12_gives 36 = .ok (.iaload, 1) := by decide +kernel
theorem dX12_gives_37 : decode cX12_gives 37 = .ok (.iconst 1, 1) := by decide +kernel
theorem dX12_gives_38 : decode cX12_gives 38 = .ok (.iadd, 1) := by decide +kernel
theorem dX12_gives_39 : decode cX12_gives 39 = .ok (.iastore, 1) := by decide +kernel
theorem dX12_gives_40 : decode cX12_gives 40 = .ok (.return_, 1) := by decide +kernel
set_option maxHeartbeats 400000 in
theorem c12_gives {G : Gl} {l : Launch}  {M : Mem} {b : Int} {c : Int → Int} {x t w : Int} (hG : GR M) (hK : RW M b c) (hb0 : 0 ≤ b) (hb1 : b ≤ 9686) (hM : SM c) (hx0 : 0 ≤ x) (hx1 : x < 5) (ht0 : 0 ≤ t) (ht1 : t < 5) (hw0 : 0 ≤ w) (hw1 : w < 6) : Ct G LY 82 l 1 m12_gives [vR 57, vI b, vI x, vI t, vI w] M (RV (fun M' => Fr [58] [] M M' ∧ (∀ j : Int, (j < b ∨ b + 114 ≤ j) → M' 58 j = M 58 j) ∧ RW M' b (mvR c x t w))) := by
  refine R_start (by decide +kernel) (Nat.le_of_ble_eq_true rfl) (fun C hC hRm hlau => ?_)
  show RZ G LY C (Zn G LY 82 C (RV (fun M' => Fr [58] [] M M' ∧ (∀ j : Int, (j < b ∨ b + 114 ≤ j) → M' 58 j = M 58 j) ∧ RW M' b (mvR c x t w)))) 0 0 82 0 [some (vR 57), some (vI b), some (vI x), some (vI t), some (vI w)] [] M
  have bx := (hM.h hx0 hx1 hw0 hw1).1
  have bt := (hM.h ht0 ht1 hw0 hw1).1
  rw [Int.add_assoc] at bx bt
  refine R_aload_0 hC dX12_gives_0 ?_
  refine R_getR hC dX12_gives_1 fl_12_9 (by decide) rfl (by decide) (by decide) (fi := 0) rfl (r := 58) (gr_57_0 hG) ?_
  refine R_iload_1 hC dX12_gives_4 ?_
  refine R_bipush hC dX12_gives_5 (by decide +kernel) ⟨by decide, by decide⟩ ?_
  refine R_iadd hC dX12_gives_7 ⟨by omega, by omega⟩ ?_
  refine R_iload_2 hC dX12_gives_8 ?_
  refine R_iload_4 hC dX12_gives_9 ?_
  refine R_callSq (as := [vI _, vI _]) hC dX12_gives_11 mo_12_cell ml_12_87 (c12_cell  (by omega) (by omega) (by omega) (by omega)) rfl rfl hRm (by decide) (by decide) (Nat.le_of_ble_eq_true rfl) ?_
  refine R_iadd hC dX12_gives_14 ⟨by omega, by omega⟩ ?_
  refine R_dup2 hC dX12_gives_15 rfl rfl ?_
  refine R_ialoadE hC dX12_gives_16 (by decide) rfl (by omega) (by omega) (hK.r4 (k := 28 + (x * 6 + w)) (by omega) (by omega) (by omega)) ?_
  refine R_iconst hC dX12_gives_17 ⟨by decide, by decide⟩ ?_
  refine R_isub hC dX12_gives_18 ⟨by omega, by omega⟩ ?_
  refine R_iastore hC dX12_gives_19 (by decide) rfl (by omega) (by omega) ?_
  refine R_aload_0 hC dX12_gives_20 ?_
  have hG1 : GR (uM M 58 ((b + 10) + (6 * x + w)) ((c (28 + (x * 6 + w))) - 1)) := (GR.uA hG (by decide +kernel) (.inl (by decide)))
  refine R_getR hC dX12_gives_21 fl_12_9 (by decide) rfl (by decide) (by decide) (fi := 0) rfl (r := 58) (gr_57_0 hG1) ?_
  refine R_iload_1 hC dX12_gives_24 ?_
  refine R_bipush hC dX12_gives_25 (by decide +kernel) ⟨by decide, by decide⟩ ?_
  refine R_iadd hC dX12_gives_27 ⟨by omega, by omega⟩ ?_
  refine R_iload_3 hC dX12_gives_28 ?_
  refine R_iload_4 hC dX12_gives_29 ?_
  refine R_callSq (as := [vI _, vI _]) hC dX12_gives_31 mo_12_cell ml_12_87 (c12_cell  (by omega) (by omega) (by omega) (by omega)) rfl rfl hRm (by decide) (by decide) (Nat.le_of_ble_eq_true rfl) ?_
  refine R_iadd hC dX12_gives_34 ⟨by omega, by omega⟩ ?_
  refine R_dup2 hC dX12_gives_35 rfl rfl ?_
  have hk2 : RW (uM M 58 ((b + 10) + (6 * x + w)) ((c (28 + (x * 6 + w))) - 1)) b (upd1 c (28 + (x * 6 + w)) ((c (28 + (x * 6 + w))) - 1)) := (hK.w4 (k := 28 + (x * 6 + w)) (by omega) (by omega) (by omega))
  refine R_ialoadE hC dX12_gives_36 (by decide) rfl (by omega) (by omega) (hk2.r4 (k := 28 + (t * 6 + w)) (by omega) (by omega) (by omega)) ?_
  refine R_iconst hC dX12_gives_37 ⟨by decide, by decide⟩ ?_
  have bu : upd1 c (28 + (x * 6 + w)) (c (28 + (x * 6 + w)) - 1) (28 + (t * 6 + w)) = c (28 + (t * 6 + w)) ∨ upd1 c (28 + (x * 6 + w)) (c (28 + (x * 6 + w)) - 1) (28 + (t * 6 + w)) = c (28 + (x * 6 + w)) - 1 := by
    unfold upd1
    split
    · exact .inr rfl
    · exact .inl rfl
  refine R_iadd hC dX12_gives_38 ⟨by omega, by omega⟩ ?_
  refine R_iastore hC dX12_gives_39 (by decide) rfl (by omega) (by omega) ?_
  have hk3 : RW (uM (uM M 58 ((b + 10) + (6 * x + w)) ((c (28 + (x * 6 + w))) - 1)) 58 ((b + 10) + (6 * t + w)) ((upd1 c (28 + (x * 6 + w)) (c (28 + (x * 6 + w)) - 1) (28 + (t * 6 + w))) + 1)) b (upd1 (upd1 c (28 + (x * 6 + w)) ((c (28 + (x * 6 + w))) - 1)) (28 + (t * 6 + w)) ((upd1 c (28 + (x * 6 + w)) (c (28 + (x * 6 + w)) - 1) (28 + (t * 6 + w))) + 1)) := (hk2.w4 (k := 28 + (t * 6 + w)) (by omega) (by omega) (by omega))
  exact R_return hC dX12_gives_40 rfl (ret_V ⟨Fr.uA (Fr.uA Fr.rf (by decide)) (by decide), fun j hj => (uM_k (by omega)).trans (uM_k (by omega)), hk3⟩)
theorem dX12_hasGift_0 : decode cX12_hasGift 0 = .ok (.iconst 0, 1) := by decide +kernel
theorem dX12_hasGift_1 : decode cX12_hasGift 1 = .ok (.istore_n 2, 1) := by decide +kernel
theorem dX12_hasGift_2 : decode cX12_hasGift 2 = .ok (.iload_n 2, 1) := by decide +kernel
theorem dX12_hasGift_3 : decode cX12_hasGift 3 = .ok (.aload_n 0, 1) := by decide +kernel
theorem dX12_hasGift_4 : decode cX12_hasGift 4 = .ok (.getfield 105, 3) := by decide +kernel
theorem dX12_hasGift_7 : decode cX12_hasGift 7 = .ok (.if_icmp .ge 90, 3) := by decide +kernel
theorem dX12_hasGift_10 : decode cX12_hasGift 10 = .ok (.iconst 0, 1) := by decide +kernel
theorem dX12_hasGift_11 : decode cX12_hasGift 11 = .ok (.istore_n 3, 1) := by decide +kernel
theorem dX12_hasGift_12 : decode cX12_hasGift 12 = .ok (.iload_n 3, 1) := by decide +kernel
theorem dX12_hasGift_13 : decode cX12_hasGift 13 = .ok (.aload_n 0, 1) := by decide +kernel
theorem dX12_hasGift_14 : decode cX12_hasGift 14 = .ok (.getfield 105, 3) := by decide +kernel
theorem dX12_hasGift_17 : decode cX12_hasGift 17 = .ok (.if_icmp .ge 74, 3) := by decide +kernel
theorem dX12_hasGift_20 : decode cX12_hasGift 20 = .ok (.iconst 0, 1) := by decide +kernel
theorem dX12_hasGift_21 : decode cX12_hasGift 21 = .ok (.istore 4, 2) := by decide +kernel
theorem dX12_hasGift_23 : decode cX12_hasGift 23 = .ok (.iload 4, 2) := by decide +kernel
theorem dX12_hasGift_25 : decode cX12_hasGift 25 = .ok (.aload_n 0, 1) := by decide +kernel
theorem dX12_hasGift_26 : decode cX12_hasGift 26 = .ok (.getfield 102, 3) := by decide +kernel
theorem dX12_hasGift_29 : decode cX12_hasGift 29 = .ok (.if_icmp .ge 56, 3) := by decide +kernel
theorem dX12_hasGift_32 : decode cX12_hasGift 32 = .ok (.aload_n 0, 1) := by decide +kernel
theorem dX12_hasGift_33 : decode cX12_hasGift 33 = .ok (.iload_n 1, 1) := by decide +kernel
theorem dX12_hasGift_34 : decode cX12_hasGift 34 = .ok (.iload_n 2, 1) := by decide +kernel
theorem dX12_hasGift_35 : decode cX12_hasGift 35 = .ok (.iload_n 3, 1) := by decide +kernel
theorem dX12_hasGift_36 : decode cX12_hasGift 36 = .ok (.iload 4, 2) := by decide +kernel
theorem dX12_hasGift_38 : decode cX12_hasGift 38 = .ok (.invokevirtual 299, 3) := by decide +kernel
theorem dX12_hasGift_41 : decode cX12_hasGift 41 = .ok (.ifCond .ne 6, 3) := by decide +kernel
theorem dX12_hasGift_44 : decode cX12_hasGift 44 = .ok (.goto 35, 3) := by decide +kernel
theorem dX12_hasGift_47 : decode cX12_hasGift 47 = .ok (.aload_n 0, 1) := by decide +kernel
theorem dX12_hasGift_48 : decode cX12_hasGift 48 = .ok (.iload_n 1, 1) := by decide +kernel
theorem dX12_hasGift_49 : decode cX12_hasGift 49 = .ok (.iload_n 2, 1) := by decide +kernel
theorem dX12_hasGift_50 : decode cX12_hasGift 50 = .ok (.iload_n 3, 1) := by decide +kernel
theorem dX12_hasGift_51 : decode cX12_hasGift 51 = .ok (.iload 4, 2) := by decide +kernel
theorem dX12_hasGift_53 : decode cX12_hasGift 53 = .ok (.invokevirtual 303, 3) := by decide +kernel
theorem dX12_hasGift_56 : decode cX12_hasGift 56 = .ok (.aload_n 0, 1) := by decide +kernel
theorem dX12_hasGift_57 : decode cX12_hasGift 57 = .ok (.iload_n 1, 1) := by decide +kernel
theorem dX12_hasGift_58 : decode cX12_hasGift 58 = .ok (.invokevirtual 296, 3) := by decide +kernel
theorem dX12_hasGift_61 : decode cX12_hasGift 61 = .ok (.istore 5, 2) := by decide +kernel
theorem dX12_hasGift_63 : decode cX12_hasGift 63 = .ok (.aload_n 0, 1) := by decide +kernel
theorem dX12_hasGift_64 : decode cX12_hasGift 64 = .ok (.iload_n 1, 1) := by decide +kernel
theorem dX12_hasGift_65 : decode cX12_hasGift 65 = .ok (.iload_n 3, 1) := by decide +kernel
theorem dX12_hasGift_66 : decode cX12_hasGift 66 = .ok (.iload_n 2, 1) := by decide +kernel
theorem dX12_hasGift_67 : decode cX12_hasGift 67 = .ok (.iload 4, 2) := by decide +kernel
theorem dX12_hasGift_69 : decode cX12_hasGift 69 = .ok (.invokevirtual 303, 3) := by decide +kernel
theorem dX12_hasGift_72 : decode cX12_hasGift 72 = .ok (.iload 5, 2) := by decide +kernel
theorem dX12_hasGift_74 : decode cX12_hasGift 74 = .ok (.ifCond .eq 5, 3) := by decide +kernel
theorem dX12_hasGift_77 : decode cX12_hasGift 77 = .ok (.iconst 1, 1) := by decide +kernel
theorem dX12_hasGift_78 : decode cX12_hasGift 78 = .ok (.ireturn, 1) := by decide +kernel
theorem dX12_hasGift_79 : decode cX12_hasGift 79 = .ok (.iinc 4 1, 3) := by decide +kernel
theorem dX12_hasGift_82 : decode cX12_hasGift 82 = .ok (.goto (-59), 3) := by decide +kernel
theorem dX12_hasGift_85 : decode cX12_hasGift 85 = .ok (.iinc 3 1, 3) := by decide +kernel
theorem dX12_hasGift_88 : decode cX12_hasGift 88 = .ok (.goto (-76), 3) := by decide +kernel
theorem dX12_hasGift_91 : decode cX12_hasGift 91 = .ok (.iinc 2 1, 3) := by decide +kernel
theorem dX12_hasGift_94 : decode cX12_hasGift 94 = .ok (.goto (-92), 3) := by decide +kernel
theorem dX12_hasGift_97 : decode cX12_hasGift 97 = .ok (.iconst 0, 1) := by decide +kernel
theorem dX12_hasGift_98 : decode cX12_hasGift 98 = .ok (.ireturn, 1) := by decide +kernel
set_option maxHeartbeats 2000000 in
theorem c12_hasGift {G : Gl} {l : Launch}  {M : Mem} {b : Int} {c : Int → Int} (hG : GR M) (hK : RW M b c) (hb0 : 0 ≤ b) (hb1 : b ≤ 9686) (hS : SP c) : Ct G LY 82 l 6 m12_hasGift [vR 57, vI b] M (RP (fun v M' => Fr [58, 63, 64, 65, 66] [(57, 22), (57, 23)] M M' ∧ (∀ j : Int, (j < b ∨ b + 114 ≤ j) → M' 58 j = M 58 j) ∧ RW M' b c ∧ v = bP (∃ x t w, rg3 c x t w ∧ G1 c x t w))) := by
  refine R_start (by decide +kernel) (Nat.le_of_ble_eq_true rfl) (fun C hC hRm hlau => ?_)
  show RZ G LY C (Zn G LY 82 C (RP (fun v M' => Fr [58, 63, 64, 65, 66] [(57, 22), (57, 23)] M M' ∧ (∀ j : Int, (j < b ∨ b + 114 ≤ j) → M' 58 j = M 58 j) ∧ RW M' b c ∧ v = bP (∃ x t w, rg3 c x t w ∧ G1 c x t w)))) 0 0 82 0 [some (vR 57), some (vI b), none, none, none, none] [] M
  have hM := hS.m
  have hI := hM.I
  have hL := hM.1.1
  have hW := hM.1.2
  refine R_iconst hC dX12_hasGift_0 ⟨by decide, by decide⟩ ?_
  refine R_istore_2 hC dX12_hasGift_1 rfl ?_
  have L2 : ∀ (mq : Nat) (x : Int) (M1 : Mem), (0 ≤ x) → (x ≤ c 121) → (GR M1) → (RW M1 b c) → (Fr [58, 63, 64, 65, 66] [(57, 22), (57, 23)] M M1) → (∀ j : Int, (j < b ∨ b + 114 ≤ j) → M1 58 j = M 58 j) → (∀ x' t' w', 0 ≤ x' → x' < c 121 → 0 ≤ t' → t' < c 121 → 0 ≤ w' → w' < c 122 → 100 * x' + 10 * t' + w' < 100 * x → ¬ G1 c x' t' w') → (c 121 - x).toNat < mq → RZ G LY C (Zn G LY 82 C (RP (fun v M' => Fr [58, 63, 64, 65, 66] [(57, 22), (57, 23)] M M' ∧ (∀ j : Int, (j < b ∨ b + 114 ≤ j) → M' 58 j = M 58 j) ∧ RW M' b c ∧ v = bP (∃ x t w, rg3 c x t w ∧ G1 c x t w)))) 0 0 82 2 [some (vR 57), some (vI b), some (vI x), none, none, none] [] M1 := by
    intro mq
    induction mq with
    | zero =>
      intro x M1 hx0 hx1 hg hk0 hF hO hN hm
      exact absurd hm (Nat.not_lt_zero _)
    | succ mq ih2 =>
      intro x M1 hx0 hx1 hg hk0 hF hO hN hm2
      refine R_iload_2 hC dX12_hasGift_2 ?_
      refine R_aload_0 hC dX12_hasGift_3 ?_
      refine R_getIE hC dX12_hasGift_4 fl_12_105 (by decide) rfl (by decide) (by decide) (fi := 5) rfl hk0.l ?_
      refine R_icmp_ge hC dX12_hasGift_7 (tgt := 97) (by decide) (fun hb7 => ?_) (fun hb7 => ?_)
      · skip
        refine R_iconst hC dX12_hasGift_97 ⟨by decide, by decide⟩ ?_
        exact R_zreturn hC dX12_hasGift_98 rfl (.inl rfl) (ret_P ⟨hF, hO, hk0, (bP_neg (fun ⟨x', t', w', r, g⟩ => hN x' t' w' r.1.1 r.1.2 r.2.1.1 r.2.1.2 r.2.2.1 r.2.2.2 (by have := r.1.2; have := r.2.1.2; have := r.2.2.2; omega) g)).symm⟩)
      · skip
        refine R_iconst hC dX12_hasGift_10 ⟨by decide, by decide⟩ ?_
        refine R_istore_3 hC dX12_hasGift_11 rfl ?_
        have L12 : ∀ (mq : Nat) (t : Int) (M2 : Mem), (0 ≤ t) → (t ≤ c 121) → (GR M2) → (RW M2 b c) → (Fr [58, 63, 64, 65, 66] [(57, 22), (57, 23)] M M2) → (∀ j : Int, (j < b ∨ b + 114 ≤ j) → M2 58 j = M 58 j) → (∀ x' t' w', 0 ≤ x' → x' < c 121 → 0 ≤ t' → t' < c 121 → 0 ≤ w' → w' < c 122 → 100 * x' + 10 * t' + w' < 100 * x + 10 * t → ¬ G1 c x' t' w') → (c 121 - t).toNat < mq → RZ G LY C (Zn G LY 82 C (RP (fun v M' => Fr [58, 63, 64, 65, 66] [(57, 22), (57, 23)] M M' ∧ (∀ j : Int, (j < b ∨ b + 114 ≤ j) → M' 58 j = M 58 j) ∧ RW M' b c ∧ v = bP (∃ x t w, rg3 c x t w ∧ G1 c x t w)))) 0 0 82 12 [some (vR 57), some (vI b), some (vI x), some (vI t), none, none] [] M2 := by
          intro mq
          induction mq with
          | zero =>
            intro t M2 ht0 ht1 hg2 hk02 hF2 hO2 hN2 hm
            exact absurd hm (Nat.not_lt_zero _)
          | succ mq ih12 =>
            intro t M2 ht0 ht1 hg2 hk02 hF2 hO2 hN2 hm12
            refine R_iload_3 hC dX12_hasGift_12 ?_
            refine R_aload_0 hC dX12_hasGift_13 ?_
            refine R_getIE hC dX12_hasGift_14 fl_12_105 (by decide) rfl (by decide) (by decide) (fi := 5) rfl hk02.l ?_
            refine R_icmp_ge hC dX12_hasGift_17 (tgt := 91) (by decide) (fun hb17 => ?_) (fun hb17 => ?_)
            · skip
              refine R_iinc_2 hC dX12_hasGift_91 rfl ⟨by omega, by omega⟩ ?_
              refine R_goto hC dX12_hasGift_94 (tgt := 2) (by decide) ?_
              refine R_weak (subL_c (subL_c (subL_c (subL_d (subL_c (subL_c subL_n)))))) ?_
              exact ih2 _ _ (by omega) (by omega) hg2 hk02 hF2 hO2 (fun x' t' w' a1 a2 a3 a4 a5 a6 a7 => hN2 x' t' w' a1 a2 a3 a4 a5 a6 (by omega)) (by omega)
            · skip
              refine R_iconst hC dX12_hasGift_20 ⟨by decide, by decide⟩ ?_
              refine R_istore_4 hC dX12_hasGift_21 rfl ?_
              have L23 : ∀ (mq : Nat) (w : Int) (M3 : Mem), (0 ≤ w) → (w ≤ c 122) → (GR M3) → (RW M3 b c) → (Fr [58, 63, 64, 65, 66] [(57, 22), (57, 23)] M M3) → (∀ j : Int, (j < b ∨ b + 114 ≤ j) → M3 58 j = M 58 j) → (∀ x' t' w', 0 ≤ x' → x' < c 121 → 0 ≤ t' → t' < c 121 → 0 ≤ w' → w' < c 122 → 100 * x' + 10 * t' + w' < 100 * x + 10 * t + w → ¬ G1 c x' t' w') → (c 122 - w).toNat < mq → RZ G LY C (Zn G LY 82 C (RP (fun v M' => Fr [58, 63, 64, 65, 66] [(57, 22), (57, 23)] M M' ∧ (∀ j : Int, (j < b ∨ b + 114 ≤ j) → M' 58 j = M 58 j) ∧ RW M' b c ∧ v = bP (∃ x t w, rg3 c x t w ∧ G1 c x t w)))) 0 0 82 23 [some (vR 57), some (vI b), some (vI x), some (vI t), some (vI w), none] [] M3 := by
                intro mq
                induction mq with
                | zero =>
                  intro w M3 hw0 hw1 hg3 hk03 hF3 hO3 hN3 hm
                  exact absurd hm (Nat.not_lt_zero _)
                | succ mq ih23 =>
                  intro w M3 hw0 hw1 hg3 hk03 hF3 hO3 hN3 hm23
                  refine R_iload_4 hC dX12_hasGift_23 ?_
                  refine R_aload_0 hC dX12_hasGift_25 ?_
                  refine R_getIE hC dX12_hasGift_26 fl_12_102 (by decide) rfl (by decide) (by decide) (fi := 6) rfl hk03.w ?_
                  refine R_icmp_ge hC dX12_hasGift_29 (tgt := 85) (by decide) (fun hb29 => ?_) (fun hb29 => ?_)
                  · skip
                    refine R_iinc_3 hC dX12_hasGift_85 rfl ⟨by omega, by omega⟩ ?_
                    refine R_goto hC dX12_hasGift_88 (tgt := 12) (by decide) ?_
                    refine R_weak (subL_c (subL_c (subL_c (subL_c (subL_d (subL_c subL_n)))))) ?_
                    exact ih12 _ _ (by omega) (by omega) hg3 hk03 hF3 hO3 (fun x' t' w' a1 a2 a3 a4 a5 a6 a7 => by
                      by_cases q : 100 * x' + 10 * t' + w' < 100 * x + 10 * t
                      · exact hN2 x' t' w' a1 a2 a3 a4 a5 a6 q
                      · have e1 : x' = x := by omega
                        have e2 : t' = t := by omega
                        subst e1; subst e2
                        exact hN3 _ _ w' a1 a2 a3 a4 a5 a6 (by omega)) (by omega)
                  · skip
                    refine R_aload_0 hC dX12_hasGift_32 ?_
                    refine R_iload_1 hC dX12_hasGift_33 ?_
                    refine R_iload_2 hC dX12_hasGift_34 ?_
                    refine R_iload_3 hC dX12_hasGift_35 ?_
                    refine R_iload_4 hC dX12_hasGift_36 ?_
                    refine R_callVq (as := [vI _, vI _, vI _, vI _]) hC dX12_hasGift_38 mo_12_canGive ml_12_299 (by decide) rfl rfl (c12_canGive  hg3 hk03 (by omega) (by omega) hM (by omega) (by omega) (by omega) (by omega) (by omega) (by omega)) rfl rfl hRm (by decide) (by decide) (Nat.le_of_ble_eq_true rfl) ?_
                    refine R_if_ne hC dX12_hasGift_41 (tgt := 47) (by decide) (fun hb41 => ?_) (fun hb41 => ?_)
                    · skip
                      replace hb41 := bP_nz hb41
                      have hmg := hb41
                      refine R_aload_0 hC dX12_hasGift_47 ?_
                      refine R_iload_1 hC dX12_hasGift_48 ?_
                      refine R_iload_2 hC dX12_hasGift_49 ?_
                      refine R_iload_3 hC dX12_hasGift_50 ?_
                      refine R_iload_4 hC dX12_hasGift_51 ?_
                      have hr3 : rg3 c x t w := ⟨⟨hx0, by omega⟩, ⟨ht0, by omega⟩, hw0, by omega⟩
                      have hgw := gv_w hS hr3 hmg
                      have hSM : SM (mvR c x t w) := hgw.1.m
                      have hne := hmg.1
                      refine R_callVv (as := [vI _, vI _, vI _, vI _]) hC dX12_hasGift_53 mo_12_gives ml_12_303 (by decide) rfl rfl (c12_gives  hg3 hk03 (by omega) (by omega) hM (by omega) (by omega) (by omega) (by omega) (by omega) (by omega)) rfl rfl hRm (by decide) (by decide) (Nat.le_of_ble_eq_true rfl) (fun Mc1 hq2 => ?_)
                      have hFa : Fr [58, 63, 64, 65, 66] [(57, 22), (57, 23)] M Mc1 := Fr.tt hF3 (hq2.1.mo (by simp) (by simp))
                      have hOa : ∀ j : Int, (j < b ∨ b + 114 ≤ j) → Mc1 58 j = M 58 j := fun j q => (hq2.2.1 j q).trans (hO3 j q)
                      refine R_aload_0 hC dX12_hasGift_56 ?_
                      refine R_iload_1 hC dX12_hasGift_57 ?_
                      have hG3 : GR Mc1 := (GR.fr hg3 hq2.1 (by decide +kernel))
                      have hk4 : RW Mc1 b (mvR c x t w) := (hq2.2.2)
                      refine R_callVp (as := [vI _]) hC dX12_hasGift_58 mo_12_isPlanOf ml_12_296 (by decide) rfl rfl (c12_isPlanOf  hG3 hk4 (by omega) (by omega) hSM) rfl rfl hRm (by decide) (by decide) (Nat.le_of_ble_eq_true rfl) (fun v7 Mc5 hq6 => ?_)
                      have hFb : Fr [58, 63, 64, 65, 66] [(57, 22), (57, 23)] M Mc5 := Fr.tt hFa (hq6.1.mo (by simp) (by simp))
                      have hOb : ∀ j : Int, (j < b ∨ b + 114 ≤ j) → Mc5 58 j = M 58 j := fun j q => (congrFun (hq6.1.row (by decide) (by decide)) j).trans (hOa j q)
                      have hpv := hq6.2.2
                      refine R_istore_5 hC dX12_hasGift_61 rfl ?_
                      refine R_aload_0 hC dX12_hasGift_63 ?_
                      refine R_iload_1 hC dX12_hasGift_64 ?_
                      refine R_iload_3 hC dX12_hasGift_65 ?_
                      refine R_iload_2 hC dX12_hasGift_66 ?_
                      refine R_iload_4 hC dX12_hasGift_67 ?_
                      have hG8 : GR Mc5 := (GR.fr hG3 hq6.1 (by decide +kernel))
                      have hk9 : RW Mc5 b (mvR c x t w) := (RW.fr hk4 hq6.1 (by decide +kernel))
                      refine R_callVv (as := [vI _, vI _, vI _, vI _]) hC dX12_hasGift_69 mo_12_gives ml_12_303 (by decide) rfl rfl (c12_gives  hG8 hk9 (by omega) (by omega) hSM (by omega) (by omega) (by omega) (by omega) (by omega) (by omega)) rfl rfl hRm (by decide) (by decide) (Nat.le_of_ble_eq_true rfl) (fun Mc10 hq11 => ?_)
                      have hFc : Fr [58, 63, 64, 65, 66] [(57, 22), (57, 23)] M Mc10 := Fr.tt hFb (hq11.1.mo (by simp) (by simp))
                      have hOc : ∀ j : Int, (j < b ∨ b + 114 ≤ j) → Mc10 58 j = M 58 j := fun j q => (hq11.2.1 j q).trans (hOb j q)
                      refine R_iload_5 hC dX12_hasGift_72 ?_
                      refine R_if_eq hC dX12_hasGift_74 (tgt := 79) (by decide) (fun hb74 => ?_) (fun hb74 => ?_)
                      · skip
                        have hno9 : ¬ G1 c x t w := fun z => bP_z (hpv.symm.trans hb74) z.2
                        have hF9 := hFc
                        have hO9 := hOc
                        refine R_iinc_4 hC dX12_hasGift_79 rfl ⟨by omega, by omega⟩ ?_
                        refine R_goto hC dX12_hasGift_82 (tgt := 23) (by decide) ?_
                        refine R_weak (subL_c (subL_c (subL_c (subL_c (subL_c (subL_d subL_n)))))) ?_
                        have hG12 : GR Mc10 := (GR.fr hG8 hq11.1 (by decide +kernel))
                        have hk13 : RW Mc10 b c := (by (have z := hq11.2.2; rw [mvR_back hx0 ht0 hw0 (by omega) hne] at z; exact z))
                        exact ih23 _ _ (by omega) (by omega) hG12 hk13 hF9 hO9 (fun x' t' w' a1 a2 a3 a4 a5 a6 a7 => by
                          by_cases q : 100 * x' + 10 * t' + w' < 100 * x + 10 * t + w
                          · exact hN3 x' t' w' a1 a2 a3 a4 a5 a6 q
                          · have e1 : x' = x := by omega
                            have e2 : t' = t := by omega
                            have e3 : w' = w := by omega
                            subst e1; subst e2; subst e3
                            exact hno9) (by omega)
                      · skip
                        have hG1 : G1 c x t w := ⟨hmg, bP_nz (fun z => hb74 (hpv.trans z))⟩
                        refine R_iconst hC dX12_hasGift_77 ⟨by decide, by decide⟩ ?_
                        have hk14 : RW Mc10 b c := (by (have z := hq11.2.2; rw [mvR_back hx0 ht0 hw0 (by omega) hne] at z; exact z))
                        exact R_zreturn hC dX12_hasGift_78 rfl (.inr rfl) (ret_P ⟨hFc, hOc, hk14, (bP_pos ⟨x, t, w, hr3, hG1⟩).symm⟩)
                    · skip
                      replace hb41 := bP_z hb41
                      have hno9 := fun z : G1 c x t w => hb41 z.1
                      have hF9 := hF3
                      have hO9 := hO3
                      refine R_goto hC dX12_hasGift_44 (tgt := 79) (by decide) ?_
                      refine R_iinc_4 hC dX12_hasGift_79 rfl ⟨by omega, by omega⟩ ?_
                      refine R_goto hC dX12_hasGift_82 (tgt := 23) (by decide) ?_
                      exact ih23 _ _ (by omega) (by omega) hg3 hk03 hF9 hO9 (fun x' t' w' a1 a2 a3 a4 a5 a6 a7 => by
                        by_cases q : 100 * x' + 10 * t' + w' < 100 * x + 10 * t + w
                        · exact hN3 x' t' w' a1 a2 a3 a4 a5 a6 q
                        · have e1 : x' = x := by omega
                          have e2 : t' = t := by omega
                          have e3 : w' = w := by omega
                          subst e1; subst e2; subst e3
                          exact hno9) (by omega)
              exact L23 _ _ _ (by omega) (by omega) hg2 hk02 hF2 hO2 (fun x' t' w' a1 a2 a3 a4 a5 a6 a7 => hN2 x' t' w' a1 a2 a3 a4 a5 a6 (by omega)) (Nat.lt_succ_self _)
        exact L12 _ _ _ (by omega) (by omega) hg hk0 hF hO (fun x' t' w' a1 a2 a3 a4 a5 a6 a7 => hN x' t' w' a1 a2 a3 a4 a5 a6 (by omega)) (Nat.lt_succ_self _)
  exact L2 _ _ _ (by omega) (by omega) hG hK Fr.rf (fun j _ => rfl) (fun x' t' w' a1 a2 a3 a4 a5 a6 a7 => by omega) (Nat.lt_succ_self _)
theorem dX12_firstGift_0 : decode cX12_firstGift 0 = .ok (.iconst 0, 1) := by decide +kernel
theorem dX12_firstGift_1 : decode cX12_firstGift 1 = .ok (.istore 4, 2) := by decide +kernel
theorem dX12_firstGift_3 : decode cX12_firstGift 3 = .ok (.iload 4, 2) := by decide +kernel
theorem dX12_firstGift_5 : decode cX12_firstGift 5 = .ok (.aload_n 0, 1) := by decide +kernel
theorem dX12_firstGift_6 : decode cX12_firstGift 6 = .ok (.getfield 105, 3) := by decide +kernel
theorem dX12_firstGift_9 : decode cX12_firstGift 9 = .ok (.if_icmp .ge 119, 3) := by decide +kernel
theorem dX12_firstGift_12 : decode cX12_firstGift 12 = .ok (.iconst 0, 1) := by decide +kernel
theorem dX12_firstGift_13 : decode cX12_firstGift 13 = .ok (.istore 5, 2) := by decide +kernel
theorem dX12_firstGift_15 : decode cX12_firstGift 15 = .ok (.iload 5, 2) := by decide +kernel
theorem dX12_firstGift_17 : decode cX12_firstGift 17 = .ok (.aload_n 0, 1) := by decide +kernel
theorem dX12_firstGift_18 : decode cX12_firstGift 18 = .ok (.getfield 105, 3) := by decide +kernel
theorem dX12_firstGift_21 : decode cX12_firstGift 21 = .ok (.if_icmp .ge 101, 3) := by decide +kernel
theorem dX12_firstGift_24 : decode cX12_firstGift 24 = .ok (.iconst 0, 1) := by decide +kernel
theorem dX12_firstGift_25 : decode cX12_firstGift 25 = .ok (.istore 6, 2) := by decide +kernel
theorem dX12_firstGift_27 : decode cX12_firstGift 27 = .ok (.iload 6, 2) := by decide +kernel
theorem dX12_firstGift_29 : decode cX12_firstGift 29 = .ok (.aload_n 0, 1) := by decide +kernel
theorem dX12_firstGift_30 : decode cX12_firstGift 30 = .ok (.getfield 102, 3) := by decide +kernel
theorem dX12_firstGift_33 : decode cX12_firstGift 33 = .ok (.if_icmp .ge 83, 3) := by decide +kernel
theorem dX12_firstGift_36 : decode cX12_firstGift 36 = .ok (.aload_n 0, 1) := by decide +kernel
theorem dX12_firstGift_37 : decode cX12_firstGift 37 = .ok (.iload_n 1, 1) := by decide +kernel
theorem dX12_firstGift_38 : decode cX12_firstGift 38 = .ok (.iload 4, 2) := by decide +kernel
theorem dX12_firstGift_40 : decode cX12_firstGift 40 = .ok (.iload 5, 2) := by decide +kernel
theorem dX12_firstGift_42 : decode cX12_firstGift 42 = .ok (.iload 6, 2) := by decide +kernel
theorem dX12_firstGift_44 : decode cX12_firstGift 44 = .ok (.invokevirtual 299, 3) := by decide +kernel
theorem dX12_firstGift_47 : decode cX12_firstGift 47 = .ok (.ifCond .ne 6, 3) := by decide +kernel
theorem dX12_firstGift_50 : decode cX12_firstGift 50 = .ok (.goto 60, 3) := by decide +kernel
theorem dX12_firstGift_53 : decode cX12_firstGift 53 = .ok (.aload_n 0, 1) := by decide +kernel
theorem dX12_firstGift_54 : decode cX12_firstGift 54 = .ok (.iload_n 1, 1) := by decide +kernel
theorem dX12_firstGift_55 : decode cX12_firstGift 55 = .ok (.iload_n 2, 1) := by decide +kernel
theorem dX12_firstGift_56 : decode cX12_firstGift 56 = .ok (.bipush 114, 2) := by decide +kernel
theorem dX12_firstGift_58 : decode cX12_firstGift 58 = .ok (.invokevirtual 290, 3) := by decide +kernel
theorem dX12_firstGift_61 : decode cX12_firstGift 61 = .ok (.aload_n 0, 1) := by decide +kernel
theorem dX12_firstGift_62 : decode cX12_firstGift 62 = .ok (.iload_n 2, 1) := by decide +kernel
theorem dX12_firstGift_63 : decode cX12_firstGift 63 = .ok (.iload 4, 2) := by decide +kernel
theorem dX12_firstGift_65 : decode cX12_firstGift 65 = .ok (.iload 5, 2) := by decide +kernel
theorem dX12_firstGift_67 : decode cX12_firstGift 67 = .ok (.iload 6, 2) := by decide +kernel
theorem dX12_firstGift_69 : decode cX12_firstGift 69 = .ok (.invokevirtual 303, 3) := by decide +kernel
theorem dX12_firstGift_72 : decode cX12_firstGift 72 = .ok (.iload_n 3, 1) := by decide +kernel
theorem dX12_firstGift_73 : decode cX12_firstGift 73 = .ok (.ifCond .eq 14, 3) := by decide +kernel
theorem dX12_firstGift_76 : decode cX12_firstGift 76 = .ok (.aload_n 0, 1) := by decide +kernel
theorem dX12_firstGift_77 : decode cX12_firstGift 77 = .ok (.iload_n 2, 1) := by decide +kernel
theorem dX12_firstGift_78 : decode cX12_firstGift 78 = .ok (.invokevirtual 307, 3) := by decide +kernel
theorem dX12_firstGift_81 : decode cX12_firstGift 81 = .ok (.ifCond .eq 29, 3) := by decide +kernel
theorem dX12_firstGift_84 : decode cX12_firstGift 84 = .ok (.goto 11, 3) := by decide +kernel
theorem dX12_firstGift_87 : decode cX12_firstGift 87 = .ok (.aload_n 0, 1) := by decide +kernel
theorem dX12_firstGift_88 : decode cX12_firstGift 88 = .ok (.iload_n 2, 1) := by decide +kernel
theorem dX12_firstGift_89 : decode cX12_firstGift 89 = .ok (.invokevirtual 296, 3) := by decide +kernel
theorem dX12_firstGift_92 : decode cX12_firstGift 92 = .ok (.ifCond .eq 18, 3) := by decide +kernel
theorem dX12_firstGift_95 : decode cX12_firstGift 95 = .ok (.bipush 100, 2) := by decide +kernel
theorem dX12_firstGift_97 : decode cX12_firstGift 97 = .ok (.iload 4, 2) := by decide +kernel
theorem dX12_firstGift_99 : decode cX12_firstGift 99 = .ok (.imul, 1) := by decide +kernel
theorem dX12_firstGift_100 : decode cX12_firstGift 100 = .ok (.bipush 10, 2) := by decide +kernel
theorem dX12_firstGift_102 : decode cX12_firstGift 102 = .ok (.iload 5, 2) := by decide +kernel
theorem dX12_firstGift_104 : decode cX12_firstGift 104 = .ok (.imul, 1) := by decide +kernel
theorem dX12_firstGift_105 : decode cX12_firstGift 105 = .ok (.iadd, 1) := by decide +kernel
theorem dX12_firstGift_106 : decode cX12_firstGift 106 = .ok (.iload 6, 2) := by decide +kernel
theorem dX12_firstGift_108 : decode cX12_firstGift 108 = .ok (.iadd, 1) := by decide +kernel
theorem dX12_firstGift_109 : decode cX12_firstGift 109 = .ok (.ireturn, 1) := by decide +kernel
theorem dX12_firstGift_110 : decode cX12_firstGift 110 = .ok (.iinc 6 1, 3) := by decide +kernel
theorem dX12_firstGift_113 : decode cX12_firstGift 113 = .ok (.goto (-86), 3) := by decide +kernel
theorem dX12_firstGift_116 : decode cX12_firstGift 116 = .ok (.iinc 5 1, 3) := by decide +kernel
theorem dX12_firstGift_119 : decode cX12_firstGift 119 = .ok (.goto (-104), 3) := by decide +kernel
theorem dX12_firstGift_122 : decode cX12_firstGift 122 = .ok (.iinc 4 1, 3) := by decide +kernel
theorem dX12_firstGift_125 : decode cX12_firstGift 125 = .ok (.goto (-122), 3) := by decide +kernel
theorem dX12_firstGift_128 : decode cX12_firstGift 128 = .ok (.iconst (-1), 1) := by decide +kernel
theorem dX12_firstGift_129 : decode cX12_firstGift 129 = .ok (.ireturn, 1) := by decide +kernel
set_option maxHeartbeats 2000000 in
theorem c12_firstGift {G : Gl} {l : Launch}  {M : Mem} {c : Int → Int} {f : Int} (hG : GR M) (hK : RW M 0 c) (hS : SP c) : Ct G LY 82 l 7 m12_firstGift [vR 57, vI 0, vI 114, vI f] M (RP (fun v M' => Fr [58, 63, 64, 65, 66] [(57, 22), (57, 23)] M M' ∧ TRo M M' ∧ FstV (c 121) (c 122) (Gf c f) v)) := by
  refine R_start (by decide +kernel) (Nat.le_of_ble_eq_true rfl) (fun C hC hRm hlau => ?_)
  show RZ G LY C (Zn G LY 82 C (RP (fun v M' => Fr [58, 63, 64, 65, 66] [(57, 22), (57, 23)] M M' ∧ TRo M M' ∧ FstV (c 121) (c 122) (Gf c f) v))) 0 0 82 0 [some (vR 57), some (vI 0), some (vI 114), some (vI f), none, none, none] [] M
  have hM := hS.m
  have hI := hM.I
  have hL := hM.1.1
  have hW := hM.1.2
  refine R_iconst hC dX12_firstGift_0 ⟨by decide, by decide⟩ ?_
  refine R_istore_4 hC dX12_firstGift_1 rfl ?_
  have L3 : ∀ (mq : Nat) (x : Int) (M1 : Mem), (0 ≤ x) → (x ≤ c 121) → (GR M1) → (RW M1 0 c) → (Fr [58, 63, 64, 65, 66] [(57, 22), (57, 23)] M M1) → (∀ j : Int, (j < (114 : Int) ∨ (114 : Int) + 114 ≤ j) → M1 58 j = M 58 j) → (∀ x' t' w', 0 ≤ x' → x' < c 121 → 0 ≤ t' → t' < c 121 → 0 ≤ w' → w' < c 122 → 100 * x' + 10 * t' + w' < 100 * x → ¬ Gf c f x' t' w') → (c 121 - x).toNat < mq → RZ G LY C (Zn G LY 82 C (RP (fun v M' => Fr [58, 63, 64, 65, 66] [(57, 22), (57, 23)] M M' ∧ TRo M M' ∧ FstV (c 121) (c 122) (Gf c f) v))) 0 0 82 3 [some (vR 57), some (vI 0), some (vI 114), some (vI f), some (vI x), none, none] [] M1 := by
    intro mq
    induction mq with
    | zero =>
      intro x M1 hx0 hx1 hg hk0 hF hO hN hm
      exact absurd hm (Nat.not_lt_zero _)
    | succ mq ih3 =>
      intro x M1 hx0 hx1 hg hk0 hF hO hN hm3
      refine R_iload_4 hC dX12_firstGift_3 ?_
      refine R_aload_0 hC dX12_firstGift_5 ?_
      refine R_getIE hC dX12_firstGift_6 fl_12_105 (by decide) rfl (by decide) (by decide) (fi := 5) rfl hk0.l ?_
      refine R_icmp_ge hC dX12_firstGift_9 (tgt := 128) (by decide) (fun hb9 => ?_) (fun hb9 => ?_)
      · skip
        refine R_iconst hC dX12_firstGift_128 ⟨by decide, by decide⟩ ?_
        exact R_ireturn hC dX12_firstGift_129 rfl (ret_P ⟨hF, fun j q => hO j (by omega), .inl ⟨rfl, fun x' t' w' a1 a2 a3 a4 a5 a6 => hN x' t' w' a1 a2 a3 a4 a5 a6 (by omega)⟩⟩)
      · skip
        refine R_iconst hC dX12_firstGift_12 ⟨by decide, by decide⟩ ?_
        refine R_istore_5 hC dX12_firstGift_13 rfl ?_
        have L15 : ∀ (mq : Nat) (t : Int) (M2 : Mem), (0 ≤ t) → (t ≤ c 121) → (GR M2) → (RW M2 0 c) → (Fr [58, 63, 64, 65, 66] [(57, 22), (57, 23)] M M2) → (∀ j : Int, (j < (114 : Int) ∨ (114 : Int) + 114 ≤ j) → M2 58 j = M 58 j) → (∀ x' t' w', 0 ≤ x' → x' < c 121 → 0 ≤ t' → t' < c 121 → 0 ≤ w' → w' < c 122 → 100 * x' + 10 * t' + w' < 100 * x + 10 * t → ¬ Gf c f x' t' w') → (c 121 - t).toNat < mq → RZ G LY C (Zn G LY 82 C (RP (fun v M' => Fr [58, 63, 64, 65, 66] [(57, 22), (57, 23)] M M' ∧ TRo M M' ∧ FstV (c 121) (c 122) (Gf c f) v))) 0 0 82 15 [some (vR 57), some (vI 0), some (vI 114), some (vI f), some (vI x), some (vI t), none] [] M2 := by
          intro mq
          induction mq with
          | zero =>
            intro t M2 ht0 ht1 hg2 hk02 hF2 hO2 hN2 hm
            exact absurd hm (Nat.not_lt_zero _)
          | succ mq ih15 =>
            intro t M2 ht0 ht1 hg2 hk02 hF2 hO2 hN2 hm15
            refine R_iload_5 hC dX12_firstGift_15 ?_
            refine R_aload_0 hC dX12_firstGift_17 ?_
            refine R_getIE hC dX12_firstGift_18 fl_12_105 (by decide) rfl (by decide) (by decide) (fi := 5) rfl hk02.l ?_
            refine R_icmp_ge hC dX12_firstGift_21 (tgt := 122) (by decide) (fun hb21 => ?_) (fun hb21 => ?_)
            · skip
              refine R_iinc_4 hC dX12_firstGift_122 rfl ⟨by omega, by omega⟩ ?_
              refine R_goto hC dX12_firstGift_125 (tgt := 3) (by decide) ?_
              refine R_weak (subL_c (subL_c (subL_c (subL_c (subL_c (subL_d (subL_c subL_n))))))) ?_
              exact ih3 _ _ (by omega) (by omega) hg2 hk02 hF2 hO2 (fun x' t' w' a1 a2 a3 a4 a5 a6 a7 => hN2 x' t' w' a1 a2 a3 a4 a5 a6 (by omega)) (by omega)
            · skip
              refine R_iconst hC dX12_firstGift_24 ⟨by decide, by decide⟩ ?_
              refine R_istore_6 hC dX12_firstGift_25 rfl ?_
              have L27 : ∀ (mq : Nat) (w : Int) (M3 : Mem), (0 ≤ w) → (w ≤ c 122) → (GR M3) → (RW M3 0 c) → (Fr [58, 63, 64, 65, 66] [(57, 22), (57, 23)] M M3) → (∀ j : Int, (j < (114 : Int) ∨ (114 : Int) + 114 ≤ j) → M3 58 j = M 58 j) → (∀ x' t' w', 0 ≤ x' → x' < c 121 → 0 ≤ t' → t' < c 121 → 0 ≤ w' → w' < c 122 → 100 * x' + 10 * t' + w' < 100 * x + 10 * t + w → ¬ Gf c f x' t' w') → (c 122 - w).toNat < mq → RZ G LY C (Zn G LY 82 C (RP (fun v M' => Fr [58, 63, 64, 65, 66] [(57, 22), (57, 23)] M M' ∧ TRo M M' ∧ FstV (c 121) (c 122) (Gf c f) v))) 0 0 82 27 [some (vR 57), some (vI 0), some (vI 114), some (vI f), some (vI x), some (vI t), some (vI w)] [] M3 := by
                intro mq
                induction mq with
                | zero =>
                  intro w M3 hw0 hw1 hg3 hk03 hF3 hO3 hN3 hm
                  exact absurd hm (Nat.not_lt_zero _)
                | succ mq ih27 =>
                  intro w M3 hw0 hw1 hg3 hk03 hF3 hO3 hN3 hm27
                  refine R_iload_6 hC dX12_firstGift_27 ?_
                  refine R_aload_0 hC dX12_firstGift_29 ?_
                  refine R_getIE hC dX12_firstGift_30 fl_12_102 (by decide) rfl (by decide) (by decide) (fi := 6) rfl hk03.w ?_
                  refine R_icmp_ge hC dX12_firstGift_33 (tgt := 116) (by decide) (fun hb33 => ?_) (fun hb33 => ?_)
                  · skip
                    refine R_iinc_5 hC dX12_firstGift_116 rfl ⟨by omega, by omega⟩ ?_
                    refine R_goto hC dX12_firstGift_119 (tgt := 15) (by decide) ?_
                    refine R_weak (subL_c (subL_c (subL_c (subL_c (subL_c (subL_c (subL_d subL_n))))))) ?_
                    exact ih15 _ _ (by omega) (by omega) hg3 hk03 hF3 hO3 (fun x' t' w' a1 a2 a3 a4 a5 a6 a7 => by
                      by_cases q : 100 * x' + 10 * t' + w' < 100 * x + 10 * t
                      · exact hN2 x' t' w' a1 a2 a3 a4 a5 a6 q
                      · have e1 : x' = x := by omega
                        have e2 : t' = t := by omega
                        subst e1; subst e2
                        exact hN3 _ _ w' a1 a2 a3 a4 a5 a6 (by omega)) (by omega)
                  · skip
                    refine R_aload_0 hC dX12_firstGift_36 ?_
                    refine R_iload_1 hC dX12_firstGift_37 ?_
                    refine R_iload_4 hC dX12_firstGift_38 ?_
                    refine R_iload_5 hC dX12_firstGift_40 ?_
                    refine R_iload_6 hC dX12_firstGift_42 ?_
                    refine R_callVq (as := [vI _, vI _, vI _, vI _]) hC dX12_firstGift_44 mo_12_canGive ml_12_299 (by decide) rfl rfl (c12_canGive  hg3 hk03 (by omega) (by omega) hM (by omega) (by omega) (by omega) (by omega) (by omega) (by omega)) rfl rfl hRm (by decide) (by decide) (Nat.le_of_ble_eq_true rfl) ?_
                    refine R_if_ne hC dX12_firstGift_47 (tgt := 53) (by decide) (fun hb47 => ?_) (fun hb47 => ?_)
                    · skip
                      replace hb47 := bP_nz hb47
                      have hmg := hb47
                      refine R_aload_0 hC dX12_firstGift_53 ?_
                      refine R_iload_1 hC dX12_firstGift_54 ?_
                      refine R_iload_2 hC dX12_firstGift_55 ?_
                      refine R_bipush hC dX12_firstGift_56 (by decide +kernel) ⟨by decide, by decide⟩ ?_
                      have hOld := hk03
                      have hGold := hg3
                      refine R_callVv (as := [vI _, vI _, vI _]) hC dX12_firstGift_58 mo_12_copies ml_12_290 (by decide) rfl rfl (c12_copies  hg3 (by omega) (by omega) (by omega) (by omega) (by omega) (by omega)) rfl rfl hRm (by decide) (by decide) (Nat.le_of_ble_eq_true rfl) (fun Mc1 hq2 => ?_)
                      have hFt : Fr [58, 63, 64, 65, 66] [(57, 22), (57, 23)] M Mc1 := Fr.tt hF3 (by rw [hq2]; exact fun a j p _ => if_neg (fun e => p (by rw [e.1]; decide)))
                      have hOt : ∀ j : Int, (j < 114 ∨ 114 + 114 ≤ j) → Mc1 58 j = M 58 j := fun j q => by
                        rw [hq2]
                        exact (if_neg (fun e => by omega)).trans (hO3 j q)
                      refine R_aload_0 hC dX12_firstGift_61 ?_
                      refine R_iload_2 hC dX12_firstGift_62 ?_
                      refine R_iload_4 hC dX12_firstGift_63 ?_
                      refine R_iload_5 hC dX12_firstGift_65 ?_
                      refine R_iload_6 hC dX12_firstGift_67 ?_
                      have hr3 : rg3 c x t w := ⟨⟨hx0, by omega⟩, ⟨ht0, by omega⟩, hw0, by omega⟩
                      have hgw := gv_w hS hr3 hmg
                      have hSM : SM (mvR c x t w) := hgw.1.m
                      have hne := hmg.1
                      have hG3 : GR Mc1 := (by rw [hq2]; exact GR.cp hGold (by decide +kernel) (.inl (by decide)))
                      have hk4 : RW Mc1 114 c := (by rw [hq2]; exact hOld.cp 114)
                      refine R_callVv (as := [vI _, vI _, vI _, vI _]) hC dX12_firstGift_69 mo_12_gives ml_12_303 (by decide) rfl rfl (c12_gives  hG3 hk4 (by omega) (by omega) hM (by omega) (by omega) (by omega) (by omega) (by omega) (by omega)) rfl rfl hRm (by decide) (by decide) (Nat.le_of_ble_eq_true rfl) (fun Mc5 hq6 => ?_)
                      have hFa : Fr [58, 63, 64, 65, 66] [(57, 22), (57, 23)] M Mc5 := Fr.tt hFt (hq6.1.mo (by simp) (by simp))
                      have hOa : ∀ j : Int, (j < 114 ∨ 114 + 114 ≤ j) → Mc5 58 j = M 58 j := fun j q => (hq6.2.1 j q).trans (hOt j q)
                      refine R_iload_3 hC dX12_firstGift_72 ?_
                      refine R_if_eq hC dX12_firstGift_73 (tgt := 87) (by decide) (fun hb73 => ?_) (fun hb73 => ?_)
                      · skip
                        refine R_aload_0 hC dX12_firstGift_87 ?_
                        refine R_iload_2 hC dX12_firstGift_88 ?_
                        have hG7 : GR Mc5 := (GR.fr hG3 hq6.1 (by decide +kernel))
                        have hk8 : RW Mc5 114 (mvR c x t w) := (hq6.2.2)
                        refine R_callVp (as := [vI _]) hC dX12_firstGift_89 mo_12_isPlanOf ml_12_296 (by decide) rfl rfl (c12_isPlanOf  hG7 hk8 (by omega) (by omega) hSM) rfl rfl hRm (by decide) (by decide) (Nat.le_of_ble_eq_true rfl) (fun v11 Mc9 hq10 => ?_)
                        have hFd : Fr [58, 63, 64, 65, 66] [(57, 22), (57, 23)] M Mc9 := Fr.tt hFa (hq10.1.mo (by simp) (by simp))
                        have hOd : ∀ j : Int, (j < 114 ∨ 114 + 114 ≤ j) → Mc9 58 j = M 58 j := fun j q => (congrFun (hq10.1.row (by decide) (by decide)) j).trans (hOa j q)
                        have hpv := hq10.2.2
                        refine R_if_eq hC dX12_firstGift_92 (tgt := 110) (by decide) (fun hb92 => ?_) (fun hb92 => ?_)
                        · skip
                          have hno9 : ¬ Gf c f x t w := fun z => by
                            unfold Gf at z
                            rw [if_pos hb73] at z
                            exact bP_z (hpv.symm.trans hb92) z.2
                          have hF9 := hFd
                          have hO9 := hOd
                          refine R_iinc_6 hC dX12_firstGift_110 rfl ⟨by omega, by omega⟩ ?_
                          refine R_goto hC dX12_firstGift_113 (tgt := 27) (by decide) ?_
                          have hG12 : GR Mc9 := (GR.fr hG7 hq10.1 (by decide +kernel))
                          have hk13 : RW Mc9 0 c := (RW.fr (RW.trb (by rw [hq2]; exact hOld.cpo (by omega)) hq6.1 hq6.2.1 (by omega) (by decide +kernel)) hq10.1 (by decide +kernel))
                          exact ih27 _ _ (by omega) (by omega) hG12 hk13 hF9 hO9 (fun x' t' w' a1 a2 a3 a4 a5 a6 a7 => by
                            by_cases q : 100 * x' + 10 * t' + w' < 100 * x + 10 * t + w
                            · exact hN3 x' t' w' a1 a2 a3 a4 a5 a6 q
                            · have e1 : x' = x := by omega
                              have e2 : t' = t := by omega
                              have e3 : w' = w := by omega
                              subst e1; subst e2; subst e3
                              exact hno9) (by omega)
                        · skip
                          have hyes : Gf c f x t w := by
                            unfold Gf
                            rw [if_pos hb73]
                            exact ⟨hmg, bP_nz (fun z => hb92 (hpv.trans z))⟩
                          refine R_bipush hC dX12_firstGift_95 (by decide +kernel) ⟨by decide, by decide⟩ ?_
                          refine R_iload_4 hC dX12_firstGift_97 ?_
                          refine R_imul hC dX12_firstGift_99 ⟨by omega, by omega⟩ ?_
                          refine R_bipush hC dX12_firstGift_100 (by decide +kernel) ⟨by decide, by decide⟩ ?_
                          refine R_iload_5 hC dX12_firstGift_102 ?_
                          refine R_imul hC dX12_firstGift_104 ⟨by omega, by omega⟩ ?_
                          refine R_iadd hC dX12_firstGift_105 ⟨by omega, by omega⟩ ?_
                          refine R_iload_6 hC dX12_firstGift_106 ?_
                          refine R_iadd hC dX12_firstGift_108 ⟨by omega, by omega⟩ ?_
                          exact R_ireturn hC dX12_firstGift_109 rfl (ret_P (by
                                first
                                  | exact ⟨hFc, fun j q => hOc j (by omega), .inr ⟨x, t, w, ⟨hx0, by omega, ht0, by omega, hw0, by omega⟩, hyes, rfl, fun x' t' w' a1 a2 a3 a4 a5 a6 a7 => hN3 x' t' w' a1 a2 a3 a4 a5 a6 a7⟩⟩
                                  | exact ⟨hFd, fun j q => hOd j (by omega), .inr ⟨x, t, w, ⟨hx0, by omega, ht0, by omega, hw0, by omega⟩, hyes, rfl, fun x' t' w' a1 a2 a3 a4 a5 a6 a7 => hN3 x' t' w' a1 a2 a3 a4 a5 a6 a7⟩⟩))
                      · skip
                        refine R_aload_0 hC dX12_firstGift_76 ?_
                        refine R_iload_2 hC dX12_firstGift_77 ?_
                        have hG14 : GR Mc5 := (GR.fr hG3 hq6.1 (by decide +kernel))
                        have hk15 : RW Mc5 114 (mvR c x t w) := (hq6.2.2)
                        refine R_callVp (as := [vI _]) hC dX12_firstGift_78 mo_12_hasGift ml_12_307 (by decide) rfl rfl (c12_hasGift  hG14 hk15 (by omega) (by omega) hgw.1) rfl rfl hRm (by decide) (by decide) (Nat.le_of_ble_eq_true rfl) (fun v18 Mc16 hq17 => ?_)
                        have hFc : Fr [58, 63, 64, 65, 66] [(57, 22), (57, 23)] M Mc16 := Fr.tt hFa (hq17.1.mo (by simp) (by simp))
                        have hOc : ∀ j : Int, (j < 114 ∨ 114 + 114 ≤ j) → Mc16 58 j = M 58 j := fun j q => (hq17.2.1 j q).trans (hOa j q)
                        have hpv := hq17.2.2.2
                        refine R_if_eq hC dX12_firstGift_81 (tgt := 110) (by decide) (fun hb81 => ?_) (fun hb81 => ?_)
                        · skip
                          have hno9 : ¬ Gf c f x t w := fun z => by
                            unfold Gf at z
                            rw [if_neg hb73] at z
                            exact bP_z (hpv.symm.trans hb81) (by (have y := z.2; unfold rg3 at y ⊢; rw [hgw.2.2.1, hgw.2.2.2]; exact y))
                          have hF9 := hFc
                          have hO9 := hOc
                          refine R_iinc_6 hC dX12_firstGift_110 rfl ⟨by omega, by omega⟩ ?_
                          refine R_goto hC dX12_firstGift_113 (tgt := 27) (by decide) ?_
                          have hG19 : GR Mc16 := (GR.fr hG14 hq17.1 (by decide +kernel))
                          have hk20 : RW Mc16 0 c := (RW.trb (RW.trb (by rw [hq2]; exact hOld.cpo (by omega)) hq6.1 hq6.2.1 (by omega) (by decide +kernel)) hq17.1 hq17.2.1 (by omega) (by decide +kernel))
                          exact ih27 _ _ (by omega) (by omega) hG19 hk20 hF9 hO9 (fun x' t' w' a1 a2 a3 a4 a5 a6 a7 => by
                            by_cases q : 100 * x' + 10 * t' + w' < 100 * x + 10 * t + w
                            · exact hN3 x' t' w' a1 a2 a3 a4 a5 a6 q
                            · have e1 : x' = x := by omega
                              have e2 : t' = t := by omega
                              have e3 : w' = w := by omega
                              subst e1; subst e2; subst e3
                              exact hno9) (by omega)
                        · skip
                          have hyes : Gf c f x t w := by
                            unfold Gf
                            rw [if_neg hb73]
                            exact ⟨hmg, by (have y := bP_nz (fun z => hb81 (hpv.trans z)); unfold rg3 at y ⊢; rw [hgw.2.2.1, hgw.2.2.2] at y; exact y)⟩
                          refine R_goto hC dX12_firstGift_84 (tgt := 95) (by decide) ?_
                          refine R_bipush hC dX12_firstGift_95 (by decide +kernel) ⟨by decide, by decide⟩ ?_
                          refine R_iload_4 hC dX12_firstGift_97 ?_
                          refine R_imul hC dX12_firstGift_99 ⟨by omega, by omega⟩ ?_
                          refine R_bipush hC dX12_firstGift_100 (by decide +kernel) ⟨by decide, by decide⟩ ?_
                          refine R_iload_5 hC dX12_firstGift_102 ?_
                          refine R_imul hC dX12_firstGift_104 ⟨by omega, by omega⟩ ?_
                          refine R_iadd hC dX12_firstGift_105 ⟨by omega, by omega⟩ ?_
                          refine R_iload_6 hC dX12_firstGift_106 ?_
                          refine R_iadd hC dX12_firstGift_108 ⟨by omega, by omega⟩ ?_
                          exact R_ireturn hC dX12_firstGift_109 rfl (ret_P (by
                                first
                                  | exact ⟨hFc, fun j q => hOc j (by omega), .inr ⟨x, t, w, ⟨hx0, by omega, ht0, by omega, hw0, by omega⟩, hyes, rfl, fun x' t' w' a1 a2 a3 a4 a5 a6 a7 => hN3 x' t' w' a1 a2 a3 a4 a5 a6 a7⟩⟩
                                  | exact ⟨hFd, fun j q => hOd j (by omega), .inr ⟨x, t, w, ⟨hx0, by omega, ht0, by omega, hw0, by omega⟩, hyes, rfl, fun x' t' w' a1 a2 a3 a4 a5 a6 a7 => hN3 x' t' w' a1 a2 a3 a4 a5 a6 a7⟩⟩))
                    · skip
                      replace hb47 := bP_z hb47
                      have hno9 : ¬ Gf c f x t w := fun z => by
                        unfold Gf at z
                        split at z
                        · exact hb47 z.1
                        · exact hb47 z.1
                      have hF9 := hF3
                      have hO9 := hO3
                      refine R_goto hC dX12_firstGift_50 (tgt := 110) (by decide) ?_
                      refine R_iinc_6 hC dX12_firstGift_110 rfl ⟨by omega, by omega⟩ ?_
                      refine R_goto hC dX12_firstGift_113 (tgt := 27) (by decide) ?_
                      exact ih27 _ _ (by omega) (by omega) hg3 hk03 hF9 hO9 (fun x' t' w' a1 a2 a3 a4 a5 a6 a7 => by
                        by_cases q : 100 * x' + 10 * t' + w' < 100 * x + 10 * t + w
                        · exact hN3 x' t' w' a1 a2 a3 a4 a5 a6 q
                        · have e1 : x' = x := by omega
                          have e2 : t' = t := by omega
                          have e3 : w' = w := by omega
                          subst e1; subst e2; subst e3
                          exact hno9) (by omega)
              exact L27 _ _ _ (by omega) (by omega) hg2 hk02 hF2 hO2 (fun x' t' w' a1 a2 a3 a4 a5 a6 a7 => hN2 x' t' w' a1 a2 a3 a4 a5 a6 (by omega)) (Nat.lt_succ_self _)
        exact L15 _ _ _ (by omega) (by omega) hg hk0 hF hO (fun x' t' w' a1 a2 a3 a4 a5 a6 a7 => hN x' t' w' a1 a2 a3 a4 a5 a6 (by omega)) (Nat.lt_succ_self _)
  exact L3 _ _ _ (by omega) (by omega) hG hK Fr.rf (fun j _ => rfl) (fun x' t' w' a1 a2 a3 a4 a5 a6 a7 => by omega) (Nat.lt_succ_self _)
theorem dX12_help_0 : decode cX12_help 0 = .ok (.aload_n 0, 1) := by decide +kernel
theorem dX12_help_1 : decode cX12_help 1 = .ok (.iconst 0, 1) := by decide +kernel
theorem dX12_help_2 : decode cX12_help 2 = .ok (.invokevirtual 296, 3) := by decide +kernel
theorem dX12_help_5 : decode cX12_help 5 = .ok (.ifCond .eq 13, 3) := by decide +kernel
theorem dX12_help_8 : decode cX12_help 8 = .ok (.iload_n 1, 1) := by decide +kernel
theorem dX12_help_9 : decode cX12_help 9 = .ok (.ifCond .eq 7, 3) := by decide +kernel
theorem dX12_help_12 : decode cX12_help 12 = .ok (.iconst (-1), 1) := by decide +kernel
theorem dX12_help_13 : decode cX12_help 13 = .ok (.goto 4, 3) := by decide +kernel
theorem dX12_help_16 : decode cX12_help 16 = .ok (.iconst 0, 1) := by decide +kernel
theorem dX12_help_17 : decode cX12_help 17 = .ok (.ireturn, 1) := by decide +kernel
theorem dX12_help_18 : decode cX12_help 18 = .ok (.aload_n 0, 1) := by decide +kernel
theorem dX12_help_19 : decode cX12_help 19 = .ok (.iconst 0, 1) := by decide +kernel
theorem dX12_help_20 : decode cX12_help 20 = .ok (.bipush 114, 2) := by decide +kernel
theorem dX12_help_22 : decode cX12_help 22 = .ok (.iconst 0, 1) := by decide +kernel
theorem dX12_help_23 : decode cX12_help 23 = .ok (.invokevirtual 310, 3) := by decide +kernel
theorem dX12_help_26 : decode cX12_help 26 = .ok (.istore_n 2, 1) := by decide +kernel
theorem dX12_help_27 : decode cX12_help 27 = .ok (.iload_n 2, 1) := by decide +kernel
theorem dX12_help_28 : decode cX12_help 28 = .ok (.iconst (-1), 1) := by decide +kernel
theorem dX12_help_29 : decode cX12_help 29 = .ok (.if_icmp .eq 13, 3) := by decide +kernel
theorem dX12_help_32 : decode cX12_help 32 = .ok (.iload_n 1, 1) := by decide +kernel
theorem dX12_help_33 : decode cX12_help 33 = .ok (.ifCond .eq 7, 3) := by decide +kernel
theorem dX12_help_36 : decode cX12_help 36 = .ok (.iload_n 2, 1) := by decide +kernel
theorem dX12_help_37 : decode cX12_help 37 = .ok (.goto 4, 3) := by decide +kernel
theorem dX12_help_40 : decode cX12_help 40 = .ok (.iconst 1, 1) := by decide +kernel
theorem dX12_help_41 : decode cX12_help 41 = .ok (.ireturn, 1) := by decide +kernel
theorem dX12_help_42 : decode cX12_help 42 = .ok (.aload_n 0, 1) := by decide +kernel
theorem dX12_help_43 : decode cX12_help 43 = .ok (.iconst 0, 1) := by decide +kernel
theorem dX12_help_44 : decode cX12_help 44 = .ok (.bipush 114, 2) := by decide +kernel
theorem dX12_help_46 : decode cX12_help 46 = .ok (.iconst 1, 1) := by decide +kernel
theorem dX12_help_47 : decode cX12_help 47 = .ok (.invokevirtual 310, 3) := by decide +kernel
theorem dX12_help_50 : decode cX12_help 50 = .ok (.istore_n 3, 1) := by decide +kernel
theorem dX12_help_51 : decode cX12_help 51 = .ok (.iload_n 1, 1) := by decide +kernel
theorem dX12_help_52 : decode cX12_help 52 = .ok (.ifCond .ne 8, 3) := by decide +kernel
theorem dX12_help_55 : decode cX12_help 55 = .ok (.iload_n 3, 1) := by decide +kernel
theorem dX12_help_56 : decode cX12_help 56 = .ok (.iconst (-1), 1) := by decide +kernel
theorem dX12_help_57 : decode cX12_help 57 = .ok (.if_icmp .ne 7, 3) := by decide +kernel
theorem dX12_help_60 : decode cX12_help 60 = .ok (.iload_n 3, 1) := by decide +kernel
theorem dX12_help_61 : decode cX12_help 61 = .ok (.goto 4, 3) := by decide +kernel
theorem dX12_help_64 : decode cX12_help 64 = .ok (.iconst 2, 1) := by decide +kernel
theorem dX12_help_65 : decode cX12_help 65 = .ok (.ireturn, 1) := by decide +kernel
set_option maxHeartbeats 400000 in
theorem c12_help {G : Gl} {l : Launch}  {M : Mem} {c : Int → Int} {f : Int} (hG : GR M) (hK : RW M 0 c) (hS : SP c) : Ct G LY 82 l 8 m12_help [vR 57, vI f] M (RP (fun v M' => Fr [58, 63, 64, 65, 66] [(57, 22), (57, 23)] M M' ∧ TRo M M' ∧ HelpM c f v)) := by
  refine R_start (by decide +kernel) (Nat.le_of_ble_eq_true rfl) (fun C hC hRm hlau => ?_)
  show RZ G LY C (Zn G LY 82 C (RP (fun v M' => Fr [58, 63, 64, 65, 66] [(57, 22), (57, 23)] M M' ∧ TRo M M' ∧ HelpM c f v))) 0 0 82 0 [some (vR 57), some (vI f), none, none] [] M
  have hM := hS.m
  have hI := hM.I
  have hL := hM.1.1
  have hW := hM.1.2
  refine R_aload_0 hC dX12_help_0 ?_
  refine R_iconst hC dX12_help_1 ⟨by decide, by decide⟩ ?_
  refine R_callVp (as := [vI _]) hC dX12_help_2 mo_12_isPlanOf ml_12_296 (by decide) rfl rfl (c12_isPlanOf  hG hK (by omega) (by omega) hM) rfl rfl hRm (by decide) (by decide) (Nat.le_of_ble_eq_true rfl) (fun v3 Mc1 hq2 => ?_)
  have hF0 : Fr [58, 63, 64, 65, 66] [(57, 22), (57, 23)] M Mc1 := hq2.1.mo (by simp) (by simp)
  have hT0 : TRo M Mc1 := TRo.of hq2.1 (by decide) (by decide)
  refine R_if_eq hC dX12_help_5 (tgt := 18) (by decide) (fun hb5 => ?_) (fun hb5 => ?_)
  · skip
    have hnp := bP_z (hq2.2.2.symm.trans hb5)
    refine R_aload_0 hC dX12_help_18 ?_
    refine R_iconst hC dX12_help_19 ⟨by decide, by decide⟩ ?_
    refine R_bipush hC dX12_help_20 (by decide +kernel) ⟨by decide, by decide⟩ ?_
    refine R_iconst hC dX12_help_22 ⟨by decide, by decide⟩ ?_
    have hG4 : GR Mc1 := (GR.fr hG hq2.1 (by decide +kernel))
    have hk5 : RW Mc1 0 c := (RW.fr hK hq2.1 (by decide +kernel))
    refine R_callVp (as := [vI _, vI _, vI _]) hC dX12_help_23 mo_12_firstGift ml_12_310 (by decide) rfl rfl (c12_firstGift  hG4 hk5 hS) rfl rfl hRm (by decide) (by decide) (Nat.le_of_ble_eq_true rfl) (fun v8 Mc6 hq7 => ?_)
    have hF1 : Fr [58, 63, 64, 65, 66] [(57, 22), (57, 23)] M Mc6 := Fr.tt hF0 (hq7.1.mo (by simp) (by simp))
    have hT1 : TRo M Mc6 := hT0.tr hq7.2.1
    have g1 : FstV (c 121) (c 122) (G1 c) v8 := hq7.2.2
    refine R_istore_2 hC dX12_help_26 rfl ?_
    refine R_iload_2 hC dX12_help_27 ?_
    refine R_iconst hC dX12_help_28 ⟨by decide, by decide⟩ ?_
    refine R_icmp_eq hC dX12_help_29 (tgt := 42) (by decide) (fun hb29 => ?_) (fun hb29 => ?_)
    · skip
      refine R_aload_0 hC dX12_help_42 ?_
      refine R_iconst hC dX12_help_43 ⟨by decide, by decide⟩ ?_
      refine R_bipush hC dX12_help_44 (by decide +kernel) ⟨by decide, by decide⟩ ?_
      refine R_iconst hC dX12_help_46 ⟨by decide, by decide⟩ ?_
      have hG9 : GR Mc6 := (GR.fr hG4 hq7.1 (by decide +kernel))
      have hk10 : RW Mc6 0 c := (RW.tro hk5 hq7.1 hq7.2.1 (by decide +kernel))
      refine R_callVp (as := [vI _, vI _, vI _]) hC dX12_help_47 mo_12_firstGift ml_12_310 (by decide) rfl rfl (c12_firstGift  hG9 hk10 hS) rfl rfl hRm (by decide) (by decide) (Nat.le_of_ble_eq_true rfl) (fun v13 Mc11 hq12 => ?_)
      have hF2 : Fr [58, 63, 64, 65, 66] [(57, 22), (57, 23)] M Mc11 := Fr.tt hF1 (hq12.1.mo (by simp) (by simp))
      have hT2 : TRo M Mc11 := hT1.tr hq12.2.1
      have g2 : FstV (c 121) (c 122) (G2 c) v13 := hq12.2.2
      refine R_istore_3 hC dX12_help_50 rfl ?_
      refine R_iload_1 hC dX12_help_51 ?_
      refine R_if_ne hC dX12_help_52 (tgt := 60) (by decide) (fun hb52 => ?_) (fun hb52 => ?_)
      · skip
        refine R_iload_3 hC dX12_help_60 ?_
        refine R_goto hC dX12_help_61 (tgt := 65) (by decide) ?_
        exact R_ireturn hC dX12_help_65 rfl (ret_P ⟨hF2, hT2, .inr ⟨hnp, _, g1, .inr ⟨hb29, _, g2, by first | (rw [if_neg hb52]) | (rw [if_pos hb52, if_pos hb57, hb57]) | (rw [if_pos hb52, if_neg hb57])⟩⟩⟩)
      · skip
        refine R_iload_3 hC dX12_help_55 ?_
        refine R_iconst hC dX12_help_56 ⟨by decide, by decide⟩ ?_
        refine R_icmp_ne hC dX12_help_57 (tgt := 64) (by decide) (fun hb57 => ?_) (fun hb57 => ?_)
        · skip
          refine R_iconst hC dX12_help_64 ⟨by decide, by decide⟩ ?_
          exact R_ireturn hC dX12_help_65 rfl (ret_P ⟨hF2, hT2, .inr ⟨hnp, _, g1, .inr ⟨hb29, _, g2, by first | (rw [if_neg hb52]) | (rw [if_pos hb52, if_pos hb57, hb57]) | (rw [if_pos hb52, if_neg hb57])⟩⟩⟩)
        · skip
          refine R_iload_3 hC dX12_help_60 ?_
          refine R_goto hC dX12_help_61 (tgt := 65) (by decide) ?_
          exact R_ireturn hC dX12_help_65 rfl (ret_P ⟨hF2, hT2, .inr ⟨hnp, _, g1, .inr ⟨hb29, _, g2, by first | (rw [if_neg hb52]) | (rw [if_pos hb52, if_pos hb57, hb57]) | (rw [if_pos hb52, if_neg hb57])⟩⟩⟩)
    · skip
      refine R_iload_1 hC dX12_help_32 ?_
      refine R_if_eq hC dX12_help_33 (tgt := 40) (by decide) (fun hb33 => ?_) (fun hb33 => ?_)
      · skip
        refine R_iconst hC dX12_help_40 ⟨by decide, by decide⟩ ?_
        exact R_ireturn hC dX12_help_41 rfl (ret_P ⟨hF1, hT1, .inr ⟨hnp, _, g1, .inl ⟨hb29, by first | (rw [if_pos hb33]) | (rw [if_neg hb33])⟩⟩⟩)
      · skip
        refine R_iload_2 hC dX12_help_36 ?_
        refine R_goto hC dX12_help_37 (tgt := 41) (by decide) ?_
        exact R_ireturn hC dX12_help_41 rfl (ret_P ⟨hF1, hT1, .inr ⟨hnp, _, g1, .inl ⟨hb29, by first | (rw [if_pos hb33]) | (rw [if_neg hb33])⟩⟩⟩)
  · skip
    have hpl := bP_nz (fun z => hb5 (hq2.2.2.trans z))
    refine R_iload_1 hC dX12_help_8 ?_
    refine R_if_eq hC dX12_help_9 (tgt := 16) (by decide) (fun hb9 => ?_) (fun hb9 => ?_)
    · skip
      refine R_iconst hC dX12_help_16 ⟨by decide, by decide⟩ ?_
      exact R_ireturn hC dX12_help_17 rfl (ret_P ⟨hF0, hT0, .inl ⟨hpl, by first | (rw [if_pos hb9]) | (rw [if_neg hb9])⟩⟩)
    · skip
      refine R_iconst hC dX12_help_12 ⟨by decide, by decide⟩ ?_
      refine R_goto hC dX12_help_13 (tgt := 17) (by decide) ?_
      exact R_ireturn hC dX12_help_17 rfl (ret_P ⟨hF0, hT0, .inl ⟨hpl, by first | (rw [if_pos hb9]) | (rw [if_neg hb9])⟩⟩)
