/-! Draws: a STOCK stays one -/
theorem upd1_s {f : Int → Int} {k v : Int} : upd1 f k v k = v := if_pos rfl
theorem upd1_ne {f : Int → Int} {k v j : Int} (h : j ≠ k) : upd1 f k v j = f j := if_neg h
theorem SP.ch {d e : Int → Int} (h : SP d) (h1 : ∀ k, k ≠ 119 → k < 28 ∨ 58 ≤ k → e k = d k) (h2 : ∀ p, 0 ≤ p → p < 30 → 0 ≤ e (28 + p) ∧ e (28 + p) ≤ 3) (h3 : 0 ≤ e 119 ∧ e 119 ≤ 90000) : SP e := by
  obtain ⟨a, b, c, g, f, z⟩ := h
  refine ⟨?_, fun x x0 x1 => ?_, fun w w0 w1 => ?_, fun p p0 p1 => ⟨h2 p p0 p1, ?_⟩, ⟨?_, h3, ?_⟩, fun w w0 w1 => ?_⟩
  · rw [h1 121 (by decide) (by decide), h1 122 (by decide) (by decide)]; exact a
  · rw [h1 x (by omega) (by omega), h1 (5 + x) (by omega) (by omega)]; exact b x x0 x1
  · rw [h1 _ (by omega) (by omega), h1 (16 + w) (by omega) (by omega), h1 (22 + w) (by omega) (by omega)]; exact c w w0 w1
  · rw [h1 _ (by omega) (by omega), h1 (88 + p) (by omega) (by omega)]; exact (g p p0 p1).2
  · rw [h1 118 (by decide) (by decide)]; exact f.1
  · rw [h1 120 (by decide) (by decide)]; exact f.2.2
  · rw [h1 122 (by decide) (by decide)] at w1
    have := a.2
    rw [h1 _ (by omega) (by omega)]
    exact z w w0 w1
noncomputable def coP (d : Int → Int) : Int → Int := fun b => if 28 ≤ b ∧ b < 58 then d b - plT (insOf d) (b - 28) else d b
noncomputable def coR (d : Int → Int) : Int → Int := @ite (Int → Int) (planI (insOf d)) (Classical.propDecidable _) (upd1 (coP d) 119 (d 119 + plC (insOf d))) d
theorem offr_le {d : Int → Int} (h : SP d) {x w : Int} (x0 : 0 ≤ x) (x1 : x < 5) (w0 : 0 ≤ w) (w1 : w < 6) : oIf (insOf d) x w ≤ d (28 + x * 6 + w) := by
  have a := (h.off x0 x1 w0 w1).2
  have b := (h.h x0 x1 w0 w1).1.1
  unfold oIf
  by_cases q : x < iL (insOf d) ∧ w < iW (insOf d)
  · rw [if_pos q]; exact a
  · rw [if_neg q]; exact b
theorem SP.coPp {d : Int → Int} (h : SP d) {v : Int} (v0 : 0 ≤ v) (v1 : v ≤ 90000) : SP (upd1 (coP d) 119 v) := by
  refine h.ch (fun k k0 k1 => ?_) (fun p p0 p1 => ?_) ?_
  · show (if k = 119 then _ else (if 28 ≤ k ∧ k < 58 then _ else d k)) = _
    rw [if_neg k0, if_neg (by omega)]
  · show 0 ≤ (if 28 + p = 119 then _ else (if 28 ≤ 28 + p ∧ 28 + p < 58 then d (28 + p) - plT (insOf d) (28 + p - 28) else _)) ∧ (if 28 + p = 119 then _ else (if 28 ≤ 28 + p ∧ 28 + p < 58 then d (28 + p) - plT (insOf d) (28 + p - 28) else _)) ≤ 3
    rw [if_neg (by omega), if_pos (by omega)]
    have a := plT_bd (SP.I h) (y := p / 6) (u := p % 6) (by omega) (by omega) (by omega)
    have b := offr_le h (x := p / 6) (w := p % 6) (by omega) (by omega) (by omega) (by omega)
    have c := (h.2.2.2.1 p p0 p1).1
    rw [show p / 6 * 6 + p % 6 = p by omega] at a
    rw [show 28 + p / 6 * 6 + p % 6 = 28 + p by omega] at b
    rw [show 28 + p - 28 = p by omega]
    omega
  · show 0 ≤ (if (119 : Int) = 119 then v else _) ∧ (if (119 : Int) = 119 then v else _) ≤ 90000
    rw [if_pos rfl]
    exact ⟨v0, v1⟩
theorem SP.coRr {d : Int → Int} (h : SP d) (hb : d 119 ≤ 89900) : SP (coR d) ∧ 0 ≤ coR d 119 ∧ coR d 119 ≤ d 119 + 90 := by
  have a := plC_bd (SP.I h)
  have b := h.2.2.2.2.1.2.1.1
  unfold coR
  by_cases q : planI (insOf d)
  · rw [if_pos q]
    refine ⟨h.coPp (by omega) (by omega), ?_⟩
    show 0 ≤ (if (119 : Int) = 119 then d 119 + plC (insOf d) else _) ∧ (if (119 : Int) = 119 then d 119 + plC (insOf d) else _) ≤ _
    rw [if_pos rfl]
    omega
  · rw [if_neg q]
    exact ⟨h, b, by omega⟩
theorem SP.cell {d : Int → Int} (h : SP d) {p v : Int} (p0 : 0 ≤ p) (p1 : p < 30) (v0 : 0 ≤ v) (v1 : v ≤ 3) : SP (upd1 d (28 + p) v) := by
  refine h.ch (fun k k0 k1 => if_neg (by omega)) (fun q q0 q1 => ?_) ?_
  · show 0 ≤ (if 28 + q = 28 + p then v else d (28 + q)) ∧ (if 28 + q = 28 + p then v else d (28 + q)) ≤ 3
    by_cases e : 28 + q = 28 + p
    · rw [if_pos e]; exact ⟨v0, v1⟩
    · rw [if_neg e]; exact (h.2.2.2.1 q q0 q1).1
  · show 0 ≤ (if (119 : Int) = 28 + p then v else d 119) ∧ (if (119 : Int) = 28 + p then v else d 119) ≤ 90000
    rw [if_neg (by omega)]
    exact h.2.2.2.2.1.2.1
theorem SP.went {d : Int → Int} (h : SP d) {v : Int} (v0 : 0 ≤ v) (v1 : v ≤ 90000) : SP (upd1 d 119 v) := by
  refine h.ch (fun k k0 k1 => if_neg k0) (fun q q0 q1 => ?_) ?_
  · show 0 ≤ (if 28 + q = 119 then v else d (28 + q)) ∧ (if 28 + q = 119 then v else d (28 + q)) ≤ 3
    rw [if_neg (by omega)]
    exact (h.2.2.2.1 q q0 q1).1
  · show 0 ≤ (if (119 : Int) = 119 then v else _) ∧ (if (119 : Int) = 119 then v else _) ≤ 90000
    rw [if_pos rfl]
    exact ⟨v0, v1⟩
theorem SP.mcG {d : Int → Int} (h : SP d) {w x t k s2 s3 : Int} (w0 : 0 ≤ w) (w1 : w < 6) (x0 : 0 ≤ x) (x1 : x < 5) (t0 : 0 ≤ t) (t1 : t < 5) (hb : d 119 ≤ 89900) : SP (mcG d w x t k s2 s3).1 ∧ (mcG d w x t k s2 s3).1 119 ≤ d 119 + 1 := by
  have c := (h.2.2.2.1 (x * 6 + w) (by omega) (by omega)).1
  have b := h.2.2.2.2.1.2.1.1
  by_cases q : k < 2
  · rw [mcG_0 q]
    refine ⟨h.cell (by omega) (by omega) (by omega) (by omega), ?_⟩
    show (if (119 : Int) = 28 + (x * 6 + w) then _ else d 119) ≤ _
    rw [if_neg (by omega)]
    omega
  · by_cases q2 : k = 2
    · by_cases g : mayGo d x w
      · rw [mcG_2t q2 g]
        have o := (h.off x0 x1 w0 w1).2
        have g1 := g.1
        rw [show 28 + x * 6 + w = 28 + (x * 6 + w) by omega] at o
        refine ⟨(h.cell (by omega) (by omega) (by omega) (by omega)).went (by omega) (by omega), ?_⟩
        simp only
        rw [upd1_s]
        exact Int.le_refl _
      · rw [mcG_2f q2 g]
        exact ⟨h, by show d 119 ≤ d 119 + 1; omega⟩
    · by_cases g : mayGive d x t w
      · rw [mcG_3t (by omega) g]
        have o := (h.off x0 x1 w0 w1).2
        obtain ⟨g1, g2, g3, g4⟩ := g
        refine ⟨h.mv x0 x1 t0 t1 w0 w1 g1 (by omega) (by omega), ?_⟩
        show (if (119 : Int) = 28 + (t * 6 + w) then _ else (if (119 : Int) = 28 + (x * 6 + w) then _ else d 119)) ≤ _
        rw [if_neg (by omega), if_neg (by omega)]
        omega
      · rw [mcG_3f (by omega) g]
        exact ⟨h, by show d 119 ≤ d 119 + 1; omega⟩
abbrev RS : Type := (Int → Int) × Int × Int
noncomputable def rnS (S : RS) : RS :=
  if drV S.2.1 6 = 3 then (upd1 S.1 118 (min 60 (S.1 118 + 1)), nxS S.2.1, S.2.2)
  else if drV S.2.1 6 = 5 then (coR S.1, nxS S.2.1, S.2.2 + bP (planI (insOf S.1)))
  else if 0 < S.1 121 ∧ 0 < S.1 122 then ((mcF S.1 (nxS S.2.1) (drV S.2.1 6)).1, (mcF S.1 (nxS S.2.1) (drV S.2.1 6)).2, S.2.2)
  else (S.1, nxS S.2.1, S.2.2)
noncomputable def rnF (S : RS) : Nat → RS
  | 0 => S
  | n + 1 => rnS (rnF S n)
theorem rnF_s {S : RS} {i j : Int} (h : 0 ≤ i) (hj : j = i + 1) : rnF S j.toNat = rnS (rnF S i.toNat) := by
  subst hj
  rw [show (i + 1).toNat = i.toNat + 1 by omega, rnF]
theorem rnS_3 {e : Int → Int} {s p : Int} (h : drV s 6 = 3) : rnS (e, s, p) = (upd1 e 118 (min 60 (e 118 + 1)), nxS s, p) := if_pos h
theorem rnS_5 {e : Int → Int} {s p : Int} (h : drV s 6 = 5) : rnS (e, s, p) = (coR e, nxS s, p + bP (planI (insOf e))) := (if_neg (show ¬ drV s 6 = 3 by omega)).trans (if_pos h)
theorem rnS_m {e : Int → Int} {s p : Int} (h3 : drV s 6 ≠ 3) (h5 : drV s 6 ≠ 5) (hh : 0 < e 121 ∧ 0 < e 122) : rnS (e, s, p) = ((mcF e (nxS s) (drV s 6)).1, (mcF e (nxS s) (drV s 6)).2, p) := (if_neg h3).trans ((if_neg h5).trans (if_pos hh))
theorem rnS_n {e : Int → Int} {s p : Int} (h3 : drV s 6 ≠ 3) (h5 : drV s 6 ≠ 5) (hh : ¬ (0 < e 121 ∧ 0 < e 122)) : rnS (e, s, p) = (e, nxS s, p) := (if_neg h3).trans ((if_neg h5).trans (if_neg hh))
theorem rnS_ok {e : Int → Int} {s p : Int} (h : SP e) (hb : e 119 ≤ 89900) : SP (rnS (e, s, p)).1 ∧ (rnS (e, s, p)).1 119 ≤ e 119 + 90 ∧ p ≤ (rnS (e, s, p)).2.2 ∧ (rnS (e, s, p)).2.2 ≤ p + 1 := by
  have hy := h.2.2.2.2.1.1
  have hLW := h.1
  by_cases a : drV s 6 = 3
  · rw [rnS_3 a]
    refine ⟨h.yr (by omega) (by omega), ?_, Int.le_refl _, by show p ≤ p + 1; omega⟩
    simp only
    rw [upd1_ne (by decide)]
    omega
  · by_cases b : drV s 6 = 5
    · rw [rnS_5 b]
      have c := h.coRr hb
      have g := bP_01 (planI (insOf e))
      exact ⟨c.1, c.2.2, by show p ≤ p + _; omega, by show p + _ ≤ p + 1; omega⟩
    · by_cases c : 0 < e 121 ∧ 0 < e 122
      · rw [rnS_m a b c]
        have b1 := drV_bd (s := nxS s) c.2
        have b2 := drV_bd (s := nxS (nxS s)) c.1
        have b3 := drV_bd (s := nxS (nxS (nxS s))) c.1
        have g := h.mcG (k := drV s 6) (s2 := nxS (nxS (nxS s))) (s3 := nxS (nxS (nxS (nxS s)))) b1.1 (by omega) b2.1 (by omega) b3.1 (by omega) hb
        exact ⟨g.1, Int.le_trans g.2 (by omega), Int.le_refl _, by show p ≤ p + 1; omega⟩
      · rw [rnS_n a b c]
        exact ⟨h, by show e 119 ≤ e 119 + 90; omega, Int.le_refl _, by show p ≤ p + 1; omega⟩
