section STEPD
theorem st_8 {G : Gl} {l : Launch} (hlt : l.stackTraces = false) : St_8 G l := fun M X c hc0 hc9 hR w => by
  obtain ⟨hG, h4, hS, h53, f0, f1, h54, n0, n1, hF, h9⟩ := hR.cf hc9
  have hB := hS.I
  have e9 : iL (insOf X.a.d) = X.a.d 121 := rfl
  refine ⟨10, _, by decide, hL_order (c11_order hlt hG h4 hS hF) (fun r M' h => h.elim (fun v z => ⟨v, z.1⟩)) (fun E M' h => h.1), fun o M1 h => ?_⟩
  rcases h with ⟨v, M', ⟨v', e1, -, hF1, ⟨hG1, hp⟩, b, o, e, hb, hT, g1, g2⟩, rfl, rfl⟩ | ⟨M', ⟨-, ⟨b, o, e, hb, hT⟩, hF1, hG1, hp⟩, rfl, rfl⟩
  · have e2 : v = v' := Sum.inl.inj (Option.some.inj e1)
    subst e2
    have ao := ord_eq hB hb o e
    rw [← pow5] at ao
    have r1 := ask_1 hR hF1 (by decide +kernel) hG1 hp
    have r2 : REL (uM M' 81 0 v) X c := ask_1 r1 fr1 (by decide +kernel) (hG1.uA (by decide) (.inl (by decide))) (r1.2.1.1.fr fr1 (by decide +kernel))
    refine ⟨0, rfl, 7, _, by decide, c12_order r2.1 r2.2.2.1.1.1 hS hb, fun u M2 h => ?_⟩
    obtain ⟨q1, q2, q3, q4⟩ := h
    obtain ⟨tt, tf⟩ := ite01 q3 q4
    have a1 : (luF (insOf X.a.d) b (X.a.d 121).toNat 0 0 0 (spr X.a.d) o (0, -1, e)).1 = (ordF (insOf X.a.d) b ((5 : Int) ^ (X.a.d 121).toNat).toNat).1 := ao.1
    have a4 : 0 ≤ (luF (insOf X.a.d) b (X.a.d 121).toNat 0 0 0 (spr X.a.d) o (0, -1, e)).1 := ao.2.2.2.1
    have hT2 : w = -1 ∨ ((0 ≤ w ∧ w ≤ X.a.d 121 - 1) ∧ 0 < (ordF (insOf X.a.d) b ((5 : Int) ^ (X.a.d 121).toNat).toNat).1) := hT.imp id (fun h => ⟨⟨h.1.1, by have := h.1.2; omega⟩, by have := h.2; omega⟩)
    have z := St_val (T := True) (v := v) (v' := u) r2 q1 q2 (by decide +kernel) (by decide +kernel) (by decide +kernel) (fun _ => tt hT2) (fun h => absurd trivial h) (fun _ k => by
      by_cases y : w = -1
      · rw [g1 y, k.1 y]; exact a1
      · rw [g2 y, k.2 y]
        rcases hT with q | q
        · exact absurd q y
        · exact ao.2.2.1 (by show 0 < (luF (insOf X.a.d) b (X.a.d 121).toNat 0 0 0 (spr X.a.d) o (0, -1, e)).1; have := q.2; omega) w q.1.1 q.1.2)
    exact ⟨(z.2.2.1 trivial).1, fun _ => by rw [z.2.1, uM_same]; exact (z.2.2.1 trivial).2, X, z.1⟩
  · have ao := ord_eq hB hb o e
    rw [← pow5] at ao
    have r1 := ask_1 hR hF1 (by decide +kernel) hG1 hp
    refine ⟨1, rfl, 7, _, by decide, c12_order r1.1 r1.2.2.1.1.1 hS hb, fun u M2 h => ?_⟩
    obtain ⟨q1, q2, q3, q4⟩ := h
    obtain ⟨tt, tf⟩ := ite01 q3 q4
    have a1 : (luF (insOf X.a.d) b (X.a.d 121).toNat 0 0 0 (spr X.a.d) o (0, -1, e)).1 = (ordF (insOf X.a.d) b ((5 : Int) ^ (X.a.d 121).toNat).toNat).1 := ao.1
    have hT2 : ¬ (w = -1 ∨ ((0 ≤ w ∧ w ≤ X.a.d 121 - 1) ∧ 0 < (ordF (insOf X.a.d) b ((5 : Int) ^ (X.a.d 121).toNat).toNat).1)) := fun h => hT (h.imp id (fun h => ⟨⟨h.1.1, by have := h.1.2; omega⟩, by have := h.2; omega⟩))
    have z := St_val (T := False) (Y := True) (v := 0) (v' := u) r1 q1 q2 (by decide +kernel) (by decide +kernel) (by decide +kernel) (fun h => h.elim) (fun _ => tf hT2) (fun h => h.elim)
    exact ⟨z.2.2.2 id, fun z => absurd z (by decide), X, z.1⟩
theorem st_23 {G : Gl} {l : Launch} (hlt : l.stackTraces = false) : St_23 G l := fun M X c hc0 hc9 hR f n w => by
  obtain ⟨hG, h4, hS, h53, f0, f1, h54, n0, n1, hF, h9⟩ := hR.cf hc9
  refine ⟨7, _, by decide, hL_drawn (c11_drawn hlt hG h4 hS hF (by omega)) (fun r M' h => h.elim (fun v z => ⟨v, z.1⟩)) (fun E M' h => h.1.imp (fun z => z.1) (fun z => z.1)), fun o M1 h => ?_⟩
  rcases h with ⟨v, M', ⟨v', e1, hT, hF1, ⟨hG1, hp⟩, hv⟩, rfl, rfl⟩ | ⟨M', ⟨hE, hF1, hG1, hp⟩, rfl, rfl⟩ | ⟨M', ⟨hE, hF1, hG1, hp⟩, rfl, rfl⟩
  · have e2 : v = v' := Sum.inl.inj (Option.some.inj e1)
    subst e2
    have r1 := ask_1 hR hF1 (by decide +kernel) hG1 hp
    have r2 : REL (uM M' 81 0 v) X c := ask_1 r1 fr1 (by decide +kernel) (hG1.uA (by decide) (.inl (by decide))) (r1.2.1.1.fr fr1 (by decide +kernel))
    refine ⟨0, rfl, 9, _, by decide, c12_drawn r2.1 r2.2.2.1.1.1 hS (by omega), fun u M2 h => ?_⟩
    obtain ⟨q1, q2, q3, q4⟩ := h
    rw [if_pos hT.1, if_pos hT.2] at q3 q4
    have z := St_val (T := True) (v := v) (v' := u) r2 q1 q2 (by decide +kernel) (by decide +kernel) (by decide +kernel) (fun _ => ⟨q3, q4 rfl⟩) (fun h => absurd trivial h) (fun _ k => hv.trans k.symm)
    exact ⟨(z.2.2.1 trivial).1, fun _ => by rw [z.2.1, uM_same]; exact (z.2.2.1 trivial).2, X, z.1⟩
  · have r1 := ask_1 hR hF1 (by decide +kernel) hG1 hp
    have hT : ¬ (0 ≤ w ∧ w ≤ 2) := by
      rcases hE with h | h
      · exact h.2
      · exact absurd h.1 (by decide)
    refine ⟨1, rfl, 9, _, by decide, c12_drawn r1.1 r1.2.2.1.1.1 hS (by omega), fun u M2 h => ?_⟩
    obtain ⟨q1, q2, q3, q4⟩ := h
    rw [if_neg hT] at q3
    have z := St_val (T := False) (Y := True) (v := 0) (v' := u) r1 q1 q2 (by decide +kernel) (by decide +kernel) (by decide +kernel) (fun h => h.elim) (fun _ => q3) (fun h => h.elim)
    exact ⟨q3, fun z => absurd z (by decide), X, z.1⟩
  · have r1 := ask_1 hR hF1 (by decide +kernel) hG1 hp
    have hT : (0 ≤ w ∧ w ≤ 2) ∧ ¬ (0 ≤ n ∧ n ≤ 40) := by
      rcases hE with h | h
      · exact absurd h.1 (by decide)
      · exact h.2
    refine ⟨2, rfl, 9, _, by decide, c12_drawn r1.1 r1.2.2.1.1.1 hS (by omega), fun u M2 h => ?_⟩
    obtain ⟨q1, q2, q3, q4⟩ := h
    rw [if_pos hT.1, if_neg hT.2] at q3
    have r3 : REL M2 X (c + 1) := ask_2 r1 q1 q2 (by decide +kernel) (r1.1.fr q1 (by decide +kernel))
    exact ⟨q3, fun z => absurd z (by decide), X, r3⟩
theorem st_1 {G : Gl} {l : Launch} (hlt : l.stackTraces = false) : St_1 G l := fun M X c hc0 hc9 hR m => by
  obtain ⟨hG, h4, hS, h53, f0, f1, h54, n0, n1, hF, h9⟩ := hR.cf hc9
  have ht := hR.2.2.2.2.1
  have h01 : M 0 1 = X.t := hR.2.1.2.2.1.1
  have hr := hR.rf hc9 (k := 0) (by decide) (by decide)
  have hta := hR.2.1.2.2.1.2
  refine ⟨8, _, by decide, hL_desk (c11_desk hlt hG h4 hS hF h01 ht.1 ht.2 rfl hr.1 hr.2) (fun r M' h => h.elim (fun v z => ⟨v, z.1⟩)) (fun E M' h => h.1), fun o M1 h => ?_⟩
  rcases h with ⟨v, M', ⟨v', e1, hT, g1, kk, hz, g2, hv, hcase⟩, rfl, rfl⟩ | ⟨M', ⟨-, hT, rfl⟩, rfl, rfl⟩
  · have e2 : v = v' := Sum.inl.inj (Option.some.inj e1)
    subst e2
    rcases hcase with ⟨hn, u1, u2, u3, u4, u5⟩ | ⟨hn, u1, u2, u3, u4, u5, u6, u7, u8⟩
    · have m1 : RM M' X := hR.2.2.1.fr8 u1 (by decide +kernel) (by decide +kernel)
      have m2 : RM (uM M' 81 0 v) X := m1.fr8 fr1 (by decide +kernel) (by decide +kernel)
      have hG1 : GR (uM M' 81 0 v) := u2.uA (by decide) (.inl (by decide))
      have c1 : RC (uM M' 81 0 v) (dfX X (rdI (M 1) m kk).2.2.2.2.2.2) := (hR.2.1.df u1 u3 g1 g2 u4 u5).m fr1 (by decide +kernel)
      have hr2 := m2.rff hR hc9 (k := 0) (by decide) (by decide)
      refine ⟨0, rfl, 6, _, by decide, c12_desk (r := M 1) hG1 m2.2.1.1 (fun j j0 j1 => (m2.2.1.2 j j0 j1).trans (hta j j0 j1).symm) ht.1 ht.2 hr2.1 hr2.2, fun u M2 h => ?_⟩
      rcases h with ⟨q, -, -⟩ | ⟨-, ⟨q1, q2⟩, k2, hz2, q3, q4, q5⟩
      · exact absurd hT q
      · have e3 := rdZ_u hT.1 hz hz2
        rw [← e3] at q3 q4 q5
        rcases q5 with ⟨-, p1, p2, p3⟩ | ⟨p0, -⟩
        · refine ⟨q1, fun _ => ?_, dfX X (rdI (M 1) m kk).2.2.2.2.2.2, hG1.fr p1 (by decide +kernel), c1.m p1 (by decide +kernel), m2.df p1 (by decide +kernel) q2 q3 p2 p3, hR.2.2.2.df⟩
          rw [p1 81 0 (by decide) (by decide), uM_same]
          exact hv.trans q4.symm
        · exact absurd p0 hn
    · have m1 : RM M' X := hR.2.2.1.fr8 u1 (by decide +kernel) (by decide +kernel)
      have m2 : RM (uM M' 81 0 v) X := m1.fr8 fr1 (by decide +kernel) (by decide +kernel)
      have hG1 : GR (uM M' 81 0 v) := u2.uA (by decide) (.inl (by decide))
      have c1 : RC (uM M' 81 0 v) (dsX X (rdI (M 1) m kk).1 (rdI (M 1) m kk).2.2.2.2.2.2) := (hR.2.1.ds u1 (by decide +kernel) g1 g2 u3 u4 u5 u6 u7 u8).m fr1 (by decide +kernel)
      have hr2 := m2.rff hR hc9 (k := 0) (by decide) (by decide)
      refine ⟨0, rfl, 6, _, by decide, c12_desk (r := M 1) hG1 m2.2.1.1 (fun j j0 j1 => (m2.2.1.2 j j0 j1).trans (hta j j0 j1).symm) ht.1 ht.2 hr2.1 hr2.2, fun u M2 h => ?_⟩
      rcases h with ⟨q, -, -⟩ | ⟨-, ⟨q1, q2⟩, k2, hz2, q3, q4, q5⟩
      · exact absurd hT q
      · have e3 := rdZ_u hT.1 hz hz2
        rw [← e3] at q3 q4 q5
        rcases q5 with ⟨p0, -⟩ | ⟨-, p1, -, p3, p4, p5, p6, p7⟩
        · exact absurd hn p0
        · refine ⟨q1, fun _ => ?_, dsX X (rdI (M 1) m kk).1 (rdI (M 1) m kk).2.2.2.2.2.2, hG1.fr p1 (by decide +kernel), c1.m p1 (by decide +kernel), m2.ds p1 (by decide +kernel) p3 p4 p5 p6 p7 q2 q3, hR.2.2.2.ds hc0 (rdI_SP kk)⟩
          rw [p1 81 0 (by decide) (by decide), uM_same]
          exact hv.trans q4.symm
  · have m1 := hR.2.2.1
    have hr2 := m1.rff hR hc9 (k := 0) (by decide) (by decide)
    refine ⟨1, rfl, 6, _, by decide, c12_desk (r := M1 1) hG m1.2.1.1 (fun j j0 j1 => (m1.2.1.2 j j0 j1).trans (hta j j0 j1).symm) ht.1 ht.2 hr2.1 hr2.2, fun u M2 h => ?_⟩
    rcases h with ⟨-, ⟨q1, q2⟩, -⟩ | ⟨q, -⟩
    · exact ⟨q2, fun z => absurd z (by decide), X, hR.q q1 (by decide +kernel) (hG.fr q1 (by decide +kernel))⟩
    · exact absurd q hT
theorem STEPS_all {G : Gl} {l : Launch} (hlt : l.stackTraces = false) : STEPS G l :=
  ⟨st_0, st_1 hlt, st_2, st_3 hlt, st_4 hlt, st_5 hlt, st_6 hlt, st_7 hlt, st_8 hlt, st_9, st_10, st_11, st_12, st_13, st_14, st_15, st_16, st_17, st_18, st_19, st_20 hlt, st_21 hlt, st_22, st_23 hlt, st_24, st_25⟩
end STEPD

