section STEPB
variable {G : Gl} {l : Launch} {M M1 M2 : Mem} {X : GX} {c : Int}
theorem Ct.mono {S : Sh} {n d : Nat} {y : Mt} {as : List V} {Q Q' : Option V → Mem → Prop} (h : Ct G S n l d y as M Q) (hq : ∀ r M', Q r M' → Q' r M') : Ct G S n l d y as M Q' := by
  unfold Ct at h ⊢
  unfold Met at h ⊢
  refine MetFree.mono h (fun _ _ z => z) (fun _ _ _ _ _ z => z) (fun a s o t _ z => ?_)
  obtain ⟨⟨⟨r, M', z1, z2, z3⟩, z4⟩, z5⟩ := z
  exact ⟨⟨⟨r, M', z1, hq r M' z2, z3⟩, z4⟩, z5⟩
theorem fr1 {h : Nat} {k x : Int} : Fr [] [(h, k)] M (uM M h k x) := fun a j _ hb => uM_oth (fun e => hb (by rw [e.1, e.2]; exact List.mem_singleton.mpr rfl))
theorem fr2 {h h' : Nat} {k k' x x' : Int} : Fr [] [(h, k), (h', k')] M (uM (uM M h k x) h' k' x') := fun a j _ hb => by
  rw [uM_oth (fun e => hb (by rw [e.1, e.2]; exact List.mem_cons_of_mem _ (List.mem_singleton.mpr rfl))), uM_oth (fun e => hb (by rw [e.1, e.2]; exact List.mem_cons_self))]
theorem fr2r {h h' : Nat} {k k' x x' : Int} : Fr [h'] [(h, k)] M (uM (uM M h k x) h' k' x') := fun a j ha hb => by
  rw [uM_oth (fun e => ha (by rw [e.1]; exact List.mem_singleton.mpr rfl)), uM_oth (fun e => hb (by rw [e.1, e.2]; exact List.mem_singleton.mpr rfl))]
theorem fr3r {h h' h2 : Nat} {k k' k2 x x' x2 : Int} : Fr [h'] [(h, k), (h2, k2)] M (uM (uM (uM M h k x) h' k' x') h2 k2 x2) := fun a j ha hb => by
  rw [uM_oth (fun e => hb (by rw [e.1, e.2]; exact List.mem_cons_of_mem _ (List.mem_singleton.mpr rfl))), uM_oth (fun e => ha (by rw [e.1]; exact List.mem_singleton.mpr rfl)), uM_oth (fun e => hb (by rw [e.1, e.2]; exact List.mem_cons_self))]
/-- nothing that is told of changed -/
theorem REL.q {A : List Nat} {B : List (Nat × Int)} (hR : REL M1 X c) (hF : Fr A B M1 M2) (e : (rcOK A B && plnOK A B && rmOK A B && (!A.contains 58 && B.all (fun q => !(q.1 == 58)))) = true) (hG : GR M2) : REL M2 X (c + 1) := by
  rw [Bool.and_eq_true, Bool.and_eq_true] at e
  exact ⟨hG, hR.2.1.m hF e.1.1, hR.2.2.1.fr8 hF e.1.2 e.2, hR.2.2.2.up (by omega)⟩
theorem st_2 {G : Gl} {l : Launch} : St_2 G l := fun M X c hc0 hc9 hR => by
  refine ⟨0, fun v M' => v = M 0 2 ∧ M' = M, by decide, (c11_fault hR.1).mono (fun r M' h => ⟨_, h.1, rfl, h.2⟩), fun v M1 h1 => ?_⟩
  obtain ⟨rfl, rfl⟩ := h1
  refine ⟨0, _, by decide, c12_fault hR.1, fun v' M2 h2 => ?_⟩
  obtain ⟨rfl, rfl⟩ := h2
  exact ⟨hR.2.1.2.2.2.1.trans hR.2.2.1.2.2.1.symm, X, hR.q fr1 (by decide +kernel) (hR.1.uF (by decide) (by decide))⟩
theorem st_18 {G : Gl} {l : Launch} : St_18 G l := fun M X c hc0 hc9 hR => by
  obtain ⟨hG, h4, hS, h53, f0, f1, h54, n0, n1, hF, h9⟩ := hR.cf hc9
  have hlg := hR.2.1.2.1.2.2.1
  refine ⟨2, _, by decide, c11_undo hG h4 hS h53 f0 f1 h54 n0 n1 (fun hn => ?_), fun v M1 h1 => ?_⟩
  · have z := (hlg (X.a.n - 1) (by omega) (by omega)).2
    rw [if_pos (by omega)] at z
    exact z
  · rcases h1 with ⟨hn, rfl, hv⟩ | ⟨hn, ⟨g1, g2, g3, g4, g5⟩, hv⟩
    · refine ⟨1, _, by decide, c12_undo hG hR.2.2.1.1.1 hS hR.2.2.1.1.2.1, fun v' M2 h2 => ?_⟩
      rcases h2.2 with ⟨-, q1, q2⟩ | ⟨q, -, -⟩
      · exact ⟨hv.trans q2.symm, X, hR.q q1 (by decide +kernel) (hG.fr q1 (by decide +kernel))⟩
      · exact absurd hn q
    · have hm1 : RM M1 X := hR.2.2.1.fr8 g1 (by decide +kernel) (by decide +kernel)
      refine ⟨1, _, by decide, c12_undo g2 hm1.1.1 hS hm1.1.2.1, fun v' M2 h2 => ?_⟩
      rcases h2.2 with ⟨q, -, -⟩ | ⟨-, ⟨q1, q2, q3, q4⟩, q5⟩
      · exact absurd q hn
      · have r1 : RC M1 (undX X) := hR.2.1.und (by omega) g1 g3 g4 g5
        exact ⟨hv.trans q5.symm, undX X, g2.fr q1 (by decide +kernel), r1.m q1 (by decide +kernel), hm1.keep q1 (by decide +kernel) q2 q3 q4, hR.2.2.2.und (by omega)⟩
theorem st_19 {G : Gl} {l : Launch} : St_19 G l := fun M X c hc0 hc9 hR y => by
  obtain ⟨hG, h4, hS, h53, f0, f1, h54, n0, n1, hF, h9⟩ := hR.cf hc9
  have hr := hR.rf hc9 (k := 2) (by decide) (by decide)
  have hk := hR.2.2.2.1.2.2.2.1
  have h23 : M 2 3 = X.a.k := hR.2.1.2.1.2.2.2.1
  have hno := hR.2.1.2.1.2.2.2.2.1
  refine ⟨1, _, by decide, c11_note hG h23 hk.1 hk.2 hr.1 hr.2, fun v M1 h1 => ?_⟩
  rcases h1 with ⟨hp, ⟨g1, g2, g3⟩, hv⟩ | ⟨hp, rfl, hv⟩
  · have hm1 : RM M1 X := hR.2.2.1.fr8 g1 (by decide +kernel) (by decide +kernel)
    have hG1 : GR M1 := hG.fr g1 (by decide +kernel)
    have hr1 := hm1.rff hR hc9 (k := 2) (by decide) (by decide)
    refine ⟨1, _, by decide, c12_note hG1 hm1.1.2.2.1 hk.1 hk.2 hr1.1 hr1.2, fun v' M2 h2 => ?_⟩
    rcases h2.2 with ⟨-, rfl, q2⟩ | ⟨q, -, -⟩
    · have r1 : RC M1 (notX X y) := hR.2.1.nt g1 (by decide +kernel) (hF.fr g1 (by decide +kernel)) g2 (fun i i0 i1 => by
        rw [g3]
        by_cases z : i = X.a.k
        · rw [z, upd1_e, upd1_e]
        · rw [upd1_o z, upd1_o z, hno i i0 i1])
      refine ⟨hv.trans q2.symm, notX X y, ((hG1.uF (by decide) (by decide)).uA (by decide) (.inl (by decide))).uF (by decide) (by decide), r1.m fr3r (by decide +kernel), hm1.nt fr3r (by decide +kernel) uM_same (fun i i0 i1 => ?_) (fun j hj => ?_), hR.2.2.2.nt (by omega)⟩
      · rw [uM_h (by decide)]
        by_cases z : i = X.a.k
        · rw [z, uM_same, upd1_e]
        · rw [uM_k z, upd1_o z, uM_h (by decide)]
          exact hm1.1.2.2.2.1 i i0 i1
      · rw [uM_h (by decide), uM_k (by omega), uM_h (by decide)]
    · exact absurd hp q
  · have hm1 : RM (uM M 10 2 (M 10 2 + 1)) X := hR.2.2.1.fr8 fr1 (by decide +kernel) (by decide +kernel)
    have hG1 : GR (uM M 10 2 (M 10 2 + 1)) := hG.uA (by decide) (.inl (by decide))
    have hr1 := hm1.rff hR hc9 (k := 2) (by decide) (by decide)
    refine ⟨1, _, by decide, c12_note hG1 hm1.1.2.2.1 hk.1 hk.2 hr1.1 hr1.2, fun v' M2 h2 => ?_⟩
    rcases h2.2 with ⟨q, -, -⟩ | ⟨-, rfl, q2⟩
    · exact absurd q hp
    · have r1 : RC (uM M 10 2 (M 10 2 + 1)) (refX X 2) := hR.2.1.ref fr1 (by decide +kernel) (hF.fr fr1 (by decide +kernel)) ⟨by decide, by decide⟩ uM_same (fun j hj => uM_k hj)
      exact ⟨hv.trans q2.symm, refX X 2, (hG1.uF (by decide) (by decide)).uA (by decide) (.inl (by decide)), r1.m fr2r (by decide +kernel), hm1.ref fr2r (by decide +kernel) ⟨by decide, by decide⟩ uM_same (fun j hj => by rw [uM_k hj, uM_h (by decide)]), hR.2.2.2.ref ⟨by decide, by decide⟩⟩
theorem st_0 {G : Gl} {l : Launch} : St_0 G l := fun M X c hc0 hc9 hR a b e f g => by
  have ht := hR.2.2.2.2.1
  have h01 : M 0 1 = X.t := hR.2.1.2.2.1.1
  refine ⟨1, _, by decide, c11_feed hR.1 h01 ht.1 ht.2, fun v M1 h1 => ?_⟩
  rcases h1 with ⟨hn, rfl, hv⟩ | ⟨hn, ⟨g1, g2, g3, g4⟩, hv⟩
  · refine ⟨0, _, by decide, c12_feed hR.1 hR.2.2.1.2.1.1 ht.1 ht.2, fun v' M2 h2 => ?_⟩
    rcases h2 with ⟨-, rfl, q2⟩ | ⟨q, -, -⟩
    · exact ⟨hv.trans q2.symm, X, hR.q fr1 (by decide +kernel) (hR.1.uF (by decide) (by decide))⟩
    · omega
  · have hm1 : RM M1 X := hR.2.2.1.fr8 g1 (by decide +kernel) (by decide +kernel)
    have hG1 : GR M1 := hR.1.fr g1 (by decide +kernel)
    refine ⟨0, _, by decide, c12_feed hG1 hm1.2.1.1 ht.1 ht.2, fun v' M2 h2 => ?_⟩
    rcases h2 with ⟨q, -, -⟩ | ⟨-, ⟨q1, q2, q3, q4, q5⟩, q6⟩
    · omega
    · exact ⟨hv.trans q6.symm, fedX X _, hG1.fr q1 (by decide +kernel), (hR.2.1.fed g1 g2 g3 g4).m q1 (by decide +kernel), hm1.fed q1 q3 q4 q5, hR.2.2.2.fed hn⟩
theorem st_22 {G : Gl} {l : Launch} : St_22 G l := fun M X c hc0 hc9 hR => by
  refine ⟨0, _, by decide, c11_forget hR.1, fun M1 h1 => ?_⟩
  subst h1
  have hm1 : RM (uM M 2 3 0) X := hR.2.2.1.fr8 fr1 (by decide +kernel) (by decide +kernel)
  have hG1 : GR (uM M 2 3 0) := hR.1.uF (by decide) (by decide)
  refine ⟨0, _, by decide, c12_forget hG1, fun M2 h2 => ?_⟩
  subst h2
  have r1 : RC (uM M 2 3 0) (forX X) := hR.2.1.nt fr1 (by decide +kernel) (hR.2.1.1.fr fr1 (by decide +kernel)) uM_same (fun i i0 i1 => by rw [uM_h (by decide)]; exact hR.2.1.2.1.2.2.2.2.1 i i0 i1)
  exact ⟨forX X, (hG1.uF (by decide) (by decide)).uF (by decide) (by decide), r1.m fr2 (by decide +kernel), hm1.nt fr2 (by decide +kernel) uM_same (fun i i0 i1 => by rw [uM_h (by decide), uM_h (by decide)]; exact hm1.1.2.2.2.1 i i0 i1) (fun j hj => by rw [uM_h (by decide), uM_h (by decide)]), hR.2.2.2.nt ⟨by decide, by decide⟩⟩
theorem st_24 {G : Gl} {l : Launch} : St_24 G l := fun M X c hc0 hc9 hR => by
  obtain ⟨hG, h4, hS, h53, f0, f1, h54, n0, n1, hF, h9⟩ := hR.cf hc9
  refine ⟨3, _, by decide, c11_image hG h4 hS, fun M1 h1 => ?_⟩
  obtain ⟨g1, g2, g3, g4, g5, g6, g7, g8, g9, g10, g11, g12⟩ := h1
  have hm1 : RM M1 X := hR.2.2.1.fr8 g1 (by decide +kernel) (by decide +kernel)
  refine ⟨1, _, by decide, c12_image g2, fun M2 h2 => ?_⟩
  obtain ⟨q1, q2, q3, q4, q5, q6⟩ := h2
  exact ⟨imgX X, g2.fr q1 (by decide +kernel), (hR.2.1.img ⟨⟨f0, f1⟩, n0, n1⟩ g1 g3 g4 g5 g6 g7 g8 g9 g10 g11 g12).m q1 (by decide +kernel), hm1.img q1 q2 q3 q4 q5 q6, by
    have u := hR.2.2.2.up (show c ≤ c + 1 by omega)
    exact ⟨u.1, u.2.1, .inr rfl, fun _ => u.1⟩⟩
theorem st_25 {G : Gl} {l : Launch} : St_25 G l := fun M X c hc0 hc9 hR => by
  have h05 : M 0 5 = X.hi := hR.2.1.2.2.2.2.1
  have h13 : M 57 13 = X.hi := hR.2.2.1.2.2.2.1
  refine ⟨3, _, by decide, c11_restore hR.1 rfl, fun v M1 h1 => ?_⟩
  rcases h1 with ⟨hn, rfl, hv⟩ | ⟨hn, ⟨g1, g2, g3, g4, g5, g6, g7, g8, g9, g10, g11, g12⟩, hv⟩
  · refine ⟨1, _, by decide, c12_restore hR.1, fun v' M2 h2 => ?_⟩
    rcases h2 with ⟨-, rfl, q2⟩ | ⟨q, -, -⟩
    · exact ⟨hv.trans q2.symm, X, hR.q fr1 (by decide +kernel) (hR.1.uF (by decide) (by decide))⟩
    · exact absurd (h13.trans (h05.symm.trans hn)) q
  · have hh : X.hi ≠ 0 := by rw [← h05]; exact hn
    have hm1 : RM M1 X := hR.2.2.1.fr8 g1 (by decide +kernel) (by decide +kernel)
    have hb := (hR.2.2.2.2.2.2 hh).2.1
    have h13b : M 13 = X.b.d := (hR.2.1.2.2.2.2.2 hh).1
    refine ⟨1, _, by decide, c12_restore g2, fun v' M2 h2 => ?_⟩
    rcases h2 with ⟨q, -, -⟩ | ⟨-, ⟨q1, q2, q3, q4, q5⟩, q6⟩
    · exact absurd (hm1.2.2.2.1.symm.trans q) hh
    · exact ⟨hv.trans q6.symm, rstX X, g2.fr q1 (by decide +kernel), (hR.2.1.rst hh hb g1 g3 (g4.trans h13b) g5 g6 g7 g8 g9 g10 g11 g12).m q1 (by decide +kernel), hm1.rst hh hb q1 q2 q3 q4 q5, by
        have u := hR.2.2.2.up (show c ≤ c + 1 by omega)
        exact ⟨u.2.2.2 hh, u.2.1, u.2.2.1, fun _ => u.2.2.2 hh⟩⟩
end STEPB

