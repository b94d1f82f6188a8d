/-! the relation: acts and questions finished -/
def REL (M : Mem) (X : GX) (c : Int) : Prop := GR M ∧ RC M X ∧ RM M X ∧ OKx X c
def ub (p b q c : Int) (e : Int → Int) : Int → Int := if 0 ≤ q ∧ q < 123 then upd1 (if 0 ≤ p ∧ p < 123 then upd1 e p b else e) q c else if 0 ≤ p ∧ p < 123 then upd1 e p b else e
section FIN
variable {M M1 M2 : Mem} {X : GX} {c : Int}
theorem RC.m {A : List Nat} {B : List (Nat × Int)} (h : RC M1 X) (hF : Fr A B M1 M2) (e : (rcOK A B && plnOK A B) = true) : RC M2 X := by
  rw [Bool.and_eq_true] at e
  exact h.fr hF e.1 (h.1.fr hF e.2)
theorem a1_e {d : Int → Int} {p v : Int} (p0 : 0 ≤ p) (p1 : p < 123) : ub p (d p) (-1) 0 (upd1 d p v) = d := by
  unfold ub
  rw [if_neg (by decide), if_pos ⟨p0, p1⟩, upd1_2, upd1_sf]
theorem a2_e {d : Int → Int} {p v s u : Int} (p0 : 0 ≤ p) (p1 : p < 123) (s0 : 0 ≤ s) (s1 : s < 123) : ub p (d p) s (d s) (upd1 (upd1 d p v) s u) = d := by
  unfold ub
  rw [if_pos ⟨s0, s1⟩, if_pos ⟨p0, p1⟩]
  funext j
  by_cases q : j = s
  · rw [q, upd1_e]
  · rw [upd1_o q]
    by_cases w : j = p
    · rw [w, upd1_e]
    · rw [upd1_o w, upd1_o q, upd1_o w]
theorem ac_e {d : Int → Int} {v : Int} : ub 119 (d 119) (-1) 0 (upd1 (coP d) 119 v) = coP d := by
  unfold ub
  rw [if_neg (by decide), if_pos ⟨by decide, by decide⟩, upd1_2]
  funext j
  by_cases q : j = 119
  · rw [q, upd1_e]
    exact (if_neg (by decide)).symm
  · rw [upd1_o q]
theorem ac_u {d : Int → Int} (hS : SP d) : wdR (coP d) (pkF (plT (insOf d)) 30) 1 = d := funext fun b => by
  unfold wdR coP
  by_cases q : 28 ≤ b ∧ b < 58
  · rw [if_pos q, if_pos q, pkd_F (fun q a b => plT_3 (SP.I hS) a) (by omega) (by omega)]
    omega
  · rw [if_neg q, if_neg q]
theorem ac_s {d : Int → Int} (hS : SP d) : SB (coP d) := by
  have h9 := hS.2.2.2.2.1.2.1
  have z := (hS.coPp (v := d 119) h9.1 h9.2).B
  have e : upd1 (coP d) 119 (d 119) = coP d := funext fun j => by
    by_cases q : j = 119
    · rw [q, upd1_e]
      exact (if_neg (by decide)).symm
    · rw [upd1_o q]
  rw [e] at z
  exact z
theorem cs_act {P : Prop} {p b q cc vv v V : Int} {e : Int → Int} (hR : REL M X c) (h : (P ∧ ACTC M M1 X.a.f X.a.n p b q cc vv e ∧ v = V) ∨ (¬ P ∧ REFC M M1 X.a.d 1 ∧ v = -1)) (hu : P → wdR (ub p b q cc e) vv 1 = X.a.d) (hs : P → SB (ub p b q cc e)) (he : P → SP e ∧ e 119 ≤ 90 * (c + 1)) :
    ((P ∧ (RC M1 (actX X e) ∧ SP e ∧ e 119 ≤ 90 * (c + 1)) ∧ v = V) ∨ (¬ P ∧ REFC M M1 X.a.d 1 ∧ v = -1)) ∧ GR M1 ∧ RM M1 X := by
  rcases h with ⟨hp, ha, hv⟩ | ⟨hp, ha, hv⟩
  · exact ⟨.inl ⟨hp, ⟨hR.2.1.act hR.2.2.2.1.2.1 ha (hu hp) (hs hp), he hp⟩, hv⟩, ha.2.1, hR.2.2.1.fr8 ha.1 (by decide +kernel) (by decide +kernel)⟩
  · exact ⟨.inr ⟨hp, ha, hv⟩, ha.2.1, hR.2.2.1.fr8 ha.1 (by decide +kernel) (by decide +kernel)⟩
theorem act_fin {P P' : Prop} {v v' V V' : Int} {e : Int → Int} {A A' : List Nat} {B B' : List (Nat × Int)} (hR : REL M X c) (hc0 : 0 ≤ c)
    (hc : (P ∧ (RC M1 (actX X e) ∧ SP e ∧ e 119 ≤ 90 * (c + 1)) ∧ v = V) ∨ (¬ P ∧ REFC M M1 X.a.d 1 ∧ v = -1)) (h1 : RM M1 X)
    (hm : (P' ∧ (Fr A B M1 M2 ∧ HI M1 M2 ∧ RW M2 0 e ∧ RNG M2 (kpN X.a.n) (kpF X.a.n X.a.f) (kpS X.a.n X.a.s X.a.d)) ∧ v' = V') ∨ (¬ P' ∧ (Fr A' B' M1 M2 ∧ M2 61 1 = M1 61 1 + 1 ∧ ∀ j, j ≠ 1 → M2 61 j = M1 61 j) ∧ v' = -1))
    (k1 : (rcOK A B && plnOK A B && frOK [59, 60, 61, 62] rmG A B) = true) (k2 : (rcOK A' B' && plnOK A' B' && frOK [58, 59, 60, 62] rmF A' B') = true) (hg : GR M2) (hP : P ↔ P') (hV : P → V = V') : v = v' ∧ ∃ X', REL M2 X' (c + 1) := by
  rw [Bool.and_eq_true] at k1 k2
  rcases hc with ⟨hp, ⟨a1, a2, a3⟩, hv⟩ | ⟨hp, ha, hv⟩
  · rcases hm with ⟨hq, ⟨b1, b2, b3, b4⟩, hw⟩ | ⟨hq, -, -⟩
    · exact ⟨by rw [hv, hw]; exact hV hp, actX X e, hg, a1.m b1 k1.1, h1.keep b1 k1.2 b2 b3 b4, hR.2.2.2.act hc0 a2 a3⟩
    · exact absurd (hP.mp hp) hq
  · rcases hm with ⟨hq, -, -⟩ | ⟨hq, ⟨b1, b2, b3⟩, hw⟩
    · exact absurd (hP.mpr hq) hp
    · have r1 : RC M1 (refX X 1) := hR.2.1.ref ha.1 (by decide +kernel) ha.2.2.1 ⟨by decide, by decide⟩ ha.2.2.2.1 ha.2.2.2.2
      exact ⟨hv.trans hw.symm, refX X 1, hg, r1.m b1 k2.1, h1.ref b1 k2.2 ⟨by decide, by decide⟩ b2 b3, hR.2.2.2.ref ⟨by decide, by decide⟩⟩
/-- a question changes nothing that is told of -/
theorem ask_1 {A : List Nat} {B : List (Nat × Int)} (hR : REL M X c) (hF : Fr A B M M1) (e : (rcOK A B && rmOK A B && (!A.contains 58 && B.all (fun q => !(q.1 == 58)))) = true) (hG : GR M1) (hp : FP M1 X.a.d) : REL M1 X c := by
  rw [Bool.and_eq_true, Bool.and_eq_true] at e
  exact ⟨hG, hR.2.1.fr hF e.1.1 hp, hR.2.2.1.fr8 hF e.1.2 e.2, hR.2.2.2⟩
theorem ask_2 {A : List Nat} {B : List (Nat × Int)} (hR : REL M1 X c) (hF : Fr A B M1 M2) (ht : TRo M1 M2) (e : (rcOK A B && plnOK A B && rmOK A B) = true) (hG : GR M2) : REL M2 X (c + 1) := by
  rw [Bool.and_eq_true] at e
  exact ⟨hG, hR.2.1.m hF e.1, hR.2.2.1.fr hF e.2 ht, hR.2.2.2.up (by omega)⟩
end FIN

