section STEPA
variable {G : Gl} {l : Launch} {M M1 M2 : Mem} {X : GX} {c : Int}
/-- what the class's contracts ask of the desk -/
theorem REL.cf (hR : REL M X c) (hc : c < 512) : GR M ∧ M 4 = X.a.d ∧ SP X.a.d ∧ M 5 3 = X.a.f ∧ 0 ≤ X.a.f ∧ X.a.f < 40 ∧ M 5 4 = X.a.n ∧ 0 ≤ X.a.n ∧ X.a.n ≤ 40 ∧ FP M X.a.d ∧ X.a.d 119 ≤ 46080 := by
  obtain ⟨h1, ⟨r1, ⟨r2, ⟨r3, r4⟩, -⟩, -⟩, -, ⟨⟨o1, o2⟩, ⟨o3, o4⟩, -⟩, -⟩ := hR
  exact ⟨h1, r2, o1, r3, o3.1, o3.2, r4, o4.1, o4.2, r1, by omega⟩
theorem REL.rf (hR : REL M X c) (hc : c < 512) {k : Int} (k0 : 0 ≤ k) (k1 : k < 3) : 0 ≤ M 10 k ∧ M 10 k ≤ 1000000000 := by
  rw [hR.2.1.2.1.2.2.2.2.2 k k0 k1]
  have := hR.2.2.2.1.2.2.2.2 k k0 k1
  omega
theorem RM.rff (h : RM M1 X) (hR : REL M X c) (hc : c < 512) {k : Int} (k0 : 0 ≤ k) (k1 : k < 3) : 0 ≤ M1 61 k ∧ M1 61 k ≤ 1000000000 := by
  rw [h.1.2.2.2.2 k k0 k1]
  have := hR.2.2.2.1.2.2.2.2 k k0 k1
  omega
theorem St_act {y1 y2 : Mt} {as : List V} {d1 d2 : Nat} {P P' : Prop} {p b q cc vv V V' : Int} {e e' : Int → Int} {A A' : List Nat} {B B' : List (Nat × Int)} (hR : REL M X c) (hc0 : 0 ≤ c) (hc9 : c < 512) (hd1 : d1 ≤ 40) (hd2 : d2 ≤ 40)
    (h1 : Ct G LY 82 l d1 y1 (vR 0 :: as) M (RP (fun v M' => (P ∧ ACTC M M' X.a.f X.a.n p b q cc vv e ∧ v = V) ∨ (¬ P ∧ REFC M M' X.a.d 1 ∧ v = -1))))
    (h2 : ∀ M1, GR M1 → RW M1 0 X.a.d → RNG M1 X.a.n X.a.f X.a.s → 0 ≤ M1 61 1 → M1 61 1 ≤ 1000000000 → Ct G LY 82 l d2 y2 (vR 57 :: as) M1 (RP (fun v M' => M' 57 4 = 0 ∧ ((P' ∧ (Fr A B M1 M' ∧ HI M1 M' ∧ RW M' 0 e' ∧ RNG M' (kpN X.a.n) (kpF X.a.n X.a.f) (kpS X.a.n X.a.s X.a.d)) ∧ v = V') ∨ (¬ P' ∧ (Fr A' B' M1 M' ∧ M' 61 1 = M1 61 1 + 1 ∧ ∀ j, j ≠ 1 → M' 61 j = M1 61 j) ∧ v = -1)))))
    (hu : P → wdR (ub p b q cc e) vv 1 = X.a.d) (hs : P → SB (ub p b q cc e)) (he : P → SP e ∧ e 119 ≤ 90 * (c + 1)) (hee : P → e' = e) (hP : P ↔ P') (hV : P → V = V')
    (k1 : (rcOK A B && plnOK A B && frOK [59, 60, 61, 62] rmG A B) = true) (k2 : (rcOK A' B' && plnOK A' B' && frOK [58, 59, 60, 62] rmF A' B') = true)
    (g1 : ∀ M1 M2 : Mem, GR M1 → Fr A B M1 M2 → GR M2) (g2 : ∀ M1 M2 : Mem, GR M1 → Fr A' B' M1 M2 → GR M2) : StA G l M c y1 y2 as := by
  refine ⟨d1, _, hd1, h1, fun v M1 hv => ?_⟩
  obtain ⟨hcl, hG1, hm1⟩ := cs_act hR hv hu hs he
  have hr := hm1.rff hR hc9 (k := 1) (by decide) (by decide)
  refine ⟨d2, _, hd2, h2 M1 hG1 hm1.1.1 hm1.1.2.1 hr.1 hr.2, fun v' M2 hv' => ?_⟩
  have hm : (P' ∧ (Fr A B M1 M2 ∧ HI M1 M2 ∧ RW M2 0 e ∧ RNG M2 (kpN X.a.n) (kpF X.a.n X.a.f) (kpS X.a.n X.a.s X.a.d)) ∧ v' = V') ∨ (¬ P' ∧ (Fr A' B' M1 M2 ∧ M2 61 1 = M1 61 1 + 1 ∧ ∀ j, j ≠ 1 → M2 61 j = M1 61 j) ∧ v' = -1) := by
    rcases hv'.2 with ⟨z1, z2, z3⟩ | z
    · exact .inl ⟨z1, by rw [hee (hP.mpr z1)] at z2; exact z2, z3⟩
    · exact .inr z
  exact act_fin hR hc0 hcl hm1 hm k1 k2 (by
    rcases hm with ⟨-, z, -⟩ | ⟨-, z, -⟩
    · exact g1 _ _ hG1 z.1
    · exact g2 _ _ hG1 z.1) hP hV
theorem u119 {d : Int → Int} {k v : Int} (h : k ≠ 119) : upd1 d k v 119 = d 119 := upd1_o (Ne.symm h)
/-- one cell changed -/
theorem ub1 {d : Int → Int} {p v : Int} (hS : SP d) (p0 : 0 ≤ p) (p1 : p < 123) : wdR (ub p (d p) (-1) 0 (upd1 d p v)) 0 1 = d ∧ SB (ub p (d p) (-1) 0 (upd1 d p v)) := by
  rw [a1_e p0 p1]
  exact ⟨wdR_0, hS.B⟩
theorem ub2 {d : Int → Int} {p v s u : Int} (hS : SP d) (p0 : 0 ≤ p) (p1 : p < 123) (s0 : 0 ≤ s) (s1 : s < 123) : wdR (ub p (d p) s (d s) (upd1 (upd1 d p v) s u)) 0 1 = d ∧ SB (ub p (d p) s (d s) (upd1 (upd1 d p v) s u)) := by
  rw [a2_e p0 p1 s0 s1]
  exact ⟨wdR_0, hS.B⟩
end STEPA

theorem of1 {d : Int → Int} {x w : Int} (h : 0 < offr d x w) : 1 ≤ d (28 + (x * 6 + w)) := by
  unfold offr at h
  rw [show 28 + x * 6 + w = 28 + (x * 6 + w) by omega] at h
  have : 0 ≤ (if 0 < d (58 + x * 6 + w) ∧ d 118 ≤ d (88 + x * 6 + w) then d (58 + x * 6 + w) else 0) := by
    split
    · omega
    · omega
  omega
theorem cel3 {d : Int → Int} {x w : Int} (hS : SP d) (x0 : 0 ≤ x) (x1 : x < 5) (w0 : 0 ≤ w) (w1 : w < 6) : 0 ≤ d (28 + (x * 6 + w)) ∧ d (28 + (x * 6 + w)) ≤ 3 := by
  have := (hS.2.2.2.1 (x * 6 + w) (by omega) (by omega)).1
  exact this
theorem sto1 {d : Int → Int} {w : Int} (hS : SP d) (w0 : 0 ≤ w) (w1 : w < d 122) (h : stor d < d 120) : 0 ≤ d (22 + w) ∧ d (22 + w) + 1 ≤ 20 := by
  have h1 := hS.2.2.1
  have h2 := hS.2.2.2.2.1
  have a := sm_ge (n := (d 122).toNat) (f := fun w => d (22 + w)) (i := w) (fun k a b => (h1 k a (by have := hS.1.2.2; omega)).2.2.1) w0 (by omega)
  unfold stor at h
  have b := (h1 w w0 (by have := hS.1.2.2; omega)).2.2.1
  have e := h2.2.2
  omega
theorem st_9 {G : Gl} {l : Launch} : St_9 G l := fun M X c hc0 hc9 hR x w m => by
  obtain ⟨hG, h4, hS, h53, f0, f1, h54, n0, n1, hF, h9⟩ := hR.cf hc9
  have hr := hR.rf hc9 (k := 1) (by decide) (by decide)
  have hL1 := hS.1.1.2
  have hW1 := hS.1.2.2
  have hk := hR.2.2.2.1.1.2
  refine St_act hR hc0 hc9 (by decide) (by decide) (c11_own hG h4 hS h53 f0 f1 h54 n0 n1 hF hr.1 hr.2) (fun M1 g w r a b => c12_own g w hS r a b) (fun hp => (ub1 hS (by have := hp; omega) (by have := hp; omega)).1) (fun hp => (ub1 hS (by have := hp; omega) (by have := hp; omega)).2) (fun hp => ⟨hS.of (.inr (.inr (.inr (.inl (by have := hp; omega))))), by rw [u119 (by have := hp; omega)]; omega⟩) (fun _ => by rw [show 28 + x * 6 + w = 28 + (x * 6 + w) by omega]) (Iff.rfl) (fun _ => rfl) (by decide +kernel) (by decide +kernel) (fun _ _ h1 h2 => h1.fr h2 (by decide +kernel)) (fun _ _ h1 h2 => h1.fr h2 (by decide +kernel))
theorem st_11 {G : Gl} {l : Launch} : St_11 G l := fun M X c hc0 hc9 hR w m => by
  obtain ⟨hG, h4, hS, h53, f0, f1, h54, n0, n1, hF, h9⟩ := hR.cf hc9
  have hr := hR.rf hc9 (k := 1) (by decide) (by decide)
  have hL1 := hS.1.1.2
  have hW1 := hS.1.2.2
  have hk := hR.2.2.2.1.1.2
  refine St_act hR hc0 hc9 (by decide) (by decide) (c11_keep hG h4 hS h53 f0 f1 h54 n0 n1 hF hr.1 hr.2) (fun M1 g w r a b => c12_keep g w hS r a b) (fun hp => (ub1 hS (by have := hp; omega) (by have := hp; omega)).1) (fun hp => (ub1 hS (by have := hp; omega) (by have := hp; omega)).2) (fun hp => ⟨hS.of (.inr (.inl (by have := hp; omega))), by rw [u119 (by have := hp; omega)]; omega⟩) (fun _ => rfl) (Iff.rfl) (fun _ => rfl) (by decide +kernel) (by decide +kernel) (fun _ _ h1 h2 => h1.fr h2 (by decide +kernel)) (fun _ _ h1 h2 => h1.fr h2 (by decide +kernel))
theorem st_17 {G : Gl} {l : Launch} : St_17 G l := fun M X c hc0 hc9 hR m => by
  obtain ⟨hG, h4, hS, h53, f0, f1, h54, n0, n1, hF, h9⟩ := hR.cf hc9
  have hr := hR.rf hc9 (k := 1) (by decide) (by decide)
  have hL1 := hS.1.1.2
  have hW1 := hS.1.2.2
  have hk := hR.2.2.2.1.1.2
  refine St_act hR hc0 hc9 (by decide) (by decide) (c11_years hG h4 hS h53 f0 f1 h54 n0 n1 hF hr.1 hr.2) (fun M1 g w r a b => c12_years g w hS r a b) (fun hp => (ub1 hS (by decide) (by decide)).1) (fun hp => (ub1 hS (by decide) (by decide)).2) (fun hp => ⟨hS.of (.inr (.inr (.inr (.inr (.inr (.inl (by have := hp; have := hS.2.2.2.2.1.1; omega))))))), by rw [u119 (by decide)]; omega⟩) (fun _ => rfl) (Iff.rfl) (fun _ => rfl) (by decide +kernel) (by decide +kernel) (fun _ _ h1 h2 => h1.fr h2 (by decide +kernel)) (fun _ _ h1 h2 => h1.fr h2 (by decide +kernel))
theorem st_12 {G : Gl} {l : Launch} : St_12 G l := fun M X c hc0 hc9 hR x y m => by
  obtain ⟨hG, h4, hS, h53, f0, f1, h54, n0, n1, hF, h9⟩ := hR.cf hc9
  have hr := hR.rf hc9 (k := 1) (by decide) (by decide)
  have hL1 := hS.1.1.2
  have hW1 := hS.1.2.2
  have hk := hR.2.2.2.1.1.2
  have ey : (if y = 0 then x else 5 + x) = (if y = 0 then 0 else 5) + x := by split <;> omega
  have eb : (if y = 0 then (0 : Int) else 5) = 0 ∨ (if y = 0 then (0 : Int) else 5) = 5 := by split <;> omega
  refine St_act hR hc0 hc9 (by decide) (by decide) (c11_room hG h4 hS h53 f0 f1 h54 n0 n1 hF hr.1 hr.2) (fun M1 g w r a b => c12_room g w hS r a b) (fun hp => (ub1 hS (by have := hp; omega) (by have := hp; omega)).1) (fun hp => (ub1 hS (by have := hp; omega) (by have := hp; omega)).2) (fun hp => ⟨hS.of (.inl (by have := hp; omega)), by rw [u119 (by have := hp; omega)]; omega⟩) (fun _ => by rw [ey]) (Iff.rfl) (fun _ => by rw [ey]) (by decide +kernel) (by decide +kernel) (fun _ _ h1 h2 => h1.fr h2 (by decide +kernel)) (fun _ _ h1 h2 => h1.fr h2 (by decide +kernel))
theorem st_10 {G : Gl} {l : Launch} : St_10 G l := fun M X c hc0 hc9 hR x w m y => by
  obtain ⟨hG, h4, hS, h53, f0, f1, h54, n0, n1, hF, h9⟩ := hR.cf hc9
  have hr := hR.rf hc9 (k := 1) (by decide) (by decide)
  have hL1 := hS.1.1.2
  have hW1 := hS.1.2.2
  have hk := hR.2.2.2.1.1.2
  refine St_act hR hc0 hc9 (by decide) (by decide) (c11_promise hG h4 hS h53 f0 f1 h54 n0 n1 hF hr.1 hr.2) (fun M1 g w r a b => c12_promise g w hS r a b) (fun hp => (ub2 hS (by have := hp; omega) (by have := hp; omega) (by have := hp; omega) (by have := hp; omega)).1) (fun hp => (ub2 hS (by have := hp; omega) (by have := hp; omega) (by have := hp; omega) (by have := hp; omega)).2) (fun hp => by
    have hq := hp
    obtain ⟨⟨⟨x0, x1⟩, w0, w1⟩, ⟨m0, m3⟩, hy, -⟩ := hq
    have s1 := hS.of (k := 58 + (x * 6 + w)) (v := m) (.inr (.inr (.inr (.inl (by omega)))))
    have hyb : 0 ≤ (if m = 0 then 0 else y) ∧ (if m = 0 then 0 else y) ≤ 60 := by
      by_cases z : m = 0
      · rw [if_pos z]; omega
      · rw [if_neg z]; exact hy (by omega)
    exact ⟨s1.of (.inr (.inr (.inr (.inr (.inl (by omega)))))), by rw [u119 (by omega), u119 (by omega)]; omega⟩) (fun _ => by rw [show 58 + x * 6 + w = 58 + (x * 6 + w) by omega, show 88 + x * 6 + w = 88 + (x * 6 + w) by omega]) (Iff.rfl) (fun _ => rfl) (by decide +kernel) (by decide +kernel) (fun _ _ h1 h2 => h1.fr h2 (by decide +kernel)) (fun _ _ h1 h2 => h1.fr h2 (by decide +kernel))
theorem st_13 {G : Gl} {l : Launch} : St_13 G l := fun M X c hc0 hc9 hR x w => by
  obtain ⟨hG, h4, hS, h53, f0, f1, h54, n0, n1, hF, h9⟩ := hR.cf hc9
  have hr := hR.rf hc9 (k := 1) (by decide) (by decide)
  have hL1 := hS.1.1.2
  have hW1 := hS.1.2.2
  have hk := hR.2.2.2.1.1.2
  refine St_act hR hc0 hc9 (by decide) (by decide) (c11_go hG h4 hS h53 f0 f1 h54 n0 n1 hF hr.1 hr.2 (by omega)) (fun M1 g w r a b => c12_go_ g w hS r a b (by omega)) (fun hp => (ub2 hS (by have := hp.1; omega) (by have := hp.1; omega) (by decide) (by decide)).1) (fun hp => (ub2 hS (by have := hp.1; omega) (by have := hp.1; omega) (by decide) (by decide)).2) (fun hp => by
    have ho := (of1 hp.2.1)
    have hb := hp.1
    have h3 := cel3 hS hb.1.1 (by omega : x < 5) hb.2.1 (by omega : w < 6)
    have h0 := hS.2.2.2.2.1.2.1
    have s1 := hS.of (k := 28 + (x * 6 + w)) (v := X.a.d (28 + (x * 6 + w)) - 1) (.inr (.inr (.inr (.inl (by omega)))))
    exact ⟨s1.of (.inr (.inr (.inr (.inr (.inr (.inr (.inl (by omega)))))))), by rw [upd1_e]; omega⟩) (fun _ => rfl) (Iff.rfl) (fun _ => rfl) (by decide +kernel) (by decide +kernel) (fun _ _ h1 h2 => h1.fr h2 (by decide +kernel)) (fun _ _ h1 h2 => h1.fr h2 (by decide +kernel))
theorem st_15 {G : Gl} {l : Launch} : St_15 G l := fun M X c hc0 hc9 hR x w => by
  obtain ⟨hG, h4, hS, h53, f0, f1, h54, n0, n1, hF, h9⟩ := hR.cf hc9
  have hr := hR.rf hc9 (k := 1) (by decide) (by decide)
  have hL1 := hS.1.1.2
  have hW1 := hS.1.2.2
  have hk := hR.2.2.2.1.1.2
  refine St_act hR hc0 hc9 (by decide) (by decide) (c11_send hG h4 hS h53 f0 f1 h54 n0 n1 hF hr.1 hr.2) (fun M1 g w r a b => c12_send g w hS r a b) (fun hp => (ub2 hS (by have := hp.1; omega) (by have := hp.1; omega) (by have := hp.1; omega) (by have := hp.1; omega)).1) (fun hp => (ub2 hS (by have := hp.1; omega) (by have := hp.1; omega) (by have := hp.1; omega) (by have := hp.1; omega)).2) (fun hp => by
    have ho := (of1 hp.2.1)
    have hb := hp.1
    have h3 := cel3 hS hb.1.1 (by omega : x < 5) hb.2.1 (by omega : w < 6)
    have hst := sto1 hS hb.2.1 hb.2.2 hp.2.2
    have s1 := hS.of (k := 28 + (x * 6 + w)) (v := X.a.d (28 + (x * 6 + w)) - 1) (.inr (.inr (.inr (.inl (by omega)))))
    exact ⟨s1.of (.inr (.inr (.inl (by omega)))), by rw [u119 (by omega), u119 (by omega)]; omega⟩) (fun _ => rfl) (Iff.rfl) (fun _ => rfl) (by decide +kernel) (by decide +kernel) (fun _ _ h1 h2 => h1.fr h2 (by decide +kernel)) (fun _ _ h1 h2 => h1.fr h2 (by decide +kernel))
theorem st_14 {G : Gl} {l : Launch} : St_14 G l := fun M X c hc0 hc9 hR x t w => by
  obtain ⟨hG, h4, hS, h53, f0, f1, h54, n0, n1, hF, h9⟩ := hR.cf hc9
  have hr := hR.rf hc9 (k := 1) (by decide) (by decide)
  have hL1 := hS.1.1.2
  have hW1 := hS.1.2.2
  have hk := hR.2.2.2.1.1.2
  refine St_act hR hc0 hc9 (by decide) (by decide) (c11_give hG h4 hS h53 f0 f1 h54 n0 n1 hF hr.1 hr.2) (fun M1 g w r a b => c12_give g w hS r a b) (fun hp => (ub2 hS (by have := hp.1; omega) (by have := hp.1; omega) (by have := hp.1; have := hp.2.1; omega) (by have := hp.1; have := hp.2.1; omega)).1) (fun hp => (ub2 hS (by have := hp.1; omega) (by have := hp.1; omega) (by have := hp.1; have := hp.2.1; omega) (by have := hp.1; have := hp.2.1; omega)).2) (fun hp => by
    obtain ⟨hb, ht, hne, h1, h2, -⟩ := hp
    have ho := (of1 h1)
    have s := hS.mv (x := x) (t := t) (w := w) hb.1.1 (by omega) ht.1 (by omega) hb.2.1 (by omega) hne (by rw [show 28 + x * 6 + w = 28 + (x * 6 + w) by omega]; exact ho) h2
    have e : mvR X.a.d x t w = upd1 (upd1 X.a.d (28 + (x * 6 + w)) (X.a.d (28 + (x * 6 + w)) - 1)) (28 + (t * 6 + w)) (X.a.d (28 + (t * 6 + w)) + 1) := by
      unfold mvR
      rw [upd1_o (f := X.a.d) (show 28 + (t * 6 + w) ≠ 28 + (x * 6 + w) by omega)]
    rw [e] at s
    exact ⟨s, by rw [u119 (by omega), u119 (by omega)]; omega⟩) (fun hp => by
    obtain ⟨hb, ht, hne, -⟩ := hp
    unfold mvR
    rw [upd1_o (f := X.a.d) (show 28 + (t * 6 + w) ≠ 28 + (x * 6 + w) by omega)]) (⟨fun h => ⟨h.1, ⟨h.2.1, h.1.2⟩, h.2.2⟩, fun h => ⟨h.1, h.2.1.1, h.2.2⟩⟩) (fun hp => by
    obtain ⟨hb, ht, hne, -⟩ := hp
    rw [show 28 + t * 6 + w = 28 + (t * 6 + w) by omega]
    unfold mvR
    rw [upd1_e, upd1_o (f := X.a.d) (show 28 + (t * 6 + w) ≠ 28 + (x * 6 + w) by omega)]) (by decide +kernel) (by decide +kernel) (fun _ _ h1 h2 => h1.fr h2 (by decide +kernel)) (fun _ _ h1 h2 => h1.fr h2 (by decide +kernel))
theorem st_16 {G : Gl} {l : Launch} : St_16 G l := fun M X c hc0 hc9 hR => by
  obtain ⟨hG, h4, hS, h53, f0, f1, h54, n0, n1, hF, h9⟩ := hR.cf hc9
  have hr := hR.rf hc9 (k := 1) (by decide) (by decide)
  have hL1 := hS.1.1.2
  have hW1 := hS.1.2.2
  have hk := hR.2.2.2.1.1.2
  refine St_act hR hc0 hc9 (by decide) (by decide) (c11_carry hG h4 hS h53 f0 f1 h54 n0 n1 hF hr.1 hr.2 (by omega)) (fun M1 g w r a b => c12_carry g w hS r a b (by omega)) (fun hp => ((⟨by rw [ac_e]; exact ac_u hS, by rw [ac_e]; exact ac_s hS⟩ : wdR (ub 119 (X.a.d 119) (-1) 0 (upd1 (coP X.a.d) 119 (X.a.d 119 + plC (insOf X.a.d)))) (pkF (plT (insOf X.a.d)) 30) 1 = X.a.d ∧ SB (ub 119 (X.a.d 119) (-1) 0 (upd1 (coP X.a.d) 119 (X.a.d 119 + plC (insOf X.a.d)))))).1) (fun hp => ((⟨by rw [ac_e]; exact ac_u hS, by rw [ac_e]; exact ac_s hS⟩ : wdR (ub 119 (X.a.d 119) (-1) 0 (upd1 (coP X.a.d) 119 (X.a.d 119 + plC (insOf X.a.d)))) (pkF (plT (insOf X.a.d)) 30) 1 = X.a.d ∧ SB (ub 119 (X.a.d 119) (-1) 0 (upd1 (coP X.a.d) 119 (X.a.d 119 + plC (insOf X.a.d)))))).2) (fun hp => by
    have z := hS.coRr (by omega)
    have e : coR X.a.d = upd1 (coP X.a.d) 119 (X.a.d 119 + plC (insOf X.a.d)) := if_pos hp
    rw [e] at z
    exact ⟨z.1, by have := z.2.2; omega⟩) (fun hp => if_pos hp) (Iff.rfl) (fun _ => rfl) (by decide +kernel) (by decide +kernel) (fun _ _ h1 h2 => h1.fr h2 (by decide +kernel)) (fun _ _ h1 h2 => h1.fr h2 (by decide +kernel))

