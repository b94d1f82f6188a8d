section STEPC
variable {G : Gl} {l : Launch} {M : Mem} {X : GX} {c : Int}
theorem St_ask {y1 y2 : Mt} {hh : List (Nat × Nat × Nat × Nat)} {as : List V} {d1 : Nat} {A : List Nat} {B : List (Nat × Int)} {T es : Prop} {val : Int → Prop} (hR : REL M X c) (hd1 : d1 ≤ 40)
    (hH : CtH G LY 82 l d1 y1 hh (vR 0 :: (as ++ [vR 81])) M (fun o M'' => (∃ v M', (∃ v', some (vI v) = some (vI v') ∧ T ∧ Fr A B M M' ∧ (GR M' ∧ FP M' X.a.d) ∧ val v') ∧ o = some (vI 0) ∧ M'' = uM M' 81 0 v) ∨ (∃ M', (es ∧ ¬ T ∧ Fr A B M M' ∧ GR M' ∧ FP M' X.a.d) ∧ o = some (vI 1) ∧ M'' = M')))
    (e0 : (rcOK A B && rmOK A B && (!A.contains 58 && B.all (fun q => !(q.1 == 58)))) = true)
    (h2 : ∀ M1 v, REL M1 X c → (T → val v) → ∃ d2 P2, d2 ≤ 40 ∧ Ct G LY 82 l d2 y2 (vR 57 :: as) M1 (RP P2) ∧ ∀ v' M2, P2 v' M2 → REL M2 X (c + 1) ∧ M2 81 0 = M1 81 0 ∧ (T → M2 57 4 = 0 ∧ v = v') ∧ (¬ T → M2 57 4 = 1)) : StQ G l M c y1 hh y2 as := by
  refine ⟨d1, _, hd1, hH, fun o M1 h => ?_⟩
  rcases h with ⟨v, M', ⟨v', e1, hT, hF, ⟨hG, hp⟩, hv⟩, rfl, rfl⟩ | ⟨M', ⟨-, hT, hF, hG, hp⟩, rfl, rfl⟩
  · have e2 : v = v' := Sum.inl.inj (Option.some.inj e1)
    subst e2
    have r1 := ask_1 hR hF e0 hG hp
    have r2 : REL (uM M' 81 0 v) X c := ask_1 r1 fr1 (by decide +kernel) (hG.uA (by decide) (.inl (by decide))) (r1.2.1.1.fr fr1 (by decide +kernel))
    obtain ⟨d2, P2, hd2, hc, h3⟩ := h2 _ v r2 (fun _ => hv)
    refine ⟨0, rfl, d2, P2, hd2, hc, fun u M2 hu => ?_⟩
    obtain ⟨a, b, t, -⟩ := h3 u M2 hu
    exact ⟨(t hT).1, fun _ => by rw [b, uM_same]; exact (t hT).2, X, a⟩
  · have r1 := ask_1 hR hF e0 hG hp
    obtain ⟨d2, P2, hd2, hc, h3⟩ := h2 M1 0 r1 (fun h => absurd h hT)
    refine ⟨1, rfl, d2, P2, hd2, hc, fun u M2 hu => ?_⟩
    obtain ⟨a, b, -, t⟩ := h3 u M2 hu
    exact ⟨t hT, fun z => absurd z (by decide), X, a⟩
theorem St_val {M1 M2 : Mem} {A : List Nat} {B : List (Nat × Int)} {T Y : Prop} {v v' : Int} (r : REL M1 X c) (q1 : Fr A B M1 M2) (q2 : TRo M1 M2) (e : (rcOK A B && plnOK A B && rmOK A B) = true) (e2 : (refL.all (fun q => !(A.contains q.1) && !(B.contains (q.1, q.2.1))) && stC.all (fun c => !(A.contains c) && B.all (fun q => !(q.1 == c)))) = true) (e3 : (!A.contains 81 && !B.contains (81, 0)) = true)
    (ht : T → M2 57 4 = 0 ∧ Y) (hf : ¬ T → M2 57 4 = 1) (hv : T → Y → v = v') : REL M2 X (c + 1) ∧ M2 81 0 = M1 81 0 ∧ (T → M2 57 4 = 0 ∧ v = v') ∧ (¬ T → M2 57 4 = 1) := by
  rw [Bool.and_eq_true, Bool.not_eq_true', Bool.not_eq_true'] at e3
  exact ⟨ask_2 r q1 q2 e (r.1.fr q1 e2), q1 81 0 (fun z => by rw [List.contains_iff_mem.mpr z] at e3; cases e3.1) (fun z => by rw [List.contains_iff_mem.mpr z] at e3; cases e3.2), fun h => ⟨(ht h).1, hv h (ht h).2⟩, hf⟩
theorem ite01 {T : Prop} {i : Decidable T} {x : Int} {Y : Prop} (h : x = (@ite Int T i 0 1)) (k : (@ite Int T i 0 1) = 0 → Y) : (T → x = 0 ∧ Y) ∧ (¬ T → x = 1) :=
  ⟨fun t => ⟨h.trans (if_pos t), k (if_pos t)⟩, fun t => h.trans (if_neg t)⟩
theorem pow5 (n : Nat) : ((5 : Int) ^ n).toNat = 5 ^ n := by
  rw [show ((5 : Int) ^ n) = ((5 ^ n : Nat) : Int) from by rw [Int.natCast_pow]; rfl, Int.toNat_natCast]
end STEPC

theorem st_6 {G : Gl} {l : Launch} (hlt : l.stackTraces = false) : St_6 G l := fun M X c hc0 hc9 hR x w z => by
  obtain ⟨hG, h4, hS, h53, f0, f1, h54, n0, n1, hF, h9⟩ := hR.cf hc9
  have hL0 := hS.1.1.1
  have hL1 := hS.1.1.2
  have hW0 := hS.1.2.1
  have hW1 := hS.1.2.2
  have hB := hS.I
  refine St_ask hR (by decide) (hL_held (c11_held hlt hG h4 hS hF) (fun r M' h => h.elim (fun v z => ⟨v, z.1⟩)) (fun E M' h => h.1)) (by decide +kernel) (fun M1 v r hval => ?_)
  refine ⟨_, _, by decide, c12_held (b := fun _ => 0) r.1 r.2.2.1.1.1 hS, fun v' M2 h => ?_⟩
  obtain ⟨q1, q2, q3, q4⟩ := h
  obtain ⟨tt, tf⟩ := ite01 q3 q4
  refine St_val r q1 q2 (by decide +kernel) (by decide +kernel) (by decide +kernel) (fun hT => by exact tt hT) (fun hT => by exact tf (fun h => hT h)) (fun hT k => ?_)
  have g := hval hT
  obtain ⟨g0, g1, g2, g3, g4, g5, g6⟩ := g
  obtain ⟨k0, k1, k2, k3, k4, k5, k6⟩ := k
  have hz : z = 0 ∨ z = 1 ∨ z = 2 ∨ z = 3 ∨ z = 4 ∨ z = 5 ∨ z = 6 := by omega
  rcases hz with e | e | e | e | e | e | e
  · rw [g0 e, k0 e]
  · rw [g1 e, k1 e]
  · rw [g2 e, k2 e]
  · rw [g3 e, k3 e]
  · rw [g4 e, k4 e]
  · rw [g5 e, k5 e, show x * 6 + w = 6 * x + w by omega]
  · rw [g6 e, k6 e]
theorem st_7 {G : Gl} {l : Launch} (hlt : l.stackTraces = false) : St_7 G l := fun M X c hc0 hc9 hR w => by
  obtain ⟨hG, h4, hS, h53, f0, f1, h54, n0, n1, hF, h9⟩ := hR.cf hc9
  have hL0 := hS.1.1.1
  have hL1 := hS.1.1.2
  have hW0 := hS.1.2.1
  have hW1 := hS.1.2.2
  have hB := hS.I
  refine St_ask hR (by decide) (hL_lack (c11_lack hlt hG h4 hS hF) (fun r M' h => h.elim (fun v z => ⟨v, z.1⟩)) (fun E M' h => h.1)) (by decide +kernel) (fun M1 v r hval => ?_)
  refine ⟨_, _, by decide, c12_lack (b := fun _ => 0) r.1 r.2.2.1.1.1 hS, fun v' M2 h => ?_⟩
  obtain ⟨q1, q2, q3, q4⟩ := h
  obtain ⟨tt, tf⟩ := ite01 q3 q4
  refine St_val r q1 q2 (by decide +kernel) (by decide +kernel) (by decide +kernel) (fun hT => by exact tt ⟨hT.1, by have := hT.2; omega⟩) (fun hT => by exact tf (fun h => hT ⟨h.1, by omega⟩)) (fun hT k => ?_)
  have g := hval hT
  rw [g, k]
theorem st_20 {G : Gl} {l : Launch} (hlt : l.stackTraces = false) : St_20 G l := fun M X c hc0 hc9 hR w => by
  obtain ⟨hG, h4, hS, h53, f0, f1, h54, n0, n1, hF, h9⟩ := hR.cf hc9
  have hL0 := hS.1.1.1
  have hL1 := hS.1.1.2
  have hW0 := hS.1.2.1
  have hW1 := hS.1.2.2
  have hB := hS.I
  have hk := hR.2.2.2.1.2.2.2.1
  have h23 : M 2 3 = X.a.k := hR.2.1.2.1.2.2.2.1
  have hno := hR.2.1.2.1.2.2.2.2.1
  refine St_ask hR (by decide) (hL_fits (c11_fits hlt hG h4 hS hF h23 rfl hk.1 hk.2) (fun r M' h => h.elim (fun v z => ⟨v, z.1⟩)) (fun E M' h => h.1)) (by decide +kernel) (fun M1 v r hval => ?_)
  refine ⟨_, _, by decide, c12_fits (no := M 9) r.1 r.2.2.1.1.1 hS r.2.2.1.1.2.2.1 (fun i i0 i1 => (r.2.2.1.1.2.2.2.1 i i0 (by omega)).trans (hno i i0 (by omega)).symm) hk.1 hk.2, fun v' M2 h => ?_⟩
  obtain ⟨q1, q2, q3, q4⟩ := h
  obtain ⟨tt, tf⟩ := ite01 q3 q4
  refine St_val r q1 q2 (by decide +kernel) (by decide +kernel) (by decide +kernel) (fun hT => by exact tt hT) (fun hT => by exact tf (fun h => hT h)) (fun hT k => ?_)
  have g := hval hT
  rw [g, k]
theorem st_21 {G : Gl} {l : Launch} (hlt : l.stackTraces = false) : St_21 G l := fun M X c hc0 hc9 hR w => by
  obtain ⟨hG, h4, hS, h53, f0, f1, h54, n0, n1, hF, h9⟩ := hR.cf hc9
  have hL0 := hS.1.1.1
  have hL1 := hS.1.1.2
  have hW0 := hS.1.2.1
  have hW1 := hS.1.2.2
  have hB := hS.I
  have hk := hR.2.2.2.1.2.2.2.1
  have h23 : M 2 3 = X.a.k := hR.2.1.2.1.2.2.2.1
  have hno := hR.2.1.2.1.2.2.2.2.1
  refine St_ask hR (by decide) (hL_look (c11_look hlt hG h4 hS hF h23 rfl hk.1 hk.2) (fun r M' h => h.elim (fun v z => ⟨v, z.1⟩)) (fun E M' h => h.1)) (by decide +kernel) (fun M1 v r hval => ?_)
  refine ⟨_, _, by decide, c12_look (no := M 9) r.1 r.2.2.1.1.1 hS r.2.2.1.1.2.2.1 (fun i i0 i1 => (r.2.2.1.1.2.2.2.1 i i0 (by omega)).trans (hno i i0 (by omega)).symm) hk.1 hk.2, fun v' M2 h => ?_⟩
  obtain ⟨q1, q2, q3, q4⟩ := h
  obtain ⟨tt, tf⟩ := ite01 q3 q4
  refine St_val r q1 q2 (by decide +kernel) (by decide +kernel) (by decide +kernel) (fun hT => by exact tt (by omega)) (fun hT => by exact tf (fun h => hT (by omega))) (fun hT k => ?_)
  have g := hval hT
  rw [g, k]
  by_cases z : (ckA (fitP X.a.d (M 9) X.a.k) (X.a.d 122).toNat).1 = 0
  · rw [if_pos z, if_pos z, look0 z]
  · rw [if_neg z, if_neg z]
theorem st_5 {G : Gl} {l : Launch} (hlt : l.stackTraces = false) : St_5 G l := fun M X c hc0 hc9 hR w z => by
  obtain ⟨hG, h4, hS, h53, f0, f1, h54, n0, n1, hF, h9⟩ := hR.cf hc9
  have hL0 := hS.1.1.1
  have hL1 := hS.1.1.2
  have hW0 := hS.1.2.1
  have hW1 := hS.1.2.2
  have hB := hS.I
  refine St_ask hR (by decide) (hL_work (c11_work hlt hG h4 hS hF) (fun r M' h => h.elim (fun v z => ⟨v, z.1⟩)) (fun E M' h => h.1)) (by decide +kernel) (fun M1 v r hval => ?_)
  refine ⟨_, _, by decide, c12_work (b := fun _ => 0) r.1 r.2.2.1.1.1 hS, fun v' M2 h => ?_⟩
  obtain ⟨q1, q2, q3, q4⟩ := h
  obtain ⟨tt, tf⟩ := ite01 q3 q4
  refine St_val r q1 q2 (by decide +kernel) (by decide +kernel) (by decide +kernel) (fun hT => by exact tt hT) (fun hT => by exact tf (fun h => hT h)) (fun hT k => ?_)
  have g := hval hT
  obtain ⟨g0, g1, g2, g3, g4, g5, g6, g7, g8, g9, g10⟩ := g
  obtain ⟨k0, k1, k2, k3, k4, k5, k6, k7, k8, k9, k10⟩ := k
  have hz : z = 0 ∨ z = 1 ∨ z = 2 ∨ z = 3 ∨ z = 4 ∨ z = 5 ∨ z = 6 ∨ z = 7 ∨ z = 8 ∨ z = 9 ∨ z = 10 := by omega
  rcases hz with e | e | e | e | e | e | e | e | e | e | e
  · rw [g0 e, k0 e]
  · rw [g1 e, k1 e]
  · rw [g2 e, k2 e]
  · rw [g3 e, k3 e]
  · rw [g4 e, k4 e]; rfl
  · rw [g5 e, k5 e]
    have es : sm 5 (fun x => plT (insOf X.a.d) (x * 6 + w)) = sm (X.a.d 121).toNat (fun x => plT (insOf X.a.d) (6 * x + w)) :=
      (sm_congr 5 (fun x _ _ => by rw [show x * 6 + w = 6 * x + w by omega])).trans (sm_ext 5 (by omega) (fun x a b => plT_out hB (by omega) hT.1.1 (by omega) (fun q => by have := q.1; have e9 : iL (insOf X.a.d) = X.a.d 121 := rfl; omega)))
    rw [es]
  · rcases g6 e with ⟨a, b⟩ | ⟨a, b⟩ <;> rcases k6 e with ⟨a2, b2⟩ | ⟨a2, b2⟩
    · rw [a, b2]
    · exact absurd a2 b
    · exact absurd a a2
    · exact FF_u b b2 (fun m _ _ => by
        rw [(kp_IQ hS (v := X.a.d (16 + w) + m) hT.1.1 hT.1.2).pl (kpL hS hT.1.1 hT.1.2), show allOf X.a.d w - (X.a.d (16 + w) + m) = allOf X.a.d w - X.a.d (16 + w) - m by omega])
  · rw [g7 e, k7 e]
  · rw [g8 e, k8 e]
  · rw [g9 e, k9 e]
  · rw [g10 e]
    by_cases y : X.a.d (16 + w) = 0
    · rw [(k10 e).1 y, if_pos (.inr y)]
    · rw [(k10 e).2 y]
      by_cases u : SPC (insOf X.a.d) = -1
      · rw [if_pos (.inl u), if_pos u]
      · rw [if_neg (fun h => h.elim u y), if_neg u, (kp_IQ hS (v := X.a.d (16 + w) - 1) hT.1.1 hT.1.2).sp (kpL hS hT.1.1 hT.1.2), show allOf X.a.d w - (X.a.d (16 + w) - 1) = allOf X.a.d w - X.a.d (16 + w) + 1 by omega]
theorem st_4 {G : Gl} {l : Launch} (hlt : l.stackTraces = false) : St_4 G l := fun M X c hc0 hc9 hR x w => by
  obtain ⟨hG, h4, hS, h53, f0, f1, h54, n0, n1, hF, h9⟩ := hR.cf hc9
  have hL0 := hS.1.1.1
  have hL1 := hS.1.1.2
  have hW0 := hS.1.2.1
  have hW1 := hS.1.2.2
  have hB := hS.I
  refine St_ask hR (by decide) (hL_library (c11_library hlt hG h4 hS hF) (fun r M' h => h.elim (fun v z => ⟨v, z.1⟩)) (fun E M' h => h.1)) (by decide +kernel) (fun M1 v r hval => ?_)
  by_cases h9 : ((0 ≤ x ∧ x < X.a.d 121) ∧ 0 ≤ w ∧ w ≤ 12) ∧ w = 9
  · obtain ⟨hT, rfl⟩ := h9
    obtain ⟨b, hb, hv⟩ := (hval hT).2.2.2.2.2.2.2.2.2.1 rfl
    refine ⟨_, _, by decide, c12_library r.1 r.2.2.1.1.1 hS hb, fun v' M2 h => ?_⟩
    obtain ⟨q1, q2, q3, q4⟩ := h
    obtain ⟨tt, tf⟩ := ite01 q3 q4
    refine St_val r q1 q2 (by decide +kernel) (by decide +kernel) (by decide +kernel) tt tf (fun hT k => ?_)
    rw [hv, k.2.2.2.2.2.2.2.2.2.1 rfl]
    unfold oP
    exact sm_congr _ (fun k _ _ => by rw [show lib (X.a.d 121) x = lib (iL (insOf X.a.d)) x from rfl, oS_lib])
  by_cases h10 : ((0 ≤ x ∧ x < X.a.d 121) ∧ 0 ≤ w ∧ w ≤ 12) ∧ w = 10
  · obtain ⟨hT, rfl⟩ := h10
    obtain ⟨b, hb, hv⟩ := (hval hT).2.2.2.2.2.2.2.2.2.2.1 rfl
    refine ⟨_, _, by decide, c12_library r.1 r.2.2.1.1.1 hS hb, fun v' M2 h => ?_⟩
    obtain ⟨q1, q2, q3, q4⟩ := h
    obtain ⟨tt, tf⟩ := ite01 q3 q4
    refine St_val r q1 q2 (by decide +kernel) (by decide +kernel) (by decide +kernel) tt tf (fun hT k => ?_)
    rw [hv, k.2.2.2.2.2.2.2.2.2.2.1 rfl]
    refine bits_cg _ (fun y _ _ => ?_)
    unfold oL lackT
    rw [show lib (X.a.d 121) x = lib (iL (insOf X.a.d)) x from rfl]
    exact ⟨fun ⟨j, a, b', e, f⟩ => ⟨j, a, b', e, by rw [oS_lib]; exact f⟩, fun ⟨j, a, b', e, f⟩ => ⟨j, a, b', e, by rw [oS_lib] at f; exact f⟩⟩
  obtain ⟨b, hb⟩ := RK_ex (fun w => X.a.d (10 + w)) (X.a.d 122).toNat
  rw [Int.toNat_of_nonneg hW0] at hb
  refine ⟨_, _, by decide, c12_library r.1 r.2.2.1.1.1 hS hb, fun v' M2 h => ?_⟩
  obtain ⟨q1, q2, q3, q4⟩ := h
  obtain ⟨tt, tf⟩ := ite01 q3 q4
  refine St_val r q1 q2 (by decide +kernel) (by decide +kernel) (by decide +kernel) (fun hT => by exact tt hT) (fun hT => by exact tf (fun h => hT h)) (fun hT k => ?_)
  have g := hval hT
  obtain ⟨g0, g1, g2, g3, g4, g5, g6, g7, g8, g9, g10, g11, g12⟩ := g
  obtain ⟨k0, k1, k2, k3, k4, k5, k6, k7, k8, k9, k10, k11, k12⟩ := k
  have hz9 : w ≠ 9 := fun e => h9 ⟨hT, e⟩
  have hz10 : w ≠ 10 := fun e => h10 ⟨hT, e⟩
  have hz : w = 0 ∨ w = 1 ∨ w = 2 ∨ w = 3 ∨ w = 4 ∨ w = 5 ∨ w = 6 ∨ w = 7 ∨ w = 8 ∨ w = 11 ∨ w = 12 := by omega
  rcases hz with e | e | e | e | e | e | e | e | e | e | e
  · rw [g0 e, k0 e]
  · rw [g1 e, k1 e]
  · rw [g2 e, k2 e]
  · rw [g3 e, k3 e]
  · rw [g4 e, k4 e, sm_congr 6 (g := fun w => plT (insOf X.a.d) (6 * x + w)) (fun k _ _ => by rw [show x * 6 + k = 6 * x + k by omega]), sm_ext (n := (X.a.d 122).toNat) 6 (by omega) (fun k a b => by rw [plT_out hB (by omega) (by omega) b (fun q => by have := q.2; have e9 : iW (insOf X.a.d) = X.a.d 122 := rfl; omega)])]
  · rw [g5 e, k5 e, sm_congr 6 (g := fun w => plT (insOf X.a.d) (6 * x + w) * X.a.d (10 + w)) (fun k _ _ => by rw [show x * 6 + k = 6 * x + k by omega, Int.mul_comm]), sm_ext (n := (X.a.d 122).toNat) 6 (by omega) (fun k a b => by rw [plT_out hB (by omega) (by omega) b (fun q => by have := q.2; have e9 : iW (insOf X.a.d) = X.a.d 122 := rfl; omega)]; exact Int.zero_mul _)]
  · rcases g6 e with ⟨a, b⟩ | ⟨a, b⟩ <;> rcases k6 e with ⟨a2, b2⟩ | ⟨a2, b2⟩
    · rw [a, b2]
    · exact absurd a2 b
    · exact absurd a a2
    · exact FF_u b b2 (fun m _ _ => tig_e hS hT.1.1 hT.1.2)
  · rw [g7 e, k7 e]
  · rw [g8 e, k8 e]
  · rw [g11 e, k11 e, apart_e hS hT.1.1 hT.1.2]
  · rw [g12 e, k12 e, prL_e hS hT.1.1 hT.1.2]
theorem st_3 {G : Gl} {l : Launch} (hlt : l.stackTraces = false) : St_3 G l := fun M X c hc0 hc9 hR w => by
  obtain ⟨hG, h4, hS, h53, f0, f1, h54, n0, n1, hF, h9⟩ := hR.cf hc9
  have hL0 := hS.1.1.1
  have hL1 := hS.1.1.2
  have hW0 := hS.1.2.1
  have hW1 := hS.1.2.2
  have hB := hS.I
  refine St_ask hR (by decide) (hL_count (c11_count hlt hG h4 hS hF) (fun r M' h => h.elim (fun v z => ⟨v, z.1⟩)) (fun E M' h => h.1)) (by decide +kernel) (fun M1 v r hval => ?_)
  by_cases h27 : w = 27
  · subst h27
    obtain ⟨b, o, e, hb, hv⟩ := (hval (by decide)).2.2.2.2.2.2.2.2.2.2.2.2.2.2.2.2.2.2.2.2.2.2.2.2.2.2.2 rfl
    refine ⟨_, _, by decide, c12_count r.1 r.2.2.1.1.1 hS hb, fun v' M2 h => ?_⟩
    obtain ⟨q1, q2, q3, q4⟩ := h
    obtain ⟨tt, tf⟩ := ite01 q3 q4
    refine St_val r q1 q2 (by decide +kernel) (by decide +kernel) (by decide +kernel) tt tf (fun hT k => ?_)
    have ao := ord_eq hB hb o e
    rw [← pow5] at ao
    rw [hv, k.2.2.2.2.2.2.2.2.2.2.2.2.2.2.2.2.2.2.2.2.2.2.2.2.2.2.2 rfl]
    exact ao.2.1
  obtain ⟨b, hb⟩ := RK_ex (fun w => X.a.d (10 + w)) (X.a.d 122).toNat
  rw [Int.toNat_of_nonneg hW0] at hb
  refine ⟨_, _, by decide, c12_count r.1 r.2.2.1.1.1 hS hb, fun v' M2 h => ?_⟩
  obtain ⟨q1, q2, q3, q4⟩ := h
  obtain ⟨tt, tf⟩ := ite01 q3 q4
  refine St_val r q1 q2 (by decide +kernel) (by decide +kernel) (by decide +kernel) (fun hT => by exact tt hT) (fun hT => by exact tf (fun h => hT h)) (fun hT k => ?_)
  have g := hval hT
  obtain ⟨g0, g1, g2, g3, g4, g5, g6, g7, g8, g9, g10, g11, g12, g13, g14, g15, g16, g17, g18, g19, g20, g21, g22, g23, g24, g25, g26, g27⟩ := g
  obtain ⟨k0, k1, k2, k3, k4, k5, k6, k7, k8, k9, k10, k11, k12, k13, k14, k15, k16, k17, k18, k19, k20, k21, k22, k23, k24, k25, k26, k27⟩ := k
  have hz27 : w ≠ 27 := fun e => h27 e
  have hz : w = 0 ∨ w = 1 ∨ w = 2 ∨ w = 3 ∨ w = 4 ∨ w = 5 ∨ w = 6 ∨ w = 7 ∨ w = 8 ∨ w = 9 ∨ w = 10 ∨ w = 11 ∨ w = 12 ∨ w = 13 ∨ w = 14 ∨ w = 15 ∨ w = 16 ∨ w = 17 ∨ w = 18 ∨ w = 19 ∨ w = 20 ∨ w = 21 ∨ w = 22 ∨ w = 23 ∨ w = 24 ∨ w = 25 ∨ w = 26 := by omega
  rcases hz with e | e | e | e | e | e | e | e | e | e | e | e | e | e | e | e | e | e | e | e | e | e | e | e | e | e | e
  · rw [g0 e, k0 e]
  · rw [g1 e, k1 e]
  · rw [g2 e, k2 e]
  · rw [g3 e, k3 e]
  · rw [g4 e, k4 e]
  · rw [g5 e, k5 e]
  · rw [g6 e, k6 e]
  · rw [g7 e, k7 e, c7_e hS]
  · rw [g8 e, k8 e]
  · rw [g9 e, k9 e]
  · rw [g10 e, k10 e]
  · rw [g11 e, k11 e]
  · exact LateV_u (g12 e) (k12 e)
  · rw [g13 e, k13 e, ca_cg (P := itwM X.a.d) (Q := itwP X.a.d) _ (fun x w a b c d => itw_e hS a (by omega) c d)]
  · rw [g14 e, k14 e, ca_cg (P := itwM X.a.d) (Q := itwP X.a.d) _ (fun x w a b c d => itw_e hS a (by omega) c d)]
  · rw [g15 e, k15 e]
  · rw [g16 e, k16 e]
    exact bits_cg _ (fun k _ _ => by unfold shrt; omega)
  · rw [g17 e, k17 e]; exact h54.trans r.2.2.1.1.2.1.2.1.1.symm
  · rw [g18 e, k18 e]; exact hR.2.1.2.1.2.2.2.1.trans r.2.2.1.1.2.2.1.symm
  · rw [g19 e, k19 e]; exact hR.2.1.2.2.1.1.trans r.2.2.1.2.1.1.symm
  · rw [g20 e, k20 e]; exact (hR.2.1.2.1.2.2.2.2.2 0 (by decide) (by decide)).trans (r.2.2.1.1.2.2.2.2 0 (by decide) (by decide)).symm
  · rw [g21 e, k21 e]; exact (hR.2.1.2.1.2.2.2.2.2 1 (by decide) (by decide)).trans (r.2.2.1.1.2.2.2.2 1 (by decide) (by decide)).symm
  · rw [g22 e, k22 e]; exact (hR.2.1.2.1.2.2.2.2.2 2 (by decide) (by decide)).trans (r.2.2.1.1.2.2.2.2 2 (by decide) (by decide)).symm
  · obtain ⟨f, hf⟩ := g23 e
    have z := help_eq hS hf (k23 e)
    rw [if_pos rfl] at z
    exact z.symm
  · obtain ⟨f, hf⟩ := g24 e
    have z := help_eq hS hf (k24 e)
    rw [if_neg (by decide)] at z
    exact z.symm
  · rw [g25 e, k25 e]
  · rw [g26 e, k26 e]

