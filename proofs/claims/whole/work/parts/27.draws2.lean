/-! Draws: a STOCK stays one -/
theorem upd1_s {f : Int → Int} {k v : Int} : upd1 f k v k = v := if_pos rfl
theorem upd1_ne {f : Int → Int} {k v j : Int} (h : j ≠ k) : upd1 f k v j = f j := if_neg h
theorem SP.ch {d e : Int → Int} (h : SP d) (h1 : ∀ k, k ≠ 119 → k < 28 ∨ 58 ≤ k → e k = d k) (h2 : ∀ p, 0 ≤ p → p < 30 → 0 ≤ e (28 + p) ∧ e (28 + p) ≤ 3) (h3 : 0 ≤ e 119 ∧ e 119 ≤ 90000) : SP e := by
  obtain ⟨a, b, c, g, f, z⟩ := h
  refine ⟨?_, fun x x0 x1 => ?_, fun w w0 w1 => ?_, fun p p0 p1 => ⟨h2 p p0 p1, ?_⟩, ⟨?_, h3, ?_⟩, fun w w0 w1 => ?_⟩
  · rw [h1 121 (by decide) (by decide), h1 122 (by decide) (by decide)]; exact a
  · rw [h1 x (by omega) (by omega), h1 (5 + x) (by omega) (by omega)]; exact b x x0 x1
  · rw [h1 _ (by omega) (by omega), h1 (16 + w) (by omega) (by omega), h1 (22 + w) (by omega) (by omega)]; exact c w w0 w1
  · rw [h1 _ (by omega) (by omega), h1 (88 + p) (by omega) (by omega)]; exact (g p p0 p1).2
  · rw [h1 118 (by decide) (by decide)]; exact f.1
  · rw [h1 120 (by decide) (by decide)]; exact f.2.2
  · rw [h1 122 (by decide) (by decide)] at w1
    have := a.2
    rw [h1 _ (by omega) (by omega)]
    exact z w w0 w1
noncomputable def coP (d : Int → Int) : Int → Int := fun b => if 28 ≤ b ∧ b < 58 then d b - plT (insOf d) (b - 28) else d b
noncomputable def coR (d : Int → Int) : Int → Int := @ite (Int → Int) (planI (insOf d)) (Classical.propDecidable _) (upd1 (coP d) 119 (d 119 + plC (insOf d))) d
theorem offr_le {d : Int → Int} (h : SP d) {x w : Int} (x0 : 0 ≤ x) (x1 : x < 5) (w0 : 0 ≤ w) (w1 : w < 6) : oIf (insOf d) x w ≤ d (28 + x * 6 + w) := by
  have a := (h.off x0 x1 w0 w1).2
  have b := (h.h x0 x1 w0 w1).1.1
  unfold oIf
  by_cases q : x < iL (insOf d) ∧ w < iW (insOf d)
  · rw [if_pos q]; exact a
  · rw [if_neg q]; exact b
theorem SP.coPp {d : Int → Int} (h : SP d) {v : Int} (v0 : 0 ≤ v) (v1 : v ≤ 90000) : SP (upd1 (coP d) 119 v) := by
  refine h.ch (fun k k0 k1 => ?_) (fun p p0 p1 => ?_) ?_
  · show (if k = 119 then _ else (if 28 ≤ k ∧ k < 58 then _ else d k)) = _
    rw [if_neg k0, if_neg (by omega)]
  · show 0 ≤ (if 28 + p = 119 then _ else (if 28 ≤ 28 + p ∧ 28 + p < 58 then d (28 + p) - plT (insOf d) (28 + p - 28) else _)) ∧ (if 28 + p = 119 then _ else (if 28 ≤ 28 + p ∧ 28 + p < 58 then d (28 + p) - plT (insOf d) (28 + p - 28) else _)) ≤ 3
    rw [if_neg (by omega), if_pos (by omega)]
    have a := plT_bd (SP.I h) (y := p / 6) (u := p % 6) (by omega) (by omega) (by omega)
    have b := offr_le h (x := p / 6) (w := p % 6) (by omega) (by omega) (by omega) (by omega)
    have c := (h.2.2.2.1 p p0 p1).1
    rw [show p / 6 * 6 + p % 6 = p by omega] at a
    rw [show 28 + p / 6 * 6 + p % 6 = 28 + p by omega] at b
    rw [show 28 + p - 28 = p by omega]
    omega
  · show 0 ≤ (if (119 : Int) = 119 then v else _) ∧ (if (119 : Int) = 119 then v else _) ≤ 90000
    rw [if_pos rfl]
    exact ⟨v0, v1⟩
theorem SP.coRr {d : Int → Int} (h : SP d) (hb : d 119 ≤ 89900) : SP (coR d) ∧ 0 ≤ coR d 119 ∧ coR d 119 ≤ d 119 + 90 := by
  have a := plC_bd (SP.I h)
  have b := h.2.2.2.2.1.2.1.1
  unfold coR
  by_cases q : planI (insOf d)
  · rw [if_pos q]
    refine ⟨h.coPp (by omega) (by omega), ?_⟩
    show 0 ≤ (if (119 : Int) = 119 then d 119 + plC (insOf d) else _) ∧ (if (119 : Int) = 119 then d 119 + plC (insOf d) else _) ≤ _
    rw [if_pos rfl]
    omega
  · rw [if_neg q]
    exact ⟨h, b, by omega⟩
theorem SP.cell {d : Int → Int} (h : SP d) {p v : Int} (p0 : 0 ≤ p) (p1 : p < 30) (v0 : 0 ≤ v) (v1 : v ≤ 3) : SP (upd1 d (28 + p) v) := by
  refine h.ch (fun k k0 k1 => if_neg (by omega)) (fun q q0 q1 => ?_) ?_
  · show 0 ≤ (if 28 + q = 28 + p then v else d (28 + q)) ∧ (if 28 + q = 28 + p then v else d (28 + q)) ≤ 3
    by_cases e : 28 + q = 28 + p
    · rw [if_pos e]; exact ⟨v0, v1⟩
    · rw [if_neg e]; exact (h.2.2.2.1 q q0 q1).1
  · show 0 ≤ (if (119 : Int) = 28 + p then v else d 119) ∧ (if (119 : Int) = 28 + p then v else d 119) ≤ 90000
    rw [if_neg (by omega)]
    exact h.2.2.2.2.1.2.1
theorem SP.went {d : Int → Int} (h : SP d) {v : Int} (v0 : 0 ≤ v) (v1 : v ≤ 90000) : SP (upd1 d 119 v) := by
  refine h.ch (fun k k0 k1 => if_neg k0) (fun q q0 q1 => ?_) ?_
  · show 0 ≤ (if 28 + q = 119 then v else d (28 + q)) ∧ (if 28 + q = 119 then v else d (28 + q)) ≤ 3
    rw [if_neg (by omega)]
    exact (h.2.2.2.1 q q0 q1).1
  · show 0 ≤ (if (119 : Int) = 119 then v else _) ∧ (if (119 : Int) = 119 then v else _) ≤ 90000
    rw [if_pos rfl]
    exact ⟨v0, v1⟩
theorem SP.mcG {d : Int → Int} (h : SP d) {w x t k s2 s3 : Int} (w0 : 0 ≤ w) (w1 : w < 6) (x0 : 0 ≤ x) (x1 : x < 5) (t0 : 0 ≤ t) (t1 : t < 5) (hb : d 119 ≤ 89900) : SP (mcG d w x t k s2 s3).1 ∧ (mcG d w x t k s2 s3).1 119 ≤ d 119 + 1 := by
  have c := (h.2.2.2.1 (x * 6 + w) (by omega) (by omega)).1
  have b := h.2.2.2.2.1.2.1.1
  by_cases q : k < 2
  · rw [mcG_0 q]
    refine ⟨h.cell (by omega) (by omega) (by omega) (by omega), ?_⟩
    show (if (119 : Int) = 28 + (x * 6 + w) then _ else d 119) ≤ _
    rw [if_neg (by omega)]
    omega
  · by_cases q2 : k = 2
    · by_cases g : mayGo d x w
      · rw [mcG_2t q2 g]
        have o := (h.off x0 x1 w0 w1).2
        have g1 := g.1
        rw [show 28 + x * 6 + w = 28 + (x * 6 + w) by omega] at o
        refine ⟨(h.cell (by omega) (by omega) (by omega) (by omega)).went (by omega) (by omega), ?_⟩
        simp only
        rw [upd1_s]
        exact Int.le_refl _
      · rw [mcG_2f q2 g]
        exact ⟨h, by show d 119 ≤ d 119 + 1; omega⟩
    · by_cases g : mayGive d x t w
      · rw [mcG_3t (by omega) g]
        have o := (h.off x0 x1 w0 w1).2
        obtain ⟨g1, g2, g3, g4⟩ := g
        refine ⟨h.mv x0 x1 t0 t1 w0 w1 g1 (by omega) (by omega), ?_⟩
        show (if (119 : Int) = 28 + (t * 6 + w) then _ else (if (119 : Int) = 28 + (x * 6 + w) then _ else d 119)) ≤ _
        rw [if_neg (by omega), if_neg (by omega)]
        omega
      · rw [mcG_3f (by omega) g]
        exact ⟨h, by show d 119 ≤ d 119 + 1; omega⟩
abbrev RS : Type := (Int → Int) × Int × Int
noncomputable def rnS (S : RS) : RS :=
  if drV S.2.1 6 = 3 then (upd1 S.1 118 (min 60 (S.1 118 + 1)), nxS S.2.1, S.2.2)
  else if drV S.2.1 6 = 5 then (coR S.1, nxS S.2.1, S.2.2 + bP (planI (insOf S.1)))
  else if 0 < S.1 121 ∧ 0 < S.1 122 then ((mcF S.1 (nxS S.2.1) (drV S.2.1 6)).1, (mcF S.1 (nxS S.2.1) (drV S.2.1 6)).2, S.2.2)
  else (S.1, nxS S.2.1, S.2.2)
noncomputable def rnF (S : RS) : Nat → RS
  | 0 => S
  | n + 1 => rnS (rnF S n)
theorem rnF_s {S : RS} {i j : Int} (h : 0 ≤ i) (hj : j = i + 1) : rnF S j.toNat = rnS (rnF S i.toNat) := by
  subst hj
  rw [show (i + 1).toNat = i.toNat + 1 by omega, rnF]
theorem rnS_3 {e : Int → Int} {s p : Int} (h : drV s 6 = 3) : rnS (e, s, p) = (upd1 e 118 (min 60 (e 118 + 1)), nxS s, p) := if_pos h
theorem rnS_5 {e : Int → Int} {s p : Int} (h : drV s 6 = 5) : rnS (e, s, p) = (coR e, nxS s, p + bP (planI (insOf e))) := (if_neg (show ¬ drV s 6 = 3 by omega)).trans (if_pos h)
theorem rnS_m {e : Int → Int} {s p : Int} (h3 : drV s 6 ≠ 3) (h5 : drV s 6 ≠ 5) (hh : 0 < e 121 ∧ 0 < e 122) : rnS (e, s, p) = ((mcF e (nxS s) (drV s 6)).1, (mcF e (nxS s) (drV s 6)).2, p) := (if_neg h3).trans ((if_neg h5).trans (if_pos hh))
theorem rnS_n {e : Int → Int} {s p : Int} (h3 : drV s 6 ≠ 3) (h5 : drV s 6 ≠ 5) (hh : ¬ (0 < e 121 ∧ 0 < e 122)) : rnS (e, s, p) = (e, nxS s, p) := (if_neg h3).trans ((if_neg h5).trans (if_neg hh))
theorem rnS_ok {e : Int → Int} {s p : Int} (h : SP e) (hb : e 119 ≤ 89900) : SP (rnS (e, s, p)).1 ∧ (rnS (e, s, p)).1 119 ≤ e 119 + 90 ∧ p ≤ (rnS (e, s, p)).2.2 ∧ (rnS (e, s, p)).2.2 ≤ p + 1 := by
  have hy := h.2.2.2.2.1.1
  have hLW := h.1
  by_cases a : drV s 6 = 3
  · rw [rnS_3 a]
    refine ⟨h.yr (by omega) (by omega), ?_, Int.le_refl _, by show p ≤ p + 1; omega⟩
    simp only
    rw [upd1_ne (by decide)]
    omega
  · by_cases b : drV s 6 = 5
    · rw [rnS_5 b]
      have c := h.coRr hb
      have g := bP_01 (planI (insOf e))
      exact ⟨c.1, c.2.2, by show p ≤ p + _; omega, by show p + _ ≤ p + 1; omega⟩
    · by_cases c : 0 < e 121 ∧ 0 < e 122
      · rw [rnS_m a b c]
        have b1 := drV_bd (s := nxS s) c.2
        have b2 := drV_bd (s := nxS (nxS s)) c.1
        have b3 := drV_bd (s := nxS (nxS (nxS s))) c.1
        have g := h.mcG (k := drV s 6) (s2 := nxS (nxS (nxS s))) (s3 := nxS (nxS (nxS (nxS s)))) b1.1 (by omega) b2.1 (by omega) b3.1 (by omega) hb
        exact ⟨g.1, Int.le_trans g.2 (by omega), Int.le_refl _, by show p ≤ p + 1; omega⟩
      · rw [rnS_n a b c]
        exact ⟨h, by show e 119 ≤ e 119 + 90; omega, Int.le_refl _, by show p ≤ p + 1; omega⟩

theorem dX1_carryOut_0 : decode cX1_carryOut 0 = .ok (.aload_n 0, 1) := by decide +kernel
theorem dX1_carryOut_1 : decode cX1_carryOut 1 = .ok (.getfield 9, 3) := by decide +kernel
theorem dX1_carryOut_4 : decode cX1_carryOut 4 = .ok (.aload_n 0, 1) := by decide +kernel
theorem dX1_carryOut_5 : decode cX1_carryOut 5 = .ok (.getfield 18, 3) := by decide +kernel
theorem dX1_carryOut_8 : decode cX1_carryOut 8 = .ok (.invokevirtual 77, 3) := by decide +kernel
theorem dX1_carryOut_11 : decode cX1_carryOut 11 = .ok (.aload_n 0, 1) := by decide +kernel
theorem dX1_carryOut_12 : decode cX1_carryOut 12 = .ok (.getfield 9, 3) := by decide +kernel
theorem dX1_carryOut_15 : decode cX1_carryOut 15 = .ok (.getfield 82, 3) := by decide +kernel
theorem dX1_carryOut_18 : decode cX1_carryOut 18 = .ok (.ifCond .eq 47, 3) := by decide +kernel
theorem dX1_carryOut_21 : decode cX1_carryOut 21 = .ok (.aload_n 0, 1) := by decide +kernel
theorem dX1_carryOut_22 : decode cX1_carryOut 22 = .ok (.getfield 18, 3) := by decide +kernel
theorem dX1_carryOut_25 : decode cX1_carryOut 25 = .ok (.aload_n 0, 1) := by decide +kernel
theorem dX1_carryOut_26 : decode cX1_carryOut 26 = .ok (.getfield 9, 3) := by decide +kernel
theorem dX1_carryOut_29 : decode cX1_carryOut 29 = .ok (.invokevirtual 86, 3) := by decide +kernel
theorem dX1_carryOut_32 : decode cX1_carryOut 32 = .ok (.invokevirtual 90, 3) := by decide +kernel
theorem dX1_carryOut_35 : decode cX1_carryOut 35 = .ok (.aload_n 0, 1) := by decide +kernel
theorem dX1_carryOut_36 : decode cX1_carryOut 36 = .ok (.getfield 18, 3) := by decide +kernel
theorem dX1_carryOut_39 : decode cX1_carryOut 39 = .ok (.getfield 37, 3) := by decide +kernel
theorem dX1_carryOut_42 : decode cX1_carryOut 42 = .ok (.bipush 119, 2) := by decide +kernel
theorem dX1_carryOut_44 : decode cX1_carryOut 44 = .ok (.dup2, 1) := by decide +kernel
theorem dX1_carryOut_45 : decode cX1_carryOut 45 = .ok (.iaload, 1) := by decide +kernel
theorem dX1_carryOut_46 : decode cX1_carryOut 46 = .ok (.aload_n 0, 1) := by decide +kernel
theorem dX1_carryOut_47 : decode cX1_carryOut 47 = .ok (.getfield 9, 3) := by decide +kernel
theorem dX1_carryOut_50 : decode cX1_carryOut 50 = .ok (.getfield 94, 3) := by decide +kernel
theorem dX1_carryOut_53 : decode cX1_carryOut 53 = .ok (.iadd, 1) := by decide +kernel
theorem dX1_carryOut_54 : decode cX1_carryOut 54 = .ok (.iastore, 1) := by decide +kernel
theorem dX1_carryOut_55 : decode cX1_carryOut 55 = .ok (.aload_n 0, 1) := by decide +kernel
theorem dX1_carryOut_56 : decode cX1_carryOut 56 = .ok (.dup, 1) := by decide +kernel
theorem dX1_carryOut_57 : decode cX1_carryOut 57 = .ok (.getfield 30, 3) := by decide +kernel
theorem dX1_carryOut_60 : decode cX1_carryOut 60 = .ok (.iconst 1, 1) := by decide +kernel
theorem dX1_carryOut_61 : decode cX1_carryOut 61 = .ok (.iadd, 1) := by decide +kernel
theorem dX1_carryOut_62 : decode cX1_carryOut 62 = .ok (.putfield 30, 3) := by decide +kernel
theorem dX1_carryOut_65 : decode cX1_carryOut 65 = .ok (.return_, 1) := by decide +kernel
set_option maxHeartbeats 1000000 in
theorem c1_carryOut {G : Gl} {l : Launch}  {M : Mem} {d : Int → Int} (hG : GR M) (hD : M 56 = d) (hSP : SP d) (hb : d 119 ≤ 89900) (hp0 : 0 ≤ M 52 3) (hp1 : M 52 3 ≤ 40) : Ct G LY 82 l 4 m1_carryOut [vR 52] M (RV (fun M' => Fr [25, 26, 27, 28, 29, 30, 31, 32, 33, 34, 35, 54, 56] [(24, 11), (24, 12), (24, 13), (53, 2), (53, 3), (52, 3)] M M' ∧ GR M' ∧ M' 56 = coR d ∧ M' 52 3 = M 52 3 + bP (planI (insOf d)))) := by
  refine R_start (by decide +kernel) (Nat.le_of_ble_eq_true rfl) (fun C hC hRm hlau => ?_)
  show RZ G LY C (Zn G LY 82 C (RV (fun M' => Fr [25, 26, 27, 28, 29, 30, 31, 32, 33, 34, 35, 54, 56] [(24, 11), (24, 12), (24, 13), (53, 2), (53, 3), (52, 3)] M M' ∧ GR M' ∧ M' 56 = coR d ∧ M' 52 3 = M 52 3 + bP (planI (insOf d))))) 0 0 82 0 [some (vR 52)] [] M
  have bC := plC_bd (SP.I hSP)
  have b119 := hSP.2.2.2.2.1.2.1.1
  refine R_aload_0 hC dX1_carryOut_0 ?_
  refine R_getR hC dX1_carryOut_1 fl_1_9 (by decide) rfl (by decide) (by decide) (fi := 0) rfl (r := 53) (gr_52_0 hG) ?_
  refine R_aload_0 hC dX1_carryOut_4 ?_
  refine R_getR hC dX1_carryOut_5 fl_1_18 (by decide) rfl (by decide) (by decide) (fi := 2) rfl (r := 55) (gr_52_2 hG) ?_
  refine R_callVv (as := [vR _]) hC dX1_carryOut_8 mo_5_make ml_1_77 (by decide) rfl rfl (c5_make  hG ph_53 sh_55 hD hSP.B (SP.I hSP)) rfl rfl hRm (by decide) (by decide) (Nat.le_of_ble_eq_true rfl) (fun Mc1 hq2 => ?_)
  have hr3 : Mc1 56 = d := ((hq2.1.row (by decide) (by decide)).trans hD)
  have hR := hr3
  have q2 := hq2.2.1
  have q3 := hq2.2.2.2
  have hT : ∀ q, 0 ≤ q → q < 30 → 0 ≤ Mc1 54 q ∧ Mc1 54 q ≤ 3 := fun q a b => by (rw [hq2.2.2.1 q a b]; exact plT_3 (SP.I hSP) a)
  have hw : wdR d (pkF (Mc1 54) 30) (-1) = coP d := by
    rw [wdR_F hT]
    exact funext (fun b => by
      unfold coP
      by_cases z : 28 ≤ b ∧ b < 58
      · rw [if_pos z, if_pos z, hq2.2.2.1 _ (by omega) (by omega)]
      · rw [if_neg z, if_neg z])
  refine R_aload_0 hC dX1_carryOut_11 ?_
  have hG4 : GR Mc1 := (GR.fr hG hq2.1 (by decide +kernel))
  refine R_getR hC dX1_carryOut_12 fl_1_9 (by decide) rfl (by decide) (by decide) (fi := 0) rfl (r := 53) (gr_52_0 hG4) ?_
  refine R_getI hC dX1_carryOut_15 fl_1_82 (by decide) rfl (by decide) (by decide) (fi := 2) rfl ?_
  rw [q2]
  refine R_if_eq hC dX1_carryOut_18 (tgt := 65) (by decide) (fun hb18 => ?_) (fun hb18 => ?_)
  · skip
    replace hb18 := bP_z hb18
    exact R_return hC dX1_carryOut_65 rfl (ret_V ⟨by first | exact Fr.uB (Fr.uA hF5 (by decide)) (by decide) | exact hq2.1.mo (by decide) (by decide), hG4, by
          unfold coR
          first
            | (rw [if_neg hb18]; exact hR)
            | (rw [if_pos hb18, uM_ne (by decide), uM_row, hR32]; all_goals rfl), by
          first
            | (rw [bP_neg hb18]; exact (hq2.1 52 3 (by decide) (by decide)).trans (by omega))
            | (rw [bP_pos hb18]; exact uM_same)⟩)
  · skip
    replace hb18 := bP_nz hb18
    refine R_aload_0 hC dX1_carryOut_21 ?_
    refine R_getR hC dX1_carryOut_22 fl_1_18 (by decide) rfl (by decide) (by decide) (fi := 2) rfl (r := 55) (gr_52_2 hG4) ?_
    refine R_aload_0 hC dX1_carryOut_25 ?_
    refine R_getR hC dX1_carryOut_26 fl_1_9 (by decide) rfl (by decide) (by decide) (fi := 0) rfl (r := 53) (gr_52_0 hG4) ?_
    refine R_callVq (as := []) hC dX1_carryOut_29 mo_5_packed ml_1_86 (by decide) rfl rfl (c5_packed  hG4 ph_53) rfl rfl hRm (by decide) (by decide) (Nat.le_of_ble_eq_true rfl) ?_
    refine R_callVv (as := [vL _]) hC dX1_carryOut_32 mo_8_withdraw ml_1_90 (by decide) rfl rfl (c8_withdraw  hG4 sh_55 hr3 hSP.B) rfl rfl hRm (by decide) (by decide) (Nat.le_of_ble_eq_true rfl) (fun Mc5 hq6 => ?_)
    have hG7 := hq6.2.1
    have hr8 := hq6.2.2
    have hr9 : Mc5 56 = (coP d) := hq6.2.2.trans hw
    have hR32 := hr9
    have q52 : Mc5 52 3 = M 52 3 := (hq6.1 52 3 (by decide) (by decide)).trans (hq2.1 52 3 (by decide) (by decide))
    have q53 : Mc5 53 3 = plC (insOf d) := (hq6.1 53 3 (by decide) (by decide)).trans q3
    have hF5 : Fr [25, 26, 27, 28, 29, 30, 31, 32, 33, 34, 35, 54, 56] [(24, 11), (24, 12), (24, 13), (53, 2), (53, 3), (52, 3)] M Mc5 := Fr.tt (hq2.1.mo (by decide) (by decide)) (hq6.1.mo (by decide) (by decide))
    refine R_aload_0 hC dX1_carryOut_35 ?_
    refine R_getR hC dX1_carryOut_36 fl_1_18 (by decide) rfl (by decide) (by decide) (fi := 2) rfl (r := 55) (gr_52_2 hG7) ?_
    refine R_getR hC dX1_carryOut_39 fl_1_37 (by decide) rfl (by decide) (by decide) (fi := 0) rfl (r := 56) (gr_55_0 hG7) ?_
    refine R_bipush hC dX1_carryOut_42 (by decide +kernel) ⟨by decide, by decide⟩ ?_
    refine R_dup2 hC dX1_carryOut_44 rfl rfl ?_
    refine R_ialoadE hC dX1_carryOut_45 (by decide) rfl (by omega) (by omega) (congrFun hr9 _) ?_
    rw [show coP d 119 = d 119 from if_neg (by decide)]
    refine R_aload_0 hC dX1_carryOut_46 ?_
    refine R_getR hC dX1_carryOut_47 fl_1_9 (by decide) rfl (by decide) (by decide) (fi := 0) rfl (r := 53) (gr_52_0 hG7) ?_
    refine R_getI hC dX1_carryOut_50 fl_1_94 (by decide) rfl (by decide) (by decide) (fi := 3) rfl ?_
    rw [q53]
    refine R_iadd hC dX1_carryOut_53 ⟨by omega, by omega⟩ ?_
    refine R_iastore hC dX1_carryOut_54 (by decide) rfl (by omega) (by omega) ?_
    refine R_aload_0 hC dX1_carryOut_55 ?_
    refine R_dup hC dX1_carryOut_56 rfl ?_
    refine R_getIE hC dX1_carryOut_57 fl_1_30 (by decide) rfl (by decide) (by decide) (fi := 3) rfl (uM_h (by decide)) ?_
    rw [q52]
    refine R_iconst hC dX1_carryOut_60 ⟨by decide, by decide⟩ ?_
    refine R_iadd hC dX1_carryOut_61 ⟨by omega, by omega⟩ ?_
    refine R_putI hC dX1_carryOut_62 fl_1_30 (by decide) rfl (by decide) (by decide) (fi := 3) rfl ?_
    have hG10 : GR (uM (uM Mc5 56 119 (d 119 + (plC (insOf d)))) 52 3 ((M 52 3) + 1)) := (GR.uF (GR.uA hG7 (by decide +kernel) (.inr ⟨by omega, by omega⟩)) (by decide +kernel) (by decide))
    exact R_return hC dX1_carryOut_65 rfl (ret_V ⟨by first | exact Fr.uB (Fr.uA hF5 (by decide)) (by decide) | exact hq2.1.mo (by decide) (by decide), hG10, by
          unfold coR
          first
            | (rw [if_neg hb18]; exact hR)
            | (rw [if_pos hb18, uM_ne (by decide), uM_row, hR32]; all_goals rfl), by
          first
            | (rw [bP_neg hb18]; exact (hq2.1 52 3 (by decide) (by decide)).trans (by omega))
            | (rw [bP_pos hb18]; exact uM_same)⟩)
theorem dX1_run_0 : decode cX1_run 0 = .ok (.aload_n 0, 1) := by decide +kernel
theorem dX1_run_1 : decode cX1_run 1 = .ok (.getfield 18, 3) := by decide +kernel
theorem dX1_run_4 : decode cX1_run 4 = .ok (.aload_n 1, 1) := by decide +kernel
theorem dX1_run_5 : decode cX1_run 5 = .ok (.invokevirtual 22, 3) := by decide +kernel
theorem dX1_run_8 : decode cX1_run 8 = .ok (.aload_n 0, 1) := by decide +kernel
theorem dX1_run_9 : decode cX1_run 9 = .ok (.iload_n 2, 1) := by decide +kernel
theorem dX1_run_10 : decode cX1_run 10 = .ok (.putfield 26, 3) := by decide +kernel
theorem dX1_run_13 : decode cX1_run 13 = .ok (.aload_n 0, 1) := by decide +kernel
theorem dX1_run_14 : decode cX1_run 14 = .ok (.iconst 0, 1) := by decide +kernel
theorem dX1_run_15 : decode cX1_run 15 = .ok (.putfield 30, 3) := by decide +kernel
theorem dX1_run_18 : decode cX1_run 18 = .ok (.iconst 0, 1) := by decide +kernel
theorem dX1_run_19 : decode cX1_run 19 = .ok (.istore 4, 2) := by decide +kernel
theorem dX1_run_21 : decode cX1_run 21 = .ok (.iload 4, 2) := by decide +kernel
theorem dX1_run_23 : decode cX1_run 23 = .ok (.iload_n 3, 1) := by decide +kernel
theorem dX1_run_24 : decode cX1_run 24 = .ok (.if_icmp .ge 92, 3) := by decide +kernel
theorem dX1_run_27 : decode cX1_run 27 = .ok (.aload_n 0, 1) := by decide +kernel
theorem dX1_run_28 : decode cX1_run 28 = .ok (.bipush 6, 2) := by decide +kernel
theorem dX1_run_30 : decode cX1_run 30 = .ok (.invokevirtual 33, 3) := by decide +kernel
theorem dX1_run_33 : decode cX1_run 33 = .ok (.istore 5, 2) := by decide +kernel
theorem dX1_run_35 : decode cX1_run 35 = .ok (.iload 5, 2) := by decide +kernel
theorem dX1_run_37 : decode cX1_run 37 = .ok (.iconst 3, 1) := by decide +kernel
theorem dX1_run_38 : decode cX1_run 38 = .ok (.if_icmp .ne 33, 3) := by decide +kernel
theorem dX1_run_41 : decode cX1_run 41 = .ok (.aload_n 0, 1) := by decide +kernel
theorem dX1_run_42 : decode cX1_run 42 = .ok (.getfield 18, 3) := by decide +kernel
theorem dX1_run_45 : decode cX1_run 45 = .ok (.getfield 37, 3) := by decide +kernel
theorem dX1_run_48 : decode cX1_run 48 = .ok (.bipush 118, 2) := by decide +kernel
theorem dX1_run_50 : decode cX1_run 50 = .ok (.bipush 60, 2) := by decide +kernel
theorem dX1_run_52 : decode cX1_run 52 = .ok (.aload_n 0, 1) := by decide +kernel
theorem dX1_run_53 : decode cX1_run 53 = .ok (.getfield 18, 3) := by decide +kernel
theorem dX1_run_56 : decode cX1_run 56 = .ok (.getfield 37, 3) := by decide +kernel
theorem dX1_run_59 : decode cX1_run 59 = .ok (.bipush 118, 2) := by decide +kernel
theorem dX1_run_61 : decode cX1_run 61 = .ok (.iaload, 1) := by decide +kernel
theorem dX1_run_62 : decode cX1_run 62 = .ok (.iconst 1, 1) := by decide +kernel
theorem dX1_run_63 : decode cX1_run 63 = .ok (.iadd, 1) := by decide +kernel
theorem dX1_run_64 : decode cX1_run 64 = .ok (.invokestatic 41, 3) := by decide +kernel
theorem dX1_run_67 : decode cX1_run 67 = .ok (.iastore, 1) := by decide +kernel
theorem dX1_run_68 : decode cX1_run 68 = .ok (.goto 42, 3) := by decide +kernel
theorem dX1_run_71 : decode cX1_run 71 = .ok (.iload 5, 2) := by decide +kernel
theorem dX1_run_73 : decode cX1_run 73 = .ok (.iconst 5, 1) := by decide +kernel
theorem dX1_run_74 : decode cX1_run 74 = .ok (.if_icmp .ne 10, 3) := by decide +kernel
theorem dX1_run_77 : decode cX1_run 77 = .ok (.aload_n 0, 1) := by decide +kernel
theorem dX1_run_78 : decode cX1_run 78 = .ok (.invokevirtual 47, 3) := by decide +kernel
theorem dX1_run_81 : decode cX1_run 81 = .ok (.goto 29, 3) := by decide +kernel
theorem dX1_run_84 : decode cX1_run 84 = .ok (.aload_n 0, 1) := by decide +kernel
theorem dX1_run_85 : decode cX1_run 85 = .ok (.getfield 18, 3) := by decide +kernel
theorem dX1_run_88 : decode cX1_run 88 = .ok (.invokevirtual 50, 3) := by decide +kernel
theorem dX1_run_91 : decode cX1_run 91 = .ok (.ifCond .le 19, 3) := by decide +kernel
theorem dX1_run_94 : decode cX1_run 94 = .ok (.aload_n 0, 1) := by decide +kernel
theorem dX1_run_95 : decode cX1_run 95 = .ok (.getfield 18, 3) := by decide +kernel
theorem dX1_run_98 : decode cX1_run 98 = .ok (.invokevirtual 54, 3) := by decide +kernel
theorem dX1_run_101 : decode cX1_run 101 = .ok (.ifCond .le 9, 3) := by decide +kernel
theorem dX1_run_104 : decode cX1_run 104 = .ok (.aload_n 0, 1) := by decide +kernel
theorem dX1_run_105 : decode cX1_run 105 = .ok (.iload 5, 2) := by decide +kernel
theorem dX1_run_107 : decode cX1_run 107 = .ok (.invokevirtual 57, 3) := by decide +kernel
theorem dX1_run_110 : decode cX1_run 110 = .ok (.iinc 4 1, 3) := by decide +kernel
theorem dX1_run_113 : decode cX1_run 113 = .ok (.goto (-92), 3) := by decide +kernel
theorem dX1_run_116 : decode cX1_run 116 = .ok (.return_, 1) := by decide +kernel
set_option maxHeartbeats 2000000 in
theorem c1_run {G : Gl} {l : Launch}  {M : Mem} {f n : Int} {d : Int → Int} (hG : GR M) (hD : M 4 = d) (hSP : SP d) (hb : d 119 ≤ 86000) (hn0 : 0 ≤ n) (hn1 : n ≤ 40) : Ct G LY 82 l 5 m1_run [vR 52, vR 3, vI f, vI n] M (RV (fun M' => Fr [25, 26, 27, 28, 29, 30, 31, 32, 33, 34, 35, 54, 56] [(24, 11), (24, 12), (24, 13), (52, 1), (52, 3), (53, 2), (53, 3)] M M' ∧ GR M' ∧ M' 56 = (rnF (d, f, 0) n.toNat).1 ∧ M' 52 3 = (rnF (d, f, 0) n.toNat).2.2)) := by
  refine R_start (by decide +kernel) (Nat.le_of_ble_eq_true rfl) (fun C hC hRm hlau => ?_)
  show RZ G LY C (Zn G LY 82 C (RV (fun M' => Fr [25, 26, 27, 28, 29, 30, 31, 32, 33, 34, 35, 54, 56] [(24, 11), (24, 12), (24, 13), (52, 1), (52, 3), (53, 2), (53, 3)] M M' ∧ GR M' ∧ M' 56 = (rnF (d, f, 0) n.toNat).1 ∧ M' 52 3 = (rnF (d, f, 0) n.toNat).2.2))) 0 0 82 0 [some (vR 52), some (vR 3), some (vI f), some (vI n), none, none] [] M
  refine R_aload_0 hC dX1_run_0 ?_
  refine R_getR hC dX1_run_1 fl_1_18 (by decide) rfl (by decide) (by decide) (fi := 2) rfl (r := 55) (gr_52_2 hG) ?_
  refine R_aload_1 hC dX1_run_4 ?_
  refine R_callVv (as := [vR _]) hC dX1_run_5 mo_8_copyFrom ml_1_22 (by decide) rfl rfl (c8_copyFrom  hG sh_55 sh_3 hD) rfl rfl hRm (by decide) (by decide) (Nat.le_of_ble_eq_true rfl) (fun Mc1 hq2 => ?_)
  have hG3 := hq2.2.1
  have hr4 := hq2.2.2
  refine R_aload_0 hC dX1_run_8 ?_
  refine R_iload_2 hC dX1_run_9 ?_
  refine R_putI hC dX1_run_10 fl_1_26 (by decide) rfl (by decide) (by decide) (fi := 1) rfl ?_
  refine R_aload_0 hC dX1_run_13 ?_
  refine R_iconst hC dX1_run_14 ⟨by decide, by decide⟩ ?_
  refine R_putI hC dX1_run_15 fl_1_30 (by decide) rfl (by decide) (by decide) (fi := 3) rfl ?_
  refine R_iconst hC dX1_run_18 ⟨by decide, by decide⟩ ?_
  refine R_istore_4 hC dX1_run_19 rfl ?_
  have L21 : ∀ (mq : Nat) (i : Int) (e : Int → Int) (s : Int) (p : Int) (M1 : Mem), (0 ≤ i) → (i ≤ n) → (GR M1) → (M1 56 = e) → (Fr [25, 26, 27, 28, 29, 30, 31, 32, 33, 34, 35, 54, 56] [(24, 11), (24, 12), (24, 13), (52, 1), (52, 3), (53, 2), (53, 3)] M M1) → (M1 52 1 = s) → (M1 52 3 = p) → ((e, s, p) = rnF (d, f, 0) i.toNat) → (SP e) → (e 119 ≤ d 119 + 90 * i) → (0 ≤ p) → (p ≤ i) → (n - i).toNat < mq → RZ G LY C (Zn G LY 82 C (RV (fun M' => Fr [25, 26, 27, 28, 29, 30, 31, 32, 33, 34, 35, 54, 56] [(24, 11), (24, 12), (24, 13), (52, 1), (52, 3), (53, 2), (53, 3)] M M' ∧ GR M' ∧ M' 56 = (rnF (d, f, 0) n.toNat).1 ∧ M' 52 3 = (rnF (d, f, 0) n.toNat).2.2))) 0 0 82 21 [some (vR 52), some (vR 3), some (vI f), some (vI n), some (vI i), none] [] M1 := by
    intro mq
    induction mq with
    | zero =>
      intro i e s p M1 hi0 hi1 hg gr5 hF hs hp hE hSe hbe hp0 hp1 hm
      exact absurd hm (Nat.not_lt_zero _)
    | succ mq ih21 =>
      intro i e s p M1 hi0 hi1 hg gr5 hF hs hp hE hSe hbe hp0 hp1 hm21
      have hok := rnS_ok (s := s) (p := p) hSe (by omega)
      have hye := hSe.2.2.2.2.1.1
      have hLe := hSe.1.1
      have hWe := hSe.1.2
      refine R_iload_4 hC dX1_run_21 ?_
      refine R_iload_3 hC dX1_run_23 ?_
      refine R_icmp_ge hC dX1_run_24 (tgt := 116) (by decide) (fun hb24 => ?_) (fun hb24 => ?_)
      · skip
        exact R_return hC dX1_run_116 rfl (ret_V ⟨hF, hg, by rw [show n = i by omega, ← hE]; exact gr5, by rw [show n = i by omega, ← hE]; exact hp⟩)
      · skip
        refine R_aload_0 hC dX1_run_27 ?_
        refine R_bipush hC dX1_run_28 (by decide +kernel) ⟨by decide, by decide⟩ ?_
        refine R_callVp (as := [vI _]) hC dX1_run_30 mo_1_draw ml_1_33 (by decide) rfl rfl (c1_draw  hg) rfl rfl hRm (by decide) (by decide) (Nat.le_of_ble_eq_true rfl) (fun v7 Mc5 hq6 => ?_)
        have ek := hq6.2.1
        rw [hs] at ek
        have es := hq6.2.2
        rw [hs] at es
        have bk := drV_bd (s := s) (m := 6) (by decide)
        rw [← ek] at bk
        have hr8 : Mc5 56 = e := ((hq6.1.row (by decide) (by decide)).trans gr5)
        have hRb := hr8
        have hFb : Fr [25, 26, 27, 28, 29, 30, 31, 32, 33, 34, 35, 54, 56] [(24, 11), (24, 12), (24, 13), (52, 1), (52, 3), (53, 2), (53, 3)] M Mc5 := Fr.tt hF (hq6.1.mo (by decide) (by decide))
        have hpb : Mc5 52 3 = p := (hq6.1 52 3 (by decide) (by decide)).trans hp
        refine R_istore_5 hC dX1_run_33 rfl ?_
        refine R_iload_5 hC dX1_run_35 ?_
        refine R_iconst hC dX1_run_37 ⟨by decide, by decide⟩ ?_
        have L110 : ∀  (M2 : Mem), (GR M2) → (Fr [25, 26, 27, 28, 29, 30, 31, 32, 33, 34, 35, 54, 56] [(24, 11), (24, 12), (24, 13), (52, 1), (52, 3), (53, 2), (53, 3)] M M2) → (M2 56 = (rnS (e, s, p)).1) → (M2 52 1 = (rnS (e, s, p)).2.1) → (M2 52 3 = (rnS (e, s, p)).2.2) → RZ G LY C (Zn G LY 82 C (RV (fun M' => Fr [25, 26, 27, 28, 29, 30, 31, 32, 33, 34, 35, 54, 56] [(24, 11), (24, 12), (24, 13), (52, 1), (52, 3), (53, 2), (53, 3)] M M' ∧ GR M' ∧ M' 56 = (rnF (d, f, 0) n.toNat).1 ∧ M' 52 3 = (rnF (d, f, 0) n.toNat).2.2))) 0 0 82 110 [some (vR 52), some (vR 3), some (vI f), some (vI n), some (vI i), some (vI v7)] [] M2 := by
          intro M2 hg2 hF2 gr52 hs2 hp2
          refine R_iinc_4 hC dX1_run_110 rfl ⟨by omega, by omega⟩ ?_
          refine R_goto hC dX1_run_113 (tgt := 21) (by decide) ?_
          refine R_weak (subL_c (subL_c (subL_c (subL_c (subL_c (subL_d subL_n)))))) ?_
          exact ih21 _ ((rnS (e, s, p)).1) ((rnS (e, s, p)).2.1) ((rnS (e, s, p)).2.2) _ (by omega) (by omega) hg2 gr52 hF2 hs2 hp2 (by (rw [rnF_s hi0 rfl, ← hE])) hok.1 (by omega) (by omega) (by omega) (by omega)
        refine R_icmp_ne hC dX1_run_38 (tgt := 71) (by decide) (fun hb38 => ?_) (fun hb38 => ?_)
        · skip
          refine R_iload_5 hC dX1_run_71 ?_
          refine R_iconst hC dX1_run_73 ⟨by decide, by decide⟩ ?_
          refine R_icmp_ne hC dX1_run_74 (tgt := 84) (by decide) (fun hb74 => ?_) (fun hb74 => ?_)
          · skip
            refine R_aload_0 hC dX1_run_84 ?_
            have hG9 : GR Mc5 := (GR.fr hg hq6.1 (by decide +kernel))
            refine R_getR hC dX1_run_85 fl_1_18 (by decide) rfl (by decide) (by decide) (fi := 2) rfl (r := 55) (gr_52_2 hG9) ?_
            refine R_callVq (as := []) hC dX1_run_88 mo_8_libraries ml_1_50 (by decide) rfl rfl (c8_libraries_d  hr8 hG9 sh_55) rfl rfl hRm (by decide) (by decide) (Nat.le_of_ble_eq_true rfl) ?_
            refine R_if_le hC dX1_run_91 (tgt := 110) (by decide) (fun hb91 => ?_) (fun hb91 => ?_)
            · skip
              have hkn := rnS_n (e := e) (p := p) (fun z => hb38 (ek.trans z)) (fun z => hb74 (ek.trans z)) (by omega)
              have zF := hFb
              have zr : Mc5 56 = (rnS (e, s, p)).1 := by
                rw [hkn]
                exact hRb
              have zs : Mc5 52 1 = (rnS (e, s, p)).2.1 := by
                rw [hkn]
                exact es
              have zp : Mc5 52 3 = (rnS (e, s, p)).2.2 := by
                rw [hkn]
                exact hpb
              exact L110 _ hG9 zF zr zs zp
            · skip
              refine R_aload_0 hC dX1_run_94 ?_
              refine R_getR hC dX1_run_95 fl_1_18 (by decide) rfl (by decide) (by decide) (fi := 2) rfl (r := 55) (gr_52_2 hG9) ?_
              refine R_callVq (as := []) hC dX1_run_98 mo_8_works ml_1_54 (by decide) rfl rfl (c8_works_d  hr8 hG9 sh_55) rfl rfl hRm (by decide) (by decide) (Nat.le_of_ble_eq_true rfl) ?_
              refine R_if_le hC dX1_run_101 (tgt := 110) (by decide) (fun hb101 => ?_) (fun hb101 => ?_)
              · skip
                have hkn := rnS_n (e := e) (p := p) (fun z => hb38 (ek.trans z)) (fun z => hb74 (ek.trans z)) (by omega)
                have zF := hFb
                have zr : Mc5 56 = (rnS (e, s, p)).1 := by
                  rw [hkn]
                  exact hRb
                have zs : Mc5 52 1 = (rnS (e, s, p)).2.1 := by
                  rw [hkn]
                  exact es
                have zp : Mc5 52 3 = (rnS (e, s, p)).2.2 := by
                  rw [hkn]
                  exact hpb
                exact L110 _ hG9 zF zr zs zp
              · skip
                refine R_aload_0 hC dX1_run_104 ?_
                refine R_iload_5 hC dX1_run_105 ?_
                refine R_callVv (as := [vI _]) hC dX1_run_107 mo_1_moveCopy ml_1_57 (by decide) rfl rfl (c1_moveCopy  hG9 hr8 hSe.B (by omega) (by omega)) rfl rfl hRm (by decide) (by decide) (Nat.le_of_ble_eq_true rfl) (fun Mc10 hq11 => ?_)
                have hG12 := hq11.2.1
                have hkm := rnS_m (e := e) (p := p) (fun z => hb38 (ek.trans z)) (fun z => hb74 (ek.trans z)) ⟨hb91, hb101⟩
                rw [← ek] at hkm
                have zF := Fr.tt hFb (hq11.1.mo (by decide) (by decide))
                have zr : Mc10 56 = (rnS (e, s, p)).1 := by
                  rw [hkm]
                  exact hq11.2.2.1.trans (by rw [es])
                have zs : Mc10 52 1 = (rnS (e, s, p)).2.1 := by
                  rw [hkm]
                  exact hq11.2.2.2.trans (by rw [es])
                have zp : Mc10 52 3 = (rnS (e, s, p)).2.2 := by
                  rw [hkm]
                  exact (hq11.1 52 3 (by decide) (by decide)).trans hpb
                exact L110 _ hG12 zF zr zs zp
          · skip
            refine R_aload_0 hC dX1_run_77 ?_
            have hG13 : GR Mc5 := (GR.fr hg hq6.1 (by decide +kernel))
            refine R_callVv (as := []) hC dX1_run_78 mo_1_carryOut ml_1_47 (by decide) rfl rfl (c1_carryOut  hG13 hr8 hSe (by omega) (by omega) (by omega)) rfl rfl hRm (by decide) (by decide) (Nat.le_of_ble_eq_true rfl) (fun Mc14 hq15 => ?_)
            have hG16 := hq15.2.1
            have hk5 := rnS_5 (e := e) (p := p) (ek.symm.trans hb74)
            have zF := Fr.tt hFb (hq15.1.mo (by decide) (by decide))
            have zr : Mc14 56 = (rnS (e, s, p)).1 := by
              rw [hk5]
              exact hq15.2.2.1
            have zs : Mc14 52 1 = (rnS (e, s, p)).2.1 := by
              rw [hk5]
              exact (hq15.1 52 1 (by decide) (by decide)).trans es
            have zp : Mc14 52 3 = (rnS (e, s, p)).2.2 := by
              rw [hk5]
              exact hq15.2.2.2.trans (by rw [hpb])
            refine R_goto hC dX1_run_81 (tgt := 110) (by decide) ?_
            exact L110 _ hG16 zF zr zs zp
        · skip
          refine R_aload_0 hC dX1_run_41 ?_
          have hG17 : GR Mc5 := (GR.fr hg hq6.1 (by decide +kernel))
          refine R_getR hC dX1_run_42 fl_1_18 (by decide) rfl (by decide) (by decide) (fi := 2) rfl (r := 55) (gr_52_2 hG17) ?_
          refine R_getR hC dX1_run_45 fl_1_37 (by decide) rfl (by decide) (by decide) (fi := 0) rfl (r := 56) (gr_55_0 hG17) ?_
          refine R_bipush hC dX1_run_48 (by decide +kernel) ⟨by decide, by decide⟩ ?_
          refine R_bipush hC dX1_run_50 (by decide +kernel) ⟨by decide, by decide⟩ ?_
          refine R_aload_0 hC dX1_run_52 ?_
          refine R_getR hC dX1_run_53 fl_1_18 (by decide) rfl (by decide) (by decide) (fi := 2) rfl (r := 55) (gr_52_2 hG17) ?_
          refine R_getR hC dX1_run_56 fl_1_37 (by decide) rfl (by decide) (by decide) (fi := 0) rfl (r := 56) (gr_55_0 hG17) ?_
          refine R_bipush hC dX1_run_59 (by decide +kernel) ⟨by decide, by decide⟩ ?_
          refine R_ialoadE hC dX1_run_61 (by decide) rfl (by omega) (by omega) (congrFun hr8 _) ?_
          refine R_iconst hC dX1_run_62 ⟨by decide, by decide⟩ ?_
          refine R_iadd hC dX1_run_63 ⟨by omega, by omega⟩ ?_
          refine R_min hC dX1_run_64 jl_1_41 hRm (by decide) (Nat.le_of_ble_eq_true rfl) ?_
          refine R_iastore hC dX1_run_67 (by decide) rfl (by omega) (by omega) ?_
          have hk3 := rnS_3 (e := e) (p := p) (ek.symm.trans hb38)
          have zF := Fr.uA (k := 118) (x := min 60 (e 118 + 1)) hFb (show 56 ∈ [25, 26, 27, 28, 29, 30, 31, 32, 33, 34, 35, 54, 56] by decide)
          have zr : (uM Mc5 56 118 (min 60 ((e 118) + 1))) 56 = (rnS (e, s, p)).1 := by
            rw [hk3, uM_row, hRb]
            all_goals rfl
          have zs : (uM Mc5 56 118 (min 60 ((e 118) + 1))) 52 1 = (rnS (e, s, p)).2.1 := by
            rw [hk3]
            exact (uM_h (by decide)).trans es
          have zp : (uM Mc5 56 118 (min 60 ((e 118) + 1))) 52 3 = (rnS (e, s, p)).2.2 := by
            rw [hk3]
            exact (uM_h (by decide)).trans hpb
          refine R_goto hC dX1_run_68 (tgt := 110) (by decide) ?_
          have hG18 : GR (uM Mc5 56 118 (min 60 ((e 118) + 1))) := (GR.uA hG17 (by decide +kernel) (.inr ⟨by omega, by omega⟩))
          exact L110 _ hG18 zF zr zs zp
  have hG19 : GR (uM (uM Mc1 52 1 f) 52 3 0) := (GR.uF (GR.uF hG3 (by decide +kernel) (by decide)) (by decide +kernel) (by decide))
  exact L21 _ _ d f 0 _ (by omega) (by omega) hG19 ((uM_ne (by decide)).trans ((uM_ne (by decide)).trans hq2.2.2)) (Fr.uB (Fr.uB (hq2.1.mo (by decide) (by decide)) (by decide)) (by decide)) ((uM_k (by decide)).trans uM_same) uM_same rfl hSP (by omega) (by omega) (by omega) (Nat.lt_succ_self _)
