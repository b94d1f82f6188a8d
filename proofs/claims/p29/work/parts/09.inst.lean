/-! instances: bounds, lacks, one row made anew -/
def canw (I : Ins) (w t : Int) : Int := min (ss (fun x => iO I x w) t) (iS I w)
def canI (I : Ins) (t : Int) : Int := sm (iW I).toNat (fun w => canw I w t)
def lackI (I : Ins) (t : Int) : Int := ss (iN I) t - canI I t
def planI (I : Ins) : Prop := ∀ t, 0 ≤ t → t < 2 ^ (iL I).toNat → lackI I t ≤ 0
theorem IB.ssO {I : Ins} (h : IB I) {w t : Int} (w0 : 0 ≤ w) (w1 : w < iW I) (t0 : 0 ≤ t) (t1 : t < 2 ^ (iL I).toNat) : 0 ≤ ss (fun x => iO I x w) t ∧ ss (fun x => iO I x w) t ≤ 15 :=
  ss_bd h.1.1 h.1.2 t0 t1 (fun x a b => h.2.2.1 x w a b w0 w1) (by decide)
theorem IB.ssN {I : Ins} (h : IB I) {t : Int} (t0 : 0 ≤ t) (t1 : t < 2 ^ (iL I).toNat) : 0 ≤ ss (iN I) t ∧ ss (iN I) t ≤ 500 :=
  ss_bd (f := iN I) (b := 100) h.1.1 h.1.2 t0 t1 (fun x a b => by have := h.2.2.2.2 x a b; omega) (by decide)
theorem IB.ssM {I : Ins} (h : IB I) {t : Int} (t0 : 0 ≤ t) (t1 : t < 2 ^ (iL I).toNat) : 0 ≤ ss (iM I) t ∧ ss (iM I) t ≤ 500 :=
  ss_bd (f := iM I) (b := 100) h.1.1 h.1.2 t0 t1 (fun x a b => by have := h.2.2.2.2 x a b; omega) (by decide)
theorem IB.cw {I : Ins} (h : IB I) {w t : Int} (w0 : 0 ≤ w) (w1 : w < iW I) (t0 : 0 ≤ t) (t1 : t < 2 ^ (iL I).toNat) : 0 ≤ canw I w t ∧ canw I w t ≤ 15 := by
  have h1 := h.ssO w0 w1 t0 t1
  have h2 := h.2.2.2.1 w w0 w1
  unfold canw
  omega
theorem IB.cI {I : Ins} (h : IB I) {t : Int} (t0 : 0 ≤ t) (t1 : t < 2 ^ (iL I).toNat) : 0 ≤ canI I t ∧ canI I t ≤ 90 :=
  sm_bd2 (q := 6) 15 h.2.1.1 (fun k a b => h.cw a b t0 t1) (by decide) h.2.1.2
theorem IB.lk {I : Ins} (h : IB I) {t : Int} (t0 : 0 ≤ t) (t1 : t < 2 ^ (iL I).toNat) : -90 ≤ lackI I t ∧ lackI I t ≤ 500 := by
  have h1 := h.cI t0 t1
  have h2 := h.ssN t0 t1
  unfold lackI
  omega
theorem IB.pw {I : Ins} (h : IB I) : (1 : Int) ≤ 2 ^ (iL I).toNat ∧ (2 : Int) ^ (iL I).toNat ≤ 32 := pw_le6 h.1.1 h.1.2
theorem IB.lk0 {I : Ins} (h : IB I) : lackI I 0 ≤ 0 := by
  have h1 := h.cI (t := 0) (by decide) (by have := h.pw; omega)
  unfold lackI
  rw [ss_0]
  omega
/-- the Scales hold an instance, but for the sums of work w -/
def SCw (M : Mem) (I : Ins) (w : Int) : Prop := (M 24 11 = iL I ∧ M 24 12 = iW I ∧ M 24 13 = 2 ^ (iL I).toNat) ∧
  (∀ x, 0 ≤ x → x < iL I → M 27 x = iN I x ∧ M 28 x = iM I x) ∧ (∀ x w, 0 ≤ x → x < iL I → 0 ≤ w → w < iW I → M 25 (x * 6 + w) = iO I x w) ∧ (∀ w, 0 ≤ w → w < iW I → M 26 w = iS I w ∧ M 29 w = iZ I w) ∧
  (∀ t, 0 ≤ t → t < 2 ^ (iL I).toNat → M 33 t = ss (iN I) t ∧ M 34 t = ss (iM I) t) ∧
  (∀ v, 0 ≤ v → v < iW I → v ≠ w → ∀ t, 0 ≤ t → t < 2 ^ (iL I).toNat → M 31 (v * 32 + t) = ss (fun x => iO I x v) t ∧ M 32 (v * 32 + t) = min (ss (fun x => iO I x v) t) (iS I v)) ∧ RK (iW I) (iZ I) (M 30)
theorem SC.w {M : Mem} {I : Ins} (h : SC M I) (w : Int) : SCw M I w := ⟨h.1, h.2.1, h.2.2.1, h.2.2.2.1, h.2.2.2.2.1, fun v v0 v1 _ => h.2.2.2.2.2.1 v v0 v1, h.2.2.2.2.2.2⟩
theorem SC_row {M M2 : Mem} {I I' : Ins} {w : Int} (hI : SCw M I w) (hL : iL I ≤ 5) (hF : Fr [25, 26, 31, 32] [] M M2) (e1 : I'.1 = I.1) (eN : iN I' = iN I) (eM : iM I' = iM I) (eZ : iZ I' = iZ I)
    (h25 : ∀ x v, 0 ≤ x → x < iL I → 0 ≤ v → v < iW I → M2 25 (x * 6 + v) = iO I' x v) (h26 : ∀ v, 0 ≤ v → v < iW I → M2 26 v = iS I' v)
    (hrow : ∀ t, 0 ≤ t → t < 2 ^ (iL I).toNat → M2 31 (w * 32 + t) = ss (fun x => iO I' x w) t ∧ M2 32 (w * 32 + t) = min (ss (fun x => iO I' x w) t) (iS I' w))
    (hoth : ∀ k, k < w * 32 ∨ w * 32 + 32 ≤ k → M2 31 k = M 31 k ∧ M2 32 k = M 32 k) (hsame : ∀ v, v ≠ w → iS I' v = iS I v ∧ ∀ x, iO I' x v = iO I x v) : SC M2 I' := by
  obtain ⟨⟨a1, a2, a3⟩, b, c, d, e, f, g⟩ := hI
  have eL : iL I' = iL I := congrArg Prod.fst e1
  have eW : iW I' = iW I := congrArg Prod.snd e1
  have z : ∀ h : Nat, h ∉ [25, 26, 31, 32] → ∀ k, M2 h k = M h k := fun h hh k => hF.at hh
  unfold SC
  rw [eL, eW, eN, eM, eZ]
  refine ⟨⟨(z 24 (by decide) _).trans a1, (z 24 (by decide) _).trans a2, (z 24 (by decide) _).trans a3⟩, fun x x0 x1 => ?_, h25, fun v v0 v1 => ⟨h26 v v0 v1, (z 29 (by decide) _).trans (d v v0 v1).2⟩, fun t t0 t1 => ?_, fun v v0 v1 t t0 t1 => ?_, ?_⟩
  · rw [z 27 (by decide), z 28 (by decide)]
    exact b x x0 x1
  · rw [z 33 (by decide), z 34 (by decide)]
    exact e t t0 t1
  · by_cases q : v = w
    · subst q
      exact hrow t t0 t1
    · have hp : (2 : Int) ^ (iL I).toNat ≤ 32 := by
        by_cases hh : 0 ≤ iL I
        · exact (pw_le6 hh hL).2
        · rw [show (iL I).toNat = 0 by omega]; decide
      have h1 := hoth (v * 32 + t) (by omega)
      rw [h1.1, h1.2, (hsame v q).1]
      have h2 := f v v0 v1 q t t0 t1
      have h3 : (fun x => iO I' x v) = (fun x => iO I x v) := funext (fun x => (hsame v q).2 x)
      rw [h3]
      exact h2
  · rw [show M2 30 = M 30 from funext (fun k => z 30 (by decide) k)]
    exact g
theorem SC_need {M M2 : Mem} {I I' : Ins} (hI : SC M I) (hF : Fr [27, 28, 33, 34] [] M M2) (e1 : I'.1 = I.1) (eO : iO I' = iO I) (eS : iS I' = iS I) (eZ : iZ I' = iZ I)
    (h27 : ∀ x, 0 ≤ x → x < iL I → M2 27 x = iN I' x ∧ M2 28 x = iM I' x) (hs : ∀ t, 0 ≤ t → t < 2 ^ (iL I).toNat → M2 33 t = ss (iN I') t ∧ M2 34 t = ss (iM I') t) : SC M2 I' := by
  obtain ⟨⟨a1, a2, a3⟩, b, c, d, e, f, g⟩ := hI
  have eL : iL I' = iL I := congrArg Prod.fst e1
  have eW : iW I' = iW I := congrArg Prod.snd e1
  have z : ∀ h : Nat, h ∉ [27, 28, 33, 34] → ∀ k, M2 h k = M h k := fun h hh k => hF.at hh
  unfold SC
  rw [eL, eW, eO, eS, eZ]
  refine ⟨⟨(z 24 (by decide) _).trans a1, (z 24 (by decide) _).trans a2, (z 24 (by decide) _).trans a3⟩, h27, fun x v x0 x1 v0 v1 => (z 25 (by decide) _).trans (c x v x0 x1 v0 v1), fun v v0 v1 => ⟨(z 26 (by decide) _).trans (d v v0 v1).1, (z 29 (by decide) _).trans (d v v0 v1).2⟩, hs, fun v v0 v1 t t0 t1 => ?_, ?_⟩
  · rw [z 31 (by decide), z 32 (by decide)]
    exact f v v0 v1 t t0 t1
  · rw [show M2 30 = M 30 from funext (fun k => z 30 (by decide) k)]
    exact g
theorem up_same {f : Int → Int} {k v : Int} : up f k v k = v := if_pos rfl
theorem up_ne {f : Int → Int} {k v j : Int} (h : j ≠ k) : up f k v j = f j := if_neg h
/-- an instance that the Scales hold stays where they aren't touched -/
theorem SC.fr {M M2 : Mem} {I : Ins} (hI : SC M I) {A : List Nat} {B : List (Nat × Int)} (hF : Fr A B M M2) (hA : ∀ h ∈ A, h < 24 ∨ 34 < h) (hB : ∀ q ∈ B, q.1 < 24 ∨ 34 < q.1) : SC M2 I := by
  have z : ∀ h : Nat, 24 ≤ h → h ≤ 34 → M2 h = M h := fun h h0 h1 => hF.row (fun e => by have := hA h e; omega) (fun q e e2 => by have := hB q e; omega)
  unfold SC
  rw [z 24 (by decide) (by decide), z 25 (by decide) (by decide), z 26 (by decide) (by decide), z 27 (by decide) (by decide), z 28 (by decide) (by decide), z 29 (by decide) (by decide), z 30 (by decide) (by decide), z 31 (by decide) (by decide), z 32 (by decide) (by decide), z 33 (by decide) (by decide), z 34 (by decide) (by decide)]
  exact hI
theorem SC.u {M : Mem} {I : Ins} (hI : SC M I) {h : Nat} {k v : Int} (hh : h < 24 ∨ 34 < h) : SC (uM M h k v) I :=
  SC.fr hI (A := [h]) (B := []) (Fr.uA Fr.rf (List.mem_singleton.mpr rfl)) (fun q hq => by rw [List.mem_singleton.mp hq]; exact hh) (fun q hq => absurd hq List.not_mem_nil)
theorem SH.sc {h c : Nat} (s : SH h c) : c < 24 ∨ 34 < c := by rcases s with ⟨rfl, rfl⟩ | ⟨rfl, rfl⟩ | ⟨rfl, rfl⟩ | ⟨rfl, rfl⟩ | ⟨rfl, rfl⟩ | ⟨rfl, rfl⟩ <;> decide

theorem dX6_setSpare_0 : decode cX6_setSpare 0 = .ok (.aload_n 0, 1) := by decide +kernel
theorem dX6_setSpare_1 : decode cX6_setSpare 1 = .ok (.getfield 15, 3) := by decide +kernel
theorem dX6_setSpare_4 : decode cX6_setSpare 4 = .ok (.iload_n 1, 1) := by decide +kernel
theorem dX6_setSpare_5 : decode cX6_setSpare 5 = .ok (.iconst 0, 1) := by decide +kernel
theorem dX6_setSpare_6 : decode cX6_setSpare 6 = .ok (.iload_n 2, 1) := by decide +kernel
theorem dX6_setSpare_7 : decode cX6_setSpare 7 = .ok (.invokestatic 75, 3) := by decide +kernel
theorem dX6_setSpare_10 : decode cX6_setSpare 10 = .ok (.iastore, 1) := by decide +kernel
theorem dX6_setSpare_11 : decode cX6_setSpare 11 = .ok (.aload_n 0, 1) := by decide +kernel
theorem dX6_setSpare_12 : decode cX6_setSpare 12 = .ok (.iload_n 1, 1) := by decide +kernel
theorem dX6_setSpare_13 : decode cX6_setSpare 13 = .ok (.invokevirtual 90, 3) := by decide +kernel
theorem dX6_setSpare_16 : decode cX6_setSpare 16 = .ok (.return_, 1) := by decide +kernel
set_option maxHeartbeats 400000 in
theorem c6_setSpare {G : Gl} {l : Launch}  {M : Mem} {I : Ins} {w k : Int} (hG : GR M) (hI : SCw M I w) (hIb : IB I) (hw0 : 0 ≤ w) (hw1 : w < iW I) (hk1 : k ≤ 1000) : Ct G LY 57 l 1 m6_setSpare [vR 24, vI w, vI k] M (RV (fun M' => Fr [26, 31, 32] [] M M' ∧ SC M' (setS I w (max 0 k)))) := by
  refine R_start (by decide +kernel) (Nat.le_of_ble_eq_true rfl) (fun C hC hRm hlau => ?_)
  show RZ G LY C (Zn G LY 57 C (RV (fun M' => Fr [26, 31, 32] [] M M' ∧ SC M' (setS I w (max 0 k))))) 0 0 57 0 [some (vR 24), some (vI w), some (vI k)] [] M
  have hLb := hIb.1
  have hWb := hIb.2.1
  have h11 := hI.1.1
  have h12 := hI.1.2.1
  have h13 := hI.1.2.2
  have hpw := hIb.pw
  refine R_aload_0 hC dX6_setSpare_0 ?_
  refine R_getR hC dX6_setSpare_1 fl_6_15 (by decide) rfl (by decide) (by decide) (fi := 1) rfl (r := 26) (gr_24_1 hG) ?_
  refine R_iload_1 hC dX6_setSpare_4 ?_
  refine R_iconst hC dX6_setSpare_5 ⟨by decide, by decide⟩ ?_
  refine R_iload_2 hC dX6_setSpare_6 ?_
  refine R_max hC dX6_setSpare_7 jl_6_75 hRm (by decide) (Nat.le_of_ble_eq_true rfl) ?_
  refine R_iastore hC dX6_setSpare_10 (by decide) rfl (by omega) (by omega) ?_
  refine R_aload_0 hC dX6_setSpare_11 ?_
  refine R_iload_1 hC dX6_setSpare_12 ?_
  have hG1 : GR (uM M 26 w (max 0 k)) := (GR.uA hG (by decide +kernel) (.inl (by decide)))
  refine R_callVv (as := [vI _]) hC dX6_setSpare_13 mo_6_sumOffers ml_6_90 (by decide) rfl rfl (c6_sumOffers  hG1 (by rw [uM_h (by decide), h11]; exact hLb) (fun x a b => by (rw [uM_h (by decide), h11] at b; rw [uM_h (by decide), hI.2.2.1 x w a b hw0 hw1]; have := hIb.2.2.1 x w a b hw0 hw1; omega)) (by rw [uM_same]; omega) (by omega) (by omega)) rfl rfl hRm (by decide) (by decide) (Nat.le_of_ble_eq_true rfl) (fun Mc2 hq3 => ?_)
  exact R_return hC dX6_setSpare_16 rfl (ret_V ⟨Fr.tr (Fr.uA (A := [26]) (B := []) Fr.rf (by decide)) hq3.1 (by decide) (by decide) (by decide) (by decide), SC_row hI hLb.2 (Fr.tr (Fr.uA (A := [26]) (B := []) Fr.rf (by decide)) hq3.1 (by decide) (by decide) (by decide) (by decide)) rfl rfl rfl rfl
        (fun x v x0 x1 v0 v1 => by rw [hq3.1.at (by decide), uM_h (by decide)]; exact hI.2.2.1 x v x0 x1 v0 v1)
        (fun v v0 v1 => by
          rw [hq3.1.at (by decide)]
          show _ = up (iS I) w (max 0 k) v
          by_cases q : v = w
          · rw [q, uM_same, up_same]
          · rw [uM_k q, up_ne q]; exact (hI.2.2.2.1 v v0 v1).1)
        (fun t t0 t1 => by
          have z := hq3.2.1 t t0 (by rw [uM_h (by decide), h11]; exact t1)
          have zc : ss (fun x => (uM M 26 w (max 0 k)) 25 (x * 6 + w)) t = ss (fun x => iO I x w) t := ss_congr hLb.1 hLb.2 t0 t1 (fun x x0 x1 => by rw [uM_h (by decide)]; exact hI.2.2.1 x w x0 x1 hw0 hw1)
          rw [zc, uM_same] at z
          show _ = _ ∧ _ = min _ (up (iS I) w (max 0 k) w)
          rw [up_same]
          exact z)
        (fun k hk => by have z := hq3.2.2 k hk; rw [uM_h (by decide), uM_h (by decide)] at z; exact z)
        (fun v hv => ⟨up_ne hv, fun _ => rfl⟩)⟩)
theorem dX6_setOffer_0 : decode cX6_setOffer 0 = .ok (.aload_n 0, 1) := by decide +kernel
theorem dX6_setOffer_1 : decode cX6_setOffer 1 = .ok (.getfield 9, 3) := by decide +kernel
theorem dX6_setOffer_4 : decode cX6_setOffer 4 = .ok (.iload_n 1, 1) := by decide +kernel
theorem dX6_setOffer_5 : decode cX6_setOffer 5 = .ok (.bipush 6, 2) := by decide +kernel
theorem dX6_setOffer_7 : decode cX6_setOffer 7 = .ok (.imul, 1) := by decide +kernel
theorem dX6_setOffer_8 : decode cX6_setOffer 8 = .ok (.iload_n 2, 1) := by decide +kernel
theorem dX6_setOffer_9 : decode cX6_setOffer 9 = .ok (.iadd, 1) := by decide +kernel
theorem dX6_setOffer_10 : decode cX6_setOffer 10 = .ok (.iload_n 3, 1) := by decide +kernel
theorem dX6_setOffer_11 : decode cX6_setOffer 11 = .ok (.iastore, 1) := by decide +kernel
theorem dX6_setOffer_12 : decode cX6_setOffer 12 = .ok (.aload_n 0, 1) := by decide +kernel
theorem dX6_setOffer_13 : decode cX6_setOffer 13 = .ok (.iload_n 2, 1) := by decide +kernel
theorem dX6_setOffer_14 : decode cX6_setOffer 14 = .ok (.invokevirtual 90, 3) := by decide +kernel
theorem dX6_setOffer_17 : decode cX6_setOffer 17 = .ok (.return_, 1) := by decide +kernel
set_option maxHeartbeats 400000 in
theorem c6_setOffer {G : Gl} {l : Launch}  {M : Mem} {I : Ins} {x w k : Int} (hG : GR M) (hI : SC M I) (hIb : IB I) (hx0 : 0 ≤ x) (hx1 : x < iL I) (hw0 : 0 ≤ w) (hw1 : w < iW I) (hk0 : 0 ≤ k) (hk1 : k ≤ 3) : Ct G LY 57 l 1 m6_setOffer [vR 24, vI x, vI w, vI k] M (RV (fun M' => Fr [25, 31, 32] [] M M' ∧ SC M' (setO I x w k))) := by
  refine R_start (by decide +kernel) (Nat.le_of_ble_eq_true rfl) (fun C hC hRm hlau => ?_)
  show RZ G LY C (Zn G LY 57 C (RV (fun M' => Fr [25, 31, 32] [] M M' ∧ SC M' (setO I x w k)))) 0 0 57 0 [some (vR 24), some (vI x), some (vI w), some (vI k)] [] M
  have hLb := hIb.1
  have hWb := hIb.2.1
  have h11 := hI.1.1
  have h12 := hI.1.2.1
  have h13 := hI.1.2.2
  have hpw := hIb.pw
  refine R_aload_0 hC dX6_setOffer_0 ?_
  refine R_getR hC dX6_setOffer_1 fl_6_9 (by decide) rfl (by decide) (by decide) (fi := 0) rfl (r := 25) (gr_24_0 hG) ?_
  refine R_iload_1 hC dX6_setOffer_4 ?_
  refine R_bipush hC dX6_setOffer_5 (by decide +kernel) ⟨by decide, by decide⟩ ?_
  refine R_imul hC dX6_setOffer_7 ⟨by omega, by omega⟩ ?_
  refine R_iload_2 hC dX6_setOffer_8 ?_
  refine R_iadd hC dX6_setOffer_9 ⟨by omega, by omega⟩ ?_
  refine R_iload_3 hC dX6_setOffer_10 ?_
  refine R_iastore hC dX6_setOffer_11 (by decide) rfl (by omega) (by omega) ?_
  refine R_aload_0 hC dX6_setOffer_12 ?_
  refine R_iload_2 hC dX6_setOffer_13 ?_
  have hG1 : GR (uM M 25 ((x * 6) + w) k) := (GR.uA hG (by decide +kernel) (.inl (by decide)))
  refine R_callVv (as := [vI _]) hC dX6_setOffer_14 mo_6_sumOffers ml_6_90 (by decide) rfl rfl (c6_sumOffers  hG1 (by rw [uM_h (by decide), h11]; exact hLb) (fun x2 a b => by (rw [uM_h (by decide), h11] at b; by_cases q : x2 * 6 + w = x * 6 + w; (rw [uM_at q]; omega); rw [uM_k q, hI.2.2.1 x2 w a b hw0 hw1]; have := hIb.2.2.1 x2 w a b hw0 hw1; omega)) (by (rw [uM_h (by decide), (hI.2.2.2.1 w hw0 hw1).1]; have := hIb.2.2.2.1 w hw0 hw1; omega)) (by omega) (by omega)) rfl rfl hRm (by decide) (by decide) (Nat.le_of_ble_eq_true rfl) (fun Mc2 hq3 => ?_)
  exact R_return hC dX6_setOffer_17 rfl (ret_V ⟨Fr.tr (Fr.uA (A := [25]) (B := []) Fr.rf (by decide)) hq3.1 (by decide) (by decide) (by decide) (by decide), by
        have h25 : ∀ x2 v, 0 ≤ x2 → x2 < iL I → 0 ≤ v → v < iW I → (uM M 25 (x * 6 + w) k) 25 (x2 * 6 + v) = iO (setO I x w k) x2 v := fun x2 v x0 x1 v0 v1 => by
          show _ = if x2 = x ∧ v = w then k else iO I x2 v
          by_cases q : x2 = x ∧ v = w
          · rw [if_pos q, q.1, q.2, uM_same]
          · rw [if_neg q, uM_k (by omega)]; exact hI.2.2.1 x2 v x0 x1 v0 v1
        exact SC_row (hI.w w) hLb.2 (Fr.tr (Fr.uA (A := [25]) (B := []) Fr.rf (by decide)) hq3.1 (by decide) (by decide) (by decide) (by decide)) rfl rfl rfl rfl
          (fun x2 v x0 x1 v0 v1 => by rw [hq3.1.at (by decide)]; exact h25 x2 v x0 x1 v0 v1)
          (fun v v0 v1 => by rw [hq3.1.at (by decide), uM_h (by decide)]; exact (hI.2.2.2.1 v v0 v1).1)
          (fun t t0 t1 => by
            have z := hq3.2.1 t t0 (by rw [uM_h (by decide), h11]; exact t1)
            have zc : ss (fun y => (uM M 25 (x * 6 + w) k) 25 (y * 6 + w)) t = ss (fun y => iO (setO I x w k) y w) t := ss_congr hLb.1 hLb.2 t0 t1 (fun y y0 y1 => h25 y w y0 y1 hw0 hw1)
            rw [zc, uM_h (by decide), (hI.2.2.2.1 w hw0 hw1).1] at z
            exact z)
          (fun k hk => by have z := hq3.2.2 k hk; rw [uM_h (by decide), uM_h (by decide)] at z; exact z)
          (fun v hv => ⟨rfl, fun y => if_neg (fun q => hv q.2)⟩)⟩)
theorem dX6_setLibrary_0 : decode cX6_setLibrary 0 = .ok (.aload_n 0, 1) := by decide +kernel
theorem dX6_setLibrary_1 : decode cX6_setLibrary 1 = .ok (.getfield 18, 3) := by decide +kernel
theorem dX6_setLibrary_4 : decode cX6_setLibrary 4 = .ok (.iload_n 1, 1) := by decide +kernel
theorem dX6_setLibrary_5 : decode cX6_setLibrary 5 = .ok (.iload_n 2, 1) := by decide +kernel
theorem dX6_setLibrary_6 : decode cX6_setLibrary 6 = .ok (.iastore, 1) := by decide +kernel
theorem dX6_setLibrary_7 : decode cX6_setLibrary 7 = .ok (.aload_n 0, 1) := by decide +kernel
theorem dX6_setLibrary_8 : decode cX6_setLibrary 8 = .ok (.getfield 21, 3) := by decide +kernel
theorem dX6_setLibrary_11 : decode cX6_setLibrary 11 = .ok (.iload_n 1, 1) := by decide +kernel
theorem dX6_setLibrary_12 : decode cX6_setLibrary 12 = .ok (.iload_n 3, 1) := by decide +kernel
theorem dX6_setLibrary_13 : decode cX6_setLibrary 13 = .ok (.iastore, 1) := by decide +kernel
theorem dX6_setLibrary_14 : decode cX6_setLibrary 14 = .ok (.aload_n 0, 1) := by decide +kernel
theorem dX6_setLibrary_15 : decode cX6_setLibrary 15 = .ok (.invokevirtual 81, 3) := by decide +kernel
theorem dX6_setLibrary_18 : decode cX6_setLibrary 18 = .ok (.return_, 1) := by decide +kernel
set_option maxHeartbeats 400000 in
theorem c6_setLibrary {G : Gl} {l : Launch}  {M : Mem} {I : Ins} {x a b : Int} (hG : GR M) (hI : SC M I) (hIb : IB I) (hx0 : 0 ≤ x) (hx1 : x < iL I) (ha0 : 0 ≤ a) (ha1 : a ≤ 1000) (hb0 : 0 ≤ b) (hb1 : b ≤ 1000) : Ct G LY 57 l 1 m6_setLibrary [vR 24, vI x, vI a, vI b] M (RV (fun M' => Fr [27, 28, 33, 34] [] M M' ∧ SC M' (setNM I x a b))) := by
  refine R_start (by decide +kernel) (Nat.le_of_ble_eq_true rfl) (fun C hC hRm hlau => ?_)
  show RZ G LY C (Zn G LY 57 C (RV (fun M' => Fr [27, 28, 33, 34] [] M M' ∧ SC M' (setNM I x a b)))) 0 0 57 0 [some (vR 24), some (vI x), some (vI a), some (vI b)] [] M
  have hLb := hIb.1
  have hWb := hIb.2.1
  have h11 := hI.1.1
  have h12 := hI.1.2.1
  have h13 := hI.1.2.2
  have hpw := hIb.pw
  refine R_aload_0 hC dX6_setLibrary_0 ?_
  refine R_getR hC dX6_setLibrary_1 fl_6_18 (by decide) rfl (by decide) (by decide) (fi := 2) rfl (r := 27) (gr_24_2 hG) ?_
  refine R_iload_1 hC dX6_setLibrary_4 ?_
  refine R_iload_2 hC dX6_setLibrary_5 ?_
  refine R_iastore hC dX6_setLibrary_6 (by decide) rfl (by omega) (by omega) ?_
  refine R_aload_0 hC dX6_setLibrary_7 ?_
  have hG1 : GR (uM M 27 x a) := (GR.uA hG (by decide +kernel) (.inl (by decide)))
  refine R_getR hC dX6_setLibrary_8 fl_6_21 (by decide) rfl (by decide) (by decide) (fi := 3) rfl (r := 28) (gr_24_3 hG1) ?_
  refine R_iload_1 hC dX6_setLibrary_11 ?_
  refine R_iload_3 hC dX6_setLibrary_12 ?_
  refine R_iastore hC dX6_setLibrary_13 (by decide) rfl (by omega) (by omega) ?_
  refine R_aload_0 hC dX6_setLibrary_14 ?_
  have h27 : ∀ y, 0 ≤ y → y < iL I → (uM (uM M 27 x a) 28 x b) 27 y = up (iN I) x a y ∧ (uM (uM M 27 x a) 28 x b) 28 y = up (iM I) x b y := fun y y0 y1 => by
      have q2 := hI.2.1 y y0 y1
      rw [uM_h (by decide)]
      by_cases q : y = x
      · rw [q, uM_same, uM_same, up_same, up_same]; exact ⟨rfl, rfl⟩
      · rw [uM_k q, uM_k q, up_ne q, up_ne q, uM_h (by decide)]; exact q2
  have hG2 : GR (uM (uM M 27 x a) 28 x b) := (GR.uA hG1 (by decide +kernel) (.inl (by decide)))
  refine R_callVv (as := []) hC dX6_setLibrary_15 mo_6_sumNeeds ml_6_81 (by decide) rfl rfl (c6_sumNeeds  hG2 (by rw [uM_h (by decide), uM_h (by decide), h11]; exact hLb) (fun y y0 y1 => by (rw [uM_h (by decide), uM_h (by decide), h11] at y1; have q := h27 y y0 y1; rw [q.1, q.2]; have := hIb.2.2.2.2 y y0 y1; unfold up; split <;> omega))) rfl rfl hRm (by decide) (by decide) (Nat.le_of_ble_eq_true rfl) (fun Mc3 hq4 => ?_)
  exact R_return hC dX6_setLibrary_18 rfl (ret_V ⟨Fr.tr (Fr.uA (A := [27, 28]) (B := []) (Fr.uA (A := [27, 28]) (B := []) Fr.rf (by decide)) (by decide)) hq4.1 (by decide) (by decide) (by decide) (by decide), SC_need hI (Fr.tr (Fr.uA (A := [27, 28]) (B := []) (Fr.uA (A := [27, 28]) (B := []) Fr.rf (by decide)) (by decide)) hq4.1 (by decide) (by decide) (by decide) (by decide)) rfl rfl rfl rfl
        (fun y y0 y1 => by rw [hq4.1.at (by decide), hq4.1.at (by decide)]; exact h27 y y0 y1)
        (fun t t0 t1 => by
          have z := hq4.2 t t0 (by rw [uM_h (by decide), uM_h (by decide), h11]; exact t1)
          exact ⟨z.1.trans (ss_congr hLb.1 hLb.2 t0 t1 (fun y y0 y1 => (h27 y y0 y1).1)), z.2.trans (ss_congr hLb.1 hLb.2 t0 t1 (fun y y0 y1 => (h27 y y0 y1).2))⟩)⟩)
theorem dX6_canTake_0 : decode cX6_canTake 0 = .ok (.iconst 0, 1) := by decide +kernel
theorem dX6_canTake_1 : decode cX6_canTake 1 = .ok (.istore_n 2, 1) := by decide +kernel
theorem dX6_canTake_2 : decode cX6_canTake 2 = .ok (.iconst 0, 1) := by decide +kernel
theorem dX6_canTake_3 : decode cX6_canTake 3 = .ok (.istore_n 3, 1) := by decide +kernel
theorem dX6_canTake_4 : decode cX6_canTake 4 = .ok (.iload_n 3, 1) := by decide +kernel
theorem dX6_canTake_5 : decode cX6_canTake 5 = .ok (.aload_n 0, 1) := by decide +kernel
theorem dX6_canTake_6 : decode cX6_canTake 6 = .ok (.getfield 66, 3) := by decide +kernel
theorem dX6_canTake_9 : decode cX6_canTake 9 = .ok (.if_icmp .ge 23, 3) := by decide +kernel
theorem dX6_canTake_12 : decode cX6_canTake 12 = .ok (.iload_n 2, 1) := by decide +kernel
theorem dX6_canTake_13 : decode cX6_canTake 13 = .ok (.aload_n 0, 1) := by decide +kernel
theorem dX6_canTake_14 : decode cX6_canTake 14 = .ok (.getfield 33, 3) := by decide +kernel
theorem dX6_canTake_17 : decode cX6_canTake 17 = .ok (.iload_n 3, 1) := by decide +kernel
theorem dX6_canTake_18 : decode cX6_canTake 18 = .ok (.bipush 32, 2) := by decide +kernel
theorem dX6_canTake_20 : decode cX6_canTake 20 = .ok (.imul, 1) := by decide +kernel
theorem dX6_canTake_21 : decode cX6_canTake 21 = .ok (.iload_n 1, 1) := by decide +kernel
theorem dX6_canTake_22 : decode cX6_canTake 22 = .ok (.iadd, 1) := by decide +kernel
theorem dX6_canTake_23 : decode cX6_canTake 23 = .ok (.iaload, 1) := by decide +kernel
theorem dX6_canTake_24 : decode cX6_canTake 24 = .ok (.iadd, 1) := by decide +kernel
theorem dX6_canTake_25 : decode cX6_canTake 25 = .ok (.istore_n 2, 1) := by decide +kernel
theorem dX6_canTake_26 : decode cX6_canTake 26 = .ok (.iinc 3 1, 3) := by decide +kernel
theorem dX6_canTake_29 : decode cX6_canTake 29 = .ok (.goto (-25), 3) := by decide +kernel
theorem dX6_canTake_32 : decode cX6_canTake 32 = .ok (.iload_n 2, 1) := by decide +kernel
theorem dX6_canTake_33 : decode cX6_canTake 33 = .ok (.ireturn, 1) := by decide +kernel
set_option maxHeartbeats 400000 in
theorem c6_canTake {G : Gl} {l : Launch}  {M : Mem} {I : Ins} {t : Int} (hG : GR M) (hI : SC M I) (hIb : IB I) (ht0 : 0 ≤ t) (ht1 : t < 2 ^ (iL I).toNat) : Ct G LY 57 l 0 m6_canTake [vR 24, vI t] M (Ret (vI (canI I t)) M) := by
  refine R_start (by decide +kernel) (Nat.le_of_ble_eq_true rfl) (fun C hC hRm hlau => ?_)
  show RZ G LY C (Zn G LY 57 C (Ret (vI (canI I t)) M)) 0 0 57 0 [some (vR 24), some (vI t), none, none] [] M
  have hLb := hIb.1
  have hWb := hIb.2.1
  have h11 := hI.1.1
  have h12 := hI.1.2.1
  have h13 := hI.1.2.2
  have hpw := hIb.pw
  refine R_iconst hC dX6_canTake_0 ⟨by decide, by decide⟩ ?_
  refine R_istore_2 hC dX6_canTake_1 rfl ?_
  refine R_iconst hC dX6_canTake_2 ⟨by decide, by decide⟩ ?_
  refine R_istore_3 hC dX6_canTake_3 rfl ?_
  have L4 : ∀ (mq : Nat) (acc : Int) (i : Int), (0 ≤ i) → (i ≤ iW I) → (acc = sm i.toNat (fun w => canw I w t)) → (iW I - i).toNat < mq → RZ G LY C (Zn G LY 57 C (Ret (vI (canI I t)) M)) 0 0 57 4 [some (vR 24), some (vI t), some (vI acc), some (vI i)] [] M := by
    intro mq
    induction mq with
    | zero =>
      intro acc i hi0 hi1 ha hm
      exact absurd hm (Nat.not_lt_zero _)
    | succ mq ih4 =>
      intro acc i hi0 hi1 ha hm4
      have hs := sm_bd2 (f := fun w => canw I w t) (q := 6) 15 hi0 (fun k a b => hIb.cw a (by omega) ht0 ht1) (by decide) (by omega)
      refine R_iload_3 hC dX6_canTake_4 ?_
      refine R_aload_0 hC dX6_canTake_5 ?_
      refine R_getI hC dX6_canTake_6 fl_6_66 (by decide) rfl (by decide) (by decide) (fi := 12) rfl ?_
      refine R_icmp_ge hC dX6_canTake_9 (tgt := 32) (by decide) (fun hb9 => ?_) (fun hb9 => ?_)
      · skip
        refine R_iload_2 hC dX6_canTake_32 ?_
        exact R_ireturn hC dX6_canTake_33 rfl (ret_I (by rw [ha, show i = iW I by omega]; rfl))
      · skip
        have q17 := (hI.2.2.2.2.2.1 i hi0 (by omega) t ht0 ht1).2
        have b17 := hIb.cw hi0 (show i < iW I by omega) ht0 ht1
        unfold canw at b17
        refine R_iload_2 hC dX6_canTake_12 ?_
        refine R_aload_0 hC dX6_canTake_13 ?_
        refine R_getR hC dX6_canTake_14 fl_6_33 (by decide) rfl (by decide) (by decide) (fi := 7) rfl (r := 32) (gr_24_7 hG) ?_
        refine R_iload_3 hC dX6_canTake_17 ?_
        refine R_bipush hC dX6_canTake_18 (by decide +kernel) ⟨by decide, by decide⟩ ?_
        refine R_imul hC dX6_canTake_20 ⟨by omega, by omega⟩ ?_
        refine R_iload_1 hC dX6_canTake_21 ?_
        refine R_iadd hC dX6_canTake_22 ⟨by omega, by omega⟩ ?_
        refine R_iaload hC dX6_canTake_23 (by decide) rfl (by omega) (by omega) ?_
        refine R_iadd hC dX6_canTake_24 ⟨by omega, by omega⟩ ?_
        refine R_istore_2 hC dX6_canTake_25 rfl ?_
        refine R_iinc_3 hC dX6_canTake_26 rfl ⟨by omega, by omega⟩ ?_
        refine R_goto hC dX6_canTake_29 (tgt := 4) (by decide) ?_
        exact ih4 _ _ (by omega) (by omega) (by rw [sm_to hi0 rfl, ← ha, q17]; rfl) (by omega)
  exact L4 _ _ _ (by omega) (by omega) rfl (Nat.lt_succ_self _)
theorem dX6_lackOf_0 : decode cX6_lackOf 0 = .ok (.aload_n 0, 1) := by decide +kernel
theorem dX6_lackOf_1 : decode cX6_lackOf 1 = .ok (.getfield 36, 3) := by decide +kernel
theorem dX6_lackOf_4 : decode cX6_lackOf 4 = .ok (.iload_n 1, 1) := by decide +kernel
theorem dX6_lackOf_5 : decode cX6_lackOf 5 = .ok (.iaload, 1) := by decide +kernel
theorem dX6_lackOf_6 : decode cX6_lackOf 6 = .ok (.aload_n 0, 1) := by decide +kernel
theorem dX6_lackOf_7 : decode cX6_lackOf 7 = .ok (.iload_n 1, 1) := by decide +kernel
theorem dX6_lackOf_8 : decode cX6_lackOf 8 = .ok (.invokevirtual 97, 3) := by decide +kernel
theorem dX6_lackOf_11 : decode cX6_lackOf 11 = .ok (.isub, 1) := by decide +kernel
theorem dX6_lackOf_12 : decode cX6_lackOf 12 = .ok (.ireturn, 1) := by decide +kernel
set_option maxHeartbeats 400000 in
theorem c6_lackOf {G : Gl} {l : Launch}  {M : Mem} {I : Ins} {t : Int} (hG : GR M) (hI : SC M I) (hIb : IB I) (ht0 : 0 ≤ t) (ht1 : t < 2 ^ (iL I).toNat) : Ct G LY 57 l 1 m6_lackOf [vR 24, vI t] M (Ret (vI (lackI I t)) M) := by
  refine R_start (by decide +kernel) (Nat.le_of_ble_eq_true rfl) (fun C hC hRm hlau => ?_)
  show RZ G LY C (Zn G LY 57 C (Ret (vI (lackI I t)) M)) 0 0 57 0 [some (vR 24), some (vI t)] [] M
  have hLb := hIb.1
  have hWb := hIb.2.1
  have h11 := hI.1.1
  have h12 := hI.1.2.1
  have h13 := hI.1.2.2
  have hpw := hIb.pw
  have q33 := (hI.2.2.2.2.1 t ht0 ht1).1
  have b33 := hIb.ssN ht0 ht1
  have b34 := hIb.cI ht0 ht1
  refine R_aload_0 hC dX6_lackOf_0 ?_
  refine R_getR hC dX6_lackOf_1 fl_6_36 (by decide) rfl (by decide) (by decide) (fi := 8) rfl (r := 33) (gr_24_8 hG) ?_
  refine R_iload_1 hC dX6_lackOf_4 ?_
  refine R_iaload hC dX6_lackOf_5 (by decide) rfl (by omega) (by omega) ?_
  refine R_aload_0 hC dX6_lackOf_6 ?_
  refine R_iload_1 hC dX6_lackOf_7 ?_
  refine R_callVq (as := [vI _]) hC dX6_lackOf_8 mo_6_canTake ml_6_97 (by decide) rfl rfl (c6_canTake  hG hI hIb (by omega) (by omega)) rfl rfl hRm (by decide) (by decide) (Nat.le_of_ble_eq_true rfl) ?_
  have e8_1 := IB.cI (t := t) hIb (by omega) (by omega)
  refine R_isub hC dX6_lackOf_11 ⟨by omega, by omega⟩ ?_
  exact R_ireturn hC dX6_lackOf_12 rfl (ret_I (by rw [q33]; rfl))
theorem dX6_hasPlan_0 : decode cX6_hasPlan 0 = .ok (.iconst 1, 1) := by decide +kernel
theorem dX6_hasPlan_1 : decode cX6_hasPlan 1 = .ok (.istore_n 1, 1) := by decide +kernel
theorem dX6_hasPlan_2 : decode cX6_hasPlan 2 = .ok (.iload_n 1, 1) := by decide +kernel
theorem dX6_hasPlan_3 : decode cX6_hasPlan 3 = .ok (.aload_n 0, 1) := by decide +kernel
theorem dX6_hasPlan_4 : decode cX6_hasPlan 4 = .ok (.getfield 45, 3) := by decide +kernel
theorem dX6_hasPlan_7 : decode cX6_hasPlan 7 = .ok (.if_icmp .ge 19, 3) := by decide +kernel
theorem dX6_hasPlan_10 : decode cX6_hasPlan 10 = .ok (.aload_n 0, 1) := by decide +kernel
theorem dX6_hasPlan_11 : decode cX6_hasPlan 11 = .ok (.iload_n 1, 1) := by decide +kernel
theorem dX6_hasPlan_12 : decode cX6_hasPlan 12 = .ok (.invokevirtual 100, 3) := by decide +kernel
theorem dX6_hasPlan_15 : decode cX6_hasPlan 15 = .ok (.ifCond .le 5, 3) := by decide +kernel
theorem dX6_hasPlan_18 : decode cX6_hasPlan 18 = .ok (.iconst 0, 1) := by decide +kernel
theorem dX6_hasPlan_19 : decode cX6_hasPlan 19 = .ok (.ireturn, 1) := by decide +kernel
theorem dX6_hasPlan_20 : decode cX6_hasPlan 20 = .ok (.iinc 1 1, 3) := by decide +kernel
theorem dX6_hasPlan_23 : decode cX6_hasPlan 23 = .ok (.goto (-21), 3) := by decide +kernel
theorem dX6_hasPlan_26 : decode cX6_hasPlan 26 = .ok (.iconst 1, 1) := by decide +kernel
theorem dX6_hasPlan_27 : decode cX6_hasPlan 27 = .ok (.ireturn, 1) := by decide +kernel
set_option maxHeartbeats 400000 in
theorem c6_hasPlan {G : Gl} {l : Launch}  {M : Mem} {I : Ins} (hG : GR M) (hI : SC M I) (hIb : IB I) : Ct G LY 57 l 2 m6_hasPlan [vR 24] M (Ret (vI (bP (planI I))) M) := by
  refine R_start (by decide +kernel) (Nat.le_of_ble_eq_true rfl) (fun C hC hRm hlau => ?_)
  show RZ G LY C (Zn G LY 57 C (Ret (vI (bP (planI I))) M)) 0 0 57 0 [some (vR 24), none] [] M
  have hLb := hIb.1
  have hWb := hIb.2.1
  have h11 := hI.1.1
  have h12 := hI.1.2.1
  have h13 := hI.1.2.2
  have hpw := hIb.pw
  refine R_iconst hC dX6_hasPlan_0 ⟨by decide, by decide⟩ ?_
  refine R_istore_1 hC dX6_hasPlan_1 rfl ?_
  have L2 : ∀ (mq : Nat) (i : Int), (1 ≤ i) → (i ≤ 2 ^ (iL I).toNat) → (∀ t, 0 ≤ t → t < i → lackI I t ≤ 0) → (2 ^ (iL I).toNat - i).toNat < mq → RZ G LY C (Zn G LY 57 C (Ret (vI (bP (planI I))) M)) 0 0 57 2 [some (vR 24), some (vI i)] [] M := by
    intro mq
    induction mq with
    | zero =>
      intro i hi0 hi1 ha hm
      exact absurd hm (Nat.not_lt_zero _)
    | succ mq ih2 =>
      intro i hi0 hi1 ha hm2
      refine R_iload_1 hC dX6_hasPlan_2 ?_
      refine R_aload_0 hC dX6_hasPlan_3 ?_
      refine R_getI hC dX6_hasPlan_4 fl_6_45 (by decide) rfl (by decide) (by decide) (fi := 13) rfl ?_
      refine R_icmp_ge hC dX6_hasPlan_7 (tgt := 26) (by decide) (fun hb7 => ?_) (fun hb7 => ?_)
      · skip
        refine R_iconst hC dX6_hasPlan_26 ⟨by decide, by decide⟩ ?_
        exact R_zreturn hC dX6_hasPlan_27 rfl (.inr rfl) (ret_t (fun t t0 t1 => ha t t0 (by omega)))
      · skip
        refine R_aload_0 hC dX6_hasPlan_10 ?_
        refine R_iload_1 hC dX6_hasPlan_11 ?_
        refine R_callVq (as := [vI _]) hC dX6_hasPlan_12 mo_6_lackOf ml_6_100 (by decide) rfl rfl (c6_lackOf  hG hI hIb (by omega) (by omega)) rfl rfl hRm (by decide) (by decide) (Nat.le_of_ble_eq_true rfl) ?_
        have e12_1 := IB.lk (t := i) hIb (by omega) (by omega)
        refine R_if_le hC dX6_hasPlan_15 (tgt := 20) (by decide) (fun hb15 => ?_) (fun hb15 => ?_)
        · skip
          refine R_iinc_1 hC dX6_hasPlan_20 rfl ⟨by omega, by omega⟩ ?_
          refine R_goto hC dX6_hasPlan_23 (tgt := 2) (by decide) ?_
          exact ih2 _ (by omega) (by omega) (fun t t0 t1 => by (by_cases q : t = i; (subst q; omega); exact ha t t0 (by omega))) (by omega)
        · skip
          refine R_iconst hC dX6_hasPlan_18 ⟨by decide, by decide⟩ ?_
          exact R_zreturn hC dX6_hasPlan_19 rfl (.inl rfl) (ret_f (fun q => by have := q i (by omega) (by omega); omega))
  exact L2 _ _ (by omega) (by omega) (fun t t0 t1 => by (have : t = 0 := by omega); subst this; exact hIb.lk0) (Nat.lt_succ_self _)
theorem dX6_scarceWorks_0 : decode cX6_scarceWorks 0 = .ok (.iconst 0, 1) := by decide +kernel
theorem dX6_scarceWorks_1 : decode cX6_scarceWorks 1 = .ok (.istore_n 2, 1) := by decide +kernel
theorem dX6_scarceWorks_2 : decode cX6_scarceWorks 2 = .ok (.iconst 0, 1) := by decide +kernel
theorem dX6_scarceWorks_3 : decode cX6_scarceWorks 3 = .ok (.istore_n 3, 1) := by decide +kernel
theorem dX6_scarceWorks_4 : decode cX6_scarceWorks 4 = .ok (.iload_n 3, 1) := by decide +kernel
theorem dX6_scarceWorks_5 : decode cX6_scarceWorks 5 = .ok (.aload_n 0, 1) := by decide +kernel
theorem dX6_scarceWorks_6 : decode cX6_scarceWorks 6 = .ok (.getfield 66, 3) := by decide +kernel
theorem dX6_scarceWorks_9 : decode cX6_scarceWorks 9 = .ok (.if_icmp .ge 35, 3) := by decide +kernel
theorem dX6_scarceWorks_12 : decode cX6_scarceWorks 12 = .ok (.aload_n 0, 1) := by decide +kernel
theorem dX6_scarceWorks_13 : decode cX6_scarceWorks 13 = .ok (.getfield 30, 3) := by decide +kernel
theorem dX6_scarceWorks_16 : decode cX6_scarceWorks 16 = .ok (.iload_n 3, 1) := by decide +kernel
theorem dX6_scarceWorks_17 : decode cX6_scarceWorks 17 = .ok (.bipush 32, 2) := by decide +kernel
theorem dX6_scarceWorks_19 : decode cX6_scarceWorks 19 = .ok (.imul, 1) := by decide +kernel
theorem dX6_scarceWorks_20 : decode cX6_scarceWorks 20 = .ok (.iload_n 1, 1) := by decide +kernel
theorem dX6_scarceWorks_21 : decode cX6_scarceWorks 21 = .ok (.iadd, 1) := by decide +kernel
theorem dX6_scarceWorks_22 : decode cX6_scarceWorks 22 = .ok (.iaload, 1) := by decide +kernel
theorem dX6_scarceWorks_23 : decode cX6_scarceWorks 23 = .ok (.aload_n 0, 1) := by decide +kernel
theorem dX6_scarceWorks_24 : decode cX6_scarceWorks 24 = .ok (.getfield 15, 3) := by decide +kernel
theorem dX6_scarceWorks_27 : decode cX6_scarceWorks 27 = .ok (.iload_n 3, 1) := by decide +kernel
theorem dX6_scarceWorks_28 : decode cX6_scarceWorks 28 = .ok (.iaload, 1) := by decide +kernel
theorem dX6_scarceWorks_29 : decode cX6_scarceWorks 29 = .ok (.if_icmp .le 9, 3) := by decide +kernel
theorem dX6_scarceWorks_32 : decode cX6_scarceWorks 32 = .ok (.iload_n 2, 1) := by decide +kernel
theorem dX6_scarceWorks_33 : decode cX6_scarceWorks 33 = .ok (.iconst 1, 1) := by decide +kernel
theorem dX6_scarceWorks_34 : decode cX6_scarceWorks 34 = .ok (.iload_n 3, 1) := by decide +kernel
theorem dX6_scarceWorks_35 : decode cX6_scarceWorks 35 = .ok (.ishl, 1) := by decide +kernel
theorem dX6_scarceWorks_36 : decode cX6_scarceWorks 36 = .ok (.ior, 1) := by decide +kernel
theorem dX6_scarceWorks_37 : decode cX6_scarceWorks 37 = .ok (.istore_n 2, 1) := by decide +kernel
theorem dX6_scarceWorks_38 : decode cX6_scarceWorks 38 = .ok (.iinc 3 1, 3) := by decide +kernel
theorem dX6_scarceWorks_41 : decode cX6_scarceWorks 41 = .ok (.goto (-37), 3) := by decide +kernel
theorem dX6_scarceWorks_44 : decode cX6_scarceWorks 44 = .ok (.iload_n 2, 1) := by decide +kernel
theorem dX6_scarceWorks_45 : decode cX6_scarceWorks 45 = .ok (.ireturn, 1) := by decide +kernel
set_option maxHeartbeats 400000 in
theorem c6_scarceWorks {G : Gl} {l : Launch}  {M : Mem} {I : Ins} {t : Int} (hG : GR M) (hI : SC M I) (hIb : IB I) (ht0 : 0 ≤ t) (ht1 : t < 2 ^ (iL I).toNat) : Ct G LY 57 l 0 m6_scarceWorks [vR 24, vI t] M (Ret (vI (bits (iW I).toNat (fun w => iS I w < ss (fun x => iO I x w) t))) M) := by
  refine R_start (by decide +kernel) (Nat.le_of_ble_eq_true rfl) (fun C hC hRm hlau => ?_)
  show RZ G LY C (Zn G LY 57 C (Ret (vI (bits (iW I).toNat (fun w => iS I w < ss (fun x => iO I x w) t))) M)) 0 0 57 0 [some (vR 24), some (vI t), none, none] [] M
  have hLb := hIb.1
  have hWb := hIb.2.1
  have h11 := hI.1.1
  have h12 := hI.1.2.1
  have h13 := hI.1.2.2
  have hpw := hIb.pw
  refine R_iconst hC dX6_scarceWorks_0 ⟨by decide, by decide⟩ ?_
  refine R_istore_2 hC dX6_scarceWorks_1 rfl ?_
  refine R_iconst hC dX6_scarceWorks_2 ⟨by decide, by decide⟩ ?_
  refine R_istore_3 hC dX6_scarceWorks_3 rfl ?_
  have L4 : ∀ (mq : Nat) (acc : Int) (i : Int), (0 ≤ i) → (i ≤ iW I) → (acc = bits i.toNat (fun w => iS I w < ss (fun x => iO I x w) t)) → (iW I - i).toNat < mq → RZ G LY C (Zn G LY 57 C (Ret (vI (bits (iW I).toNat (fun w => iS I w < ss (fun x => iO I x w) t))) M)) 0 0 57 4 [some (vR 24), some (vI t), some (vI acc), some (vI i)] [] M := by
    intro mq
    induction mq with
    | zero =>
      intro acc i hi0 hi1 ha hm
      exact absurd hm (Nat.not_lt_zero _)
    | succ mq ih4 =>
      intro acc i hi0 hi1 ha hm4
      have hp := pw_bd hi0 (by omega)
      have hq := bits_b10 (fun w => iS I w < ss (fun x => iO I x w) t) hi0 (by omega)
      refine R_iload_3 hC dX6_scarceWorks_4 ?_
      refine R_aload_0 hC dX6_scarceWorks_5 ?_
      refine R_getI hC dX6_scarceWorks_6 fl_6_66 (by decide) rfl (by decide) (by decide) (fi := 12) rfl ?_
      refine R_icmp_ge hC dX6_scarceWorks_9 (tgt := 44) (by decide) (fun hb9 => ?_) (fun hb9 => ?_)
      · skip
        refine R_iload_2 hC dX6_scarceWorks_44 ?_
        exact R_ireturn hC dX6_scarceWorks_45 rfl (ret_I (by rw [ha, show i = iW I by omega]))
      · skip
        have q22 := (hI.2.2.2.2.2.1 i hi0 (by omega) t ht0 ht1).1
        have q28 := (hI.2.2.2.1 i hi0 (by omega)).1
        refine R_aload_0 hC dX6_scarceWorks_12 ?_
        refine R_getR hC dX6_scarceWorks_13 fl_6_30 (by decide) rfl (by decide) (by decide) (fi := 6) rfl (r := 31) (gr_24_6 hG) ?_
        refine R_iload_3 hC dX6_scarceWorks_16 ?_
        refine R_bipush hC dX6_scarceWorks_17 (by decide +kernel) ⟨by decide, by decide⟩ ?_
        refine R_imul hC dX6_scarceWorks_19 ⟨by omega, by omega⟩ ?_
        refine R_iload_1 hC dX6_scarceWorks_20 ?_
        refine R_iadd hC dX6_scarceWorks_21 ⟨by omega, by omega⟩ ?_
        refine R_iaload hC dX6_scarceWorks_22 (by decide) rfl (by omega) (by omega) ?_
        refine R_aload_0 hC dX6_scarceWorks_23 ?_
        refine R_getR hC dX6_scarceWorks_24 fl_6_15 (by decide) rfl (by decide) (by decide) (fi := 1) rfl (r := 26) (gr_24_1 hG) ?_
        refine R_iload_3 hC dX6_scarceWorks_27 ?_
        refine R_iaload hC dX6_scarceWorks_28 (by decide) rfl (by omega) (by omega) ?_
        refine R_icmp_le hC dX6_scarceWorks_29 (tgt := 38) (by decide) (fun hb29 => ?_) (fun hb29 => ?_)
        · skip
          refine R_iinc_3 hC dX6_scarceWorks_38 rfl ⟨by omega, by omega⟩ ?_
          refine R_goto hC dX6_scarceWorks_41 (tgt := 4) (by decide) ?_
          exact ih4 _ _ (by omega) (by omega) (by first | (rw [ha]; exact bits_t hi0 rfl (show iS I i < ss (fun x => iO I x i) t by omega)) | (rw [ha]; exact bits_f hi0 rfl (show ¬ (iS I i < ss (fun x => iO I x i) t) by omega))) (by omega)
        · skip
          refine R_iload_2 hC dX6_scarceWorks_32 ?_
          refine R_iconst hC dX6_scarceWorks_33 ⟨by decide, by decide⟩ ?_
          refine R_iload_3 hC dX6_scarceWorks_34 ?_
          refine R_shl1 hC dX6_scarceWorks_35 (by omega) (by omega) ?_
          refine R_ior hC dX6_scarceWorks_36 (by omega) (by omega) ?_
          refine R_istore_2 hC dX6_scarceWorks_37 rfl ?_
          refine R_iinc_3 hC dX6_scarceWorks_38 rfl ⟨by omega, by omega⟩ ?_
          refine R_goto hC dX6_scarceWorks_41 (tgt := 4) (by decide) ?_
          exact ih4 _ _ (by omega) (by omega) (by first | (rw [ha]; exact bits_t hi0 rfl (show iS I i < ss (fun x => iO I x i) t by omega)) | (rw [ha]; exact bits_f hi0 rfl (show ¬ (iS I i < ss (fun x => iO I x i) t) by omega))) (by omega)
  exact L4 _ _ _ (by omega) (by omega) rfl (Nat.lt_succ_self _)
