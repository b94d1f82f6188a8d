/-! Fits: what FITS and NEXT ask -/
/-- SPARE of a work under another keep, as far as OFFERS reach -/
def ofA (I : Ins) (w : Int) : Int := ss (fun x => iO I x w) (2 ^ (iL I).toNat - 1)
def spK (d : Int → Int) (w k : Int) : Int := min (ofA (insOf d) w) (max 0 (allOf d w - k))
noncomputable def spcK (I : Ins) (d : Int → Int) (w k : Int) : Int := SPC (setS I w (spK d w k))
/-- the keep k of work w fits what was noted -/
def fitP (d no : Int → Int) (n w k : Int) : Prop := k ≠ d (16 + w) ∧ ∀ i, 0 ≤ i → i < n → no i = spcK (insOf d) d w k
theorem spK_bd {d : Int → Int} (h : SP d) {w k : Int} (w0 : 0 ≤ w) (w1 : w < d 122) (k0 : 0 ≤ k) : 0 ≤ spK d w k ∧ spK d w k ≤ 15 := by
  have hb := SP.I h
  have := hb.ssO (w := w) w0 w1 (t := 2 ^ (iL (insOf d)).toNat - 1) (by have := hb.pw; omega) (by omega)
  unfold spK ofA
  omega
/-- many and first after the keeps before k of work w -/
noncomputable def ck (P : Int → Int → Prop) (w : Int) : Nat → Int × Int → Int × Int
  | 0, s => s
  | k + 1, s => @ite (Int × Int) (P w k) (Classical.propDecidable _) ((ck P w k s).1 + 1, if (ck P w k s).1 = 0 then 100 * w + k else (ck P w k s).2) (ck P w k s)
noncomputable def ckA (P : Int → Int → Prop) : Nat → Int × Int
  | 0 => (0, -1)
  | w + 1 => ck P w 16 (ckA P w)
theorem ck_t {P : Int → Int → Prop} {w k j : Int} {s : Int × Int} (h : 0 ≤ k) (hj : j = k + 1) (p : P w k) : ck P w j.toNat s = ((ck P w k.toNat s).1 + 1, if (ck P w k.toNat s).1 = 0 then 100 * w + k else (ck P w k.toNat s).2) := by
  subst hj
  rw [show (k + 1).toNat = k.toNat + 1 by omega, ck, Int.toNat_of_nonneg h, if_pos p]
theorem ck_f {P : Int → Int → Prop} {w k j : Int} {s : Int × Int} (h : 0 ≤ k) (hj : j = k + 1) (p : ¬ P w k) : ck P w j.toNat s = ck P w k.toNat s := by
  subst hj
  rw [show (k + 1).toNat = k.toNat + 1 by omega, ck, Int.toNat_of_nonneg h, if_neg p]
theorem ckA_s {P : Int → Int → Prop} {w j : Int} (h : 0 ≤ w) (hj : j = w + 1) : ckA P j.toNat = ck P w 16 (ckA P w.toNat) := by
  subst hj
  rw [show (w + 1).toNat = w.toNat + 1 by omega, ckA, Int.toNat_of_nonneg h]
theorem ck_bd {P : Int → Int → Prop} {w : Int} {s : Int × Int} : ∀ n : Nat, s.1 ≤ (ck P w n s).1 ∧ (ck P w n s).1 ≤ s.1 + n
  | 0 => ⟨Int.le_refl _, by show s.1 ≤ s.1 + 0; omega⟩
  | n + 1 => by
    have := ck_bd (P := P) (w := w) (s := s) n
    rw [ck]
    split <;> constructor <;> first | omega | (show _ + 1 ≤ _; omega) | (show _ ≤ _ + 1; omega)
theorem ckA_bd {P : Int → Int → Prop} : ∀ n : Nat, 0 ≤ (ckA P n).1 ∧ (ckA P n).1 ≤ 16 * n
  | 0 => ⟨Int.le_refl _, Int.le_refl _⟩
  | n + 1 => by
    have a := ckA_bd (P := P) n
    have := ck_bd (P := P) (w := n) (s := ckA P n) 16
    rw [ckA]
    omega

theorem dX2_spareWith_0 : decode cX2_spareWith 0 = .ok (.aload_n 0, 1) := by decide +kernel
theorem dX2_spareWith_1 : decode cX2_spareWith 1 = .ok (.getfield 9, 3) := by decide +kernel
theorem dX2_spareWith_4 : decode cX2_spareWith 4 = .ok (.iload_n 2, 1) := by decide +kernel
theorem dX2_spareWith_5 : decode cX2_spareWith 5 = .ok (.invokevirtual 75, 3) := by decide +kernel
theorem dX2_spareWith_8 : decode cX2_spareWith 8 = .ok (.iconst 0, 1) := by decide +kernel
theorem dX2_spareWith_9 : decode cX2_spareWith 9 = .ok (.aload_n 1, 1) := by decide +kernel
theorem dX2_spareWith_10 : decode cX2_spareWith 10 = .ok (.iload_n 2, 1) := by decide +kernel
theorem dX2_spareWith_11 : decode cX2_spareWith 11 = .ok (.invokevirtual 78, 3) := by decide +kernel
theorem dX2_spareWith_14 : decode cX2_spareWith 14 = .ok (.iload_n 3, 1) := by decide +kernel
theorem dX2_spareWith_15 : decode cX2_spareWith 15 = .ok (.isub, 1) := by decide +kernel
theorem dX2_spareWith_16 : decode cX2_spareWith 16 = .ok (.invokestatic 81, 3) := by decide +kernel
theorem dX2_spareWith_19 : decode cX2_spareWith 19 = .ok (.invokestatic 86, 3) := by decide +kernel
theorem dX2_spareWith_22 : decode cX2_spareWith 22 = .ok (.ireturn, 1) := by decide +kernel
set_option maxHeartbeats 400000 in
theorem c2_spareWith {G : Gl} {l : Launch}  {M : Mem} {I : Ins} {d : Int → Int} {w k : Int} (hG : GR M) (hI : SC M I) (hIb : IB I) (hD : M 4 = d) (hSP : SP d) (hOE : iO I = iO (insOf d) ∧ I.1 = (insOf d).1) (hw0 : 0 ≤ w) (hw1 : w < d 122) (hk0 : 0 ≤ k) (hk1 : k < 16) : Ct G LY 82 l 1 m2_spareWith [vR 49, vR 3, vI w, vI k] M (Ret (vI (spK d w k)) M) := by
  refine R_start (by decide +kernel) (Nat.le_of_ble_eq_true rfl) (fun C hC hRm hlau => ?_)
  show RZ G LY C (Zn G LY 82 C (Ret (vI (spK d w k)) M)) 0 0 82 0 [some (vR 49), some (vR 3), some (vI w), some (vI k)] [] M
  have hLd := hSP.1.1
  have hWd := hSP.1.2
  have hIL : iL I = d 121 := congrArg Prod.fst hOE.2
  have hIW : iW I = d 122 := congrArg Prod.snd hOE.2
  have ba := hSP.all hw0 (show w < 6 by omega)
  refine R_aload_0 hC dX2_spareWith_0 ?_
  refine R_getR hC dX2_spareWith_1 fl_2_9 (by decide) rfl (by decide) (by decide) (fi := 0) rfl (r := 24) (gr_49_0 hG) ?_
  refine R_iload_2 hC dX2_spareWith_4 ?_
  refine R_callVq (as := [vI _]) hC dX2_spareWith_5 mo_6_allOffers ml_2_75 (by decide) rfl rfl (c6_allOffers  hG hI hIb (by omega) (show w < iW I by omega)) rfl rfl hRm (by decide) (by decide) (Nat.le_of_ble_eq_true rfl) ?_
  have e5_1 := IB.ssO (w := w) hIb (by omega) (show w < iW I by omega) (t := 2 ^ (iL I).toNat - 1) (by have := hIb.pw; omega) (by omega)
  refine R_iconst hC dX2_spareWith_8 ⟨by decide, by decide⟩ ?_
  refine R_aload_1 hC dX2_spareWith_9 ?_
  refine R_iload_2 hC dX2_spareWith_10 ?_
  refine R_callVq (as := [vI _]) hC dX2_spareWith_11 mo_8_copiesOf ml_2_78 (by decide) rfl rfl (c8_copiesOf_d  hD hG sh_3 hSP.B (by omega) (by omega)) rfl rfl hRm (by decide) (by decide) (Nat.le_of_ble_eq_true rfl) ?_
  have e11_2 := allOf_bd (w := w) hSP.B (by omega) (by omega)
  refine R_iload_3 hC dX2_spareWith_14 ?_
  refine R_isub hC dX2_spareWith_15 ⟨by omega, by omega⟩ ?_
  refine R_max hC dX2_spareWith_16 jl_2_81 hRm (by decide) (Nat.le_of_ble_eq_true rfl) ?_
  refine R_min hC dX2_spareWith_19 jl_2_86 hRm (by decide) (Nat.le_of_ble_eq_true rfl) ?_
  exact R_ireturn hC dX2_spareWith_22 rfl (ret_I (by unfold spK ofA; rw [hOE.1, hIL]; rfl))
theorem dX2_spaceWith_0 : decode cX2_spaceWith 0 = .ok (.aload_n 0, 1) := by decide +kernel
theorem dX2_spaceWith_1 : decode cX2_spaceWith 1 = .ok (.getfield 9, 3) := by decide +kernel
theorem dX2_spaceWith_4 : decode cX2_spaceWith 4 = .ok (.iload_n 1, 1) := by decide +kernel
theorem dX2_spaceWith_5 : decode cX2_spaceWith 5 = .ok (.iload_n 2, 1) := by decide +kernel
theorem dX2_spaceWith_6 : decode cX2_spaceWith 6 = .ok (.invokevirtual 56, 3) := by decide +kernel
theorem dX2_spaceWith_9 : decode cX2_spaceWith 9 = .ok (.aload_n 0, 1) := by decide +kernel
theorem dX2_spaceWith_10 : decode cX2_spaceWith 10 = .ok (.getfield 9, 3) := by decide +kernel
theorem dX2_spaceWith_13 : decode cX2_spaceWith 13 = .ok (.iconst 0, 1) := by decide +kernel
theorem dX2_spaceWith_14 : decode cX2_spaceWith 14 = .ok (.invokevirtual 89, 3) := by decide +kernel
theorem dX2_spaceWith_17 : decode cX2_spaceWith 17 = .ok (.ireturn, 1) := by decide +kernel
set_option maxHeartbeats 400000 in
theorem c2_spaceWith {G : Gl} {l : Launch}  {M : Mem} {I : Ins} {w k : Int} (hG : GR M) (hI : SC M I) (hIb : IB I) (hw0 : 0 ≤ w) (hw1 : w < iW I) (hk0 : 0 ≤ k) (hk1 : k ≤ 1000) : Ct G LY 82 l 2 m2_spaceWith [vR 49, vI w, vI k] M (RP (fun v M' => Fr [26, 31, 32, 35] [] M M' ∧ SC M' (setS I w k) ∧ v = SPC (setS I w k))) := by
  refine R_start (by decide +kernel) (Nat.le_of_ble_eq_true rfl) (fun C hC hRm hlau => ?_)
  show RZ G LY C (Zn G LY 82 C (RP (fun v M' => Fr [26, 31, 32, 35] [] M M' ∧ SC M' (setS I w k) ∧ v = SPC (setS I w k)))) 0 0 82 0 [some (vR 49), some (vI w), some (vI k)] [] M
  have hIs := hIb.setS (w := w) hk0 hk1
  refine R_aload_0 hC dX2_spaceWith_0 ?_
  refine R_getR hC dX2_spaceWith_1 fl_2_9 (by decide) rfl (by decide) (by decide) (fi := 0) rfl (r := 24) (gr_49_0 hG) ?_
  refine R_iload_1 hC dX2_spaceWith_4 ?_
  refine R_iload_2 hC dX2_spaceWith_5 ?_
  refine R_callVv (as := [vI _, vI _]) hC dX2_spaceWith_6 mo_6_setSpare ml_2_56 (by decide) rfl rfl (c6_setSpare  hG (hI.w w) hIb (by omega) (by omega) (by omega)) rfl rfl hRm (by decide) (by decide) (Nat.le_of_ble_eq_true rfl) (fun Mc1 hq2 => ?_)
  have hSC3 := hq2.2
  have e0 : max 0 k = k := by omega
  rw [e0] at hSC3
  refine R_aload_0 hC dX2_spaceWith_9 ?_
  have hG4 : GR Mc1 := (GR.fr hG hq2.1 (by decide +kernel))
  refine R_getR hC dX2_spaceWith_10 fl_2_9 (by decide) rfl (by decide) (by decide) (fi := 0) rfl (r := 24) (gr_49_0 hG4) ?_
  refine R_iconst hC dX2_spaceWith_13 ⟨by decide, by decide⟩ ?_
  refine R_callVp (as := [vI _]) hC dX2_spaceWith_14 mo_6_space ml_2_89 (by decide) rfl rfl (c6_space  hG4 hSC3 hIs (by omega) (show 0 ≤ iL I by have := hIb.1; omega) (fun y a b => by omega)) rfl rfl hRm (by decide) (by decide) (Nat.le_of_ble_eq_true rfl) (fun v7 Mc5 hq6 => ?_)
  have hSC8 := SC.fr hSC3 hq6.1 (by decide) (by decide)
  exact R_ireturn hC dX2_spaceWith_17 rfl (ret_P ⟨Fr.tt (hq2.1.mo (by decide) (by decide)) (hq6.1.mo (by decide) (by decide)), hSC8, hq6.2.1⟩)
