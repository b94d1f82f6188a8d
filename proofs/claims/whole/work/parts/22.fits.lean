/-! Fits: what FITS and NEXT ask -/
/-- SPARE of a work under another keep, as far as OFFERS reach -/
def ofA (I : Ins) (w : Int) : Int := ss (fun x => iO I x w) (2 ^ (iL I).toNat - 1)
def spK (d : Int → Int) (w k : Int) : Int := min (ofA (insOf d) w) (max 0 (allOf d w - k))
noncomputable def spcK (I : Ins) (d : Int → Int) (w k : Int) : Int := SPC (setS I w (spK d w k))
/-- the keep k of work w fits what was noted -/
def fitP (d no : Int → Int) (n w k : Int) : Prop := k ≠ d (16 + w) ∧ ∀ i, 0 ≤ i → i < n → no i = spcK (insOf d) d w k
theorem spK_bd {d : Int → Int} (h : SP d) {w k : Int} (w0 : 0 ≤ w) (w1 : w < d 122) (k0 : 0 ≤ k) : 0 ≤ spK d w k ∧ spK d w k ≤ 15 := by
  have hb := SP.I h
  have := hb.ssO (w := w) w0 w1 (t := 2 ^ (iL (insOf d)).toNat - 1) (by have := hb.pw; omega) (by omega)
  unfold spK ofA
  omega
/-- many and first after the keeps before k of work w -/
noncomputable def ck (P : Int → Int → Prop) (w : Int) : Nat → Int × Int → Int × Int
  | 0, s => s
  | k + 1, s => @ite (Int × Int) (P w k) (Classical.propDecidable _) ((ck P w k s).1 + 1, if (ck P w k s).1 = 0 then 100 * w + k else (ck P w k s).2) (ck P w k s)
noncomputable def ckA (P : Int → Int → Prop) : Nat → Int × Int
  | 0 => (0, -1)
  | w + 1 => ck P w 16 (ckA P w)
theorem ck_t {P : Int → Int → Prop} {w k j : Int} {s : Int × Int} (h : 0 ≤ k) (hj : j = k + 1) (p : P w k) : ck P w j.toNat s = ((ck P w k.toNat s).1 + 1, if (ck P w k.toNat s).1 = 0 then 100 * w + k else (ck P w k.toNat s).2) := by
  subst hj
  rw [show (k + 1).toNat = k.toNat + 1 by omega, ck, Int.toNat_of_nonneg h, if_pos p]
theorem ck_f {P : Int → Int → Prop} {w k j : Int} {s : Int × Int} (h : 0 ≤ k) (hj : j = k + 1) (p : ¬ P w k) : ck P w j.toNat s = ck P w k.toNat s := by
  subst hj
  rw [show (k + 1).toNat = k.toNat + 1 by omega, ck, Int.toNat_of_nonneg h, if_neg p]
theorem ckA_s {P : Int → Int → Prop} {w j : Int} (h : 0 ≤ w) (hj : j = w + 1) : ckA P j.toNat = ck P w 16 (ckA P w.toNat) := by
  subst hj
  rw [show (w + 1).toNat = w.toNat + 1 by omega, ckA, Int.toNat_of_nonneg h]
theorem ck_bd {P : Int → Int → Prop} {w : Int} {s : Int × Int} : ∀ n : Nat, s.1 ≤ (ck P w n s).1 ∧ (ck P w n s).1 ≤ s.1 + n
  | 0 => ⟨Int.le_refl _, by show s.1 ≤ s.1 + 0; omega⟩
  | n + 1 => by
    have := ck_bd (P := P) (w := w) (s := s) n
    rw [ck]
    split <;> constructor <;> first | omega | (show _ + 1 ≤ _; omega) | (show _ ≤ _ + 1; omega)
theorem ckA_bd {P : Int → Int → Prop} : ∀ n : Nat, 0 ≤ (ckA P n).1 ∧ (ckA P n).1 ≤ 16 * n
  | 0 => ⟨Int.le_refl _, Int.le_refl _⟩
  | n + 1 => by
    have a := ckA_bd (P := P) n
    have := ck_bd (P := P) (w := n) (s := ckA P n) 16
    rw [ckA]
    omega
theorem setS_id (d : Int → Int) (w : Int) : setS (insOf d) w (spr d w) = insOf d := by
  have e : up (iS (insOf d)) w (spr d w) = iS (insOf d) := funext (fun v => by
    unfold up
    split
    · rename_i q
      subst q
      rfl
    · rfl)
  show ((insOf d).1, iO (insOf d), up (iS (insOf d)) w (spr d w), iN (insOf d), iM (insOf d), iZ (insOf d)) = insOf d
  rw [e]
  rfl

theorem dX2_spareWith_0 : decode cX2_spareWith 0 = .ok (.aload_n 0, 1) := by decide +kernel
theorem dX2_spareWith_1 : decode cX2_spareWith 1 = .ok (.getfield 9, 3) := by decide +kernel
theorem dX2_spareWith_4 : decode cX2_spareWith 4 = .ok (.iload_n 2, 1) := by decide +kernel
theorem dX2_spareWith_5 : decode cX2_spareWith 5 = .ok (.invokevirtual 75, 3) := by decide +kernel
theorem dX2_spareWith_8 : decode cX2_spareWith 8 = .ok (.iconst 0, 1) := by decide +kernel
theorem dX2_spareWith_9 : decode cX2_spareWith 9 = .ok (.aload_n 1, 1) := by decide +kernel
theorem dX2_spareWith_10 : decode cX2_spareWith 10 = .ok (.iload_n 2, 1) := by decide +kernel
theorem dX2_spareWith_11 : decode cX2_spareWith 11 = .ok (.invokevirtual 78, 3) := by decide +kernel
theorem dX2_spareWith_14 : decode cX2_spareWith 14 = .ok (.iload_n 3, 1) := by decide +kernel
theorem dX2_spareWith_15 : decode cX2_spareWith 15 = .ok (.isub, 1) := by decide +kernel
theorem dX2_spareWith_16 : decode cX2_spareWith 16 = .ok (.invokestatic 81, 3) := by decide +kernel
theorem dX2_spareWith_19 : decode cX2_spareWith 19 = .ok (.invokestatic 86, 3) := by decide +kernel
theorem dX2_spareWith_22 : decode cX2_spareWith 22 = .ok (.ireturn, 1) := by decide +kernel
set_option maxHeartbeats 400000 in
theorem c2_spareWith {G : Gl} {l : Launch}  {M : Mem} {I : Ins} {d : Int → Int} {w k : Int} (hG : GR M) (hI : SC M I) (hIb : IB I) (hD : M 4 = d) (hSP : SP d) (hOE : iO I = iO (insOf d) ∧ I.1 = (insOf d).1) (hw0 : 0 ≤ w) (hw1 : w < d 122) (hk0 : 0 ≤ k) (hk1 : k < 16) : Ct G LY 82 l 1 m2_spareWith [vR 49, vR 3, vI w, vI k] M (Ret (vI (spK d w k)) M) := by
  refine R_start (by decide +kernel) (Nat.le_of_ble_eq_true rfl) (fun C hC hRm hlau => ?_)
  show RZ G LY C (Zn G LY 82 C (Ret (vI (spK d w k)) M)) 0 0 82 0 [some (vR 49), some (vR 3), some (vI w), some (vI k)] [] M
  have hLd := hSP.1.1
  have hWd := hSP.1.2
  have hIL : iL I = d 121 := congrArg Prod.fst hOE.2
  have hIW : iW I = d 122 := congrArg Prod.snd hOE.2
  have ba := hSP.all hw0 (show w < 6 by omega)
  refine R_aload_0 hC dX2_spareWith_0 ?_
  refine R_getR hC dX2_spareWith_1 fl_2_9 (by decide) rfl (by decide) (by decide) (fi := 0) rfl (r := 24) (gr_49_0 hG) ?_
  refine R_iload_2 hC dX2_spareWith_4 ?_
  refine R_callVq (as := [vI _]) hC dX2_spareWith_5 mo_6_allOffers ml_2_75 (by decide) rfl rfl (c6_allOffers  hG hI hIb (by omega) (show w < iW I by omega)) rfl rfl hRm (by decide) (by decide) (Nat.le_of_ble_eq_true rfl) ?_
  have e5_1 := IB.ssO (w := w) hIb (by omega) (show w < iW I by omega) (t := 2 ^ (iL I).toNat - 1) (by have := hIb.pw; omega) (by omega)
  refine R_iconst hC dX2_spareWith_8 ⟨by decide, by decide⟩ ?_
  refine R_aload_1 hC dX2_spareWith_9 ?_
  refine R_iload_2 hC dX2_spareWith_10 ?_
  refine R_callVq (as := [vI _]) hC dX2_spareWith_11 mo_8_copiesOf ml_2_78 (by decide) rfl rfl (c8_copiesOf_d  hD hG sh_3 hSP.B (by omega) (by omega)) rfl rfl hRm (by decide) (by decide) (Nat.le_of_ble_eq_true rfl) ?_
  have e11_2 := allOf_bd (w := w) hSP.B (by omega) (by omega)
  refine R_iload_3 hC dX2_spareWith_14 ?_
  refine R_isub hC dX2_spareWith_15 ⟨by omega, by omega⟩ ?_
  refine R_max hC dX2_spareWith_16 jl_2_81 hRm (by decide) (Nat.le_of_ble_eq_true rfl) ?_
  refine R_min hC dX2_spareWith_19 jl_2_86 hRm (by decide) (Nat.le_of_ble_eq_true rfl) ?_
  exact R_ireturn hC dX2_spareWith_22 rfl (ret_I (by unfold spK ofA; rw [hOE.1, hIL]; rfl))
theorem dX2_spaceWith_0 : decode cX2_spaceWith 0 = .ok (.aload_n 0, 1) := by decide +kernel
theorem dX2_spaceWith_1 : decode cX2_spaceWith 1 = .ok (.getfield 9, 3) := by decide +kernel
theorem dX2_spaceWith_4 : decode cX2_spaceWith 4 = .ok (.iload_n 1, 1) := by decide +kernel
theorem dX2_spaceWith_5 : decode cX2_spaceWith 5 = .ok (.iload_n 2, 1) := by decide +kernel
theorem dX2_spaceWith_6 : decode cX2_spaceWith 6 = .ok (.invokevirtual 56, 3) := by decide +kernel
theorem dX2_spaceWith_9 : decode cX2_spaceWith 9 = .ok (.aload_n 0, 1) := by decide +kernel
theorem dX2_spaceWith_10 : decode cX2_spaceWith 10 = .ok (.getfield 9, 3) := by decide +kernel
theorem dX2_spaceWith_13 : decode cX2_spaceWith 13 = .ok (.iconst 0, 1) := by decide +kernel
theorem dX2_spaceWith_14 : decode cX2_spaceWith 14 = .ok (.invokevirtual 89, 3) := by decide +kernel
theorem dX2_spaceWith_17 : decode cX2_spaceWith 17 = .ok (.ireturn, 1) := by decide +kernel
set_option maxHeartbeats 400000 in
theorem c2_spaceWith {G : Gl} {l : Launch}  {M : Mem} {I : Ins} {w k : Int} (hG : GR M) (hI : SC M I) (hIb : IB I) (hw0 : 0 ≤ w) (hw1 : w < iW I) (hk0 : 0 ≤ k) (hk1 : k ≤ 1000) : Ct G LY 82 l 2 m2_spaceWith [vR 49, vI w, vI k] M (RP (fun v M' => Fr [26, 31, 32, 35] [] M M' ∧ SC M' (setS I w k) ∧ v = SPC (setS I w k))) := by
  refine R_start (by decide +kernel) (Nat.le_of_ble_eq_true rfl) (fun C hC hRm hlau => ?_)
  show RZ G LY C (Zn G LY 82 C (RP (fun v M' => Fr [26, 31, 32, 35] [] M M' ∧ SC M' (setS I w k) ∧ v = SPC (setS I w k)))) 0 0 82 0 [some (vR 49), some (vI w), some (vI k)] [] M
  have hIs := hIb.setS (w := w) hk0 hk1
  refine R_aload_0 hC dX2_spaceWith_0 ?_
  refine R_getR hC dX2_spaceWith_1 fl_2_9 (by decide) rfl (by decide) (by decide) (fi := 0) rfl (r := 24) (gr_49_0 hG) ?_
  refine R_iload_1 hC dX2_spaceWith_4 ?_
  refine R_iload_2 hC dX2_spaceWith_5 ?_
  refine R_callVv (as := [vI _, vI _]) hC dX2_spaceWith_6 mo_6_setSpare ml_2_56 (by decide) rfl rfl (c6_setSpare  hG (hI.w w) hIb (by omega) (by omega) (by omega)) rfl rfl hRm (by decide) (by decide) (Nat.le_of_ble_eq_true rfl) (fun Mc1 hq2 => ?_)
  have hSC3 := hq2.2
  have e0 : max 0 k = k := by omega
  rw [e0] at hSC3
  refine R_aload_0 hC dX2_spaceWith_9 ?_
  have hG4 : GR Mc1 := (GR.fr hG hq2.1 (by decide +kernel))
  refine R_getR hC dX2_spaceWith_10 fl_2_9 (by decide) rfl (by decide) (by decide) (fi := 0) rfl (r := 24) (gr_49_0 hG4) ?_
  refine R_iconst hC dX2_spaceWith_13 ⟨by decide, by decide⟩ ?_
  refine R_callVp (as := [vI _]) hC dX2_spaceWith_14 mo_6_space ml_2_89 (by decide) rfl rfl (c6_space  hG4 hSC3 hIs (by omega) (show 0 ≤ iL I by have := hIb.1; omega) (fun y a b => by omega)) rfl rfl hRm (by decide) (by decide) (Nat.le_of_ble_eq_true rfl) (fun v7 Mc5 hq6 => ?_)
  have hSC8 := SC.fr hSC3 hq6.1 (by decide) (by decide)
  exact R_ireturn hC dX2_spaceWith_17 rfl (ret_P ⟨Fr.tt (hq2.1.mo (by decide) (by decide)) (hq6.1.mo (by decide) (by decide)), hSC8, hq6.2.1⟩)
theorem dX2_findOf_0 : decode cX2_findOf 0 = .ok (.aload_n 1, 1) := by decide +kernel
theorem dX2_findOf_1 : decode cX2_findOf 1 = .ok (.getfield 23, 3) := by decide +kernel
theorem dX2_findOf_4 : decode cX2_findOf 4 = .ok (.astore_n 3, 1) := by decide +kernel
theorem dX2_findOf_5 : decode cX2_findOf 5 = .ok (.iconst (-1), 1) := by decide +kernel
theorem dX2_findOf_6 : decode cX2_findOf 6 = .ok (.istore 4, 2) := by decide +kernel
theorem dX2_findOf_8 : decode cX2_findOf 8 = .ok (.iconst (-1), 1) := by decide +kernel
theorem dX2_findOf_9 : decode cX2_findOf 9 = .ok (.istore 5, 2) := by decide +kernel
theorem dX2_findOf_11 : decode cX2_findOf 11 = .ok (.iconst 0, 1) := by decide +kernel
theorem dX2_findOf_12 : decode cX2_findOf 12 = .ok (.istore 6, 2) := by decide +kernel
theorem dX2_findOf_14 : decode cX2_findOf 14 = .ok (.iload 6, 2) := by decide +kernel
theorem dX2_findOf_16 : decode cX2_findOf 16 = .ok (.bipush 16, 2) := by decide +kernel
theorem dX2_findOf_18 : decode cX2_findOf 18 = .ok (.if_icmp .ge 119, 3) := by decide +kernel
theorem dX2_findOf_21 : decode cX2_findOf 21 = .ok (.aload_n 0, 1) := by decide +kernel
theorem dX2_findOf_22 : decode cX2_findOf 22 = .ok (.aload_n 3, 1) := by decide +kernel
theorem dX2_findOf_23 : decode cX2_findOf 23 = .ok (.iload_n 2, 1) := by decide +kernel
theorem dX2_findOf_24 : decode cX2_findOf 24 = .ok (.iload 6, 2) := by decide +kernel
theorem dX2_findOf_26 : decode cX2_findOf 26 = .ok (.invokevirtual 60, 3) := by decide +kernel
theorem dX2_findOf_29 : decode cX2_findOf 29 = .ok (.istore 7, 2) := by decide +kernel
theorem dX2_findOf_31 : decode cX2_findOf 31 = .ok (.iload 7, 2) := by decide +kernel
theorem dX2_findOf_33 : decode cX2_findOf 33 = .ok (.iload 4, 2) := by decide +kernel
theorem dX2_findOf_35 : decode cX2_findOf 35 = .ok (.if_icmp .eq 16, 3) := by decide +kernel
theorem dX2_findOf_38 : decode cX2_findOf 38 = .ok (.iload 7, 2) := by decide +kernel
theorem dX2_findOf_40 : decode cX2_findOf 40 = .ok (.istore 4, 2) := by decide +kernel
theorem dX2_findOf_42 : decode cX2_findOf 42 = .ok (.aload_n 0, 1) := by decide +kernel
theorem dX2_findOf_43 : decode cX2_findOf 43 = .ok (.iload_n 2, 1) := by decide +kernel
theorem dX2_findOf_44 : decode cX2_findOf 44 = .ok (.iload 4, 2) := by decide +kernel
theorem dX2_findOf_46 : decode cX2_findOf 46 = .ok (.invokevirtual 64, 3) := by decide +kernel
theorem dX2_findOf_49 : decode cX2_findOf 49 = .ok (.istore 5, 2) := by decide +kernel
theorem dX2_findOf_51 : decode cX2_findOf 51 = .ok (.iload 6, 2) := by decide +kernel
theorem dX2_findOf_53 : decode cX2_findOf 53 = .ok (.aload_n 3, 1) := by decide +kernel
theorem dX2_findOf_54 : decode cX2_findOf 54 = .ok (.iload_n 2, 1) := by decide +kernel
theorem dX2_findOf_55 : decode cX2_findOf 55 = .ok (.invokevirtual 68, 3) := by decide +kernel
theorem dX2_findOf_58 : decode cX2_findOf 58 = .ok (.if_icmp .eq 16, 3) := by decide +kernel
theorem dX2_findOf_61 : decode cX2_findOf 61 = .ok (.aload_n 1, 1) := by decide +kernel
theorem dX2_findOf_62 : decode cX2_findOf 62 = .ok (.iload 5, 2) := by decide +kernel
theorem dX2_findOf_64 : decode cX2_findOf 64 = .ok (.invokevirtual 71, 3) := by decide +kernel
theorem dX2_findOf_67 : decode cX2_findOf 67 = .ok (.ifCond .eq 7, 3) := by decide +kernel
theorem dX2_findOf_70 : decode cX2_findOf 70 = .ok (.iconst 1, 1) := by decide +kernel
theorem dX2_findOf_71 : decode cX2_findOf 71 = .ok (.goto 4, 3) := by decide +kernel
theorem dX2_findOf_74 : decode cX2_findOf 74 = .ok (.iconst 0, 1) := by decide +kernel
theorem dX2_findOf_75 : decode cX2_findOf 75 = .ok (.istore 8, 2) := by decide +kernel
theorem dX2_findOf_77 : decode cX2_findOf 77 = .ok (.aload_n 0, 1) := by decide +kernel
theorem dX2_findOf_78 : decode cX2_findOf 78 = .ok (.getfield 15, 3) := by decide +kernel
theorem dX2_findOf_81 : decode cX2_findOf 81 = .ok (.iload_n 2, 1) := by decide +kernel
theorem dX2_findOf_82 : decode cX2_findOf 82 = .ok (.bipush 16, 2) := by decide +kernel
theorem dX2_findOf_84 : decode cX2_findOf 84 = .ok (.imul, 1) := by decide +kernel
theorem dX2_findOf_85 : decode cX2_findOf 85 = .ok (.iload 6, 2) := by decide +kernel
theorem dX2_findOf_87 : decode cX2_findOf 87 = .ok (.iadd, 1) := by decide +kernel
theorem dX2_findOf_88 : decode cX2_findOf 88 = .ok (.iload 8, 2) := by decide +kernel
theorem dX2_findOf_90 : decode cX2_findOf 90 = .ok (.bastore, 1) := by decide +kernel
theorem dX2_findOf_91 : decode cX2_findOf 91 = .ok (.iload 8, 2) := by decide +kernel
theorem dX2_findOf_93 : decode cX2_findOf 93 = .ok (.ifCond .eq 38, 3) := by decide +kernel
theorem dX2_findOf_96 : decode cX2_findOf 96 = .ok (.aload_n 0, 1) := by decide +kernel
theorem dX2_findOf_97 : decode cX2_findOf 97 = .ok (.aload_n 0, 1) := by decide +kernel
theorem dX2_findOf_98 : decode cX2_findOf 98 = .ok (.getfield 29, 3) := by decide +kernel
theorem dX2_findOf_101 : decode cX2_findOf 101 = .ok (.ifCond .ne 13, 3) := by decide +kernel
theorem dX2_findOf_104 : decode cX2_findOf 104 = .ok (.bipush 100, 2) := by decide +kernel
theorem dX2_findOf_106 : decode cX2_findOf 106 = .ok (.iload_n 2, 1) := by decide +kernel
theorem dX2_findOf_107 : decode cX2_findOf 107 = .ok (.imul, 1) := by decide +kernel
theorem dX2_findOf_108 : decode cX2_findOf 108 = .ok (.iload 6, 2) := by decide +kernel
theorem dX2_findOf_110 : decode cX2_findOf 110 = .ok (.iadd, 1) := by decide +kernel
theorem dX2_findOf_111 : decode cX2_findOf 111 = .ok (.goto 7, 3) := by decide +kernel
theorem dX2_findOf_114 : decode cX2_findOf 114 = .ok (.aload_n 0, 1) := by decide +kernel
theorem dX2_findOf_115 : decode cX2_findOf 115 = .ok (.getfield 33, 3) := by decide +kernel
theorem dX2_findOf_118 : decode cX2_findOf 118 = .ok (.putfield 33, 3) := by decide +kernel
theorem dX2_findOf_121 : decode cX2_findOf 121 = .ok (.aload_n 0, 1) := by decide +kernel
theorem dX2_findOf_122 : decode cX2_findOf 122 = .ok (.dup, 1) := by decide +kernel
theorem dX2_findOf_123 : decode cX2_findOf 123 = .ok (.getfield 29, 3) := by decide +kernel
theorem dX2_findOf_126 : decode cX2_findOf 126 = .ok (.iconst 1, 1) := by decide +kernel
theorem dX2_findOf_127 : decode cX2_findOf 127 = .ok (.iadd, 1) := by decide +kernel
theorem dX2_findOf_128 : decode cX2_findOf 128 = .ok (.putfield 29, 3) := by decide +kernel
theorem dX2_findOf_131 : decode cX2_findOf 131 = .ok (.iinc 6 1, 3) := by decide +kernel
theorem dX2_findOf_134 : decode cX2_findOf 134 = .ok (.goto (-120), 3) := by decide +kernel
theorem dX2_findOf_137 : decode cX2_findOf 137 = .ok (.return_, 1) := by decide +kernel
set_option maxHeartbeats 2000000 in
theorem c2_findOf {G : Gl} {l : Launch}  {M : Mem} {d no : Int → Int} {w n : Int} (hG : GR M) (hI : SC M (insOf d)) (hD : M 4 = d) (hSP : SP d) (hw0 : 0 ≤ w) (hw1 : w < d 122) (hn : M 2 3 = n) (hno : M 9 = no) (hn0 : 0 ≤ n) (hn1 : n ≤ 6) (hm0 : 0 ≤ M 49 3) (hm1 : M 49 3 ≤ 80) : Ct G LY 82 l 3 m2_findOf [vR 49, vR 2, vI w] M (RV (fun M' => Fr [26, 31, 32, 35, 50] [(49, 3), (49, 4)] M M' ∧ (∃ s, 0 ≤ s ∧ s ≤ 1000 ∧ SC M' (setS (insOf d) w s)) ∧ (∀ k, 0 ≤ k → k < 16 → M' 50 (w * 16 + k) = bP (fitP d no n w k)) ∧ (∀ q, q < w * 16 ∨ w * 16 + 16 ≤ q → M' 50 q = M 50 q) ∧ M' 49 3 = (ck (fitP d no n) w 16 (M 49 3, M 49 4)).1 ∧ M' 49 4 = (ck (fitP d no n) w 16 (M 49 3, M 49 4)).2)) := by
  refine R_start (by decide +kernel) (Nat.le_of_ble_eq_true rfl) (fun C hC hRm hlau => ?_)
  show RZ G LY C (Zn G LY 82 C (RV (fun M' => Fr [26, 31, 32, 35, 50] [(49, 3), (49, 4)] M M' ∧ (∃ s, 0 ≤ s ∧ s ≤ 1000 ∧ SC M' (setS (insOf d) w s)) ∧ (∀ k, 0 ≤ k → k < 16 → M' 50 (w * 16 + k) = bP (fitP d no n w k)) ∧ (∀ q, q < w * 16 ∨ w * 16 + 16 ≤ q → M' 50 q = M 50 q) ∧ M' 49 3 = (ck (fitP d no n) w 16 (M 49 3, M 49 4)).1 ∧ M' 49 4 = (ck (fitP d no n) w 16 (M 49 3, M 49 4)).2))) 0 0 82 0 [some (vR 49), some (vR 2), some (vI w), none, none, none, none, none, none] [] M
  have hLd := hSP.1.1
  have hWd := hSP.1.2
  have hIb0 := SP.I hSP
  refine R_aload_1 hC dX2_findOf_0 ?_
  refine R_getR hC dX2_findOf_1 fl_2_23 (by decide) rfl (by decide) (by decide) (fi := 0) rfl (r := 3) (gr_2_0 hG) ?_
  refine R_astore_3 hC dX2_findOf_4 rfl ?_
  refine R_iconst hC dX2_findOf_5 ⟨by decide, by decide⟩ ?_
  refine R_istore_4 hC dX2_findOf_6 rfl ?_
  refine R_iconst hC dX2_findOf_8 ⟨by decide, by decide⟩ ?_
  refine R_istore_5 hC dX2_findOf_9 rfl ?_
  refine R_iconst hC dX2_findOf_11 ⟨by decide, by decide⟩ ?_
  refine R_istore_6 hC dX2_findOf_12 rfl ?_
  have L14 : ∀ (mq : Nat) (sp : Int) (v : Int) (k : Int) (s1 : Int) (M1 : Mem), (0 ≤ k) → (k ≤ 16) → (GR M1) → (M1 4 = d) → (M1 9 = no) → (Fr [26, 31, 32, 35, 50] [(49, 3), (49, 4)] M M1) → (0 ≤ s1) → (s1 ≤ 1000) → (SC M1 (setS (insOf d) w s1)) → (sp = -1 ∨ v = SPC (setS (insOf d) w sp)) → (∀ j, 0 ≤ j → j < k → M1 50 (w * 16 + j) = bP (fitP d no n w j)) → (∀ q, q < w * 16 ∨ w * 16 + 16 ≤ q → M1 50 q = M 50 q) → (M1 49 3 = (ck (fitP d no n) w k.toNat (M 49 3, M 49 4)).1) → (M1 49 4 = (ck (fitP d no n) w k.toNat (M 49 3, M 49 4)).2) → (16 - k).toNat < mq → RZ G LY C (Zn G LY 82 C (RV (fun M' => Fr [26, 31, 32, 35, 50] [(49, 3), (49, 4)] M M' ∧ (∃ s, 0 ≤ s ∧ s ≤ 1000 ∧ SC M' (setS (insOf d) w s)) ∧ (∀ k, 0 ≤ k → k < 16 → M' 50 (w * 16 + k) = bP (fitP d no n w k)) ∧ (∀ q, q < w * 16 ∨ w * 16 + 16 ≤ q → M' 50 q = M 50 q) ∧ M' 49 3 = (ck (fitP d no n) w 16 (M 49 3, M 49 4)).1 ∧ M' 49 4 = (ck (fitP d no n) w 16 (M 49 3, M 49 4)).2))) 0 0 82 14 [some (vR 49), some (vR 2), some (vI w), some (vR 3), some (vI sp), some (vI v), some (vI k), none, none] [] M1 := by
    intro mq
    induction mq with
    | zero =>
      intro sp v k s1 M1 hk0 hk1 hg gr4 gr9 hF hs0 hs1 hSJ hsp h50 h5o hc3 hc4 hm
      exact absurd hm (Nat.not_lt_zero _)
    | succ mq ih14 =>
      intro sp v k s1 M1 hk0 hk1 hg gr4 gr9 hF hs0 hs1 hSJ hsp h50 h5o hc3 hc4 hm14
      have hIs := hIb0.setS (w := w) hs0 hs1
      have bC := ck_bd (P := (fitP d no n)) (w := w) (s := (M 49 3, M 49 4)) k.toNat
      have bK := spK_bd (k := k) hSP hw0 hw1 hk0
      refine R_iload_6 hC dX2_findOf_14 ?_
      refine R_bipush hC dX2_findOf_16 (by decide +kernel) ⟨by decide, by decide⟩ ?_
      refine R_icmp_ge hC dX2_findOf_18 (tgt := 137) (by decide) (fun hb18 => ?_) (fun hb18 => ?_)
      · skip
        exact R_return hC dX2_findOf_137 rfl (ret_V ⟨hF, ⟨s1, hs0, hs1, hSJ⟩, fun j a b => h50 j a (by omega), h5o, by rw [hc3, show k = 16 by omega]; rfl, by rw [hc4, show k = 16 by omega]; rfl⟩)
      · skip
        refine R_aload_0 hC dX2_findOf_21 ?_
        refine R_aload_3 hC dX2_findOf_22 ?_
        refine R_iload_2 hC dX2_findOf_23 ?_
        refine R_iload_6 hC dX2_findOf_24 ?_
        refine R_callVq (as := [vR _, vI _, vI _]) hC dX2_findOf_26 mo_2_spareWith ml_2_60 (by decide) rfl rfl (c2_spareWith  hg hSJ hIs gr4 hSP (⟨rfl, rfl⟩) (by omega) (by omega) (by omega) (by omega)) rfl rfl hRm (by decide) (by decide) (Nat.le_of_ble_eq_true rfl) ?_
        have e26_1 := spK_bd (w := w) (k := k) hSP (by omega) (by omega) (by omega)
        refine R_istore_7 hC dX2_findOf_29 rfl ?_
        refine R_iload_7 hC dX2_findOf_31 ?_
        refine R_iload_4 hC dX2_findOf_33 ?_
        have L51 : ∀ (sp2 : Int) (v2 : Int) (M2 : Mem), (GR M2) → (M2 4 = d) → (M2 9 = no) → (Fr [26, 31, 32, 35] [] M1 M2) → (∃ s, 0 ≤ s ∧ s ≤ 1000 ∧ SC M2 (setS (insOf d) w s)) → (sp2 = spK d w k) → (v2 = spcK (insOf d) d w k) → RZ G LY C (Zn G LY 82 C (RV (fun M' => Fr [26, 31, 32, 35, 50] [(49, 3), (49, 4)] M M' ∧ (∃ s, 0 ≤ s ∧ s ≤ 1000 ∧ SC M' (setS (insOf d) w s)) ∧ (∀ k, 0 ≤ k → k < 16 → M' 50 (w * 16 + k) = bP (fitP d no n w k)) ∧ (∀ q, q < w * 16 ∨ w * 16 + 16 ≤ q → M' 50 q = M 50 q) ∧ M' 49 3 = (ck (fitP d no n) w 16 (M 49 3, M 49 4)).1 ∧ M' 49 4 = (ck (fitP d no n) w 16 (M 49 3, M 49 4)).2))) 0 0 82 51 [some (vR 49), some (vR 2), some (vI w), some (vR 3), some (vI sp2), some (vI v2), some (vI k), some (vI (spK d w k)), none] [] M2 := by
          intro sp2 v2 M2 hg2 gr42 gr92 hF12 hEx hs2 hv2
          obtain ⟨s2, hs20, hs21, hSJ2⟩ := hEx
          refine R_iload_6 hC dX2_findOf_51 ?_
          refine R_aload_3 hC dX2_findOf_53 ?_
          refine R_iload_2 hC dX2_findOf_54 ?_
          refine R_callVq (as := [vI _]) hC dX2_findOf_55 mo_8_keepOf ml_2_68 (by decide) rfl rfl (c8_keepOf_d  gr42 hg2 sh_3 (by omega) (by omega)) rfl rfl hRm (by decide) (by decide) (Nat.le_of_ble_eq_true rfl) ?_
          have L75 : ∀ (e : Int), (e = bP (fitP d no n w k)) → RZ G LY C (Zn G LY 82 C (RV (fun M' => Fr [26, 31, 32, 35, 50] [(49, 3), (49, 4)] M M' ∧ (∃ s, 0 ≤ s ∧ s ≤ 1000 ∧ SC M' (setS (insOf d) w s)) ∧ (∀ k, 0 ≤ k → k < 16 → M' 50 (w * 16 + k) = bP (fitP d no n w k)) ∧ (∀ q, q < w * 16 ∨ w * 16 + 16 ≤ q → M' 50 q = M 50 q) ∧ M' 49 3 = (ck (fitP d no n) w 16 (M 49 3, M 49 4)).1 ∧ M' 49 4 = (ck (fitP d no n) w 16 (M 49 3, M 49 4)).2))) 0 0 82 75 [some (vR 49), some (vR 2), some (vI w), some (vR 3), some (vI sp2), some (vI v2), some (vI k), some (vI (spK d w k)), none] [vI e] M2 := by
            intro e he
            refine R_istore_8 hC dX2_findOf_75 rfl ?_
            refine R_aload_0 hC dX2_findOf_77 ?_
            refine R_getR hC dX2_findOf_78 fl_2_15 (by decide) rfl (by decide) (by decide) (fi := 1) rfl (r := 50) (gr_49_1 hg2) ?_
            refine R_iload_2 hC dX2_findOf_81 ?_
            refine R_bipush hC dX2_findOf_82 (by decide +kernel) ⟨by decide, by decide⟩ ?_
            refine R_imul hC dX2_findOf_84 ⟨by omega, by omega⟩ ?_
            refine R_iload_6 hC dX2_findOf_85 ?_
            refine R_iadd hC dX2_findOf_87 ⟨by omega, by omega⟩ ?_
            refine R_iload_8 hC dX2_findOf_88 ?_
            have he01 := bP_01 (fitP d no n w k)
            have hF2 : Fr [26, 31, 32, 35, 50] [(49, 3), (49, 4)] M M2 := Fr.tt hF (hF12.mo (by decide) (by decide))
            have z3 : M2 49 3 = (ck (fitP d no n) w k.toNat (M 49 3, M 49 4)).1 := (hF12 49 3 (by decide) (by decide)).trans hc3
            have z4 : M2 49 4 = (ck (fitP d no n) w k.toNat (M 49 3, M 49 4)).2 := (hF12 49 4 (by decide) (by decide)).trans hc4
            refine R_zastore hC dX2_findOf_90 (by decide) rfl (by omega) (by omega) (by omega) ?_
            refine R_iload_8 hC dX2_findOf_91 ?_
            refine R_if_eq hC dX2_findOf_93 (tgt := 131) (by decide) (fun hb93 => ?_) (fun hb93 => ?_)
            · skip
              have hnf : ¬ fitP d no n w k := bP_z (he.symm.trans hb93)
              refine R_iinc_6 hC dX2_findOf_131 rfl ⟨by omega, by omega⟩ ?_
              refine R_goto hC dX2_findOf_134 (tgt := 14) (by decide) ?_
              have hr50 : (uM M2 50 ((w * 16) + k) e) 50 = fun j => if j = w * 16 + k then e else M2 50 j := by first | exact uM_row | exact (uM_ne (by decide)).trans ((uM_ne (by decide)).trans uM_row)
              have hr12 : M2 50 = M1 50 := hF12.row (by decide) (by decide)
              have hFb : Fr [26, 31, 32, 35, 50] [(49, 3), (49, 4)] M (uM M2 50 ((w * 16) + k) e) := by first | exact Fr.uA hF2 (by decide) | exact Fr.uB (Fr.uB (Fr.uA hF2 (by decide)) (by decide)) (by decide)
              refine R_weak (subL_c (subL_c (subL_c (subL_c (subL_c (subL_c (subL_c (subL_d (subL_d subL_n))))))))) ?_
              have hG2 : GR (uM M2 50 ((w * 16) + k) e) := (GR.uA hg2 (by decide +kernel) (.inl (by decide)))
              have hr3 : (uM M2 50 ((w * 16) + k) e) 4 = d := ((uM_ne (by decide)).trans gr42)
              have hr4 : (uM M2 50 ((w * 16) + k) e) 9 = no := ((uM_ne (by decide)).trans gr92)
              exact ih14 _ _ _ s2 _ (by omega) (by omega) hG2 hr3 hr4 hFb hs20 hs21 (SC.u hSJ2 (by decide)) (.inr (by rw [hv2, hs2]; rfl)) (fun j a b => by (rw [hr50, hr12]; by_cases q : j = k; (rw [q]; exact (if_pos rfl).trans he); exact (if_neg (by omega)).trans (h50 j a (by omega)))) (fun q hq => by (rw [hr50, hr12]; exact (if_neg (by omega)).trans (h5o q hq))) (by first | exact (uM_h (by decide)).trans (z3.trans (by rw [ck_f hk0 rfl hnf])) | exact (uM_same).trans (by rw [ck_t hk0 rfl hpf])) (by first | exact (uM_h (by decide)).trans (z4.trans (by rw [ck_f hk0 rfl hnf])) | exact (uM_k (by decide)).trans (uM_same.trans (by rw [ck_t hk0 rfl hpf]; exact hf))) (by omega)
            · skip
              have hpf : fitP d no n w k := bP_nz (fun q => hb93 (he.trans q))
              refine R_aload_0 hC dX2_findOf_96 ?_
              refine R_aload_0 hC dX2_findOf_97 ?_
              refine R_getIE hC dX2_findOf_98 fl_2_29 (by decide) rfl (by decide) (by decide) (fi := 3) rfl (uM_h (by decide)) ?_
              have L118 : ∀ (f : Int), (f = if (ck (fitP d no n) w k.toNat (M 49 3, M 49 4)).1 = 0 then 100 * w + k else (ck (fitP d no n) w k.toNat (M 49 3, M 49 4)).2) → RZ G LY C (Zn G LY 82 C (RV (fun M' => Fr [26, 31, 32, 35, 50] [(49, 3), (49, 4)] M M' ∧ (∃ s, 0 ≤ s ∧ s ≤ 1000 ∧ SC M' (setS (insOf d) w s)) ∧ (∀ k, 0 ≤ k → k < 16 → M' 50 (w * 16 + k) = bP (fitP d no n w k)) ∧ (∀ q, q < w * 16 ∨ w * 16 + 16 ≤ q → M' 50 q = M 50 q) ∧ M' 49 3 = (ck (fitP d no n) w 16 (M 49 3, M 49 4)).1 ∧ M' 49 4 = (ck (fitP d no n) w 16 (M 49 3, M 49 4)).2))) 0 0 82 118 [some (vR 49), some (vR 2), some (vI w), some (vR 3), some (vI sp2), some (vI v2), some (vI k), some (vI (spK d w k)), some (vI e)] [vI f, vR 49] (uM M2 50 ((w * 16) + k) e) := by
                intro f hf
                refine R_putI hC dX2_findOf_118 fl_2_33 (by decide) rfl (by decide) (by decide) (fi := 4) rfl ?_
                refine R_aload_0 hC dX2_findOf_121 ?_
                refine R_dup hC dX2_findOf_122 rfl ?_
                refine R_getIE hC dX2_findOf_123 fl_2_29 (by decide) rfl (by decide) (by decide) (fi := 3) rfl ((uM_k (by decide)).trans (uM_h (by decide))) ?_
                rw [z3]
                refine R_iconst hC dX2_findOf_126 ⟨by decide, by decide⟩ ?_
                refine R_iadd hC dX2_findOf_127 ⟨by omega, by omega⟩ ?_
                refine R_putI hC dX2_findOf_128 fl_2_29 (by decide) rfl (by decide) (by decide) (fi := 3) rfl ?_
                refine R_iinc_6 hC dX2_findOf_131 rfl ⟨by omega, by omega⟩ ?_
                refine R_goto hC dX2_findOf_134 (tgt := 14) (by decide) ?_
                have hr50 : (uM (uM (uM M2 50 ((w * 16) + k) e) 49 4 f) 49 3 ((ck (fitP d no n) w k.toNat (M 49 3, M 49 4)).1 + 1)) 50 = fun j => if j = w * 16 + k then e else M2 50 j := by first | exact uM_row | exact (uM_ne (by decide)).trans ((uM_ne (by decide)).trans uM_row)
                have hr12 : M2 50 = M1 50 := hF12.row (by decide) (by decide)
                have hFb : Fr [26, 31, 32, 35, 50] [(49, 3), (49, 4)] M (uM (uM (uM M2 50 ((w * 16) + k) e) 49 4 f) 49 3 ((ck (fitP d no n) w k.toNat (M 49 3, M 49 4)).1 + 1)) := by first | exact Fr.uA hF2 (by decide) | exact Fr.uB (Fr.uB (Fr.uA hF2 (by decide)) (by decide)) (by decide)
                refine R_weak (subL_c (subL_c (subL_c (subL_c (subL_c (subL_c (subL_c (subL_d (subL_d subL_n))))))))) ?_
                have hG5 : GR (uM (uM (uM M2 50 ((w * 16) + k) e) 49 4 f) 49 3 ((ck (fitP d no n) w k.toNat (M 49 3, M 49 4)).1 + 1)) := (GR.uF (GR.uF (GR.uA hg2 (by decide +kernel) (.inl (by decide))) (by decide +kernel) (by decide)) (by decide +kernel) (by decide))
                have hr6 : (uM (uM (uM M2 50 ((w * 16) + k) e) 49 4 f) 49 3 ((ck (fitP d no n) w k.toNat (M 49 3, M 49 4)).1 + 1)) 4 = d := ((uM_ne (by decide)).trans ((uM_ne (by decide)).trans ((uM_ne (by decide)).trans gr42)))
                have hr7 : (uM (uM (uM M2 50 ((w * 16) + k) e) 49 4 f) 49 3 ((ck (fitP d no n) w k.toNat (M 49 3, M 49 4)).1 + 1)) 9 = no := ((uM_ne (by decide)).trans ((uM_ne (by decide)).trans ((uM_ne (by decide)).trans gr92)))
                exact ih14 _ _ _ s2 _ (by omega) (by omega) hG5 hr6 hr7 hFb hs20 hs21 (SC.u (SC.u (SC.u hSJ2 (by decide)) (by decide)) (by decide)) (.inr (by rw [hv2, hs2]; rfl)) (fun j a b => by (rw [hr50, hr12]; by_cases q : j = k; (rw [q]; exact (if_pos rfl).trans he); exact (if_neg (by omega)).trans (h50 j a (by omega)))) (fun q hq => by (rw [hr50, hr12]; exact (if_neg (by omega)).trans (h5o q hq))) (by first | exact (uM_h (by decide)).trans (z3.trans (by rw [ck_f hk0 rfl hnf])) | exact (uM_same).trans (by rw [ck_t hk0 rfl hpf])) (by first | exact (uM_h (by decide)).trans (z4.trans (by rw [ck_f hk0 rfl hnf])) | exact (uM_k (by decide)).trans (uM_same.trans (by rw [ck_t hk0 rfl hpf]; exact hf))) (by omega)
              rw [z3]
              refine R_if_ne hC dX2_findOf_101 (tgt := 114) (by decide) (fun hb101 => ?_) (fun hb101 => ?_)
              · skip
                refine R_aload_0 hC dX2_findOf_114 ?_
                refine R_getIE hC dX2_findOf_115 fl_2_33 (by decide) rfl (by decide) (by decide) (fi := 4) rfl (uM_h (by decide)) ?_
                exact L118 _ (by first | (rw [if_pos hb101]) | (rw [if_neg hb101]; exact z4))
              · skip
                refine R_bipush hC dX2_findOf_104 (by decide +kernel) ⟨by decide, by decide⟩ ?_
                refine R_iload_2 hC dX2_findOf_106 ?_
                refine R_imul hC dX2_findOf_107 ⟨by omega, by omega⟩ ?_
                refine R_iload_6 hC dX2_findOf_108 ?_
                refine R_iadd hC dX2_findOf_110 ⟨by omega, by omega⟩ ?_
                refine R_goto hC dX2_findOf_111 (tgt := 118) (by decide) ?_
                exact L118 _ (by first | (rw [if_pos hb101]) | (rw [if_neg hb101]; exact z4))
          refine R_icmp_eq hC dX2_findOf_58 (tgt := 74) (by decide) (fun hb58 => ?_) (fun hb58 => ?_)
          · skip
            have hfitn : ¬ fitP d no n w k := fun q => q.1 hb58
            refine R_iconst hC dX2_findOf_74 ⟨by decide, by decide⟩ ?_
            exact L75 _ (by first | (rw [bP_pos hfitp]) | (rw [bP_neg hfitn]))
          · skip
            refine R_aload_1 hC dX2_findOf_61 ?_
            refine R_iload_5 hC dX2_findOf_62 ?_
            refine R_callVq (as := [vI _]) hC dX2_findOf_64 mo_7_allNotedAre ml_2_71 (by decide) rfl rfl (c7_allNotedAre  hg2 ((hF12 2 3 (by decide) (by decide)).trans ((hF 2 3 (by decide) (by decide)).trans hn)) gr92 (by omega) (by omega)) rfl rfl hRm (by decide) (by decide) (Nat.le_of_ble_eq_true rfl) ?_
            refine R_if_eq hC dX2_findOf_67 (tgt := 74) (by decide) (fun hb67 => ?_) (fun hb67 => ?_)
            · skip
              replace hb67 := bP_z hb67
              have hfitn : ¬ fitP d no n w k := fun q => hb67 (by rw [hv2]; exact q.2)
              refine R_iconst hC dX2_findOf_74 ⟨by decide, by decide⟩ ?_
              exact L75 _ (by first | (rw [bP_pos hfitp]) | (rw [bP_neg hfitn]))
            · skip
              replace hb67 := bP_nz hb67
              have hfitp : fitP d no n w k := ⟨hb58, by rw [← hv2]; exact hb67⟩
              refine R_iconst hC dX2_findOf_70 ⟨by decide, by decide⟩ ?_
              refine R_goto hC dX2_findOf_71 (tgt := 75) (by decide) ?_
              exact L75 _ (by first | (rw [bP_pos hfitp]) | (rw [bP_neg hfitn]))
        refine R_icmp_eq hC dX2_findOf_35 (tgt := 51) (by decide) (fun hb35 => ?_) (fun hb35 => ?_)
        · skip
          have hEx : ∃ s, 0 ≤ s ∧ s ≤ 1000 ∧ SC M1 (setS (insOf d) w s) := ⟨s1, hs0, hs1, hSJ⟩
          have hvv : v = spcK (insOf d) d w k := by (have q := hsp.resolve_left (by omega); rw [q]; unfold spcK; rw [hb35])
          exact L51 _ _ _ hg gr4 gr9 (by first | exact Fr.rf | exact {qs}.1) hEx (by first | rfl | exact hb35.symm) (by first | exact hvv | (rw [{qs}.2.2, setS_S]; rfl))
        · skip
          refine R_iload_7 hC dX2_findOf_38 ?_
          refine R_istore_4 hC dX2_findOf_40 rfl ?_
          refine R_aload_0 hC dX2_findOf_42 ?_
          refine R_iload_2 hC dX2_findOf_43 ?_
          refine R_iload_4 hC dX2_findOf_44 ?_
          refine R_callVp (as := [vI _, vI _]) hC dX2_findOf_46 mo_2_spaceWith ml_2_64 (by decide) rfl rfl (c2_spaceWith  hg hSJ hIs (by omega) (show w < d 122 by omega) (by omega) (by omega)) rfl rfl hRm (by decide) (by decide) (Nat.le_of_ble_eq_true rfl) (fun v10 Mc8 hq9 => ?_)
          have hSC11 := hq9.2.1
          have hEx : ∃ s, 0 ≤ s ∧ s ≤ 1000 ∧ SC Mc8 (setS (insOf d) w s) := ⟨spK d w k, bK.1, by omega, by (have z := hSC11; rw [setS_S] at z; exact z)⟩
          refine R_istore_5 hC dX2_findOf_49 rfl ?_
          have hG12 : GR Mc8 := (GR.fr hg hq9.1 (by decide +kernel))
          have hr13 : Mc8 4 = d := ((hq9.1.row (by decide) (by decide)).trans gr4)
          have hr14 : Mc8 9 = no := ((hq9.1.row (by decide) (by decide)).trans gr9)
          exact L51 _ _ _ hG12 hr13 hr14 (by first | exact Fr.rf | exact hq9.1) hEx (by first | rfl | exact hb35.symm) (by first | exact hvv | (rw [hq9.2.2, setS_S]; rfl))
  exact L14 _ _ _ _ (spr d w) _ (by omega) (by omega) hG hD hno Fr.rf ((hSP.sr hw0 (by omega)).1) (by (have := (hSP.sr hw0 (show w < 6 by omega)).2; omega)) (by (rw [setS_id]; exact hI)) (.inl rfl) (fun j a b => by omega) (fun q _ => rfl) rfl rfl (Nat.lt_succ_self _)
theorem dX2_find_0 : decode cX2_find 0 = .ok (.aload_n 1, 1) := by decide +kernel
theorem dX2_find_1 : decode cX2_find 1 = .ok (.getfield 23, 3) := by decide +kernel
theorem dX2_find_4 : decode cX2_find 4 = .ok (.astore_n 2, 1) := by decide +kernel
theorem dX2_find_5 : decode cX2_find 5 = .ok (.aload_n 0, 1) := by decide +kernel
theorem dX2_find_6 : decode cX2_find 6 = .ok (.iconst 0, 1) := by decide +kernel
theorem dX2_find_7 : decode cX2_find 7 = .ok (.putfield 29, 3) := by decide +kernel
theorem dX2_find_10 : decode cX2_find 10 = .ok (.aload_n 0, 1) := by decide +kernel
theorem dX2_find_11 : decode cX2_find 11 = .ok (.iconst (-1), 1) := by decide +kernel
theorem dX2_find_12 : decode cX2_find 12 = .ok (.putfield 33, 3) := by decide +kernel
theorem dX2_find_15 : decode cX2_find 15 = .ok (.aload_n 0, 1) := by decide +kernel
theorem dX2_find_16 : decode cX2_find 16 = .ok (.getfield 9, 3) := by decide +kernel
theorem dX2_find_19 : decode cX2_find 19 = .ok (.aload_n 2, 1) := by decide +kernel
theorem dX2_find_20 : decode cX2_find 20 = .ok (.invokevirtual 36, 3) := by decide +kernel
theorem dX2_find_23 : decode cX2_find 23 = .ok (.iconst 0, 1) := by decide +kernel
theorem dX2_find_24 : decode cX2_find 24 = .ok (.istore_n 3, 1) := by decide +kernel
theorem dX2_find_25 : decode cX2_find 25 = .ok (.iload_n 3, 1) := by decide +kernel
theorem dX2_find_26 : decode cX2_find 26 = .ok (.aload_n 2, 1) := by decide +kernel
theorem dX2_find_27 : decode cX2_find 27 = .ok (.invokevirtual 42, 3) := by decide +kernel
theorem dX2_find_30 : decode cX2_find 30 = .ok (.if_icmp .ge 28, 3) := by decide +kernel
theorem dX2_find_33 : decode cX2_find 33 = .ok (.aload_n 0, 1) := by decide +kernel
theorem dX2_find_34 : decode cX2_find 34 = .ok (.aload_n 1, 1) := by decide +kernel
theorem dX2_find_35 : decode cX2_find 35 = .ok (.iload_n 3, 1) := by decide +kernel
theorem dX2_find_36 : decode cX2_find 36 = .ok (.invokevirtual 48, 3) := by decide +kernel
theorem dX2_find_39 : decode cX2_find 39 = .ok (.aload_n 0, 1) := by decide +kernel
theorem dX2_find_40 : decode cX2_find 40 = .ok (.getfield 9, 3) := by decide +kernel
theorem dX2_find_43 : decode cX2_find 43 = .ok (.iload_n 3, 1) := by decide +kernel
theorem dX2_find_44 : decode cX2_find 44 = .ok (.aload_n 2, 1) := by decide +kernel
theorem dX2_find_45 : decode cX2_find 45 = .ok (.iload_n 3, 1) := by decide +kernel
theorem dX2_find_46 : decode cX2_find 46 = .ok (.invokevirtual 52, 3) := by decide +kernel
theorem dX2_find_49 : decode cX2_find 49 = .ok (.invokevirtual 56, 3) := by decide +kernel
theorem dX2_find_52 : decode cX2_find 52 = .ok (.iinc 3 1, 3) := by decide +kernel
theorem dX2_find_55 : decode cX2_find 55 = .ok (.goto (-30), 3) := by decide +kernel
theorem dX2_find_58 : decode cX2_find 58 = .ok (.return_, 1) := by decide +kernel
set_option maxHeartbeats 2000000 in
theorem c2_find {G : Gl} {l : Launch}  {M : Mem} {d no : Int → Int} {n : Int} (hG : GR M) (hD : M 4 = d) (hSP : SP d) (hn : M 2 3 = n) (hno : M 9 = no) (hn0 : 0 ≤ n) (hn1 : n ≤ 6) : Ct G LY 82 l 4 m2_find [vR 49, vR 2] M (RV (fun M' => Fr [25, 26, 27, 28, 29, 30, 31, 32, 33, 34, 35, 50] [(24, 11), (24, 12), (24, 13), (49, 3), (49, 4)] M M' ∧ SC M' (insOf d) ∧ (∀ w k, 0 ≤ w → w < d 122 → 0 ≤ k → k < 16 → M' 50 (w * 16 + k) = bP (fitP d no n w k)) ∧ M' 49 3 = (ckA (fitP d no n) (d 122).toNat).1 ∧ M' 49 4 = (ckA (fitP d no n) (d 122).toNat).2)) := by
  refine R_start (by decide +kernel) (Nat.le_of_ble_eq_true rfl) (fun C hC hRm hlau => ?_)
  show RZ G LY C (Zn G LY 82 C (RV (fun M' => Fr [25, 26, 27, 28, 29, 30, 31, 32, 33, 34, 35, 50] [(24, 11), (24, 12), (24, 13), (49, 3), (49, 4)] M M' ∧ SC M' (insOf d) ∧ (∀ w k, 0 ≤ w → w < d 122 → 0 ≤ k → k < 16 → M' 50 (w * 16 + k) = bP (fitP d no n w k)) ∧ M' 49 3 = (ckA (fitP d no n) (d 122).toNat).1 ∧ M' 49 4 = (ckA (fitP d no n) (d 122).toNat).2))) 0 0 82 0 [some (vR 49), some (vR 2), none, none] [] M
  have hLd := hSP.1.1
  have hWd := hSP.1.2
  have hIb0 := SP.I hSP
  refine R_aload_1 hC dX2_find_0 ?_
  refine R_getR hC dX2_find_1 fl_2_23 (by decide) rfl (by decide) (by decide) (fi := 0) rfl (r := 3) (gr_2_0 hG) ?_
  refine R_astore_2 hC dX2_find_4 rfl ?_
  refine R_aload_0 hC dX2_find_5 ?_
  refine R_iconst hC dX2_find_6 ⟨by decide, by decide⟩ ?_
  refine R_putI hC dX2_find_7 fl_2_29 (by decide) rfl (by decide) (by decide) (fi := 3) rfl ?_
  refine R_aload_0 hC dX2_find_10 ?_
  refine R_iconst hC dX2_find_11 ⟨by decide, by decide⟩ ?_
  refine R_putI hC dX2_find_12 fl_2_33 (by decide) rfl (by decide) (by decide) (fi := 4) rfl ?_
  have hF0 : Fr [] [(49, 3), (49, 4)] M (uM (uM M 49 3 0) 49 4 (-1)) := Fr.uB (Fr.uB Fr.rf (by decide)) (by decide)
  have h30 : (uM (uM M 49 3 0) 49 4 (-1)) 49 3 = 0 := (uM_k (by decide)).trans uM_same
  have h40 : (uM (uM M 49 3 0) 49 4 (-1)) 49 4 = -1 := uM_same
  refine R_aload_0 hC dX2_find_15 ?_
  have hG1 : GR (uM (uM M 49 3 0) 49 4 (-1)) := (GR.uF (GR.uF hG (by decide +kernel) (by decide)) (by decide +kernel) (by decide))
  refine R_getR hC dX2_find_16 fl_2_9 (by decide) rfl (by decide) (by decide) (fi := 0) rfl (r := 24) (gr_49_0 hG1) ?_
  refine R_aload_2 hC dX2_find_19 ?_
  have hr2 : (uM (uM M 49 3 0) 49 4 (-1)) 4 = d := ((uM_ne (by decide)).trans ((uM_ne (by decide)).trans hD))
  refine R_callVv (as := [vR _]) hC dX2_find_20 mo_6_load ml_2_36 (by decide) rfl rfl (c6_load  hG1 sh_3 hr2 hSP.B) rfl rfl hRm (by decide) (by decide) (Nat.le_of_ble_eq_true rfl) (fun Mc3 hq4 => ?_)
  have hSC5 := hq4.2
  refine R_iconst hC dX2_find_23 ⟨by decide, by decide⟩ ?_
  refine R_istore_3 hC dX2_find_24 rfl ?_
  have L25 : ∀ (mq : Nat) (w : Int) (M1 : Mem), (0 ≤ w) → (w ≤ d 122) → (GR M1) → (M1 4 = d) → (M1 9 = no) → (Fr [25, 26, 27, 28, 29, 30, 31, 32, 33, 34, 35, 50] [(24, 11), (24, 12), (24, 13), (49, 3), (49, 4)] M M1) → (SC M1 (insOf d)) → (∀ v k, 0 ≤ v → v < w → 0 ≤ k → k < 16 → M1 50 (v * 16 + k) = bP (fitP d no n v k)) → (M1 49 3 = (ckA (fitP d no n) (w).toNat).1) → (M1 49 4 = (ckA (fitP d no n) (w).toNat).2) → (d 122 - w).toNat < mq → RZ G LY C (Zn G LY 82 C (RV (fun M' => Fr [25, 26, 27, 28, 29, 30, 31, 32, 33, 34, 35, 50] [(24, 11), (24, 12), (24, 13), (49, 3), (49, 4)] M M' ∧ SC M' (insOf d) ∧ (∀ w k, 0 ≤ w → w < d 122 → 0 ≤ k → k < 16 → M' 50 (w * 16 + k) = bP (fitP d no n w k)) ∧ M' 49 3 = (ckA (fitP d no n) (d 122).toNat).1 ∧ M' 49 4 = (ckA (fitP d no n) (d 122).toNat).2))) 0 0 82 25 [some (vR 49), some (vR 2), some (vR 3), some (vI w)] [] M1 := by
    intro mq
    induction mq with
    | zero =>
      intro w M1 hw0 hw1 hg gr4 gr9 hF hSJ h50 hc3 hc4 hm
      exact absurd hm (Nat.not_lt_zero _)
    | succ mq ih25 =>
      intro w M1 hw0 hw1 hg gr4 gr9 hF hSJ h50 hc3 hc4 hm25
      have bC := ckA_bd (P := (fitP d no n)) w.toNat
      refine R_iload_3 hC dX2_find_25 ?_
      refine R_aload_2 hC dX2_find_26 ?_
      refine R_callVq (as := []) hC dX2_find_27 mo_8_works ml_2_42 (by decide) rfl rfl (c8_works_d  gr4 hg sh_3) rfl rfl hRm (by decide) (by decide) (Nat.le_of_ble_eq_true rfl) ?_
      refine R_icmp_ge hC dX2_find_30 (tgt := 58) (by decide) (fun hb30 => ?_) (fun hb30 => ?_)
      · skip
        exact R_return hC dX2_find_58 rfl (ret_V ⟨hF, hSJ, fun v k a b => h50 v k a (by omega), by rw [hc3, show w = d 122 by omega], by rw [hc4, show w = d 122 by omega]⟩)
      · skip
        refine R_aload_0 hC dX2_find_33 ?_
        refine R_aload_1 hC dX2_find_34 ?_
        refine R_iload_3 hC dX2_find_35 ?_
        refine R_callVv (as := [vR _, vI _]) hC dX2_find_36 mo_2_findOf ml_2_48 (by decide) rfl rfl (c2_findOf  hg hSJ gr4 hSP (by omega) (by omega) ((hF 2 3 (by decide) (by decide)).trans hn) gr9 (by omega) (by omega) (by omega) (by omega)) rfl rfl hRm (by decide) (by decide) (Nat.le_of_ble_eq_true rfl) (fun Mc6 hq7 => ?_)
        obtain ⟨sx, sx0, sx1, hSx⟩ := hq7.2.1
        refine R_aload_0 hC dX2_find_39 ?_
        have hG8 : GR Mc6 := (GR.fr hg hq7.1 (by decide +kernel))
        refine R_getR hC dX2_find_40 fl_2_9 (by decide) rfl (by decide) (by decide) (fi := 0) rfl (r := 24) (gr_49_0 hG8) ?_
        refine R_iload_3 hC dX2_find_43 ?_
        refine R_aload_2 hC dX2_find_44 ?_
        refine R_iload_3 hC dX2_find_45 ?_
        have hr9 : Mc6 4 = d := ((hq7.1.row (by decide) (by decide)).trans gr4)
        refine R_callVq (as := [vI _]) hC dX2_find_46 mo_8_spareOf ml_2_52 (by decide) rfl rfl (c8_spareOf_d  hr9 hG8 sh_3 hSP.B (by omega) (by omega)) rfl rfl hRm (by decide) (by decide) (Nat.le_of_ble_eq_true rfl) ?_
        have e46_10 := spr_bd (w := w) hSP.B (by omega) (by omega)
        have bs := hSP.sr hw0 (show w < 6 by omega)
        refine R_callVv (as := [vI _, vI _]) hC dX2_find_49 mo_6_setSpare ml_2_56 (by decide) rfl rfl (c6_setSpare  hG8 (hSx.w w) (hIb0.setS (w := w) sx0 sx1) (by omega) (show w < d 122 by omega) (by omega)) rfl rfl hRm (by decide) (by decide) (Nat.le_of_ble_eq_true rfl) (fun Mc11 hq12 => ?_)
        have hSC13 := hq12.2
        have hSJ3 : SC Mc11 (insOf d) := by
          have z := hSC13
          have bs1 := bs.1
          rw [setS_S, show max 0 (spr d w) = spr d w by omega, setS_id] at z
          exact z
        refine R_iinc_3 hC dX2_find_52 rfl ⟨by omega, by omega⟩ ?_
        refine R_goto hC dX2_find_55 (tgt := 25) (by decide) ?_
        have hFb : Fr [26, 31, 32, 35, 50] [(49, 3), (49, 4)] M1 Mc11 := Fr.tt hq7.1 (hq12.1.mo (by decide) (by decide))
        have hG14 : GR Mc11 := (GR.fr hG8 hq12.1 (by decide +kernel))
        have hr15 : Mc11 4 = d := ((hq12.1.row (by decide) (by decide)).trans hr9)
        have hr16 : Mc11 9 = no := ((hq12.1.row (by decide) (by decide)).trans ((hq7.1.row (by decide) (by decide)).trans gr9))
        exact ih25 _ _ (by omega) (by omega) hG14 hr15 hr16 (Fr.tt hF (hFb.mo (by decide) (by decide))) hSJ3 (fun v k a b a2 b2 => by (refine (hq12.1 50 _ (by decide) List.not_mem_nil).trans ?_; by_cases q : v = w; (rw [q]; exact hq7.2.2.1 k a2 b2); exact (hq7.2.2.2.1 _ (by omega)).trans (h50 v k a (by omega) a2 b2))) ((hq12.1 49 3 (by decide) (by decide)).trans (hq7.2.2.2.2.1.trans (by rw [hc3, hc4, ckA_s hw0 rfl]))) ((hq12.1 49 4 (by decide) (by decide)).trans (hq7.2.2.2.2.2.trans (by rw [hc3, hc4, ckA_s hw0 rfl]))) (by omega)
  have hG17 : GR Mc3 := (GR.fr hG1 hq4.1 (by decide +kernel))
  have hr18 : Mc3 4 = d := ((hq4.1.row (by decide) (by decide)).trans hr2)
  have hr19 : Mc3 9 = no := ((hq4.1.row (by decide) (by decide)).trans ((uM_ne (by decide)).trans ((uM_ne (by decide)).trans hno)))
  exact L25 _ _ _ (by omega) (by omega) hG17 hr18 hr19 (Fr.tt (hF0.mo (by decide) (by decide)) (hq4.1.mo (by decide) (by decide))) hSC5 (fun v k a b => by omega) ((hq4.1 49 3 (by decide) (by decide)).trans h30) ((hq4.1 49 4 (by decide) (by decide)).trans h40) (Nat.lt_succ_self _)
