/-! THE PLAN of an instance, as the class lays it -/
abbrev PT : Type := Ins × Int × (Int → Int) × Int
noncomputable def stepT (S : PT) (x w : Int) : PT := (TK S.1 x w (tk S.1 x w S.2.1), S.2.1 - tk S.1 x w S.2.1 * iZ S.1 w, up S.2.2.1 (x * 6 + w) (tk S.1 x w S.2.1), S.2.2.2 + tk S.1 x w S.2.1)
noncomputable def prow (S : PT) (x : Int) : Nat → PT
  | 0 => S
  | j + 1 => stepT (prow S x j) x j
def endR (S : PT) (x : Int) : PT := (setNM S.1 x 0 0, S.2.1, S.2.2.1, S.2.2.2)
noncomputable def pall (S : PT) (W : Int) : Nat → PT
  | 0 => S
  | x + 1 => endR (prow (pall S W x) x W.toNat) x
noncomputable def pln (I : Ins) : PT := pall (I, SPC I, fun _ => 0, 0) (iW I) (iL I).toNat
theorem prow_s {S : PT} {x w w' : Int} (h : 0 ≤ w) (hw : w' = w + 1) : prow S x w'.toNat = stepT (prow S x w.toNat) x w := by
  subst hw
  rw [show (w + 1).toNat = w.toNat + 1 by omega, prow, Int.toNat_of_nonneg h]
theorem pall_s {S : PT} {W x x' : Int} (h : 0 ≤ x) (hx : x' = x + 1) : pall S W x'.toNat = endR (prow (pall S W x.toNat) x W.toNat) x := by
  subst hx
  rw [show (x + 1).toNat = x.toNat + 1 by omega, pall, Int.toNat_of_nonneg h]
theorem tk_good {I : Ins} {x w v : Int} (h : 0 < tk I x w v) : gdT I x w v (tk I x w v) := by
  have key : ∀ n : Nat, 0 < tkF I x w v n → gdT I x w v (tkF I x w v n) := by
    intro n
    induction n with
    | zero => intro h; exact absurd h (Int.lt_irrefl 0)
    | succ n ih =>
      intro h
      rw [tkF] at h ⊢
      by_cases q : gdT I x w v ((n + 1 : Nat) : Int)
      · rw [if_pos q]; exact q
      · rw [if_neg q] at h ⊢; exact ih h
  exact key _ h
/-- what holds of an instance on the way, up to library x -/
def PI (I : Ins) (x : Int) (J : Ins) : Prop := J.1 = I.1 ∧ iZ J = iZ I ∧ IB J ∧ ∀ y, 0 ≤ y → y < x → iN J y = 0 ∧ iM J y = 0 ∧ ∀ u, 0 ≤ u → u < iW J → iO J y u = 0
theorem tk_bd {I : Ins} (h : IB I) {x w : Int} (v : Int) (x0 : 0 ≤ x) (x1 : x < iL I) (w0 : 0 ≤ w) (w1 : w < iW I) : 0 ≤ tk I x w v ∧ tk I x w v ≤ 3 ∧ tk I x w v ≤ iS I w ∧ tk I x w v ≤ iM I x ∧ tk I x w v ≤ iO I x w := by
  have := tkF_bd I x w v (mxT I x w).toNat
  have a := h.2.2.1 x w x0 x1 w0 w1
  have b := (h.2.2.2.1 w w0 w1).1
  have c := h.2.2.2.2 x x0 x1
  unfold tk
  have e : ((mxT I x w).toNat : Int) = mxT I x w := by unfold mxT; omega
  unfold mxT at *
  omega
theorem PI.step {I J : Ins} {x w v : Int} (h : PI I x J) (x0 : 0 ≤ x) (x1 : x < iL I) (w0 : 0 ≤ w) (w1 : w < iW I) : PI I x (TK J x w (tk J x w v)) := by
  have hL : iL J = iL I := congrArg Prod.fst h.1
  have hW : iW J = iW I := congrArg Prod.snd h.1
  have hb := tk_bd h.2.2.1 v x0 (by omega) w0 (show w < iW J by omega)
  exact ⟨h.1, h.2.1, h.2.2.1.TK x0 (by omega) w0 (by omega) hb.1 hb.2.2.1 hb.2.2.2.1, fun y y0 y1 => ⟨(up_ne (by omega)).trans (h.2.2.2 y y0 y1).1, (up_ne (by omega)).trans (h.2.2.2 y y0 y1).2.1, fun u u0 u1 => (if_neg (by omega)).trans ((h.2.2.2 y y0 y1).2.2 u u0 u1)⟩⟩
/-- the row of x is empty of offers up to w -/
def RO (J : Ins) (x w : Int) : Prop := ∀ u, 0 ≤ u → u < w → iO J x u = 0
theorem RO.step {J : Ins} {x w n : Int} (h : RO J x w) : RO (TK J x w n) x (w + 1) := fun u u0 u1 => by
  show (if x = x ∧ u = w then (0 : Int) else iO J x u) = 0
  by_cases q : u = w
  · rw [if_pos ⟨rfl, q⟩]
  · rw [if_neg (fun z => q z.2)]
    exact h u u0 (by omega)
theorem PI.row {I J : Ins} {x : Int} (h : PI I x J) (hr : RO J x (iW I)) : PI I (x + 1) (setNM J x 0 0) := by
  have hW : iW J = iW I := congrArg Prod.snd h.1
  refine ⟨h.1, h.2.1, h.2.2.1.setNM (by decide) (by decide) (by decide), fun y y0 y1 => ?_⟩
  by_cases q : y = x
  · subst q
    exact ⟨up_same, up_same, fun u u0 u1 => hr u u0 (by have : u < iW J := u1; omega)⟩
  · exact ⟨(up_ne q).trans (h.2.2.2 y y0 (by omega)).1, (up_ne q).trans (h.2.2.2 y y0 (by omega)).2.1, (h.2.2.2 y y0 (by omega)).2.2⟩
theorem GR.frP {p t : Nat} {M M1 : Mem} (hP : PH p t) (hG : GR M) (h1 : Fr [25, 26, 27, 28, 29, 30, 31, 32, 33, 34, 35, t] [(24, 11), (24, 12), (24, 13), (p, 2), (p, 3)] M M1) : GR M1 := by
  rcases hP with ⟨rfl, rfl⟩ | ⟨rfl, rfl⟩
  · exact GR.fr hG h1 (by decide +kernel)
  · exact GR.fr hG h1 (by decide +kernel)
/-- as many of the plan -/
noncomputable def plT (I : Ins) (q : Int) : Int := @ite Int (planI I) (Classical.propDecidable _) ((pln I).2.2.1 q) 0
noncomputable def plC (I : Ins) : Int := @ite Int (planI I) (Classical.propDecidable _) ((pln I).2.2.2) 0

theorem dX5_make_0 : decode cX5_make 0 = .ok (.aload_n 0, 1) := by decide +kernel
theorem dX5_make_1 : decode cX5_make 1 = .ok (.iconst 0, 1) := by decide +kernel
theorem dX5_make_2 : decode cX5_make 2 = .ok (.putfield 19, 3) := by decide +kernel
theorem dX5_make_5 : decode cX5_make 5 = .ok (.iconst 0, 1) := by decide +kernel
theorem dX5_make_6 : decode cX5_make 6 = .ok (.istore_n 2, 1) := by decide +kernel
theorem dX5_make_7 : decode cX5_make 7 = .ok (.iload_n 2, 1) := by decide +kernel
theorem dX5_make_8 : decode cX5_make 8 = .ok (.bipush 30, 2) := by decide +kernel
theorem dX5_make_10 : decode cX5_make 10 = .ok (.if_icmp .ge 16, 3) := by decide +kernel
theorem dX5_make_13 : decode cX5_make 13 = .ok (.aload_n 0, 1) := by decide +kernel
theorem dX5_make_14 : decode cX5_make 14 = .ok (.getfield 15, 3) := by decide +kernel
theorem dX5_make_17 : decode cX5_make 17 = .ok (.iload_n 2, 1) := by decide +kernel
theorem dX5_make_18 : decode cX5_make 18 = .ok (.iconst 0, 1) := by decide +kernel
theorem dX5_make_19 : decode cX5_make 19 = .ok (.iastore, 1) := by decide +kernel
theorem dX5_make_20 : decode cX5_make 20 = .ok (.iinc 2 1, 3) := by decide +kernel
theorem dX5_make_23 : decode cX5_make 23 = .ok (.goto (-16), 3) := by decide +kernel
theorem dX5_make_26 : decode cX5_make 26 = .ok (.aload_n 0, 1) := by decide +kernel
theorem dX5_make_27 : decode cX5_make 27 = .ok (.getfield 9, 3) := by decide +kernel
theorem dX5_make_30 : decode cX5_make 30 = .ok (.aload_n 1, 1) := by decide +kernel
theorem dX5_make_31 : decode cX5_make 31 = .ok (.invokevirtual 23, 3) := by decide +kernel
theorem dX5_make_34 : decode cX5_make 34 = .ok (.aload_n 0, 1) := by decide +kernel
theorem dX5_make_35 : decode cX5_make 35 = .ok (.getfield 9, 3) := by decide +kernel
theorem dX5_make_38 : decode cX5_make 38 = .ok (.iconst 0, 1) := by decide +kernel
theorem dX5_make_39 : decode cX5_make 39 = .ok (.invokevirtual 29, 3) := by decide +kernel
theorem dX5_make_42 : decode cX5_make 42 = .ok (.istore_n 2, 1) := by decide +kernel
theorem dX5_make_43 : decode cX5_make 43 = .ok (.aload_n 0, 1) := by decide +kernel
theorem dX5_make_44 : decode cX5_make 44 = .ok (.iload_n 2, 1) := by decide +kernel
theorem dX5_make_45 : decode cX5_make 45 = .ok (.iconst (-1), 1) := by decide +kernel
theorem dX5_make_46 : decode cX5_make 46 = .ok (.if_icmp .eq 7, 3) := by decide +kernel
theorem dX5_make_49 : decode cX5_make 49 = .ok (.iconst 1, 1) := by decide +kernel
theorem dX5_make_50 : decode cX5_make 50 = .ok (.goto 4, 3) := by decide +kernel
theorem dX5_make_53 : decode cX5_make 53 = .ok (.iconst 0, 1) := by decide +kernel
theorem dX5_make_54 : decode cX5_make 54 = .ok (.putfield 33, 3) := by decide +kernel
theorem dX5_make_57 : decode cX5_make 57 = .ok (.aload_n 0, 1) := by decide +kernel
theorem dX5_make_58 : decode cX5_make 58 = .ok (.getfield 33, 3) := by decide +kernel
theorem dX5_make_61 : decode cX5_make 61 = .ok (.ifCond .ne 4, 3) := by decide +kernel
theorem dX5_make_64 : decode cX5_make 64 = .ok (.return_, 1) := by decide +kernel
theorem dX5_make_65 : decode cX5_make 65 = .ok (.iconst 0, 1) := by decide +kernel
theorem dX5_make_66 : decode cX5_make 66 = .ok (.istore_n 3, 1) := by decide +kernel
theorem dX5_make_67 : decode cX5_make 67 = .ok (.iload_n 3, 1) := by decide +kernel
theorem dX5_make_68 : decode cX5_make 68 = .ok (.aload_n 0, 1) := by decide +kernel
theorem dX5_make_69 : decode cX5_make 69 = .ok (.getfield 9, 3) := by decide +kernel
theorem dX5_make_72 : decode cX5_make 72 = .ok (.getfield 37, 3) := by decide +kernel
theorem dX5_make_75 : decode cX5_make 75 = .ok (.if_icmp .ge 90, 3) := by decide +kernel
theorem dX5_make_78 : decode cX5_make 78 = .ok (.iconst 0, 1) := by decide +kernel
theorem dX5_make_79 : decode cX5_make 79 = .ok (.istore 4, 2) := by decide +kernel
theorem dX5_make_81 : decode cX5_make 81 = .ok (.iload 4, 2) := by decide +kernel
theorem dX5_make_83 : decode cX5_make 83 = .ok (.aload_n 0, 1) := by decide +kernel
theorem dX5_make_84 : decode cX5_make 84 = .ok (.getfield 9, 3) := by decide +kernel
theorem dX5_make_87 : decode cX5_make 87 = .ok (.getfield 40, 3) := by decide +kernel
theorem dX5_make_90 : decode cX5_make 90 = .ok (.if_icmp .ge 59, 3) := by decide +kernel
theorem dX5_make_93 : decode cX5_make 93 = .ok (.aload_n 0, 1) := by decide +kernel
theorem dX5_make_94 : decode cX5_make 94 = .ok (.iload_n 3, 1) := by decide +kernel
theorem dX5_make_95 : decode cX5_make 95 = .ok (.iload 4, 2) := by decide +kernel
theorem dX5_make_97 : decode cX5_make 97 = .ok (.iload_n 2, 1) := by decide +kernel
theorem dX5_make_98 : decode cX5_make 98 = .ok (.invokevirtual 43, 3) := by decide +kernel
theorem dX5_make_101 : decode cX5_make 101 = .ok (.istore 5, 2) := by decide +kernel
theorem dX5_make_103 : decode cX5_make 103 = .ok (.aload_n 0, 1) := by decide +kernel
theorem dX5_make_104 : decode cX5_make 104 = .ok (.getfield 15, 3) := by decide +kernel
theorem dX5_make_107 : decode cX5_make 107 = .ok (.iload_n 3, 1) := by decide +kernel
theorem dX5_make_108 : decode cX5_make 108 = .ok (.iload 4, 2) := by decide +kernel
theorem dX5_make_110 : decode cX5_make 110 = .ok (.invokestatic 47, 3) := by decide +kernel
theorem dX5_make_113 : decode cX5_make 113 = .ok (.iload 5, 2) := by decide +kernel
theorem dX5_make_115 : decode cX5_make 115 = .ok (.iastore, 1) := by decide +kernel
theorem dX5_make_116 : decode cX5_make 116 = .ok (.aload_n 0, 1) := by decide +kernel
theorem dX5_make_117 : decode cX5_make 117 = .ok (.dup, 1) := by decide +kernel
theorem dX5_make_118 : decode cX5_make 118 = .ok (.getfield 19, 3) := by decide +kernel
theorem dX5_make_121 : decode cX5_make 121 = .ok (.iload 5, 2) := by decide +kernel
theorem dX5_make_123 : decode cX5_make 123 = .ok (.iadd, 1) := by decide +kernel
theorem dX5_make_124 : decode cX5_make 124 = .ok (.putfield 19, 3) := by decide +kernel
theorem dX5_make_127 : decode cX5_make 127 = .ok (.iload_n 2, 1) := by decide +kernel
theorem dX5_make_128 : decode cX5_make 128 = .ok (.iload 5, 2) := by decide +kernel
theorem dX5_make_130 : decode cX5_make 130 = .ok (.aload_n 0, 1) := by decide +kernel
theorem dX5_make_131 : decode cX5_make 131 = .ok (.getfield 9, 3) := by decide +kernel
theorem dX5_make_134 : decode cX5_make 134 = .ok (.getfield 51, 3) := by decide +kernel
theorem dX5_make_137 : decode cX5_make 137 = .ok (.iload 4, 2) := by decide +kernel
theorem dX5_make_139 : decode cX5_make 139 = .ok (.iaload, 1) := by decide +kernel
theorem dX5_make_140 : decode cX5_make 140 = .ok (.imul, 1) := by decide +kernel
theorem dX5_make_141 : decode cX5_make 141 = .ok (.isub, 1) := by decide +kernel
theorem dX5_make_142 : decode cX5_make 142 = .ok (.istore_n 2, 1) := by decide +kernel
theorem dX5_make_143 : decode cX5_make 143 = .ok (.iinc 4 1, 3) := by decide +kernel
theorem dX5_make_146 : decode cX5_make 146 = .ok (.goto (-65), 3) := by decide +kernel
theorem dX5_make_149 : decode cX5_make 149 = .ok (.aload_n 0, 1) := by decide +kernel
theorem dX5_make_150 : decode cX5_make 150 = .ok (.getfield 9, 3) := by decide +kernel
theorem dX5_make_153 : decode cX5_make 153 = .ok (.iload_n 3, 1) := by decide +kernel
theorem dX5_make_154 : decode cX5_make 154 = .ok (.iconst 0, 1) := by decide +kernel
theorem dX5_make_155 : decode cX5_make 155 = .ok (.iconst 0, 1) := by decide +kernel
theorem dX5_make_156 : decode cX5_make 156 = .ok (.invokevirtual 54, 3) := by decide +kernel
theorem dX5_make_159 : decode cX5_make 159 = .ok (.iinc 3 1, 3) := by decide +kernel
theorem dX5_make_162 : decode cX5_make 162 = .ok (.goto (-95), 3) := by decide +kernel
theorem dX5_make_165 : decode cX5_make 165 = .ok (.return_, 1) := by decide +kernel
set_option maxHeartbeats 4000000 in
theorem c5_make {G : Gl} {l : Launch}  {M : Mem} {p t h c : Nat} {d : Int → Int} (hG : GR M) (hP : PH p t) (hS : SH h c) (hD : M c = d) (hB : SB d) (hIb : IB (insOf d)) : Ct G LY 57 l 3 m5_make [vR p, vR h] M (RV (fun M' => Fr [25, 26, 27, 28, 29, 30, 31, 32, 33, 34, 35, t] [(24, 11), (24, 12), (24, 13), (p, 2), (p, 3)] M M' ∧ M' p 2 = bP (planI (insOf d)) ∧ (∀ q, 0 ≤ q → q < 30 → M' t q = plT (insOf d) q) ∧ M' p 3 = plC (insOf d))) := by
  refine R_start (by decide +kernel) (Nat.le_of_ble_eq_true rfl) (fun C hC hRm hlau => ?_)
  show RZ G LY C (Zn G LY 57 C (RV (fun M' => Fr [25, 26, 27, 28, 29, 30, 31, 32, 33, 34, 35, t] [(24, 11), (24, 12), (24, 13), (p, 2), (p, 3)] M M' ∧ M' p 2 = bP (planI (insOf d)) ∧ (∀ q, 0 ≤ q → q < 30 → M' t q = plT (insOf d) q) ∧ M' p 3 = plC (insOf d)))) 0 0 57 0 [some (vR p), some (vR h), none, none, none, none] [] M
  have hLb := hIb.1
  have hWb := hIb.2.1
  refine R_aload_0 hC dX5_make_0 ?_
  refine R_iconst hC dX5_make_1 ⟨by decide, by decide⟩ ?_
  refine R_putI hC dX5_make_2 fl_5_19 hP.l hP.k (by decide) (by decide) (fi := 3) rfl ?_
  refine R_iconst hC dX5_make_5 ⟨by decide, by decide⟩ ?_
  refine R_istore_2 hC dX5_make_6 rfl ?_
  have L7 : ∀ (mq : Nat) (i : Int) (M1 : Mem), (0 ≤ i) → (i ≤ 30) → (GR M1) → (Fr [25, 26, 27, 28, 29, 30, 31, 32, 33, 34, 35, t] [(24, 11), (24, 12), (24, 13), (p, 2), (p, 3)] M M1) → (M1 c = d) → (∀ q, 0 ≤ q → q < i → M1 t q = 0) → (M1 p 3 = 0) → (30 - i).toNat < mq → RZ G LY C (Zn G LY 57 C (RV (fun M' => Fr [25, 26, 27, 28, 29, 30, 31, 32, 33, 34, 35, t] [(24, 11), (24, 12), (24, 13), (p, 2), (p, 3)] M M' ∧ M' p 2 = bP (planI (insOf d)) ∧ (∀ q, 0 ≤ q → q < 30 → M' t q = plT (insOf d) q) ∧ M' p 3 = plC (insOf d)))) 0 0 57 7 [some (vR p), some (vR h), some (vI i), none, none, none] [] M1 := by
    intro mq
    induction mq with
    | zero =>
      intro i M1 hi0 hi1 hg hF hr hA hC3 hm
      exact absurd hm (Nat.not_lt_zero _)
    | succ mq ih7 =>
      intro i M1 hi0 hi1 hg hF hr hA hC3 hm7
      refine R_iload_2 hC dX5_make_7 ?_
      refine R_bipush hC dX5_make_8 (by decide +kernel) ⟨by decide, by decide⟩ ?_
      refine R_icmp_ge hC dX5_make_10 (tgt := 26) (by decide) (fun hb10 => ?_) (fun hb10 => ?_)
      · skip
        refine R_aload_0 hC dX5_make_26 ?_
        refine R_getR hC dX5_make_27 fl_5_9 hP.l hP.k (by decide) (by decide) (fi := 0) rfl (r := 24) (hP.r hg) ?_
        refine R_aload_1 hC dX5_make_30 ?_
        refine R_callVv (as := [vR _]) hC dX5_make_31 mo_6_load ml_5_23 (by decide) rfl rfl (c6_load  hg hS hr hB) rfl rfl hRm (by decide) (by decide) (Nat.le_of_ble_eq_true rfl) (fun Mc1 hq2 => ?_)
        have hSC3 := hq2.2
        refine R_aload_0 hC dX5_make_34 ?_
        have hG4 : GR Mc1 := (GR.fr hg hq2.1 (by decide +kernel))
        refine R_getR hC dX5_make_35 fl_5_9 hP.l hP.k (by decide) (by decide) (fi := 0) rfl (r := 24) (hP.r hG4) ?_
        refine R_iconst hC dX5_make_38 ⟨by decide, by decide⟩ ?_
        refine R_callVp (as := [vI _]) hC dX5_make_39 mo_6_space ml_5_29 (by decide) rfl rfl (c6_space  hG4 hSC3 hIb (by omega) (by omega) (fun y a b => by omega)) rfl rfl hRm (by decide) (by decide) (Nat.le_of_ble_eq_true rfl) (fun v7 Mc5 hq6 => ?_)
        have hSC8 := SC.fr hSC3 hq6.1 (by decide) (by decide)
        refine R_istore_2 hC dX5_make_42 rfl ?_
        have L54 : ∀ (e : Int), (e = bP (planI (insOf d))) → RZ G LY C (Zn G LY 57 C (RV (fun M' => Fr [25, 26, 27, 28, 29, 30, 31, 32, 33, 34, 35, t] [(24, 11), (24, 12), (24, 13), (p, 2), (p, 3)] M M' ∧ M' p 2 = bP (planI (insOf d)) ∧ (∀ q, 0 ≤ q → q < 30 → M' t q = plT (insOf d) q) ∧ M' p 3 = plC (insOf d)))) 0 0 57 54 [some (vR p), some (vR h), some (vI v7), none, none, none] [vI e, vR p] Mc5 := by
          intro e he
          refine R_putZ hC dX5_make_54 fl_5_33 hP.l hP.k (by decide) (by decide) (by (have := bP_01 (planI (insOf d)); omega)) (fi := 2) rfl ?_
          have q2 : (uM Mc5 p 2 e) p 2 = e := uM_same
          refine R_aload_0 hC dX5_make_57 ?_
          refine R_getIE hC dX5_make_58 fl_5_33 hP.l hP.k (by decide) (by decide) (fi := 2) rfl uM_same ?_
          refine R_if_ne hC dX5_make_61 (tgt := 65) (by decide) (fun hb61 => ?_) (fun hb61 => ?_)
          · skip
            refine R_iconst hC dX5_make_65 ⟨by decide, by decide⟩ ?_
            refine R_istore_3 hC dX5_make_66 rfl ?_
            have L67 : ∀ (mq : Nat) (x : Int) (v : Int) (J : Ins) (T : Int → Int) (n : Int) (M2 : Mem), (0 ≤ x) → (x ≤ iL (insOf d)) → (GR M2) → (Fr [25, 26, 27, 28, 29, 30, 31, 32, 33, 34, 35, t] [(24, 11), (24, 12), (24, 13), (p, 2), (p, 3)] M M2) → (SC M2 J) → (PI (insOf d) x J) → (pall (insOf d, SPC (insOf d), fun _ => 0, 0) (iW (insOf d)) x.toNat = (J, v, T, n)) → (∀ q, 0 ≤ q → q < 30 → M2 t q = T q) → (M2 p 3 = n) → (0 ≤ v) → (v ≤ 4500) → (0 ≤ n) → (n ≤ x * 18) → (M2 p 2 = 1) → (planI (insOf d)) → (iL (insOf d) - x).toNat < mq → RZ G LY C (Zn G LY 57 C (RV (fun M' => Fr [25, 26, 27, 28, 29, 30, 31, 32, 33, 34, 35, t] [(24, 11), (24, 12), (24, 13), (p, 2), (p, 3)] M M' ∧ M' p 2 = bP (planI (insOf d)) ∧ (∀ q, 0 ≤ q → q < 30 → M' t q = plT (insOf d) q) ∧ M' p 3 = plC (insOf d)))) 0 0 57 67 [some (vR p), some (vR h), some (vI v), some (vI x), none, none] [] M2 := by
              intro mq
              induction mq with
              | zero =>
                intro x v J T n M2 hx0 hx1 hg2 hF2 hSC2 hPI hpa hT hn hv0 hv1 hn0 hn1 hp2 hpl hm
                exact absurd hm (Nat.not_lt_zero _)
              | succ mq ih67 =>
                intro x v J T n M2 hx0 hx1 hg2 hF2 hSC2 hPI hpa hT hn hv0 hv1 hn0 hn1 hp2 hpl hm67
                have hJL : iL J = iL (insOf d) := congrArg Prod.fst hPI.1
                have hJW : iW J = iW (insOf d) := congrArg Prod.snd hPI.1
                have k11 : M2 24 11 = iL J := hSC2.1.1
                refine R_iload_3 hC dX5_make_67 ?_
                refine R_aload_0 hC dX5_make_68 ?_
                refine R_getR hC dX5_make_69 fl_5_9 hP.l hP.k (by decide) (by decide) (fi := 0) rfl (r := 24) (hP.r hg2) ?_
                refine R_getI hC dX5_make_72 fl_5_37 (by decide) rfl (by decide) (by decide) (fi := 11) rfl ?_
                refine R_icmp_ge hC dX5_make_75 (tgt := 165) (by decide) (fun hb75 => ?_) (fun hb75 => ?_)
                · skip
                  have hfin : pln (insOf d) = (J, v, T, n) := by
                    unfold pln
                    rw [show iL (insOf d) = x by omega]
                    exact hpa
                  exact R_return hC dX5_make_165 rfl (ret_V ⟨hF2, hp2.trans (bP_pos hpl).symm, fun q a b => by (unfold plT; rw [if_pos hpl, hfin]; exact hT q a b), by (unfold plC; rw [if_pos hpl, hfin]; exact hn)⟩)
                · skip
                  refine R_iconst hC dX5_make_78 ⟨by decide, by decide⟩ ?_
                  refine R_istore_4 hC dX5_make_79 rfl ?_
                  have L81 : ∀ (mq : Nat) (w : Int) (u : Int) (J2 : Ins) (T2 : Int → Int) (n2 : Int) (M3 : Mem), (0 ≤ w) → (w ≤ iW (insOf d)) → (GR M3) → (Fr [25, 26, 27, 28, 29, 30, 31, 32, 33, 34, 35, t] [(24, 11), (24, 12), (24, 13), (p, 2), (p, 3)] M M3) → (SC M3 J2) → (PI (insOf d) x J2) → (RO J2 x w) → (prow (J, v, T, n) x w.toNat = (J2, u, T2, n2)) → (∀ q, 0 ≤ q → q < 30 → M3 t q = T2 q) → (M3 p 3 = n2) → (0 ≤ u) → (u ≤ 4500) → (0 ≤ n2) → (n2 ≤ x * 18 + w * 3) → (M3 p 2 = 1) → (iW (insOf d) - w).toNat < mq → RZ G LY C (Zn G LY 57 C (RV (fun M' => Fr [25, 26, 27, 28, 29, 30, 31, 32, 33, 34, 35, t] [(24, 11), (24, 12), (24, 13), (p, 2), (p, 3)] M M' ∧ M' p 2 = bP (planI (insOf d)) ∧ (∀ q, 0 ≤ q → q < 30 → M' t q = plT (insOf d) q) ∧ M' p 3 = plC (insOf d)))) 0 0 57 81 [some (vR p), some (vR h), some (vI u), some (vI x), some (vI w), none] [] M3 := by
                    intro mq
                    induction mq with
                    | zero =>
                      intro w u J2 T2 n2 M3 hw0 hw1 hg3 hF3 hSC3 hPI3 hR3 hpr hT3 hn3 hu0 hu1 hn20 hn21 hp3 hm
                      exact absurd hm (Nat.not_lt_zero _)
                    | succ mq ih81 =>
                      intro w u J2 T2 n2 M3 hw0 hw1 hg3 hF3 hSC3 hPI3 hR3 hpr hT3 hn3 hu0 hu1 hn20 hn21 hp3 hm81
                      have hJ2L : iL J2 = iL (insOf d) := congrArg Prod.fst hPI3.1
                      have hJ2W : iW J2 = iW (insOf d) := congrArg Prod.snd hPI3.1
                      have k12 : M3 24 12 = iW J2 := hSC3.1.2.1
                      refine R_iload_4 hC dX5_make_81 ?_
                      refine R_aload_0 hC dX5_make_83 ?_
                      refine R_getR hC dX5_make_84 fl_5_9 hP.l hP.k (by decide) (by decide) (fi := 0) rfl (r := 24) (hP.r hg3) ?_
                      refine R_getI hC dX5_make_87 fl_5_40 (by decide) rfl (by decide) (by decide) (fi := 12) rfl ?_
                      refine R_icmp_ge hC dX5_make_90 (tgt := 149) (by decide) (fun hb90 => ?_) (fun hb90 => ?_)
                      · skip
                        refine R_aload_0 hC dX5_make_149 ?_
                        refine R_getR hC dX5_make_150 fl_5_9 hP.l hP.k (by decide) (by decide) (fi := 0) rfl (r := 24) (hP.r hg3) ?_
                        refine R_iload_3 hC dX5_make_153 ?_
                        refine R_iconst hC dX5_make_154 ⟨by decide, by decide⟩ ?_
                        refine R_iconst hC dX5_make_155 ⟨by decide, by decide⟩ ?_
                        refine R_callVv (as := [vI _, vI _, vI _]) hC dX5_make_156 mo_6_setLibrary ml_5_54 (by decide) rfl rfl (c6_setLibrary  hg3 hSC3 hPI3.2.2.1 (by omega) (by omega) (by omega) (by omega) (by omega) (by omega)) rfl rfl hRm (by decide) (by decide) (Nat.le_of_ble_eq_true rfl) (fun Mc9 hq10 => ?_)
                        have hSC11 := hq10.2
                        refine R_iinc_3 hC dX5_make_159 rfl ⟨by omega, by omega⟩ ?_
                        refine R_goto hC dX5_make_162 (tgt := 67) (by decide) ?_
                        refine R_weak (subL_c (subL_c (subL_c (subL_c (subL_d (subL_c subL_n)))))) ?_
                        have hG12 : GR Mc9 := (GR.fr hg3 hq10.1 (by decide +kernel))
                        exact ih67 _ _ (setNM J2 x 0 0) T2 n2 _ (by omega) (by omega) hG12 (Fr.tt hF3 (hq10.1.mo (by simp) (by simp))) hSC11 (hPI3.row (by rw [show iW (insOf d) = w by omega]; exact hR3)) (by rw [pall_s hx0 rfl, hpa, show iW (insOf d) = w by omega, hpr]; rfl) (fun q a b => (hq10.1.row (hP.nin (by decide)).2 (by simp) ▸ hT3 q a b)) (hq10.1.row (hP.nin (by decide)).1 (by simp) ▸ hn3) (by omega) (by omega) (by omega) (by omega) (hq10.1.row (hP.nin (by decide)).1 (by simp) ▸ hp3) hpl (by omega)
                      · skip
                        refine R_aload_0 hC dX5_make_93 ?_
                        refine R_iload_3 hC dX5_make_94 ?_
                        refine R_iload_4 hC dX5_make_95 ?_
                        refine R_iload_2 hC dX5_make_97 ?_
                        refine R_callVp (as := [vI _, vI _, vI _]) hC dX5_make_98 mo_5_takeMost ml_5_43 hP.l hP.k rfl (c5_takeMost  hg3 hP hSC3 hPI3.2.2.1 (by omega) (by omega) (by omega) (by omega) hPI3.2.2.2 (by omega) (by omega)) rfl rfl hRm (by decide) (by decide) (Nat.le_of_ble_eq_true rfl) (fun v15 Mc13 hq14 => ?_)
                        have hSC16 := hq14.2.2
                        refine R_istore_5 hC dX5_make_101 rfl ?_
                        refine R_aload_0 hC dX5_make_103 ?_
                        have hG17 : GR Mc13 := (GR.fr hg3 hq14.1 (by decide +kernel))
                        refine R_getR hC dX5_make_104 fl_5_15 hP.l hP.k (by decide) (by decide) (fi := 1) rfl (r := t) (hP.s hG17) ?_
                        refine R_iload_3 hC dX5_make_107 ?_
                        refine R_iload_4 hC dX5_make_108 ?_
                        refine R_callSNq (as := [vI _, vI _]) hC dX5_make_110 mo_11_pairOf mn_5_47 (c11_pairOf  (by omega) (by omega) (by omega) (by omega)) rfl rfl hRm (by decide) (by decide) (Nat.le_of_ble_eq_true rfl) ?_
                        refine R_iload_5 hC dX5_make_113 ?_
                        refine R_iastore hC dX5_make_115 hP.m hP.a (by omega) (by omega) ?_
                        refine R_aload_0 hC dX5_make_116 ?_
                        refine R_dup hC dX5_make_117 rfl ?_
                        refine R_getIE hC dX5_make_118 fl_5_19 hP.l hP.k (by decide) (by decide) (fi := 3) rfl (uM_h (by exact hP.pt)) ?_
                        have qc : (Mc13 p 3) = n2 := by rw [hq14.1.row (hP.nin (by decide)).1 (by simp)]; exact hn3
                        rw [qc]
                        have btk := tk_bd hPI3.2.2.1 u hx0 (show x < iL J2 by omega) hw0 (show w < iW J2 by omega)
                        have etk := hq14.2.1
                        refine R_iload_5 hC dX5_make_121 ?_
                        refine R_iadd hC dX5_make_123 ⟨by omega, by omega⟩ ?_
                        refine R_putI hC dX5_make_124 fl_5_19 hP.l hP.k (by decide) (by decide) (fi := 3) rfl ?_
                        refine R_iload_2 hC dX5_make_127 ?_
                        refine R_iload_5 hC dX5_make_128 ?_
                        refine R_aload_0 hC dX5_make_130 ?_
                        have hG18 : GR (uM (uM Mc13 t (x * 6 + w) v15) p 3 (n2 + v15)) := (GR.uF (GR.uA hG17 hP.na (.inl hP.tst)) hP.n3 hP.pst)
                        refine R_getR hC dX5_make_131 fl_5_9 hP.l hP.k (by decide) (by decide) (fi := 0) rfl (r := 24) (hP.r hG18) ?_
                        refine R_getR hC dX5_make_134 fl_5_51 (by decide) rfl (by decide) (by decide) (fi := 4) rfl (r := 29) (gr_24_4 hG18) ?_
                        refine R_iload_4 hC dX5_make_137 ?_
                        refine R_ialoadE hC dX5_make_139 (by decide) rfl (by omega) (by omega) ((uM_h (by exact Ne.symm (hP.ne (by decide)).1)).trans (uM_h (by exact Ne.symm (hP.ne (by decide)).2))) ?_
                        have q29 : (Mc13 29 w) = iZ J2 w := (hq14.2.2.2.2.2.1 w hw0 (show w < iW J2 by omega)).2
                        have bz := (hPI3.2.2.1.2.2.2.1 w hw0 (show w < iW J2 by omega)).2
                        rw [q29]
                        have bmz := mul_bd btk.1 btk.2.1 (show 0 ≤ iZ J2 w by omega) bz.2
                        have hbv : tk J2 x w u * iZ J2 w ≤ u := by
                          by_cases q : 0 < tk J2 x w u
                          · have g := tk_good q
                            have h1 := SPC_t g.1
                            have h2 := (sumMC_bd (hPI3.step (v := u) hx0 (by omega) hw0 (by omega)).2.2.1).1
                            have h3 := g.2
                            omega
                          · rw [show tk J2 x w u = 0 by omega, Int.zero_mul]; exact hu0
                        have evz : v15 * iZ J2 w = tk J2 x w u * iZ J2 w := by rw [etk]
                        have qS4 : SC (uM (uM Mc13 t (x * 6 + w) v15) p 3 (n2 + v15)) (TK J2 x w (tk J2 x w u)) := by (rw [← etk]; exact (SC.u (SC.u hSC16 hP.sc.2) hP.sc.1))
                        refine R_imul hC dX5_make_140 ⟨by omega, by omega⟩ ?_
                        refine R_isub hC dX5_make_141 ⟨by omega, by omega⟩ ?_
                        refine R_istore_2 hC dX5_make_142 rfl ?_
                        refine R_iinc_4 hC dX5_make_143 rfl ⟨by omega, by omega⟩ ?_
                        refine R_goto hC dX5_make_146 (tgt := 81) (by decide) ?_
                        refine R_weak (subL_c (subL_c (subL_c (subL_c (subL_c (subL_d subL_n)))))) ?_
                        exact ih81 _ _ (TK J2 x w (tk J2 x w u)) (up T2 (x * 6 + w) (tk J2 x w u)) (n2 + tk J2 x w u) _ (by omega) (by omega) hG18 (Fr.uB (Fr.uA (Fr.tt hF3 (hq14.1.mo (by simp) (by simp))) (by simp)) (by simp)) qS4 (hPI3.step hx0 (by omega) hw0 (by omega)) hR3.step (by rw [prow_s hw0 rfl, hpr, evz]; rfl) (fun q a b => by
                            rw [uM_h (Ne.symm hP.pt)]
                            show _ = up T2 (x * 6 + w) (tk J2 x w u) q
                            by_cases e : q = x * 6 + w
                            · rw [uM_at e, e, up_same, hq14.2.1]
                            · rw [uM_k e, up_ne e, hq14.1.row (hP.nin (by decide)).2 (by simp)]; exact hT3 q a b) (by rw [uM_same, hq14.2.1]) (by omega) (by omega) (by omega) (by omega) ((uM_k (by decide)).trans ((uM_h hP.pt).trans (hq14.1.row (hP.nin (by decide)).1 (by simp) ▸ hp3))) (by omega)
                  exact L81 _ _ _ J T n _ (by omega) (by omega) hg2 hF2 hSC2 hPI (fun u a b => by omega) rfl hT hn (by omega) (by omega) (by omega) (by omega) hp2 (Nat.lt_succ_self _)
            have hpl : planI (insOf d) := bP_nz (by omega)
            have hbS := SPC_bd hIb
            have hsS := SPC_n hIb
            have hFz : Fr [25, 26, 27, 28, 29, 30, 31, 32, 33, 34, 35, t] [(24, 11), (24, 12), (24, 13), (p, 2), (p, 3)] M (uM Mc5 p 2 e) := Fr.uB (Fr.tt (Fr.tt hF (hq2.1.mo (by simp) (by simp))) (hq6.1.mo (by simp) (by simp))) (by simp)
            have hTz : ∀ q, (uM Mc5 p 2 e) t q = M1 t q := fun q => (uM_h (Ne.symm hP.pt)).trans ((hq6.1.at (by have := hP.ne (k := 35) (by decide); simp; exact this.2)).trans (hq2.1 t q (hP.nin (by decide)).2 (fun e => by have := hP.ne (k := 24) (by decide); simp at e <;> omega)))
            have hCz : (uM Mc5 p 2 e) p 3 = 0 := (uM_k (by decide)).trans ((hq6.1.at (by have := hP.ne (k := 35) (by decide); simp; exact this.1)).trans ((hq2.1 p 3 (hP.nin (by decide)).1 (fun e => by have := hP.ne (k := 24) (by decide); simp at e <;> omega)).trans hC3))
            have hG19 : GR (uM Mc5 p 2 e) := (GR.uF (GR.fr hG4 hq6.1 (by decide +kernel)) hP.n2 hP.pst)
            exact L67 _ _ _ (insOf d) (fun _ => 0) 0 _ (by omega) (by omega) hG19 hFz (SC.u hSC8 hP.sc.1) (⟨rfl, rfl, hIb, fun y a b => by omega⟩) (by rw [hq6.2.1]; rfl) (fun q a b => (hTz q).trans (hA q a (by omega))) hCz (by (rw [hq6.2.1]; rw [SPC_t hpl]; exact (sumMC_bd hIb).1)) (by (rw [hq6.2.1]; omega)) (by omega) (by omega) (uM_same.trans (by rw [he]; exact bP_pos hpl)) hpl (Nat.lt_succ_self _)
          · skip
            have hnp : ¬ planI (insOf d) := bP_z (by omega)
            have hTz : ∀ q, (uM Mc5 p 2 e) t q = M1 t q := fun q => (uM_h (Ne.symm hP.pt)).trans ((hq6.1.at (by have := hP.ne (k := 35) (by decide); simp; exact this.2)).trans (hq2.1 t q (hP.nin (by decide)).2 (fun e => by have := hP.ne (k := 24) (by decide); simp at e <;> omega)))
            have hCz : (uM Mc5 p 2 e) p 3 = 0 := (uM_k (by decide)).trans ((hq6.1.at (by have := hP.ne (k := 35) (by decide); simp; exact this.1)).trans ((hq2.1 p 3 (hP.nin (by decide)).1 (fun e => by have := hP.ne (k := 24) (by decide); simp at e <;> omega)).trans hC3))
            exact R_return hC dX5_make_64 rfl (ret_V ⟨Fr.uB (Fr.tt (Fr.tt hF (hq2.1.mo (by simp) (by simp))) (hq6.1.mo (by simp) (by simp))) (by simp), q2.trans he, fun q a b => by (unfold plT; rw [if_neg hnp, hTz q]; exact hA q a (by omega)), by (unfold plC; rw [if_neg hnp]; exact hCz)⟩)
        have hbS := SPC_bd hIb
        refine R_aload_0 hC dX5_make_43 ?_
        refine R_iload_2 hC dX5_make_44 ?_
        refine R_iconst hC dX5_make_45 ⟨by decide, by decide⟩ ?_
        refine R_icmp_eq hC dX5_make_46 (tgt := 53) (by decide) (fun hb46 => ?_) (fun hb46 => ?_)
        · skip
          refine R_iconst hC dX5_make_53 ⟨by decide, by decide⟩ ?_
          exact L54 _ (by first | (rw [bP_neg ((SPC_n hIb).mp (by omega))]) | (rw [bP_pos (Classical.byContradiction (fun q => (by have := (SPC_n hIb).mpr q; omega)))]))
        · skip
          refine R_iconst hC dX5_make_49 ⟨by decide, by decide⟩ ?_
          refine R_goto hC dX5_make_50 (tgt := 54) (by decide) ?_
          exact L54 _ (by first | (rw [bP_neg ((SPC_n hIb).mp (by omega))]) | (rw [bP_pos (Classical.byContradiction (fun q => (by have := (SPC_n hIb).mpr q; omega)))]))
      · skip
        refine R_aload_0 hC dX5_make_13 ?_
        refine R_getR hC dX5_make_14 fl_5_15 hP.l hP.k (by decide) (by decide) (fi := 1) rfl (r := t) (hP.s hg) ?_
        refine R_iload_2 hC dX5_make_17 ?_
        refine R_iconst hC dX5_make_18 ⟨by decide, by decide⟩ ?_
        refine R_iastore hC dX5_make_19 hP.m hP.a (by omega) (by omega) ?_
        refine R_iinc_2 hC dX5_make_20 rfl ⟨by omega, by omega⟩ ?_
        refine R_goto hC dX5_make_23 (tgt := 7) (by decide) ?_
        have hG20 : GR (uM M1 t i 0) := (GR.uA hg hP.na (.inl hP.tst))
        have hr21 : (uM M1 t i 0) c = d := ((uM_ne (by exact hS.ne hP.tst)).trans hr)
        exact ih7 _ _ (by omega) (by omega) hG20 (Fr.uA hF (by simp)) hr21 (row_set hA rfl rfl) ((uM_h hP.pt).trans hC3) (by omega)
  have hG22 : GR (uM M p 3 0) := (GR.uF hG hP.n3 hP.pst)
  have hr23 : (uM M p 3 0) c = d := ((uM_ne (by exact hS.ne hP.pst)).trans hD)
  exact L7 _ _ _ (by omega) (by omega) hG22 (Fr.uB Fr.rf (by simp)) hr23 (fun q a b => by omega) uM_same (Nat.lt_succ_self _)
