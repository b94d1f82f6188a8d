/-! THE PLAN, copy by copy as the class settles it -/
theorem sumMC_bd {I : Ins} (h : IB I) : 0 ≤ sumMC I ∧ sumMC I ≤ 9 * 500 := by
  refine sm_bd (b := 500) 9 (fun s s0 s1 => ?_)
  have hf := h.fs
  have h0 : ∀ t, 0 ≤ t → t < 2 ^ (iL I).toNat → 0 ≤ sm (iW I).toNat (fun w => if s + 1 ≤ iZ I w then canw I w t else 0) := fun t t0 t1 =>
    (sm_bd2 (q := 6) 15 h.2.1.1 (fun w w0 w1 => by
      have := h.cw w0 w1 t0 t1
      split <;> omega) (by decide) h.2.1.2).1
  constructor
  · obtain ⟨j, j0, j1, j2⟩ := mnn_ex (cutS I (s + 1)) (fullS I).toNat
    have a := (h.lm j0 (show j < 2 ^ (iL I).toNat by omega)).1
    have b := h0 j j0 (by omega)
    show 0 ≤ mnn _ _
    rw [j2]
    unfold cutS
    omega
  · have a := mnn_le (cutS I (s + 1)) (fullS I).toNat 0 (by omega) (by omega)
    have hl := (h.lm (t := 0) (by omega) (by have := h.pw; omega)).2
    have e : sm (iW I).toNat (fun w => if s + 1 ≤ iZ I w then canw I w 0 else 0) = 0 := sm_zero _ (fun w w0 w1 => by
      have := (h.2.2.2.1 w w0 (by omega)).1
      split
      · unfold canw
        rw [ss_0]
        omega
      · rfl)
    have : cutS I (s + 1) 0 = lsum I := by
      unfold cutS
      rw [e, ss_0]
      omega
    show mnn _ _ ≤ 500
    omega
theorem SPC_bd {I : Ins} (h : IB I) : -1 ≤ SPC I ∧ SPC I ≤ 4500 := by
  have := sumMC_bd h
  by_cases q : planI I
  · rw [SPC_t q]; omega
  · rw [SPC_f q]; omega
theorem SPC_n {I : Ins} (h : IB I) : SPC I = -1 ↔ ¬ planI I := by
  have := sumMC_bd h
  by_cases q : planI I
  · rw [SPC_t q]
    exact ⟨fun e => by omega, fun e => absurd q e⟩
  · rw [SPC_f q]
    exact ⟨fun _ => q, fun _ => rfl⟩
/-- what is left when n copies of work w in library x are settled, and no more of it can go -/
def TK (I : Ins) (x w n : Int) : Ins := setNM (setS (setO I x w 0) w (iS I w - n)) x (max 0 (iN I x - n)) (iM I x - n)
def mxT (I : Ins) (x w : Int) : Int := min (iO I x w) (min (iS I w) (iM I x))
def gdT (I : Ins) (x w v n : Int) : Prop := planI (TK I x w n) ∧ SPC (TK I x w n) + n * iZ I w = v
noncomputable def tkF (I : Ins) (x w v : Int) : Nat → Int
  | 0 => 0
  | n + 1 => @ite Int (gdT I x w v ((n + 1 : Nat) : Int)) (Classical.propDecidable _) ((n + 1 : Nat) : Int) (tkF I x w v n)
noncomputable def tk (I : Ins) (x w v : Int) : Int := tkF I x w v (mxT I x w).toNat
theorem tkF_t {I : Ins} {x w v n : Int} (h : 0 < n) (g : gdT I x w v n) : tkF I x w v n.toNat = n := by
  obtain ⟨m, rfl⟩ := Int.eq_ofNat_of_zero_le (show 0 ≤ n by omega)
  cases m with
  | zero => omega
  | succ m =>
    show tkF I x w v (m + 1) = _
    rw [tkF, if_pos g]
theorem tkF_f {I : Ins} {x w v n : Int} (h : 0 < n) (g : ¬ gdT I x w v n) : tkF I x w v n.toNat = tkF I x w v (n - 1).toNat := by
  obtain ⟨m, rfl⟩ := Int.eq_ofNat_of_zero_le (show 0 ≤ n by omega)
  cases m with
  | zero => omega
  | succ m =>
    show tkF I x w v (m + 1) = _
    rw [tkF, if_neg g, show (((m + 1 : Nat) : Int) - 1).toNat = m by omega]
theorem tkF_bd (I : Ins) (x w v : Int) : ∀ n : Nat, 0 ≤ tkF I x w v n ∧ tkF I x w v n ≤ n
  | 0 => ⟨Int.le_refl _, Int.le_refl _⟩
  | n + 1 => by
    have := tkF_bd I x w v n
    rw [tkF]
    split <;> omega
def JE (I J : Ins) (x w : Int) : Prop := J.1 = I.1 ∧ iO J = iO (setO I x w 0) ∧ iZ J = iZ I ∧ (∀ v, v ≠ w → iS J v = iS I v) ∧ ∀ y, y ≠ x → iN J y = iN I y ∧ iM J y = iM I y
theorem JE.eq {I J : Ins} {x w : Int} (h : JE I J x w) (a b c : Int) : setNM (setS J w a) x b c = setNM (setS (setO I x w 0) w a) x b c := by
  have e1 : up (iS J) w a = up (iS I) w a := funext (fun v => by
    unfold up
    split
    · rfl
    · rename_i q
      exact h.2.2.2.1 v q)
  have e2 : up (iN J) x b = up (iN I) x b := funext (fun v => by
    unfold up
    split
    · rfl
    · rename_i q
      exact (h.2.2.2.2 v q).1)
  have e3 : up (iM J) x c = up (iM I) x c := funext (fun v => by
    unfold up
    split
    · rfl
    · rename_i q
      exact (h.2.2.2.2 v q).2)
  show (J.1, iO J, up (iS J) w a, up (iN J) x b, up (iM J) x c, iZ J) = (I.1, iO (setO I x w 0), up (iS I) w a, up (iN I) x b, up (iM I) x c, iZ I)
  rw [h.1, h.2.1, h.2.2.1, e1, e2, e3]
theorem JE.TK (I : Ins) (x w n : Int) : JE I (TK I x w n) x w := ⟨rfl, rfl, rfl, fun v q => up_ne q, fun y q => ⟨up_ne q, up_ne q⟩⟩
theorem JE.O (I : Ins) (x w : Int) : JE I (setO I x w 0) x w := ⟨rfl, rfl, rfl, fun _ _ => rfl, fun _ _ => ⟨rfl, rfl⟩⟩
theorem IB.setS {I : Ins} (h : IB I) {w v : Int} (h0 : 0 ≤ v) (h1 : v ≤ 1000) : IB (setS I w v) := by
  obtain ⟨a, b, c, d, e⟩ := h
  refine ⟨a, b, c, fun u u0 u1 => ⟨?_, (d u u0 u1).2⟩, e⟩
  show 0 ≤ up (iS I) w v u ∧ up (iS I) w v u ≤ 1000
  unfold up
  split
  · exact ⟨h0, h1⟩
  · exact (d u u0 u1).1
theorem IB.setO {I : Ins} (h : IB I) {x w v : Int} (h0 : 0 ≤ v) (h1 : v ≤ 3) : IB (setO I x w v) := by
  obtain ⟨a, b, c, d, e⟩ := h
  refine ⟨a, b, fun y u y0 y1 u0 u1 => ?_, d, e⟩
  show 0 ≤ (if y = x ∧ u = w then v else iO I y u) ∧ (if y = x ∧ u = w then v else iO I y u) ≤ 3
  split
  · exact ⟨h0, h1⟩
  · exact c y u y0 y1 u0 u1
theorem IB.setNM {I : Ins} (h : IB I) {x n m : Int} (h0 : 0 ≤ n) (h1 : n ≤ m) (h2 : m ≤ 100) : IB (setNM I x n m) := by
  obtain ⟨a, b, c, d, e⟩ := h
  refine ⟨a, b, c, d, fun y y0 y1 => ?_⟩
  show (0 ≤ up (iN I) x n y ∧ up (iN I) x n y ≤ up (iM I) x m y) ∧ up (iM I) x m y ≤ 100
  unfold up
  by_cases q : y = x
  · rw [if_pos q, if_pos q]; omega
  · rw [if_neg q, if_neg q]
    exact e y y0 y1
theorem IB.TK {I : Ins} (h : IB I) {x w n : Int} (x0 : 0 ≤ x) (x1 : x < iL I) (w0 : 0 ≤ w) (w1 : w < iW I) (n0 : 0 ≤ n) (n1 : n ≤ iS I w) (n2 : n ≤ iM I x) : IB (TK I x w n) := by
  have hs := (h.2.2.2.1 w w0 w1).1
  have hn := h.2.2.2.2 x x0 x1
  exact ((h.setO (by decide) (by decide)).setS (by omega) (by omega)).setNM (by omega) (by omega) (by omega)
/-- the two Plans -/
def PH (p t : Nat) : Prop := (p = 36 ∧ t = 37) ∨ (p = 53 ∧ t = 54)
theorem ph_36 : PH 36 37 := .inl ⟨rfl, rfl⟩
theorem ph_53 : PH 53 54 := .inr ⟨rfl, rfl⟩
theorem PH.k {p t : Nat} (s : PH p t) : LY.1 p = (5, 4) := by rcases s with ⟨rfl, rfl⟩ | ⟨rfl, rfl⟩ <;> rfl
theorem PH.a {p t : Nat} (s : PH p t) : LY.1 t = (20, 30) := by rcases s with ⟨rfl, rfl⟩ | ⟨rfl, rfl⟩ <;> rfl
theorem PH.l {p t : Nat} (s : PH p t) : p < 57 := by rcases s with ⟨rfl, rfl⟩ | ⟨rfl, rfl⟩ <;> decide
theorem PH.m {p t : Nat} (s : PH p t) : t < 57 := by rcases s with ⟨rfl, rfl⟩ | ⟨rfl, rfl⟩ <;> decide
theorem PH.r {M : Mem} {p t : Nat} (hG : GR M) (s : PH p t) : M p 0 = ((24 : Nat) : Int) := by
  rcases s with ⟨rfl, rfl⟩ | ⟨rfl, rfl⟩
  · exact gr_36_0 hG
  · exact gr_53_0 hG
theorem PH.s {M : Mem} {p t : Nat} (hG : GR M) (s : PH p t) : M p 1 = (t : Int) := by
  rcases s with ⟨rfl, rfl⟩ | ⟨rfl, rfl⟩
  · exact gr_36_1 hG
  · exact gr_53_1 hG
theorem PH.na {p t : Nat} (s : PH p t) : refL.all (fun q => !(q.1 == t)) = true := by rcases s with ⟨rfl, rfl⟩ | ⟨rfl, rfl⟩ <;> decide +kernel
theorem PH.n2 {p t : Nat} (s : PH p t) : refL.all (fun q => !(q.1 == p && q.2.1 == 2)) = true := by rcases s with ⟨rfl, rfl⟩ | ⟨rfl, rfl⟩ <;> decide +kernel
theorem PH.n3 {p t : Nat} (s : PH p t) : refL.all (fun q => !(q.1 == p && q.2.1 == 3)) = true := by rcases s with ⟨rfl, rfl⟩ | ⟨rfl, rfl⟩ <;> decide +kernel
theorem PH.ne {p t k : Nat} (s : PH p t) (hk : k ∉ [36, 53, 37, 54]) : p ≠ k ∧ t ≠ k := by
  rcases s with ⟨rfl, rfl⟩ | ⟨rfl, rfl⟩ <;> exact ⟨fun e => hk (by rw [← e]; decide), fun e => hk (by rw [← e]; decide)⟩
theorem PH.pt {p t : Nat} (s : PH p t) : p ≠ t := by rcases s with ⟨rfl, rfl⟩ | ⟨rfl, rfl⟩ <;> decide
theorem PH.nin {p t : Nat} (s : PH p t) {A : List Nat} (hA : ∀ k ∈ A, k ∉ [36, 53, 37, 54]) : p ∉ A ∧ t ∉ A :=
  ⟨fun e => hA p e (by rcases s with ⟨rfl, rfl⟩ | ⟨rfl, rfl⟩ <;> decide), fun e => hA t e (by rcases s with ⟨rfl, rfl⟩ | ⟨rfl, rfl⟩ <;> decide)⟩
theorem PH.nB {p t : Nat} (s : PH p t) {B : List (Nat × Int)} (hB : ∀ q ∈ B, q.1 ∉ [36, 53, 37, 54]) : (∀ q ∈ B, q.1 ≠ p) ∧ ∀ q ∈ B, q.1 ≠ t :=
  ⟨fun q hq e => hB q hq (by rw [e]; rcases s with ⟨rfl, rfl⟩ | ⟨rfl, rfl⟩ <;> decide), fun q hq e => hB q hq (by rw [e]; rcases s with ⟨rfl, rfl⟩ | ⟨rfl, rfl⟩ <;> decide)⟩
theorem PH.sc {p t : Nat} (s : PH p t) : (p < 24 ∨ 34 < p) ∧ (t < 24 ∨ 34 < t) := by rcases s with ⟨rfl, rfl⟩ | ⟨rfl, rfl⟩ <;> decide
theorem PH.tst {p t : Nat} (s : PH p t) : t ∉ stC := by rcases s with ⟨rfl, rfl⟩ | ⟨rfl, rfl⟩ <;> decide
theorem PH.pst {p t : Nat} (s : PH p t) : p ∉ stC := by rcases s with ⟨rfl, rfl⟩ | ⟨rfl, rfl⟩ <;> decide

theorem dX5_takeMost_0 : decode cX5_takeMost 0 = .ok (.aload_n 0, 1) := by decide +kernel
theorem dX5_takeMost_1 : decode cX5_takeMost 1 = .ok (.getfield 9, 3) := by decide +kernel
theorem dX5_takeMost_4 : decode cX5_takeMost 4 = .ok (.getfield 58, 3) := by decide +kernel
theorem dX5_takeMost_7 : decode cX5_takeMost 7 = .ok (.iload_n 2, 1) := by decide +kernel
theorem dX5_takeMost_8 : decode cX5_takeMost 8 = .ok (.iaload, 1) := by decide +kernel
theorem dX5_takeMost_9 : decode cX5_takeMost 9 = .ok (.istore 4, 2) := by decide +kernel
theorem dX5_takeMost_11 : decode cX5_takeMost 11 = .ok (.aload_n 0, 1) := by decide +kernel
theorem dX5_takeMost_12 : decode cX5_takeMost 12 = .ok (.getfield 9, 3) := by decide +kernel
theorem dX5_takeMost_15 : decode cX5_takeMost 15 = .ok (.getfield 61, 3) := by decide +kernel
theorem dX5_takeMost_18 : decode cX5_takeMost 18 = .ok (.iload_n 1, 1) := by decide +kernel
theorem dX5_takeMost_19 : decode cX5_takeMost 19 = .ok (.iaload, 1) := by decide +kernel
theorem dX5_takeMost_20 : decode cX5_takeMost 20 = .ok (.istore 5, 2) := by decide +kernel
theorem dX5_takeMost_22 : decode cX5_takeMost 22 = .ok (.aload_n 0, 1) := by decide +kernel
theorem dX5_takeMost_23 : decode cX5_takeMost 23 = .ok (.getfield 9, 3) := by decide +kernel
theorem dX5_takeMost_26 : decode cX5_takeMost 26 = .ok (.getfield 64, 3) := by decide +kernel
theorem dX5_takeMost_29 : decode cX5_takeMost 29 = .ok (.iload_n 1, 1) := by decide +kernel
theorem dX5_takeMost_30 : decode cX5_takeMost 30 = .ok (.iaload, 1) := by decide +kernel
theorem dX5_takeMost_31 : decode cX5_takeMost 31 = .ok (.istore 6, 2) := by decide +kernel
theorem dX5_takeMost_33 : decode cX5_takeMost 33 = .ok (.aload_n 0, 1) := by decide +kernel
theorem dX5_takeMost_34 : decode cX5_takeMost 34 = .ok (.getfield 9, 3) := by decide +kernel
theorem dX5_takeMost_37 : decode cX5_takeMost 37 = .ok (.getfield 67, 3) := by decide +kernel
theorem dX5_takeMost_40 : decode cX5_takeMost 40 = .ok (.iload_n 1, 1) := by decide +kernel
theorem dX5_takeMost_41 : decode cX5_takeMost 41 = .ok (.iload_n 2, 1) := by decide +kernel
theorem dX5_takeMost_42 : decode cX5_takeMost 42 = .ok (.invokestatic 47, 3) := by decide +kernel
theorem dX5_takeMost_45 : decode cX5_takeMost 45 = .ok (.iaload, 1) := by decide +kernel
theorem dX5_takeMost_46 : decode cX5_takeMost 46 = .ok (.iload 4, 2) := by decide +kernel
theorem dX5_takeMost_48 : decode cX5_takeMost 48 = .ok (.iload 6, 2) := by decide +kernel
theorem dX5_takeMost_50 : decode cX5_takeMost 50 = .ok (.invokestatic 70, 3) := by decide +kernel
theorem dX5_takeMost_53 : decode cX5_takeMost 53 = .ok (.invokestatic 70, 3) := by decide +kernel
theorem dX5_takeMost_56 : decode cX5_takeMost 56 = .ok (.istore 7, 2) := by decide +kernel
theorem dX5_takeMost_58 : decode cX5_takeMost 58 = .ok (.aload_n 0, 1) := by decide +kernel
theorem dX5_takeMost_59 : decode cX5_takeMost 59 = .ok (.getfield 9, 3) := by decide +kernel
theorem dX5_takeMost_62 : decode cX5_takeMost 62 = .ok (.getfield 67, 3) := by decide +kernel
theorem dX5_takeMost_65 : decode cX5_takeMost 65 = .ok (.iload_n 1, 1) := by decide +kernel
theorem dX5_takeMost_66 : decode cX5_takeMost 66 = .ok (.iload_n 2, 1) := by decide +kernel
theorem dX5_takeMost_67 : decode cX5_takeMost 67 = .ok (.invokestatic 47, 3) := by decide +kernel
theorem dX5_takeMost_70 : decode cX5_takeMost 70 = .ok (.iconst 0, 1) := by decide +kernel
theorem dX5_takeMost_71 : decode cX5_takeMost 71 = .ok (.iastore, 1) := by decide +kernel
theorem dX5_takeMost_72 : decode cX5_takeMost 72 = .ok (.iload 7, 2) := by decide +kernel
theorem dX5_takeMost_74 : decode cX5_takeMost 74 = .ok (.istore 8, 2) := by decide +kernel
theorem dX5_takeMost_76 : decode cX5_takeMost 76 = .ok (.iload 8, 2) := by decide +kernel
theorem dX5_takeMost_78 : decode cX5_takeMost 78 = .ok (.ifCond .le 82, 3) := by decide +kernel
theorem dX5_takeMost_81 : decode cX5_takeMost 81 = .ok (.aload_n 0, 1) := by decide +kernel
theorem dX5_takeMost_82 : decode cX5_takeMost 82 = .ok (.getfield 9, 3) := by decide +kernel
theorem dX5_takeMost_85 : decode cX5_takeMost 85 = .ok (.iload_n 2, 1) := by decide +kernel
theorem dX5_takeMost_86 : decode cX5_takeMost 86 = .ok (.iload 4, 2) := by decide +kernel
theorem dX5_takeMost_88 : decode cX5_takeMost 88 = .ok (.iload 8, 2) := by decide +kernel
theorem dX5_takeMost_90 : decode cX5_takeMost 90 = .ok (.isub, 1) := by decide +kernel
theorem dX5_takeMost_91 : decode cX5_takeMost 91 = .ok (.invokevirtual 75, 3) := by decide +kernel
theorem dX5_takeMost_94 : decode cX5_takeMost 94 = .ok (.aload_n 0, 1) := by decide +kernel
theorem dX5_takeMost_95 : decode cX5_takeMost 95 = .ok (.getfield 9, 3) := by decide +kernel
theorem dX5_takeMost_98 : decode cX5_takeMost 98 = .ok (.iload_n 1, 1) := by decide +kernel
theorem dX5_takeMost_99 : decode cX5_takeMost 99 = .ok (.iconst 0, 1) := by decide +kernel
theorem dX5_takeMost_100 : decode cX5_takeMost 100 = .ok (.iload 5, 2) := by decide +kernel
theorem dX5_takeMost_102 : decode cX5_takeMost 102 = .ok (.iload 8, 2) := by decide +kernel
theorem dX5_takeMost_104 : decode cX5_takeMost 104 = .ok (.isub, 1) := by decide +kernel
theorem dX5_takeMost_105 : decode cX5_takeMost 105 = .ok (.invokestatic 79, 3) := by decide +kernel
theorem dX5_takeMost_108 : decode cX5_takeMost 108 = .ok (.iload 6, 2) := by decide +kernel
theorem dX5_takeMost_110 : decode cX5_takeMost 110 = .ok (.iload 8, 2) := by decide +kernel
theorem dX5_takeMost_112 : decode cX5_takeMost 112 = .ok (.isub, 1) := by decide +kernel
theorem dX5_takeMost_113 : decode cX5_takeMost 113 = .ok (.invokevirtual 54, 3) := by decide +kernel
theorem dX5_takeMost_116 : decode cX5_takeMost 116 = .ok (.aload_n 0, 1) := by decide +kernel
theorem dX5_takeMost_117 : decode cX5_takeMost 117 = .ok (.getfield 9, 3) := by decide +kernel
theorem dX5_takeMost_120 : decode cX5_takeMost 120 = .ok (.iload_n 1, 1) := by decide +kernel
theorem dX5_takeMost_121 : decode cX5_takeMost 121 = .ok (.invokevirtual 29, 3) := by decide +kernel
theorem dX5_takeMost_124 : decode cX5_takeMost 124 = .ok (.istore 9, 2) := by decide +kernel
theorem dX5_takeMost_126 : decode cX5_takeMost 126 = .ok (.iload 9, 2) := by decide +kernel
theorem dX5_takeMost_128 : decode cX5_takeMost 128 = .ok (.iconst (-1), 1) := by decide +kernel
theorem dX5_takeMost_129 : decode cX5_takeMost 129 = .ok (.if_icmp .eq 25, 3) := by decide +kernel
theorem dX5_takeMost_132 : decode cX5_takeMost 132 = .ok (.iload 9, 2) := by decide +kernel
theorem dX5_takeMost_134 : decode cX5_takeMost 134 = .ok (.iload 8, 2) := by decide +kernel
theorem dX5_takeMost_136 : decode cX5_takeMost 136 = .ok (.aload_n 0, 1) := by decide +kernel
theorem dX5_takeMost_137 : decode cX5_takeMost 137 = .ok (.getfield 9, 3) := by decide +kernel
theorem dX5_takeMost_140 : decode cX5_takeMost 140 = .ok (.getfield 51, 3) := by decide +kernel
theorem dX5_takeMost_143 : decode cX5_takeMost 143 = .ok (.iload_n 2, 1) := by decide +kernel
theorem dX5_takeMost_144 : decode cX5_takeMost 144 = .ok (.iaload, 1) := by decide +kernel
theorem dX5_takeMost_145 : decode cX5_takeMost 145 = .ok (.imul, 1) := by decide +kernel
theorem dX5_takeMost_146 : decode cX5_takeMost 146 = .ok (.iadd, 1) := by decide +kernel
theorem dX5_takeMost_147 : decode cX5_takeMost 147 = .ok (.iload_n 3, 1) := by decide +kernel
theorem dX5_takeMost_148 : decode cX5_takeMost 148 = .ok (.if_icmp .ne 6, 3) := by decide +kernel
theorem dX5_takeMost_151 : decode cX5_takeMost 151 = .ok (.iload 8, 2) := by decide +kernel
theorem dX5_takeMost_153 : decode cX5_takeMost 153 = .ok (.ireturn, 1) := by decide +kernel
theorem dX5_takeMost_154 : decode cX5_takeMost 154 = .ok (.iinc 8 (-1), 3) := by decide +kernel
theorem dX5_takeMost_157 : decode cX5_takeMost 157 = .ok (.goto (-81), 3) := by decide +kernel
theorem dX5_takeMost_160 : decode cX5_takeMost 160 = .ok (.aload_n 0, 1) := by decide +kernel
theorem dX5_takeMost_161 : decode cX5_takeMost 161 = .ok (.getfield 9, 3) := by decide +kernel
theorem dX5_takeMost_164 : decode cX5_takeMost 164 = .ok (.iload_n 2, 1) := by decide +kernel
theorem dX5_takeMost_165 : decode cX5_takeMost 165 = .ok (.iload 4, 2) := by decide +kernel
theorem dX5_takeMost_167 : decode cX5_takeMost 167 = .ok (.invokevirtual 75, 3) := by decide +kernel
theorem dX5_takeMost_170 : decode cX5_takeMost 170 = .ok (.aload_n 0, 1) := by decide +kernel
theorem dX5_takeMost_171 : decode cX5_takeMost 171 = .ok (.getfield 9, 3) := by decide +kernel
theorem dX5_takeMost_174 : decode cX5_takeMost 174 = .ok (.iload_n 1, 1) := by decide +kernel
theorem dX5_takeMost_175 : decode cX5_takeMost 175 = .ok (.iload 5, 2) := by decide +kernel
theorem dX5_takeMost_177 : decode cX5_takeMost 177 = .ok (.iload 6, 2) := by decide +kernel
theorem dX5_takeMost_179 : decode cX5_takeMost 179 = .ok (.invokevirtual 54, 3) := by decide +kernel
theorem dX5_takeMost_182 : decode cX5_takeMost 182 = .ok (.iconst 0, 1) := by decide +kernel
theorem dX5_takeMost_183 : decode cX5_takeMost 183 = .ok (.ireturn, 1) := by decide +kernel
set_option maxHeartbeats 2000000 in
theorem c5_takeMost {G : Gl} {l : Launch}  {M : Mem} {I : Ins} {p t : Nat} {x w v : Int} (hG : GR M) (hP : PH p t) (hI : SC M I) (hIb : IB I) (hx0 : 0 ≤ x) (hx1 : x < iL I) (hw0 : 0 ≤ w) (hw1 : w < iW I) (hz : ∀ y, 0 ≤ y → y < x → iN I y = 0 ∧ iM I y = 0 ∧ ∀ u, 0 ≤ u → u < iW I → iO I y u = 0) (hv0 : 0 ≤ v) (hv1 : v ≤ 10000) : Ct G LY 57 l 2 m5_takeMost [vR p, vI x, vI w, vI v] M (RP (fun n M' => Fr [25, 26, 27, 28, 31, 32, 33, 34, 35] [] M M' ∧ n = tk I x w v ∧ SC M' (TK I x w n))) := by
  refine R_start (by decide +kernel) (Nat.le_of_ble_eq_true rfl) (fun C hC hRm hlau => ?_)
  show RZ G LY C (Zn G LY 57 C (RP (fun n M' => Fr [25, 26, 27, 28, 31, 32, 33, 34, 35] [] M M' ∧ n = tk I x w v ∧ SC M' (TK I x w n)))) 0 0 57 0 [some (vR p), some (vI x), some (vI w), some (vI v), none, none, none, none, none, none] [] M
  have hLb := hIb.1
  have hWb := hIb.2.1
  have h11 := hI.1.1
  have h12 := hI.1.2.1
  have h13 := hI.1.2.2
  have hpw := hIb.pw
  have q26 := (hI.2.2.2.1 w hw0 hw1).1
  have q29 := (hI.2.2.2.1 w hw0 hw1).2
  have q27 := (hI.2.1 x hx0 hx1).1
  have q28 := (hI.2.1 x hx0 hx1).2
  have q25 := hI.2.2.1 x w hx0 hx1 hw0 hw1
  have bs := (hIb.2.2.2.1 w hw0 hw1).1
  have bz := (hIb.2.2.2.1 w hw0 hw1).2
  have bn := hIb.2.2.2.2 x hx0 hx1
  have bo := hIb.2.2.1 x w hx0 hx1 hw0 hw1
  refine R_aload_0 hC dX5_takeMost_0 ?_
  refine R_getR hC dX5_takeMost_1 fl_5_9 hP.l hP.k (by decide) (by decide) (fi := 0) rfl (r := 24) (hP.r hG) ?_
  refine R_getR hC dX5_takeMost_4 fl_5_58 (by decide) rfl (by decide) (by decide) (fi := 1) rfl (r := 26) (gr_24_1 hG) ?_
  refine R_iload_2 hC dX5_takeMost_7 ?_
  refine R_iaload hC dX5_takeMost_8 (by decide) rfl (by omega) (by omega) ?_
  rw [q26]
  refine R_istore_4 hC dX5_takeMost_9 rfl ?_
  refine R_aload_0 hC dX5_takeMost_11 ?_
  refine R_getR hC dX5_takeMost_12 fl_5_9 hP.l hP.k (by decide) (by decide) (fi := 0) rfl (r := 24) (hP.r hG) ?_
  refine R_getR hC dX5_takeMost_15 fl_5_61 (by decide) rfl (by decide) (by decide) (fi := 2) rfl (r := 27) (gr_24_2 hG) ?_
  refine R_iload_1 hC dX5_takeMost_18 ?_
  refine R_iaload hC dX5_takeMost_19 (by decide) rfl (by omega) (by omega) ?_
  rw [q27]
  refine R_istore_5 hC dX5_takeMost_20 rfl ?_
  refine R_aload_0 hC dX5_takeMost_22 ?_
  refine R_getR hC dX5_takeMost_23 fl_5_9 hP.l hP.k (by decide) (by decide) (fi := 0) rfl (r := 24) (hP.r hG) ?_
  refine R_getR hC dX5_takeMost_26 fl_5_64 (by decide) rfl (by decide) (by decide) (fi := 3) rfl (r := 28) (gr_24_3 hG) ?_
  refine R_iload_1 hC dX5_takeMost_29 ?_
  refine R_iaload hC dX5_takeMost_30 (by decide) rfl (by omega) (by omega) ?_
  rw [q28]
  refine R_istore_6 hC dX5_takeMost_31 rfl ?_
  refine R_aload_0 hC dX5_takeMost_33 ?_
  refine R_getR hC dX5_takeMost_34 fl_5_9 hP.l hP.k (by decide) (by decide) (fi := 0) rfl (r := 24) (hP.r hG) ?_
  refine R_getR hC dX5_takeMost_37 fl_5_67 (by decide) rfl (by decide) (by decide) (fi := 0) rfl (r := 25) (gr_24_0 hG) ?_
  refine R_iload_1 hC dX5_takeMost_40 ?_
  refine R_iload_2 hC dX5_takeMost_41 ?_
  refine R_callSNq (as := [vI _, vI _]) hC dX5_takeMost_42 mo_11_pairOf mn_5_47 (c11_pairOf  (by omega) (by omega) (by omega) (by omega)) rfl rfl hRm (by decide) (by decide) (Nat.le_of_ble_eq_true rfl) ?_
  refine R_iaload hC dX5_takeMost_45 (by decide) rfl (by omega) (by omega) ?_
  rw [q25]
  refine R_iload_4 hC dX5_takeMost_46 ?_
  refine R_iload_6 hC dX5_takeMost_48 ?_
  refine R_min hC dX5_takeMost_50 jl_5_70 hRm (by decide) (Nat.le_of_ble_eq_true rfl) ?_
  refine R_min hC dX5_takeMost_53 jl_5_70 hRm (by decide) (Nat.le_of_ble_eq_true rfl) ?_
  refine R_istore_7 hC dX5_takeMost_56 rfl ?_
  refine R_aload_0 hC dX5_takeMost_58 ?_
  refine R_getR hC dX5_takeMost_59 fl_5_9 hP.l hP.k (by decide) (by decide) (fi := 0) rfl (r := 24) (hP.r hG) ?_
  refine R_getR hC dX5_takeMost_62 fl_5_67 (by decide) rfl (by decide) (by decide) (fi := 0) rfl (r := 25) (gr_24_0 hG) ?_
  refine R_iload_1 hC dX5_takeMost_65 ?_
  refine R_iload_2 hC dX5_takeMost_66 ?_
  refine R_callSNq (as := [vI _, vI _]) hC dX5_takeMost_67 mo_11_pairOf mn_5_47 (c11_pairOf  (by omega) (by omega) (by omega) (by omega)) rfl rfl hRm (by decide) (by decide) (Nat.le_of_ble_eq_true rfl) ?_
  refine R_iconst hC dX5_takeMost_70 ⟨by decide, by decide⟩ ?_
  refine R_iastore hC dX5_takeMost_71 (by decide) rfl (by omega) (by omega) ?_
  refine R_iload_7 hC dX5_takeMost_72 ?_
  refine R_istore_8 hC dX5_takeMost_74 rfl ?_
  have L76 : ∀ (mq : Nat) (many : Int) (J : Ins) (M1 : Mem), (0 ≤ many) → (many ≤ mxT I x w) → (GR M1) → (Fr [25, 26, 27, 28, 31, 32, 33, 34, 35] [] M M1) → (SCw M1 J w) → (JE I J x w) → (IB J) → (tk I x w v = tkF I x w v many.toNat) → (many).toNat < mq → RZ G LY C (Zn G LY 57 C (RP (fun n M' => Fr [25, 26, 27, 28, 31, 32, 33, 34, 35] [] M M' ∧ n = tk I x w v ∧ SC M' (TK I x w n)))) 0 0 57 76 [some (vR p), some (vI x), some (vI w), some (vI v), some (vI (iS I w)), some (vI (iN I x)), some (vI (iM I x)), some (vI (min (iO I x w) (min (iS I w) (iM I x)))), some (vI many), none] [] M1 := by
    intro mq
    induction mq with
    | zero =>
      intro many J M1 hm0 hm1 hg hF hSJ hJ hJb htk hm
      exact absurd hm (Nat.not_lt_zero _)
    | succ mq ih76 =>
      intro many J M1 hm0 hm1 hg hF hSJ hJ hJb htk hm76
      have hJL : iL J = iL I := congrArg Prod.fst hJ.1
      have hJW : iW J = iW I := congrArg Prod.snd hJ.1
      refine R_iload_8 hC dX5_takeMost_76 ?_
      refine R_if_le hC dX5_takeMost_78 (tgt := 160) (by decide) (fun hb78 => ?_) (fun hb78 => ?_)
      · skip
        have m0 : many = 0 := by omega
        refine R_aload_0 hC dX5_takeMost_160 ?_
        refine R_getR hC dX5_takeMost_161 fl_5_9 hP.l hP.k (by decide) (by decide) (fi := 0) rfl (r := 24) (hP.r hg) ?_
        refine R_iload_2 hC dX5_takeMost_164 ?_
        refine R_iload_4 hC dX5_takeMost_165 ?_
        refine R_callVv (as := [vI _, vI _]) hC dX5_takeMost_167 mo_6_setSpare ml_5_75 (by decide) rfl rfl (c6_setSpare  hg hSJ hJb (by omega) (by omega) (by omega)) rfl rfl hRm (by decide) (by decide) (Nat.le_of_ble_eq_true rfl) (fun Mc1 hq2 => ?_)
        have hSC3 := hq2.2
        refine R_aload_0 hC dX5_takeMost_170 ?_
        have hG4 : GR Mc1 := (GR.fr hg hq2.1 (by decide +kernel))
        refine R_getR hC dX5_takeMost_171 fl_5_9 hP.l hP.k (by decide) (by decide) (fi := 0) rfl (r := 24) (hP.r hG4) ?_
        refine R_iload_1 hC dX5_takeMost_174 ?_
        refine R_iload_5 hC dX5_takeMost_175 ?_
        refine R_iload_6 hC dX5_takeMost_177 ?_
        refine R_callVv (as := [vI _, vI _, vI _]) hC dX5_takeMost_179 mo_6_setLibrary ml_5_54 (by decide) rfl rfl (c6_setLibrary  hG4 hSC3 (hJb.setS (by omega) (by omega)) (by omega) (show x < iL J by omega) (by omega) (by omega) (by omega) (by omega)) rfl rfl hRm (by decide) (by decide) (Nat.le_of_ble_eq_true rfl) (fun Mc5 hq6 => ?_)
        have hSC7 := hq6.2
        have eT := hJ.eq (iS I w) (iN I x) (iM I x)
        have hSx : SC Mc5 (TK I x w 0) := by
          have e : max 0 (iS I w) = iS I w := by omega
          rw [e] at hSC7
          have e2 : TK I x w 0 = setNM (setS (setO I x w 0) w (iS I w)) x (iN I x) (iM I x) := by
            unfold TK
            rw [Int.sub_zero, Int.sub_zero, Int.sub_zero, show max 0 (iN I x) = iN I x by omega]
          rw [e2]
          exact eT ▸ hSC7
        refine R_iconst hC dX5_takeMost_182 ⟨by decide, by decide⟩ ?_
        exact R_ireturn hC dX5_takeMost_183 rfl (ret_P ⟨Fr.tt (Fr.tt hF (hq2.1.mo (by decide) (by decide))) (hq6.1.mo (by decide) (by decide)), by (rw [htk, m0]; rfl), hSx⟩)
      · skip
        have bmx : many ≤ iO I x w ∧ many ≤ iS I w ∧ many ≤ iM I x := by unfold mxT at hm1; omega
        have hTb := hIb.TK hx0 hx1 hw0 hw1 (show 0 ≤ many by omega) bmx.2.1 bmx.2.2
        refine R_aload_0 hC dX5_takeMost_81 ?_
        refine R_getR hC dX5_takeMost_82 fl_5_9 hP.l hP.k (by decide) (by decide) (fi := 0) rfl (r := 24) (hP.r hg) ?_
        refine R_iload_2 hC dX5_takeMost_85 ?_
        refine R_iload_4 hC dX5_takeMost_86 ?_
        refine R_iload_8 hC dX5_takeMost_88 ?_
        refine R_isub hC dX5_takeMost_90 ⟨by omega, by omega⟩ ?_
        refine R_callVv (as := [vI _, vI _]) hC dX5_takeMost_91 mo_6_setSpare ml_5_75 (by decide) rfl rfl (c6_setSpare  hg hSJ hJb (by omega) (by omega) (by omega)) rfl rfl hRm (by decide) (by decide) (Nat.le_of_ble_eq_true rfl) (fun Mc8 hq9 => ?_)
        have hSC10 := hq9.2
        refine R_aload_0 hC dX5_takeMost_94 ?_
        have hG11 : GR Mc8 := (GR.fr hg hq9.1 (by decide +kernel))
        refine R_getR hC dX5_takeMost_95 fl_5_9 hP.l hP.k (by decide) (by decide) (fi := 0) rfl (r := 24) (hP.r hG11) ?_
        refine R_iload_1 hC dX5_takeMost_98 ?_
        refine R_iconst hC dX5_takeMost_99 ⟨by decide, by decide⟩ ?_
        refine R_iload_5 hC dX5_takeMost_100 ?_
        refine R_iload_8 hC dX5_takeMost_102 ?_
        refine R_isub hC dX5_takeMost_104 ⟨by omega, by omega⟩ ?_
        refine R_max hC dX5_takeMost_105 jl_5_79 hRm (by decide) (Nat.le_of_ble_eq_true rfl) ?_
        refine R_iload_6 hC dX5_takeMost_108 ?_
        refine R_iload_8 hC dX5_takeMost_110 ?_
        refine R_isub hC dX5_takeMost_112 ⟨by omega, by omega⟩ ?_
        refine R_callVv (as := [vI _, vI _, vI _]) hC dX5_takeMost_113 mo_6_setLibrary ml_5_54 (by decide) rfl rfl (c6_setLibrary  hG11 hSC10 (hJb.setS (by omega) (by omega)) (by omega) (show x < iL J by omega) (by omega) (by omega) (by omega) (by omega)) rfl rfl hRm (by decide) (by decide) (Nat.le_of_ble_eq_true rfl) (fun Mc12 hq13 => ?_)
        have hSC14 := hq13.2
        have eT := hJ.eq (iS I w - many) (max 0 (iN I x - many)) (iM I x - many)
        have hSx : SC Mc12 (TK I x w many) := by
          have e : max 0 (iS I w - many) = iS I w - many := by omega
          rw [e, eT] at hSC14
          exact hSC14
        refine R_aload_0 hC dX5_takeMost_116 ?_
        have hG15 : GR Mc12 := (GR.fr hG11 hq13.1 (by decide +kernel))
        refine R_getR hC dX5_takeMost_117 fl_5_9 hP.l hP.k (by decide) (by decide) (fi := 0) rfl (r := 24) (hP.r hG15) ?_
        refine R_iload_1 hC dX5_takeMost_120 ?_
        refine R_callVp (as := [vI _]) hC dX5_takeMost_121 mo_6_space ml_5_29 (by decide) rfl rfl (c6_space  hG15 hSx hTb (by omega) (show x ≤ iL I by omega) (fun y y0 y1 => by (have q := hz y y0 y1; exact ⟨(up_ne (by omega)).trans q.1, (up_ne (by omega)).trans q.2.1, fun u u0 u1 => (if_neg (by omega)).trans (q.2.2 u u0 u1)⟩))) rfl rfl hRm (by decide) (by decide) (Nat.le_of_ble_eq_true rfl) (fun v18 Mc16 hq17 => ?_)
        have hSC19 := SC.fr hSx hq17.1 (by decide) (by decide)
        refine R_istore_9 hC dX5_takeMost_124 rfl ?_
        refine R_iload_9 hC dX5_takeMost_126 ?_
        refine R_iconst hC dX5_takeMost_128 ⟨by decide, by decide⟩ ?_
        refine R_icmp_eq hC dX5_takeMost_129 (tgt := 154) (by decide) (fun hb129 => ?_) (fun hb129 => ?_)
        · skip
          refine R_iinc_8 hC dX5_takeMost_154 rfl ⟨by omega, by omega⟩ ?_
          refine R_goto hC dX5_takeMost_157 (tgt := 76) (by decide) ?_
          have hFb : Fr [25, 26, 27, 28, 31, 32, 33, 34, 35] [] M Mc16 := Fr.tt (Fr.tt (Fr.tt hF (hq9.1.mo (by decide) (by decide))) (hq13.1.mo (by decide) (by decide))) (hq17.1.mo (by decide) (by decide))
          have hng : ¬ gdT I x w v many := fun q => by
            have q1 := hq17.2.1
            first
              | (rw [hb129] at q1; exact absurd q.1 ((SPC_n hTb).mp q1.symm))
              | (have q2 := q.2; rw [← q1] at q2; rw [Int.mul_comm] at q2; rw [Int.mul_comm] at hb148; exact hb148 q2)
          refine R_weak (subL_c (subL_c (subL_c (subL_c (subL_c (subL_c (subL_c (subL_c (subL_c (subL_d subL_n)))))))))) ?_
          have hG20 : GR Mc16 := (GR.fr hG15 hq17.1 (by decide +kernel))
          exact ih76 _ (TK I x w many) _ (by omega) (by omega) hG20 hFb (hSC19.w w) (JE.TK I x w many) hTb (by (rw [htk, tkF_f (by omega)]; rfl); exact hng) (by omega)
        · skip
          refine R_iload_9 hC dX5_takeMost_132 ?_
          refine R_iload_8 hC dX5_takeMost_134 ?_
          refine R_aload_0 hC dX5_takeMost_136 ?_
          have hG21 : GR Mc16 := (GR.fr hG15 hq17.1 (by decide +kernel))
          refine R_getR hC dX5_takeMost_137 fl_5_9 hP.l hP.k (by decide) (by decide) (fi := 0) rfl (r := 24) (hP.r hG21) ?_
          refine R_getR hC dX5_takeMost_140 fl_5_51 (by decide) rfl (by decide) (by decide) (fi := 4) rfl (r := 29) (gr_24_4 hG21) ?_
          refine R_iload_2 hC dX5_takeMost_143 ?_
          refine R_iaload hC dX5_takeMost_144 (by decide) rfl (by omega) (by omega) ?_
          have q143 : Mc16 29 w = iZ I w := (hSC19.2.2.2.1 w hw0 hw1).2
          have bS := SPC_bd hTb
          have bmz := mul_bd (show 0 ≤ many by omega) (show many ≤ 3 by omega) (show 0 ≤ iZ I w by omega) bz.2
          rw [q143]
          refine R_imul hC dX5_takeMost_145 ⟨by omega, by omega⟩ ?_
          refine R_iadd hC dX5_takeMost_146 ⟨by omega, by omega⟩ ?_
          refine R_iload_3 hC dX5_takeMost_147 ?_
          refine R_icmp_ne hC dX5_takeMost_148 (tgt := 154) (by decide) (fun hb148 => ?_) (fun hb148 => ?_)
          · skip
            refine R_iinc_8 hC dX5_takeMost_154 rfl ⟨by omega, by omega⟩ ?_
            refine R_goto hC dX5_takeMost_157 (tgt := 76) (by decide) ?_
            have hFb : Fr [25, 26, 27, 28, 31, 32, 33, 34, 35] [] M Mc16 := Fr.tt (Fr.tt (Fr.tt hF (hq9.1.mo (by decide) (by decide))) (hq13.1.mo (by decide) (by decide))) (hq17.1.mo (by decide) (by decide))
            have hng : ¬ gdT I x w v many := fun q => by
              have q1 := hq17.2.1
              first
                | (rw [hb129] at q1; exact absurd q.1 ((SPC_n hTb).mp q1.symm))
                | (have q2 := q.2; rw [← q1] at q2; rw [Int.mul_comm] at q2; rw [Int.mul_comm] at hb148; exact hb148 q2)
            refine R_weak (subL_c (subL_c (subL_c (subL_c (subL_c (subL_c (subL_c (subL_c (subL_c (subL_d subL_n)))))))))) ?_
            exact ih76 _ (TK I x w many) _ (by omega) (by omega) hG21 hFb (hSC19.w w) (JE.TK I x w many) hTb (by (rw [htk, tkF_f (by omega)]; rfl); exact hng) (by omega)
          · skip
            refine R_iload_8 hC dX5_takeMost_151 ?_
            exact R_ireturn hC dX5_takeMost_153 rfl (ret_P ⟨Fr.tt (Fr.tt (Fr.tt hF (hq9.1.mo (by decide) (by decide))) (hq13.1.mo (by decide) (by decide))) (hq17.1.mo (by decide) (by decide)), by (rw [htk, tkF_t (by omega)]); exact ⟨Classical.byContradiction (fun q => hb129 (by rw [hq17.2.1]; exact SPC_f q)), by rw [← hq17.2.1]; exact hb148⟩, hSC19⟩)
  have hS0 : SCw (uM M 25 (x * 6 + w) 0) (setO I x w 0) w := ⟨⟨(uM_h (by decide)).trans h11, (uM_h (by decide)).trans h12, (uM_h (by decide)).trans h13⟩,
    fun y y0 y1 => by rw [uM_h (by decide), uM_h (by decide)]; exact hI.2.1 y y0 y1,
    fun y u y0 y1 u0 u1 => by
      have u1 : u < iW I := u1
      show _ = if y = x ∧ u = w then 0 else iO I y u
      by_cases q : y = x ∧ u = w
      · rw [if_pos q, q.1, q.2, uM_same]
      · rw [if_neg q, uM_k (by omega)]; exact hI.2.2.1 y u y0 y1 u0 u1,
    fun u u0 u1 => by rw [uM_h (by decide), uM_h (by decide)]; exact hI.2.2.2.1 u u0 u1,
    fun u u0 u1 => by rw [uM_h (by decide), uM_h (by decide)]; exact hI.2.2.2.2.1 u u0 u1,
    fun u u0 u1 q k k0 k1 => by
      rw [uM_h (by decide), uM_h (by decide)]
      have e : (fun y => iO (setO I x w 0) y u) = fun y => iO I y u := funext (fun y => if_neg (fun z => q z.2))
      rw [e]
      exact hI.2.2.2.2.2.1 u u0 u1 k k0 k1,
    by rw [uM_ne (by decide)]; exact hI.2.2.2.2.2.2⟩
  have hG22 : GR (uM M 25 (x * 6 + w) 0) := (GR.uA hG (by decide +kernel) (.inl (by decide)))
  exact L76 _ _ (setO I x w 0) _ (by omega) (by unfold mxT; omega) hG22 (Fr.uA Fr.rf (by decide)) hS0 (JE.O I x w) (hIb.setO (by decide) (by decide)) rfl (Nat.lt_succ_self _)
