/-! HELP -/
def btI (t x : Int) : Int := t / 2 ^ x.toNat % 2
/-- LACK of a set, were a copy given by x -/
def ltI (I : Ins) (x w t : Int) : Int := lackI I t - btI t x * (if 0 < iN I x then 1 else 0) + canw I w t - min (ss (fun y => iO I y w) t - btI t x) (iS I w)
def endP (I : Ins) (x w : Int) : Prop := ∀ t, 0 ≤ t → t < 2 ^ (iL I).toNat → ltI I x w t ≤ 0
theorem btI_01 (t x : Int) : btI t x = 0 ∨ btI t x = 1 := by unfold btI; omega
theorem ltI_0 {I : Ins} (h : IB I) {x w : Int} (w0 : 0 ≤ w) (w1 : w < iW I) : ltI I x w 0 ≤ 0 := by
  have h1 := h.lk0
  have h2 := (h.2.2.2.1 w w0 w1).1
  have e : btI 0 x = 0 := by unfold btI; simp
  unfold ltI canw
  rw [e, ss_0]
  omega
theorem IB.lt {I : Ins} (h : IB I) {x w t : Int} (w0 : 0 ≤ w) (w1 : w < iW I) (t0 : 0 ≤ t) (t1 : t < 2 ^ (iL I).toNat) : -2000 ≤ ltI I x w t ∧ ltI I x w t ≤ 2000 := by
  have h1 := h.lk t0 t1
  have h2 := h.cw w0 w1 t0 t1
  have h3 := h.ssO w0 w1 t0 t1
  have h4 := (h.2.2.2.1 w w0 w1).1
  have h5 : 0 ≤ btI t x * (if 0 < iN I x then (1 : Int) else 0) ∧ btI t x * (if 0 < iN I x then (1 : Int) else 0) ≤ 1 := by
    rcases btI_01 t x with q | q <;> rw [q] <;> split <;> omega
  have h6 := btI_01 t x
  unfold ltI
  omega
/-- the first of those that are so: 100 x + 10 t + w -/
def FstV (L W : Int) (P : Int → Int → Int → Prop) (v : Int) : Prop := (v = -1 ∧ ∀ x t w, 0 ≤ x → x < L → 0 ≤ t → t < L → 0 ≤ w → w < W → ¬ P x t w) ∨
  ∃ x t w, (0 ≤ x ∧ x < L ∧ 0 ≤ t ∧ t < L ∧ 0 ≤ w ∧ w < W) ∧ P x t w ∧ v = 100 * x + 10 * t + w ∧ ∀ x' t' w', 0 ≤ x' → x' < L → 0 ≤ t' → t' < L → 0 ≤ w' → w' < W → 100 * x' + 10 * t' + w' < v → ¬ P x' t' w'
def P1 (d : Int → Int) (x t w : Int) : Prop := mayGive d x t w ∧ endP (insOf d) x w
def P2 (d : Int → Int) (x t w : Int) : Prop := mayGive d x t w ∧ lackI (insOf (mvR d x t w)) (worst (insOf (mvR d x t w))) ≤ 1 ∧ ¬ FstV (d 121) (d 122) (P1 (mvR d x t w)) (-1)
theorem FstV_n {L W : Int} {P : Int → Int → Int → Prop} {v : Int} (h : FstV L W P v) (hv : v = -1) : ∀ x t w, 0 ≤ x → x < L → 0 ≤ t → t < L → 0 ≤ w → w < W → ¬ P x t w := by
  rcases h with ⟨_, h⟩ | ⟨x, t, w, hr, _, e, _⟩
  · exact h
  · omega
theorem FstV_ne {L W : Int} {P : Int → Int → Int → Prop} {v : Int} (h : FstV L W P v) (hv : v ≠ -1) : ¬ FstV L W P (-1) := by
  rcases h with ⟨q, _⟩ | ⟨x, t, w, hr, p, e, _⟩
  · exact absurd q hv
  · exact fun q => FstV_n q rfl x t w hr.1 hr.2.1 hr.2.2.1 hr.2.2.2.1 hr.2.2.2.2.1 hr.2.2.2.2.2 p
theorem mvR_back {d : Int → Int} {x t w : Int} (x0 : 0 ≤ x) (t0 : 0 ≤ t) (w0 : 0 ≤ w) (w1 : w < 6) (h : x ≠ t) : mvR (mvR d x t w) t x w = d := by
  funext k
  unfold mvR upd1
  have e : ¬ 28 + (t * 6 + w) = 28 + (x * 6 + w) := by omega
  have e' : ¬ 28 + (x * 6 + w) = 28 + (t * 6 + w) := by omega
  by_cases a : k = 28 + (x * 6 + w)
  · subst a
    simp [e'] <;> omega
  · by_cases b : k = 28 + (t * 6 + w)
    · subst b
      simp [e]
    · simp [a, b]
def HelpC (d : Int → Int) (fw fs : Int) : Prop := (lackI (insOf d) (worst (insOf d)) = 0 ∧ fw = 0 ∧ fs = -1) ∨ (lackI (insOf d) (worst (insOf d)) ≠ 0 ∧ 2 < lackI (insOf d) (worst (insOf d)) ∧ fw = -1 ∧ fs = -1) ∨
  (lackI (insOf d) (worst (insOf d)) ≠ 0 ∧ lackI (insOf d) (worst (insOf d)) ≤ 2 ∧ ∃ v1, ((lackI (insOf d) (worst (insOf d)) = 1 ∧ FstV (d 121) (d 122) (P1 d) v1) ∨ (lackI (insOf d) (worst (insOf d)) ≠ 1 ∧ v1 = -1)) ∧ ((v1 ≠ -1 ∧ fw = 1 ∧ fs = v1) ∨ (v1 = -1 ∧ FstV (d 121) (d 122) (P2 d) fs ∧ fw = if fs = -1 then -1 else 2)))
theorem mv_at {d : Int → Int} {x t w : Int} : mvR d x t w = fun k => if k = 28 + (t * 6 + w) then (if 28 + (t * 6 + w) = 28 + (x * 6 + w) then d (28 + (x * 6 + w)) - 1 else d (28 + (t * 6 + w))) + 1 else if k = 28 + (x * 6 + w) then d (28 + (x * 6 + w)) - 1 else d k := rfl
theorem SP.mv {d : Int → Int} (h : SP d) {x t w : Int} (x0 : 0 ≤ x) (x1 : x < 5) (t0 : 0 ≤ t) (t1 : t < 5) (w0 : 0 ≤ w) (w1 : w < 6) (hne : x ≠ t) (ho : 1 ≤ d (28 + x * 6 + w)) (ht : d (28 + t * 6 + w) < 3) : SP (mvR d x t w) := by
  have e1 : ¬ 28 + (t * 6 + w) = 28 + (x * 6 + w) := by omega
  have z : ∀ k, (k < 28 ∨ 58 ≤ k) → mvR d x t w k = d k := fun k hk => by
    rw [mv_at]
    simp only
    rw [if_neg (by omega), if_neg (by omega)]
  rw [Int.add_assoc] at ho ht
  obtain ⟨a, b, c, e, f, g⟩ := h
  refine ⟨?_, fun y y0 y1 => ?_, fun v v0 v1 => ?_, fun p p0 p1 => ?_, ?_, fun v v0 v1 => ?_⟩
  · rw [z 121 (by omega), z 122 (by omega)]; exact a
  · rw [z y (by omega), z (5 + y) (by omega)]; exact b y y0 y1
  · rw [z _ (by omega), z _ (by omega), z _ (by omega)]; exact c v v0 v1
  · rw [z (58 + p) (by omega), z (88 + p) (by omega)]
    refine ⟨?_, (e p p0 p1).2⟩
    have ex := (e (x * 6 + w) (by omega) (by omega)).1
    have et := (e (t * 6 + w) (by omega) (by omega)).1
    have ep := (e p p0 p1).1
    rw [mv_at]
    simp only
    split
    · first | omega | (split <;> omega)
    · first | omega | (split <;> omega)
  · rw [z 118 (by omega), z 119 (by omega), z 120 (by omega)]; exact f
  · rw [z 122 (by omega)] at v1
    rw [z _ (by omega)]
    exact g v v0 v1

theorem dX3_lackThen_0 : decode cX3_lackThen 0 = .ok (.iload_n 2, 1) := by decide +kernel
theorem dX3_lackThen_1 : decode cX3_lackThen 1 = .ok (.bipush 32, 2) := by decide +kernel
theorem dX3_lackThen_3 : decode cX3_lackThen 3 = .ok (.imul, 1) := by decide +kernel
theorem dX3_lackThen_4 : decode cX3_lackThen 4 = .ok (.iload_n 3, 1) := by decide +kernel
theorem dX3_lackThen_5 : decode cX3_lackThen 5 = .ok (.iadd, 1) := by decide +kernel
theorem dX3_lackThen_6 : decode cX3_lackThen 6 = .ok (.istore 4, 2) := by decide +kernel
theorem dX3_lackThen_8 : decode cX3_lackThen 8 = .ok (.aload_n 0, 1) := by decide +kernel
theorem dX3_lackThen_9 : decode cX3_lackThen 9 = .ok (.getfield 22, 3) := by decide +kernel
theorem dX3_lackThen_12 : decode cX3_lackThen 12 = .ok (.iload_n 3, 1) := by decide +kernel
theorem dX3_lackThen_13 : decode cX3_lackThen 13 = .ok (.iaload, 1) := by decide +kernel
theorem dX3_lackThen_14 : decode cX3_lackThen 14 = .ok (.istore 5, 2) := by decide +kernel
theorem dX3_lackThen_16 : decode cX3_lackThen 16 = .ok (.aload_n 0, 1) := by decide +kernel
theorem dX3_lackThen_17 : decode cX3_lackThen 17 = .ok (.getfield 9, 3) := by decide +kernel
theorem dX3_lackThen_20 : decode cX3_lackThen 20 = .ok (.getfield 80, 3) := by decide +kernel
theorem dX3_lackThen_23 : decode cX3_lackThen 23 = .ok (.iload 4, 2) := by decide +kernel
theorem dX3_lackThen_25 : decode cX3_lackThen 25 = .ok (.iaload, 1) := by decide +kernel
theorem dX3_lackThen_26 : decode cX3_lackThen 26 = .ok (.istore 6, 2) := by decide +kernel
theorem dX3_lackThen_28 : decode cX3_lackThen 28 = .ok (.iload_n 3, 1) := by decide +kernel
theorem dX3_lackThen_29 : decode cX3_lackThen 29 = .ok (.iload_n 1, 1) := by decide +kernel
theorem dX3_lackThen_30 : decode cX3_lackThen 30 = .ok (.ishr, 1) := by decide +kernel
theorem dX3_lackThen_31 : decode cX3_lackThen 31 = .ok (.iconst 1, 1) := by decide +kernel
theorem dX3_lackThen_32 : decode cX3_lackThen 32 = .ok (.iand, 1) := by decide +kernel
theorem dX3_lackThen_33 : decode cX3_lackThen 33 = .ok (.ifCond .eq 28, 3) := by decide +kernel
theorem dX3_lackThen_36 : decode cX3_lackThen 36 = .ok (.iload 5, 2) := by decide +kernel
theorem dX3_lackThen_38 : decode cX3_lackThen 38 = .ok (.aload_n 0, 1) := by decide +kernel
theorem dX3_lackThen_39 : decode cX3_lackThen 39 = .ok (.getfield 9, 3) := by decide +kernel
theorem dX3_lackThen_42 : decode cX3_lackThen 42 = .ok (.getfield 83, 3) := by decide +kernel
theorem dX3_lackThen_45 : decode cX3_lackThen 45 = .ok (.iload_n 1, 1) := by decide +kernel
theorem dX3_lackThen_46 : decode cX3_lackThen 46 = .ok (.iaload, 1) := by decide +kernel
theorem dX3_lackThen_47 : decode cX3_lackThen 47 = .ok (.ifCond .le 7, 3) := by decide +kernel
theorem dX3_lackThen_50 : decode cX3_lackThen 50 = .ok (.iconst 1, 1) := by decide +kernel
theorem dX3_lackThen_51 : decode cX3_lackThen 51 = .ok (.goto 4, 3) := by decide +kernel
theorem dX3_lackThen_54 : decode cX3_lackThen 54 = .ok (.iconst 0, 1) := by decide +kernel
theorem dX3_lackThen_55 : decode cX3_lackThen 55 = .ok (.isub, 1) := by decide +kernel
theorem dX3_lackThen_56 : decode cX3_lackThen 56 = .ok (.istore 5, 2) := by decide +kernel
theorem dX3_lackThen_58 : decode cX3_lackThen 58 = .ok (.iinc 6 (-1), 3) := by decide +kernel
theorem dX3_lackThen_61 : decode cX3_lackThen 61 = .ok (.iload 5, 2) := by decide +kernel
theorem dX3_lackThen_63 : decode cX3_lackThen 63 = .ok (.aload_n 0, 1) := by decide +kernel
theorem dX3_lackThen_64 : decode cX3_lackThen 64 = .ok (.getfield 9, 3) := by decide +kernel
theorem dX3_lackThen_67 : decode cX3_lackThen 67 = .ok (.getfield 86, 3) := by decide +kernel
theorem dX3_lackThen_70 : decode cX3_lackThen 70 = .ok (.iload 4, 2) := by decide +kernel
theorem dX3_lackThen_72 : decode cX3_lackThen 72 = .ok (.iaload, 1) := by decide +kernel
theorem dX3_lackThen_73 : decode cX3_lackThen 73 = .ok (.iadd, 1) := by decide +kernel
theorem dX3_lackThen_74 : decode cX3_lackThen 74 = .ok (.iload 6, 2) := by decide +kernel
theorem dX3_lackThen_76 : decode cX3_lackThen 76 = .ok (.aload_n 0, 1) := by decide +kernel
theorem dX3_lackThen_77 : decode cX3_lackThen 77 = .ok (.getfield 9, 3) := by decide +kernel
theorem dX3_lackThen_80 : decode cX3_lackThen 80 = .ok (.getfield 89, 3) := by decide +kernel
theorem dX3_lackThen_83 : decode cX3_lackThen 83 = .ok (.iload_n 2, 1) := by decide +kernel
theorem dX3_lackThen_84 : decode cX3_lackThen 84 = .ok (.iaload, 1) := by decide +kernel
theorem dX3_lackThen_85 : decode cX3_lackThen 85 = .ok (.invokestatic 92, 3) := by decide +kernel
theorem dX3_lackThen_88 : decode cX3_lackThen 88 = .ok (.isub, 1) := by decide +kernel
theorem dX3_lackThen_89 : decode cX3_lackThen 89 = .ok (.ireturn, 1) := by decide +kernel
set_option maxHeartbeats 400000 in
theorem c3_lackThen {G : Gl} {l : Launch}  {M : Mem} {I : Ins} {x w t : Int} (hG : GR M) (hI : SC M I) (hIb : IB I) (hla : ∀ t, 0 ≤ t → t < 2 ^ (iL I).toNat → M 48 t = lackI I t) (hx0 : 0 ≤ x) (hx1 : x < iL I) (hw0 : 0 ≤ w) (hw1 : w < iW I) (ht0 : 0 ≤ t) (ht1 : t < 2 ^ (iL I).toNat) : Ct G LY 57 l 1 m3_lackThen [vR 45, vI x, vI w, vI t] M (Ret (vI (ltI I x w t)) M) := by
  refine R_start (by decide +kernel) (Nat.le_of_ble_eq_true rfl) (fun C hC hRm hlau => ?_)
  show RZ G LY C (Zn G LY 57 C (Ret (vI (ltI I x w t)) M)) 0 0 57 0 [some (vR 45), some (vI x), some (vI w), some (vI t), none, none, none] [] M
  have hLb := hIb.1
  have hWb := hIb.2.1
  have h11 := hI.1.1
  have h12 := hI.1.2.1
  have h13 := hI.1.2.2
  have hpw := hIb.pw
  have q48 := hla t ht0 ht1
  have q31 := (hI.2.2.2.2.2.1 w hw0 hw1 t ht0 ht1).1
  have q32 := (hI.2.2.2.2.2.1 w hw0 hw1 t ht0 ht1).2
  have q26 := (hI.2.2.2.1 w hw0 hw1).1
  have q27 := (hI.2.1 x hx0 hx1).1
  have b1 := hIb.lk ht0 ht1
  have b2 := hIb.cw hw0 hw1 ht0 ht1
  have b3 := hIb.ssO hw0 hw1 ht0 ht1
  have b4 := (hIb.2.2.2.1 w hw0 hw1).1
  have b5 := btI_01 t x
  have qb : t / 2 ^ x.toNat % 2 ^ 1 = btI t x := by unfold btI; rfl
  refine R_iload_2 hC dX3_lackThen_0 ?_
  refine R_bipush hC dX3_lackThen_1 (by decide +kernel) ⟨by decide, by decide⟩ ?_
  refine R_imul hC dX3_lackThen_3 ⟨by omega, by omega⟩ ?_
  refine R_iload_3 hC dX3_lackThen_4 ?_
  refine R_iadd hC dX3_lackThen_5 ⟨by omega, by omega⟩ ?_
  refine R_istore_4 hC dX3_lackThen_6 rfl ?_
  refine R_aload_0 hC dX3_lackThen_8 ?_
  refine R_getR hC dX3_lackThen_9 fl_3_22 (by decide) rfl (by decide) (by decide) (fi := 2) rfl (r := 48) (gr_45_2 hG) ?_
  refine R_iload_3 hC dX3_lackThen_12 ?_
  refine R_iaload hC dX3_lackThen_13 (by decide) rfl (by omega) (by omega) ?_
  rw [q48]
  refine R_istore_5 hC dX3_lackThen_14 rfl ?_
  refine R_aload_0 hC dX3_lackThen_16 ?_
  refine R_getR hC dX3_lackThen_17 fl_3_9 (by decide) rfl (by decide) (by decide) (fi := 0) rfl (r := 24) (gr_45_0 hG) ?_
  refine R_getR hC dX3_lackThen_20 fl_3_80 (by decide) rfl (by decide) (by decide) (fi := 6) rfl (r := 31) (gr_24_6 hG) ?_
  refine R_iload_4 hC dX3_lackThen_23 ?_
  refine R_iaload hC dX3_lackThen_25 (by decide) rfl (by omega) (by omega) ?_
  rw [q31]
  refine R_istore_6 hC dX3_lackThen_26 rfl ?_
  refine R_iload_3 hC dX3_lackThen_28 ?_
  refine R_iload_1 hC dX3_lackThen_29 ?_
  refine R_ishr hC dX3_lackThen_30 (by omega) (by omega) ?_
  refine R_iconst hC dX3_lackThen_31 ⟨by decide, by decide⟩ ?_
  refine R_iandm hC dX3_lackThen_32 (m := 1) (by decide) (by decide) ?_
  refine R_if_eq hC dX3_lackThen_33 (tgt := 61) (by decide) (fun hb33 => ?_) (fun hb33 => ?_)
  · skip
    refine R_iload_5 hC dX3_lackThen_61 ?_
    refine R_aload_0 hC dX3_lackThen_63 ?_
    refine R_getR hC dX3_lackThen_64 fl_3_9 (by decide) rfl (by decide) (by decide) (fi := 0) rfl (r := 24) (gr_45_0 hG) ?_
    refine R_getR hC dX3_lackThen_67 fl_3_86 (by decide) rfl (by decide) (by decide) (fi := 7) rfl (r := 32) (gr_24_7 hG) ?_
    refine R_iload_4 hC dX3_lackThen_70 ?_
    refine R_iaload hC dX3_lackThen_72 (by decide) rfl (by omega) (by omega) ?_
    have b32 : M 32 (w * 32 + t) = canw I w t := q32
    refine R_iadd hC dX3_lackThen_73 ⟨by omega, by omega⟩ ?_
    refine R_iload_6 hC dX3_lackThen_74 ?_
    refine R_aload_0 hC dX3_lackThen_76 ?_
    refine R_getR hC dX3_lackThen_77 fl_3_9 (by decide) rfl (by decide) (by decide) (fi := 0) rfl (r := 24) (gr_45_0 hG) ?_
    refine R_getR hC dX3_lackThen_80 fl_3_89 (by decide) rfl (by decide) (by decide) (fi := 1) rfl (r := 26) (gr_24_1 hG) ?_
    refine R_iload_2 hC dX3_lackThen_83 ?_
    refine R_iaload hC dX3_lackThen_84 (by decide) rfl (by omega) (by omega) ?_
    refine R_min hC dX3_lackThen_85 jl_3_92 hRm (by decide) (Nat.le_of_ble_eq_true rfl) ?_
    refine R_isub hC dX3_lackThen_88 ⟨by omega, by omega⟩ ?_
    exact R_ireturn hC dX3_lackThen_89 rfl (ret_I (by unfold ltI; rw [q32, q26]; unfold canw; first | (rw [show btI t x = 0 by omega]; omega) | (rw [show btI t x = 1 by omega, ← he]; omega)))
  · skip
    refine R_iload_5 hC dX3_lackThen_36 ?_
    refine R_aload_0 hC dX3_lackThen_38 ?_
    refine R_getR hC dX3_lackThen_39 fl_3_9 (by decide) rfl (by decide) (by decide) (fi := 0) rfl (r := 24) (gr_45_0 hG) ?_
    refine R_getR hC dX3_lackThen_42 fl_3_83 (by decide) rfl (by decide) (by decide) (fi := 2) rfl (r := 27) (gr_24_2 hG) ?_
    refine R_iload_1 hC dX3_lackThen_45 ?_
    refine R_iaload hC dX3_lackThen_46 (by decide) rfl (by omega) (by omega) ?_
    have L55 : ∀ (e : Int), (e = if 0 < iN I x then 1 else 0) → RZ G LY C (Zn G LY 57 C (Ret (vI (ltI I x w t)) M)) 0 0 57 55 [some (vR 45), some (vI x), some (vI w), some (vI t), some (vI ((w * 32) + t)), some (vI (lackI I t)), some (vI (ss (fun x => iO I x w) t))] [vI e, vI (lackI I t)] M := by
      intro e he
      have be : e = 0 ∨ e = 1 := by rw [he]; split <;> omega
      refine R_isub hC dX3_lackThen_55 ⟨by omega, by omega⟩ ?_
      refine R_istore_5 hC dX3_lackThen_56 rfl ?_
      refine R_iinc_6 hC dX3_lackThen_58 rfl ⟨by omega, by omega⟩ ?_
      refine R_iload_5 hC dX3_lackThen_61 ?_
      refine R_aload_0 hC dX3_lackThen_63 ?_
      refine R_getR hC dX3_lackThen_64 fl_3_9 (by decide) rfl (by decide) (by decide) (fi := 0) rfl (r := 24) (gr_45_0 hG) ?_
      refine R_getR hC dX3_lackThen_67 fl_3_86 (by decide) rfl (by decide) (by decide) (fi := 7) rfl (r := 32) (gr_24_7 hG) ?_
      refine R_iload_4 hC dX3_lackThen_70 ?_
      refine R_iaload hC dX3_lackThen_72 (by decide) rfl (by omega) (by omega) ?_
      have b32 : M 32 (w * 32 + t) = canw I w t := q32
      refine R_iadd hC dX3_lackThen_73 ⟨by omega, by omega⟩ ?_
      refine R_iload_6 hC dX3_lackThen_74 ?_
      refine R_aload_0 hC dX3_lackThen_76 ?_
      refine R_getR hC dX3_lackThen_77 fl_3_9 (by decide) rfl (by decide) (by decide) (fi := 0) rfl (r := 24) (gr_45_0 hG) ?_
      refine R_getR hC dX3_lackThen_80 fl_3_89 (by decide) rfl (by decide) (by decide) (fi := 1) rfl (r := 26) (gr_24_1 hG) ?_
      refine R_iload_2 hC dX3_lackThen_83 ?_
      refine R_iaload hC dX3_lackThen_84 (by decide) rfl (by omega) (by omega) ?_
      refine R_min hC dX3_lackThen_85 jl_3_92 hRm (by decide) (Nat.le_of_ble_eq_true rfl) ?_
      refine R_isub hC dX3_lackThen_88 ⟨by omega, by omega⟩ ?_
      exact R_ireturn hC dX3_lackThen_89 rfl (ret_I (by unfold ltI; rw [q32, q26]; unfold canw; first | (rw [show btI t x = 0 by omega]; omega) | (rw [show btI t x = 1 by omega, ← he]; omega)))
    refine R_if_le hC dX3_lackThen_47 (tgt := 54) (by decide) (fun hb47 => ?_) (fun hb47 => ?_)
    · skip
      refine R_iconst hC dX3_lackThen_54 ⟨by decide, by decide⟩ ?_
      exact L55 _ (by first | (rw [if_pos (by omega)]) | (rw [if_neg (by omega)]))
    · skip
      refine R_iconst hC dX3_lackThen_50 ⟨by decide, by decide⟩ ?_
      refine R_goto hC dX3_lackThen_51 (tgt := 55) (by decide) ?_
      exact L55 _ (by first | (rw [if_pos (by omega)]) | (rw [if_neg (by omega)]))
theorem dX3_ends_0 : decode cX3_ends 0 = .ok (.aload_n 0, 1) := by decide +kernel
theorem dX3_ends_1 : decode cX3_ends 1 = .ok (.iload_n 1, 1) := by decide +kernel
theorem dX3_ends_2 : decode cX3_ends 2 = .ok (.iload_n 2, 1) := by decide +kernel
theorem dX3_ends_3 : decode cX3_ends 3 = .ok (.iload_n 3, 1) := by decide +kernel
theorem dX3_ends_4 : decode cX3_ends 4 = .ok (.invokevirtual 76, 3) := by decide +kernel
theorem dX3_ends_7 : decode cX3_ends 7 = .ok (.ifCond .le 5, 3) := by decide +kernel
theorem dX3_ends_10 : decode cX3_ends 10 = .ok (.iconst 0, 1) := by decide +kernel
theorem dX3_ends_11 : decode cX3_ends 11 = .ok (.ireturn, 1) := by decide +kernel
theorem dX3_ends_12 : decode cX3_ends 12 = .ok (.iconst 1, 1) := by decide +kernel
theorem dX3_ends_13 : decode cX3_ends 13 = .ok (.istore 4, 2) := by decide +kernel
theorem dX3_ends_15 : decode cX3_ends 15 = .ok (.iload 4, 2) := by decide +kernel
theorem dX3_ends_17 : decode cX3_ends 17 = .ok (.aload_n 0, 1) := by decide +kernel
theorem dX3_ends_18 : decode cX3_ends 18 = .ok (.getfield 9, 3) := by decide +kernel
theorem dX3_ends_21 : decode cX3_ends 21 = .ok (.getfield 56, 3) := by decide +kernel
theorem dX3_ends_24 : decode cX3_ends 24 = .ok (.if_icmp .ge 22, 3) := by decide +kernel
theorem dX3_ends_27 : decode cX3_ends 27 = .ok (.aload_n 0, 1) := by decide +kernel
theorem dX3_ends_28 : decode cX3_ends 28 = .ok (.iload_n 1, 1) := by decide +kernel
theorem dX3_ends_29 : decode cX3_ends 29 = .ok (.iload_n 2, 1) := by decide +kernel
theorem dX3_ends_30 : decode cX3_ends 30 = .ok (.iload 4, 2) := by decide +kernel
theorem dX3_ends_32 : decode cX3_ends 32 = .ok (.invokevirtual 76, 3) := by decide +kernel
theorem dX3_ends_35 : decode cX3_ends 35 = .ok (.ifCond .le 5, 3) := by decide +kernel
theorem dX3_ends_38 : decode cX3_ends 38 = .ok (.iconst 0, 1) := by decide +kernel
theorem dX3_ends_39 : decode cX3_ends 39 = .ok (.ireturn, 1) := by decide +kernel
theorem dX3_ends_40 : decode cX3_ends 40 = .ok (.iinc 4 1, 3) := by decide +kernel
theorem dX3_ends_43 : decode cX3_ends 43 = .ok (.goto (-28), 3) := by decide +kernel
theorem dX3_ends_46 : decode cX3_ends 46 = .ok (.iconst 1, 1) := by decide +kernel
theorem dX3_ends_47 : decode cX3_ends 47 = .ok (.ireturn, 1) := by decide +kernel
set_option maxHeartbeats 400000 in
theorem c3_ends {G : Gl} {l : Launch}  {M : Mem} {I : Ins} {x w u : Int} (hG : GR M) (hI : SC M I) (hIb : IB I) (hla : ∀ t, 0 ≤ t → t < 2 ^ (iL I).toNat → M 48 t = lackI I t) (hx0 : 0 ≤ x) (hx1 : x < iL I) (hw0 : 0 ≤ w) (hw1 : w < iW I) (hu0 : 0 ≤ u) (hu1 : u < 2 ^ (iL I).toNat) : Ct G LY 57 l 2 m3_ends [vR 45, vI x, vI w, vI u] M (Ret (vI (bP (endP I x w))) M) := by
  refine R_start (by decide +kernel) (Nat.le_of_ble_eq_true rfl) (fun C hC hRm hlau => ?_)
  show RZ G LY C (Zn G LY 57 C (Ret (vI (bP (endP I x w))) M)) 0 0 57 0 [some (vR 45), some (vI x), some (vI w), some (vI u), none] [] M
  have hLb := hIb.1
  have hWb := hIb.2.1
  have h11 := hI.1.1
  have h12 := hI.1.2.1
  have h13 := hI.1.2.2
  have hpw := hIb.pw
  refine R_aload_0 hC dX3_ends_0 ?_
  refine R_iload_1 hC dX3_ends_1 ?_
  refine R_iload_2 hC dX3_ends_2 ?_
  refine R_iload_3 hC dX3_ends_3 ?_
  refine R_callVq (as := [vI _, vI _, vI _]) hC dX3_ends_4 mo_3_lackThen ml_3_76 (by decide) rfl rfl (c3_lackThen  hG hI hIb hla (by omega) (by omega) (by omega) (by omega) (by omega) (by omega)) rfl rfl hRm (by decide) (by decide) (Nat.le_of_ble_eq_true rfl) ?_
  have e4_1 := IB.lt (x := x) (w := w) (t := u) hIb (by omega) (by omega) (by omega) (by omega)
  refine R_if_le hC dX3_ends_7 (tgt := 12) (by decide) (fun hb7 => ?_) (fun hb7 => ?_)
  · skip
    refine R_iconst hC dX3_ends_12 ⟨by decide, by decide⟩ ?_
    refine R_istore_4 hC dX3_ends_13 rfl ?_
    have L15 : ∀ (mq : Nat) (i : Int), (1 ≤ i) → (i ≤ 2 ^ (iL I).toNat) → (∀ t, 0 ≤ t → t < i → ltI I x w t ≤ 0) → (2 ^ (iL I).toNat - i).toNat < mq → RZ G LY C (Zn G LY 57 C (Ret (vI (bP (endP I x w))) M)) 0 0 57 15 [some (vR 45), some (vI x), some (vI w), some (vI u), some (vI i)] [] M := by
      intro mq
      induction mq with
      | zero =>
        intro i hi0 hi1 ha hm
        exact absurd hm (Nat.not_lt_zero _)
      | succ mq ih15 =>
        intro i hi0 hi1 ha hm15
        refine R_iload_4 hC dX3_ends_15 ?_
        refine R_aload_0 hC dX3_ends_17 ?_
        refine R_getR hC dX3_ends_18 fl_3_9 (by decide) rfl (by decide) (by decide) (fi := 0) rfl (r := 24) (gr_45_0 hG) ?_
        refine R_getI hC dX3_ends_21 fl_3_56 (by decide) rfl (by decide) (by decide) (fi := 13) rfl ?_
        refine R_icmp_ge hC dX3_ends_24 (tgt := 46) (by decide) (fun hb24 => ?_) (fun hb24 => ?_)
        · skip
          refine R_iconst hC dX3_ends_46 ⟨by decide, by decide⟩ ?_
          exact R_zreturn hC dX3_ends_47 rfl (.inr rfl) (ret_t (fun t t0 t1 => ha t t0 (by omega)))
        · skip
          refine R_aload_0 hC dX3_ends_27 ?_
          refine R_iload_1 hC dX3_ends_28 ?_
          refine R_iload_2 hC dX3_ends_29 ?_
          refine R_iload_4 hC dX3_ends_30 ?_
          refine R_callVq (as := [vI _, vI _, vI _]) hC dX3_ends_32 mo_3_lackThen ml_3_76 (by decide) rfl rfl (c3_lackThen  hG hI hIb hla (by omega) (by omega) (by omega) (by omega) (by omega) (by omega)) rfl rfl hRm (by decide) (by decide) (Nat.le_of_ble_eq_true rfl) ?_
          have e32_2 := IB.lt (x := x) (w := w) (t := i) hIb (by omega) (by omega) (by omega) (by omega)
          refine R_if_le hC dX3_ends_35 (tgt := 40) (by decide) (fun hb35 => ?_) (fun hb35 => ?_)
          · skip
            refine R_iinc_4 hC dX3_ends_40 rfl ⟨by omega, by omega⟩ ?_
            refine R_goto hC dX3_ends_43 (tgt := 15) (by decide) ?_
            exact ih15 _ (by omega) (by omega) (fun t t0 t1 => by (by_cases q : t = i; (subst q; omega); exact ha t t0 (by omega))) (by omega)
          · skip
            refine R_iconst hC dX3_ends_38 ⟨by decide, by decide⟩ ?_
            exact R_zreturn hC dX3_ends_39 rfl (.inl rfl) (ret_f (fun q => by have := q i (by omega) (by omega); omega))
    exact L15 _ _ (by omega) (by omega) (fun t t0 t1 => by (have : t = 0 := by omega); subst this; exact ltI_0 hIb hw0 hw1) (Nat.lt_succ_self _)
  · skip
    refine R_iconst hC dX3_ends_10 ⟨by decide, by decide⟩ ?_
    exact R_zreturn hC dX3_ends_11 rfl (.inl rfl) (ret_f (fun q => by have := q u hu0 hu1; omega))
theorem dX3_firstThatEnds_0 : decode cX3_firstThatEnds 0 = .ok (.aload_n 0, 1) := by decide +kernel
theorem dX3_firstThatEnds_1 : decode cX3_firstThatEnds 1 = .ok (.getfield 9, 3) := by decide +kernel
theorem dX3_firstThatEnds_4 : decode cX3_firstThatEnds 4 = .ok (.invokevirtual 35, 3) := by decide +kernel
theorem dX3_firstThatEnds_7 : decode cX3_firstThatEnds 7 = .ok (.istore_n 1, 1) := by decide +kernel
theorem dX3_firstThatEnds_8 : decode cX3_firstThatEnds 8 = .ok (.iconst 0, 1) := by decide +kernel
theorem dX3_firstThatEnds_9 : decode cX3_firstThatEnds 9 = .ok (.istore_n 2, 1) := by decide +kernel
theorem dX3_firstThatEnds_10 : decode cX3_firstThatEnds 10 = .ok (.iload_n 2, 1) := by decide +kernel
theorem dX3_firstThatEnds_11 : decode cX3_firstThatEnds 11 = .ok (.aload_n 0, 1) := by decide +kernel
theorem dX3_firstThatEnds_12 : decode cX3_firstThatEnds 12 = .ok (.getfield 9, 3) := by decide +kernel
theorem dX3_firstThatEnds_15 : decode cX3_firstThatEnds 15 = .ok (.getfield 56, 3) := by decide +kernel
theorem dX3_firstThatEnds_18 : decode cX3_firstThatEnds 18 = .ok (.if_icmp .ge 23, 3) := by decide +kernel
theorem dX3_firstThatEnds_21 : decode cX3_firstThatEnds 21 = .ok (.aload_n 0, 1) := by decide +kernel
theorem dX3_firstThatEnds_22 : decode cX3_firstThatEnds 22 = .ok (.getfield 22, 3) := by decide +kernel
theorem dX3_firstThatEnds_25 : decode cX3_firstThatEnds 25 = .ok (.iload_n 2, 1) := by decide +kernel
theorem dX3_firstThatEnds_26 : decode cX3_firstThatEnds 26 = .ok (.aload_n 0, 1) := by decide +kernel
theorem dX3_firstThatEnds_27 : decode cX3_firstThatEnds 27 = .ok (.getfield 9, 3) := by decide +kernel
theorem dX3_firstThatEnds_30 : decode cX3_firstThatEnds 30 = .ok (.iload_n 2, 1) := by decide +kernel
theorem dX3_firstThatEnds_31 : decode cX3_firstThatEnds 31 = .ok (.invokevirtual 39, 3) := by decide +kernel
theorem dX3_firstThatEnds_34 : decode cX3_firstThatEnds 34 = .ok (.iastore, 1) := by decide +kernel
theorem dX3_firstThatEnds_35 : decode cX3_firstThatEnds 35 = .ok (.iinc 2 1, 3) := by decide +kernel
theorem dX3_firstThatEnds_38 : decode cX3_firstThatEnds 38 = .ok (.goto (-28), 3) := by decide +kernel
theorem dX3_firstThatEnds_41 : decode cX3_firstThatEnds 41 = .ok (.iconst 0, 1) := by decide +kernel
theorem dX3_firstThatEnds_42 : decode cX3_firstThatEnds 42 = .ok (.istore_n 2, 1) := by decide +kernel
theorem dX3_firstThatEnds_43 : decode cX3_firstThatEnds 43 = .ok (.iload_n 2, 1) := by decide +kernel
theorem dX3_firstThatEnds_44 : decode cX3_firstThatEnds 44 = .ok (.aload_n 0, 1) := by decide +kernel
theorem dX3_firstThatEnds_45 : decode cX3_firstThatEnds 45 = .ok (.getfield 9, 3) := by decide +kernel
theorem dX3_firstThatEnds_48 : decode cX3_firstThatEnds 48 = .ok (.getfield 59, 3) := by decide +kernel
theorem dX3_firstThatEnds_51 : decode cX3_firstThatEnds 51 = .ok (.if_icmp .ge 106, 3) := by decide +kernel
theorem dX3_firstThatEnds_54 : decode cX3_firstThatEnds 54 = .ok (.iconst 0, 1) := by decide +kernel
theorem dX3_firstThatEnds_55 : decode cX3_firstThatEnds 55 = .ok (.istore_n 3, 1) := by decide +kernel
theorem dX3_firstThatEnds_56 : decode cX3_firstThatEnds 56 = .ok (.iload_n 3, 1) := by decide +kernel
theorem dX3_firstThatEnds_57 : decode cX3_firstThatEnds 57 = .ok (.aload_n 0, 1) := by decide +kernel
theorem dX3_firstThatEnds_58 : decode cX3_firstThatEnds 58 = .ok (.getfield 9, 3) := by decide +kernel
theorem dX3_firstThatEnds_61 : decode cX3_firstThatEnds 61 = .ok (.getfield 59, 3) := by decide +kernel
theorem dX3_firstThatEnds_64 : decode cX3_firstThatEnds 64 = .ok (.if_icmp .ge 87, 3) := by decide +kernel
theorem dX3_firstThatEnds_67 : decode cX3_firstThatEnds 67 = .ok (.iload_n 3, 1) := by decide +kernel
theorem dX3_firstThatEnds_68 : decode cX3_firstThatEnds 68 = .ok (.iload_n 2, 1) := by decide +kernel
theorem dX3_firstThatEnds_69 : decode cX3_firstThatEnds 69 = .ok (.if_icmp .eq 76, 3) := by decide +kernel
theorem dX3_firstThatEnds_72 : decode cX3_firstThatEnds 72 = .ok (.aload_n 0, 1) := by decide +kernel
theorem dX3_firstThatEnds_73 : decode cX3_firstThatEnds 73 = .ok (.getfield 18, 3) := by decide +kernel
theorem dX3_firstThatEnds_76 : decode cX3_firstThatEnds 76 = .ok (.iload_n 3, 1) := by decide +kernel
theorem dX3_firstThatEnds_77 : decode cX3_firstThatEnds 77 = .ok (.invokevirtual 62, 3) := by decide +kernel
theorem dX3_firstThatEnds_80 : decode cX3_firstThatEnds 80 = .ok (.ifCond .ne 6, 3) := by decide +kernel
theorem dX3_firstThatEnds_83 : decode cX3_firstThatEnds 83 = .ok (.goto 62, 3) := by decide +kernel
theorem dX3_firstThatEnds_86 : decode cX3_firstThatEnds 86 = .ok (.iconst 0, 1) := by decide +kernel
theorem dX3_firstThatEnds_87 : decode cX3_firstThatEnds 87 = .ok (.istore 4, 2) := by decide +kernel
theorem dX3_firstThatEnds_89 : decode cX3_firstThatEnds 89 = .ok (.iload 4, 2) := by decide +kernel
theorem dX3_firstThatEnds_91 : decode cX3_firstThatEnds 91 = .ok (.aload_n 0, 1) := by decide +kernel
theorem dX3_firstThatEnds_92 : decode cX3_firstThatEnds 92 = .ok (.getfield 9, 3) := by decide +kernel
theorem dX3_firstThatEnds_95 : decode cX3_firstThatEnds 95 = .ok (.getfield 66, 3) := by decide +kernel
theorem dX3_firstThatEnds_98 : decode cX3_firstThatEnds 98 = .ok (.if_icmp .ge 47, 3) := by decide +kernel
theorem dX3_firstThatEnds_101 : decode cX3_firstThatEnds 101 = .ok (.aload_n 0, 1) := by decide +kernel
theorem dX3_firstThatEnds_102 : decode cX3_firstThatEnds 102 = .ok (.getfield 18, 3) := by decide +kernel
theorem dX3_firstThatEnds_105 : decode cX3_firstThatEnds 105 = .ok (.iload_n 2, 1) := by decide +kernel
theorem dX3_firstThatEnds_106 : decode cX3_firstThatEnds 106 = .ok (.iload_n 3, 1) := by decide +kernel
theorem dX3_firstThatEnds_107 : decode cX3_firstThatEnds 107 = .ok (.iload 4, 2) := by decide +kernel
theorem dX3_firstThatEnds_109 : decode cX3_firstThatEnds 109 = .ok (.invokevirtual 69, 3) := by decide +kernel
theorem dX3_firstThatEnds_112 : decode cX3_firstThatEnds 112 = .ok (.ifCond .eq 27, 3) := by decide +kernel
theorem dX3_firstThatEnds_115 : decode cX3_firstThatEnds 115 = .ok (.aload_n 0, 1) := by decide +kernel
theorem dX3_firstThatEnds_116 : decode cX3_firstThatEnds 116 = .ok (.iload_n 2, 1) := by decide +kernel
theorem dX3_firstThatEnds_117 : decode cX3_firstThatEnds 117 = .ok (.iload 4, 2) := by decide +kernel
theorem dX3_firstThatEnds_119 : decode cX3_firstThatEnds 119 = .ok (.iload_n 1, 1) := by decide +kernel
theorem dX3_firstThatEnds_120 : decode cX3_firstThatEnds 120 = .ok (.invokevirtual 73, 3) := by decide +kernel
theorem dX3_firstThatEnds_123 : decode cX3_firstThatEnds 123 = .ok (.ifCond .eq 16, 3) := by decide +kernel
theorem dX3_firstThatEnds_126 : decode cX3_firstThatEnds 126 = .ok (.bipush 100, 2) := by decide +kernel
theorem dX3_firstThatEnds_128 : decode cX3_firstThatEnds 128 = .ok (.iload_n 2, 1) := by decide +kernel
theorem dX3_firstThatEnds_129 : decode cX3_firstThatEnds 129 = .ok (.imul, 1) := by decide +kernel
theorem dX3_firstThatEnds_130 : decode cX3_firstThatEnds 130 = .ok (.bipush 10, 2) := by decide +kernel
theorem dX3_firstThatEnds_132 : decode cX3_firstThatEnds 132 = .ok (.iload_n 3, 1) := by decide +kernel
theorem dX3_firstThatEnds_133 : decode cX3_firstThatEnds 133 = .ok (.imul, 1) := by decide +kernel
theorem dX3_firstThatEnds_134 : decode cX3_firstThatEnds 134 = .ok (.iadd, 1) := by decide +kernel
theorem dX3_firstThatEnds_135 : decode cX3_firstThatEnds 135 = .ok (.iload 4, 2) := by decide +kernel
theorem dX3_firstThatEnds_137 : decode cX3_firstThatEnds 137 = .ok (.iadd, 1) := by decide +kernel
theorem dX3_firstThatEnds_138 : decode cX3_firstThatEnds 138 = .ok (.ireturn, 1) := by decide +kernel
theorem dX3_firstThatEnds_139 : decode cX3_firstThatEnds 139 = .ok (.iinc 4 1, 3) := by decide +kernel
theorem dX3_firstThatEnds_142 : decode cX3_firstThatEnds 142 = .ok (.goto (-53), 3) := by decide +kernel
theorem dX3_firstThatEnds_145 : decode cX3_firstThatEnds 145 = .ok (.iinc 3 1, 3) := by decide +kernel
theorem dX3_firstThatEnds_148 : decode cX3_firstThatEnds 148 = .ok (.goto (-92), 3) := by decide +kernel
theorem dX3_firstThatEnds_151 : decode cX3_firstThatEnds 151 = .ok (.iinc 2 1, 3) := by decide +kernel
theorem dX3_firstThatEnds_154 : decode cX3_firstThatEnds 154 = .ok (.goto (-111), 3) := by decide +kernel
theorem dX3_firstThatEnds_157 : decode cX3_firstThatEnds 157 = .ok (.iconst (-1), 1) := by decide +kernel
theorem dX3_firstThatEnds_158 : decode cX3_firstThatEnds 158 = .ok (.ireturn, 1) := by decide +kernel
set_option maxHeartbeats 2000000 in
theorem c3_firstThatEnds {G : Gl} {l : Launch}  {M : Mem} {d : Int → Int} (hG : GR M) (hD : M 47 = d) (hSP : SP d) (hI : SC M (insOf d)) : Ct G LY 57 l 3 m3_firstThatEnds [vR 45] M (RP (fun v M' => Fr [48] [] M M' ∧ FstV (d 121) (d 122) (P1 d) v)) := by
  refine R_start (by decide +kernel) (Nat.le_of_ble_eq_true rfl) (fun C hC hRm hlau => ?_)
  show RZ G LY C (Zn G LY 57 C (RP (fun v M' => Fr [48] [] M M' ∧ FstV (d 121) (d 122) (P1 d) v))) 0 0 57 0 [some (vR 45), none, none, none, none] [] M
  have hLd := hSP.1.1
  have hWd := hSP.1.2
  have hIb : IB (insOf d) := SP.I hSP
  have h11 : M 24 11 = d 121 := hI.1.1
  have h12 : M 24 12 = d 122 := hI.1.2.1
  have h13 : M 24 13 = 2 ^ (d 121).toNat := hI.1.2.2
  have hpw : (1 : Int) ≤ 2 ^ (d 121).toNat ∧ (2 : Int) ^ (d 121).toNat ≤ 32 := hIb.pw
  refine R_aload_0 hC dX3_firstThatEnds_0 ?_
  refine R_getR hC dX3_firstThatEnds_1 fl_3_9 (by decide) rfl (by decide) (by decide) (fi := 0) rfl (r := 24) (gr_45_0 hG) ?_
  refine R_callVq (as := []) hC dX3_firstThatEnds_4 mo_6_worstSet ml_3_35 (by decide) rfl rfl (c6_worstSet  hG hI hIb) rfl rfl hRm (by decide) (by decide) (Nat.le_of_ble_eq_true rfl) ?_
  have e4_1 := IB.wb hIb
  have hwb := hIb.wb
  refine R_istore_1 hC dX3_firstThatEnds_7 rfl ?_
  refine R_iconst hC dX3_firstThatEnds_8 ⟨by decide, by decide⟩ ?_
  refine R_istore_2 hC dX3_firstThatEnds_9 rfl ?_
  have L10 : ∀ (mq : Nat) (i : Int) (M1 : Mem), (0 ≤ i) → (i ≤ 2 ^ (d 121).toNat) → (GR M1) → (M1 47 = d) → (SC M1 (insOf d)) → (Fr [48] [] M M1) → (∀ t, 0 ≤ t → t < i → M1 48 t = lackI (insOf d) t) → (2 ^ (d 121).toNat - i).toNat < mq → RZ G LY C (Zn G LY 57 C (RP (fun v M' => Fr [48] [] M M' ∧ FstV (d 121) (d 122) (P1 d) v))) 0 0 57 10 [some (vR 45), some (vI (worst (insOf d))), some (vI i), none, none] [] M1 := by
    intro mq
    induction mq with
    | zero =>
      intro i M1 hi0 hi1 hg hr hSJ hF hA hm
      exact absurd hm (Nat.not_lt_zero _)
    | succ mq ih10 =>
      intro i M1 hi0 hi1 hg hr hSJ hF hA hm10
      have q13 : M1 24 13 = 2 ^ (d 121).toNat := (hF.at (by decide)).trans h13
      refine R_iload_2 hC dX3_firstThatEnds_10 ?_
      refine R_aload_0 hC dX3_firstThatEnds_11 ?_
      refine R_getR hC dX3_firstThatEnds_12 fl_3_9 (by decide) rfl (by decide) (by decide) (fi := 0) rfl (r := 24) (gr_45_0 hg) ?_
      refine R_getI hC dX3_firstThatEnds_15 fl_3_56 (by decide) rfl (by decide) (by decide) (fi := 13) rfl ?_
      refine R_icmp_ge hC dX3_firstThatEnds_18 (tgt := 41) (by decide) (fun hb18 => ?_) (fun hb18 => ?_)
      · skip
        refine R_iconst hC dX3_firstThatEnds_41 ⟨by decide, by decide⟩ ?_
        refine R_istore_2 hC dX3_firstThatEnds_42 rfl ?_
        have L43 : ∀ (mq : Nat) (x : Int), (0 ≤ x) → (x ≤ d 121) → (∀ x' t' w', 0 ≤ x' → x' < d 121 → 0 ≤ t' → t' < d 121 → 0 ≤ w' → w' < d 122 → 100 * x' + 10 * t' + w' < 100 * x → ¬ P1 d x' t' w') → (d 121 - x).toNat < mq → RZ G LY C (Zn G LY 57 C (RP (fun v M' => Fr [48] [] M M' ∧ FstV (d 121) (d 122) (P1 d) v))) 0 0 57 43 [some (vR 45), some (vI (worst (insOf d))), some (vI x), none, none] [] M1 := by
          intro mq
          induction mq with
          | zero =>
            intro x hx0 hx1 hN hm
            exact absurd hm (Nat.not_lt_zero _)
          | succ mq ih43 =>
            intro x hx0 hx1 hN hm43
            have q11 : M1 24 11 = d 121 := (hF.at (by decide)).trans h11
            have q12 : M1 24 12 = d 122 := (hF.at (by decide)).trans h12
            have hla : ∀ t, 0 ≤ t → t < 2 ^ (d 121).toNat → M1 48 t = lackI (insOf d) t := fun t a b => hA t a (by omega)
            refine R_iload_2 hC dX3_firstThatEnds_43 ?_
            refine R_aload_0 hC dX3_firstThatEnds_44 ?_
            refine R_getR hC dX3_firstThatEnds_45 fl_3_9 (by decide) rfl (by decide) (by decide) (fi := 0) rfl (r := 24) (gr_45_0 hg) ?_
            refine R_getI hC dX3_firstThatEnds_48 fl_3_59 (by decide) rfl (by decide) (by decide) (fi := 11) rfl ?_
            refine R_icmp_ge hC dX3_firstThatEnds_51 (tgt := 157) (by decide) (fun hb51 => ?_) (fun hb51 => ?_)
            · skip
              refine R_iconst hC dX3_firstThatEnds_157 ⟨by decide, by decide⟩ ?_
              exact R_ireturn hC dX3_firstThatEnds_158 rfl (ret_P ⟨hF, .inl ⟨rfl, fun x' t' w' a1 a2 a3 a4 a5 a6 => hN x' t' w' a1 a2 a3 a4 a5 a6 (by omega)⟩⟩)
            · skip
              refine R_iconst hC dX3_firstThatEnds_54 ⟨by decide, by decide⟩ ?_
              refine R_istore_3 hC dX3_firstThatEnds_55 rfl ?_
              have L56 : ∀ (mq : Nat) (t : Int), (0 ≤ t) → (t ≤ d 121) → (∀ x' t' w', 0 ≤ x' → x' < d 121 → 0 ≤ t' → t' < d 121 → 0 ≤ w' → w' < d 122 → 100 * x' + 10 * t' + w' < 100 * x + 10 * t → ¬ P1 d x' t' w') → (d 121 - t).toNat < mq → RZ G LY C (Zn G LY 57 C (RP (fun v M' => Fr [48] [] M M' ∧ FstV (d 121) (d 122) (P1 d) v))) 0 0 57 56 [some (vR 45), some (vI (worst (insOf d))), some (vI x), some (vI t), none] [] M1 := by
                intro mq
                induction mq with
                | zero =>
                  intro t ht0 ht1 hN2 hm
                  exact absurd hm (Nat.not_lt_zero _)
                | succ mq ih56 =>
                  intro t ht0 ht1 hN2 hm56
                  refine R_iload_3 hC dX3_firstThatEnds_56 ?_
                  refine R_aload_0 hC dX3_firstThatEnds_57 ?_
                  refine R_getR hC dX3_firstThatEnds_58 fl_3_9 (by decide) rfl (by decide) (by decide) (fi := 0) rfl (r := 24) (gr_45_0 hg) ?_
                  refine R_getI hC dX3_firstThatEnds_61 fl_3_59 (by decide) rfl (by decide) (by decide) (fi := 11) rfl ?_
                  refine R_icmp_ge hC dX3_firstThatEnds_64 (tgt := 151) (by decide) (fun hb64 => ?_) (fun hb64 => ?_)
                  · skip
                    refine R_iinc_2 hC dX3_firstThatEnds_151 rfl ⟨by omega, by omega⟩ ?_
                    refine R_goto hC dX3_firstThatEnds_154 (tgt := 43) (by decide) ?_
                    refine R_weak (subL_c (subL_c (subL_c (subL_d (subL_c subL_n))))) ?_
                    exact ih43 _ (by omega) (by omega) (fun x' t' w' a1 a2 a3 a4 a5 a6 a7 => hN2 x' t' w' a1 a2 a3 a4 a5 a6 (by omega)) (by omega)
                  · skip
                    refine R_iload_3 hC dX3_firstThatEnds_67 ?_
                    refine R_iload_2 hC dX3_firstThatEnds_68 ?_
                    refine R_icmp_eq hC dX3_firstThatEnds_69 (tgt := 145) (by decide) (fun hb69 => ?_) (fun hb69 => ?_)
                    · skip
                      refine R_iinc_3 hC dX3_firstThatEnds_145 rfl ⟨by omega, by omega⟩ ?_
                      refine R_goto hC dX3_firstThatEnds_148 (tgt := 56) (by decide) ?_
                      exact ih56 _ (by omega) (by omega) (fun x' t' w' a1 a2 a3 a4 a5 a6 a7 => by
                        by_cases q : 100 * x' + 10 * t' + w' < 100 * x + 10 * t
                        · exact hN2 x' t' w' a1 a2 a3 a4 a5 a6 q
                        · have e1 : x' = x := by omega
                          have e2 : t' = t := by omega
                          subst e1; subst e2
                          first
                            | exact fun z => z.1.1 (by omega)
                            | exact fun z => hb80 z.1.2.2.2
                            | exact hN3 _ _ w' a1 a2 a3 a4 a5 a6 (by omega)) (by omega)
                    · skip
                      refine R_aload_0 hC dX3_firstThatEnds_72 ?_
                      refine R_getR hC dX3_firstThatEnds_73 fl_3_18 (by decide) rfl (by decide) (by decide) (fi := 1) rfl (r := 46) (gr_45_1 hg) ?_
                      refine R_iload_3 hC dX3_firstThatEnds_76 ?_
                      refine R_callVq (as := [vI _]) hC dX3_firstThatEnds_77 mo_8_hasRoom ml_3_62 (by decide) rfl rfl (c8_hasRoom_d  hr hg sh_46 hSP.B (by omega) (by omega)) rfl rfl hRm (by decide) (by decide) (Nat.le_of_ble_eq_true rfl) ?_
                      refine R_if_ne hC dX3_firstThatEnds_80 (tgt := 86) (by decide) (fun hb80 => ?_) (fun hb80 => ?_)
                      · skip
                        replace hb80 := bP_nz hb80
                        refine R_iconst hC dX3_firstThatEnds_86 ⟨by decide, by decide⟩ ?_
                        refine R_istore_4 hC dX3_firstThatEnds_87 rfl ?_
                        have L89 : ∀ (mq : Nat) (w : Int), (0 ≤ w) → (w ≤ d 122) → (∀ x' t' w', 0 ≤ x' → x' < d 121 → 0 ≤ t' → t' < d 121 → 0 ≤ w' → w' < d 122 → 100 * x' + 10 * t' + w' < 100 * x + 10 * t + w → ¬ P1 d x' t' w') → (d 122 - w).toNat < mq → RZ G LY C (Zn G LY 57 C (RP (fun v M' => Fr [48] [] M M' ∧ FstV (d 121) (d 122) (P1 d) v))) 0 0 57 89 [some (vR 45), some (vI (worst (insOf d))), some (vI x), some (vI t), some (vI w)] [] M1 := by
                          intro mq
                          induction mq with
                          | zero =>
                            intro w hw0 hw1 hN3 hm
                            exact absurd hm (Nat.not_lt_zero _)
                          | succ mq ih89 =>
                            intro w hw0 hw1 hN3 hm89
                            refine R_iload_4 hC dX3_firstThatEnds_89 ?_
                            refine R_aload_0 hC dX3_firstThatEnds_91 ?_
                            refine R_getR hC dX3_firstThatEnds_92 fl_3_9 (by decide) rfl (by decide) (by decide) (fi := 0) rfl (r := 24) (gr_45_0 hg) ?_
                            refine R_getI hC dX3_firstThatEnds_95 fl_3_66 (by decide) rfl (by decide) (by decide) (fi := 12) rfl ?_
                            refine R_icmp_ge hC dX3_firstThatEnds_98 (tgt := 145) (by decide) (fun hb98 => ?_) (fun hb98 => ?_)
                            · skip
                              refine R_iinc_3 hC dX3_firstThatEnds_145 rfl ⟨by omega, by omega⟩ ?_
                              refine R_goto hC dX3_firstThatEnds_148 (tgt := 56) (by decide) ?_
                              refine R_weak (subL_c (subL_c (subL_c (subL_c (subL_d subL_n))))) ?_
                              exact ih56 _ (by omega) (by omega) (fun x' t' w' a1 a2 a3 a4 a5 a6 a7 => by
                                by_cases q : 100 * x' + 10 * t' + w' < 100 * x + 10 * t
                                · exact hN2 x' t' w' a1 a2 a3 a4 a5 a6 q
                                · have e1 : x' = x := by omega
                                  have e2 : t' = t := by omega
                                  subst e1; subst e2
                                  first
                                    | exact fun z => z.1.1 (by omega)
                                    | exact fun z => hb80 z.1.2.2.2
                                    | exact hN3 _ _ w' a1 a2 a3 a4 a5 a6 (by omega)) (by omega)
                            · skip
                              refine R_aload_0 hC dX3_firstThatEnds_101 ?_
                              refine R_getR hC dX3_firstThatEnds_102 fl_3_18 (by decide) rfl (by decide) (by decide) (fi := 1) rfl (r := 46) (gr_45_1 hg) ?_
                              refine R_iload_2 hC dX3_firstThatEnds_105 ?_
                              refine R_iload_3 hC dX3_firstThatEnds_106 ?_
                              refine R_iload_4 hC dX3_firstThatEnds_107 ?_
                              refine R_callVq (as := [vI _, vI _, vI _]) hC dX3_firstThatEnds_109 mo_8_mayGive ml_3_69 (by decide) rfl rfl (c8_mayGive_d  hr hg sh_46 hSP.B (by omega) (by omega) (by omega) (by omega) (by omega) (by omega)) rfl rfl hRm (by decide) (by decide) (Nat.le_of_ble_eq_true rfl) ?_
                              refine R_if_eq hC dX3_firstThatEnds_112 (tgt := 139) (by decide) (fun hb112 => ?_) (fun hb112 => ?_)
                              · skip
                                replace hb112 := bP_z hb112
                                refine R_iinc_4 hC dX3_firstThatEnds_139 rfl ⟨by omega, by omega⟩ ?_
                                refine R_goto hC dX3_firstThatEnds_142 (tgt := 89) (by decide) ?_
                                exact ih89 _ (by omega) (by omega) (fun x' t' w' a1 a2 a3 a4 a5 a6 a7 => by
                                  by_cases q : 100 * x' + 10 * t' + w' < 100 * x + 10 * t + w
                                  · exact hN3 x' t' w' a1 a2 a3 a4 a5 a6 q
                                  · have e1 : x' = x := by omega
                                    have e2 : t' = t := by omega
                                    have e3 : w' = w := by omega
                                    subst e1; subst e2; subst e3
                                    first
                                      | exact fun z => hb112 z.1
                                      | exact fun z => hb123 z.2) (by omega)
                              · skip
                                replace hb112 := bP_nz hb112
                                refine R_aload_0 hC dX3_firstThatEnds_115 ?_
                                refine R_iload_2 hC dX3_firstThatEnds_116 ?_
                                refine R_iload_4 hC dX3_firstThatEnds_117 ?_
                                refine R_iload_1 hC dX3_firstThatEnds_119 ?_
                                refine R_callVq (as := [vI _, vI _, vI _]) hC dX3_firstThatEnds_120 mo_3_ends ml_3_73 (by decide) rfl rfl (c3_ends  hg hSJ hIb hla (by omega) (show x < d 121 by omega) (by omega) (show w < d 122 by omega) hwb.1 hwb.2) rfl rfl hRm (by decide) (by decide) (Nat.le_of_ble_eq_true rfl) ?_
                                refine R_if_eq hC dX3_firstThatEnds_123 (tgt := 139) (by decide) (fun hb123 => ?_) (fun hb123 => ?_)
                                · skip
                                  replace hb123 := bP_z hb123
                                  refine R_iinc_4 hC dX3_firstThatEnds_139 rfl ⟨by omega, by omega⟩ ?_
                                  refine R_goto hC dX3_firstThatEnds_142 (tgt := 89) (by decide) ?_
                                  exact ih89 _ (by omega) (by omega) (fun x' t' w' a1 a2 a3 a4 a5 a6 a7 => by
                                    by_cases q : 100 * x' + 10 * t' + w' < 100 * x + 10 * t + w
                                    · exact hN3 x' t' w' a1 a2 a3 a4 a5 a6 q
                                    · have e1 : x' = x := by omega
                                      have e2 : t' = t := by omega
                                      have e3 : w' = w := by omega
                                      subst e1; subst e2; subst e3
                                      first
                                        | exact fun z => hb112 z.1
                                        | exact fun z => hb123 z.2) (by omega)
                                · skip
                                  replace hb123 := bP_nz hb123
                                  refine R_bipush hC dX3_firstThatEnds_126 (by decide +kernel) ⟨by decide, by decide⟩ ?_
                                  refine R_iload_2 hC dX3_firstThatEnds_128 ?_
                                  refine R_imul hC dX3_firstThatEnds_129 ⟨by omega, by omega⟩ ?_
                                  refine R_bipush hC dX3_firstThatEnds_130 (by decide +kernel) ⟨by decide, by decide⟩ ?_
                                  refine R_iload_3 hC dX3_firstThatEnds_132 ?_
                                  refine R_imul hC dX3_firstThatEnds_133 ⟨by omega, by omega⟩ ?_
                                  refine R_iadd hC dX3_firstThatEnds_134 ⟨by omega, by omega⟩ ?_
                                  refine R_iload_4 hC dX3_firstThatEnds_135 ?_
                                  refine R_iadd hC dX3_firstThatEnds_137 ⟨by omega, by omega⟩ ?_
                                  exact R_ireturn hC dX3_firstThatEnds_138 rfl (ret_P ⟨hF, .inr ⟨x, t, w, ⟨hx0, by omega, ht0, by omega, hw0, by omega⟩, ⟨hb112, hb123⟩, rfl, fun x' t' w' a1 a2 a3 a4 a5 a6 a7 => hN3 x' t' w' a1 a2 a3 a4 a5 a6 a7⟩⟩)
                        exact L89 _ _ (by omega) (by omega) (fun x' t' w' a1 a2 a3 a4 a5 a6 a7 => hN2 x' t' w' a1 a2 a3 a4 a5 a6 (by omega)) (Nat.lt_succ_self _)
                      · skip
                        replace hb80 := bP_z hb80
                        refine R_goto hC dX3_firstThatEnds_83 (tgt := 145) (by decide) ?_
                        refine R_iinc_3 hC dX3_firstThatEnds_145 rfl ⟨by omega, by omega⟩ ?_
                        refine R_goto hC dX3_firstThatEnds_148 (tgt := 56) (by decide) ?_
                        exact ih56 _ (by omega) (by omega) (fun x' t' w' a1 a2 a3 a4 a5 a6 a7 => by
                          by_cases q : 100 * x' + 10 * t' + w' < 100 * x + 10 * t
                          · exact hN2 x' t' w' a1 a2 a3 a4 a5 a6 q
                          · have e1 : x' = x := by omega
                            have e2 : t' = t := by omega
                            subst e1; subst e2
                            first
                              | exact fun z => z.1.1 (by omega)
                              | exact fun z => hb80 z.1.2.2.2
                              | exact hN3 _ _ w' a1 a2 a3 a4 a5 a6 (by omega)) (by omega)
              exact L56 _ _ (by omega) (by omega) (fun x' t' w' a1 a2 a3 a4 a5 a6 a7 => hN x' t' w' a1 a2 a3 a4 a5 a6 (by omega)) (Nat.lt_succ_self _)
        exact L43 _ _ (by omega) (by omega) (fun x' t' w' a1 a2 a3 a4 a5 a6 a7 => by omega) (Nat.lt_succ_self _)
      · skip
        refine R_aload_0 hC dX3_firstThatEnds_21 ?_
        refine R_getR hC dX3_firstThatEnds_22 fl_3_22 (by decide) rfl (by decide) (by decide) (fi := 2) rfl (r := 48) (gr_45_2 hg) ?_
        refine R_iload_2 hC dX3_firstThatEnds_25 ?_
        refine R_aload_0 hC dX3_firstThatEnds_26 ?_
        refine R_getR hC dX3_firstThatEnds_27 fl_3_9 (by decide) rfl (by decide) (by decide) (fi := 0) rfl (r := 24) (gr_45_0 hg) ?_
        refine R_iload_2 hC dX3_firstThatEnds_30 ?_
        refine R_callVq (as := [vI _]) hC dX3_firstThatEnds_31 mo_6_lackOf ml_3_39 (by decide) rfl rfl (c6_lackOf  hg hSJ hIb (by omega) (show i < 2 ^ (d 121).toNat by omega)) rfl rfl hRm (by decide) (by decide) (Nat.le_of_ble_eq_true rfl) ?_
        have e31_2 := IB.lk (t := i) hIb (by omega) (show i < 2 ^ (d 121).toNat by omega)
        refine R_iastore hC dX3_firstThatEnds_34 (by decide) rfl (by omega) (by omega) ?_
        refine R_iinc_2 hC dX3_firstThatEnds_35 rfl ⟨by omega, by omega⟩ ?_
        refine R_goto hC dX3_firstThatEnds_38 (tgt := 10) (by decide) ?_
        have hG3 : GR (uM M1 48 i (lackI (insOf d) i)) := (GR.uA hg (by decide +kernel) (.inl (by decide)))
        have hr4 : (uM M1 48 i (lackI (insOf d) i)) 47 = d := ((uM_ne (by decide)).trans hr)
        exact ih10 _ _ (by omega) (by omega) hG3 hr4 (SC.u hSJ (by decide)) (Fr.uA hF (by decide)) (row_set hA rfl rfl) (by omega)
  exact L10 _ _ _ (by omega) (by omega) hG hD hI Fr.rf (fun t a b => by omega) (Nat.lt_succ_self _)
theorem dX3_firstOfTwo_0 : decode cX3_firstOfTwo 0 = .ok (.iconst 0, 1) := by decide +kernel
theorem dX3_firstOfTwo_1 : decode cX3_firstOfTwo 1 = .ok (.istore_n 1, 1) := by decide +kernel
theorem dX3_firstOfTwo_2 : decode cX3_firstOfTwo 2 = .ok (.iload_n 1, 1) := by decide +kernel
theorem dX3_firstOfTwo_3 : decode cX3_firstOfTwo 3 = .ok (.aload_n 0, 1) := by decide +kernel
theorem dX3_firstOfTwo_4 : decode cX3_firstOfTwo 4 = .ok (.getfield 18, 3) := by decide +kernel
theorem dX3_firstOfTwo_7 : decode cX3_firstOfTwo 7 = .ok (.invokevirtual 98, 3) := by decide +kernel
theorem dX3_firstOfTwo_10 : decode cX3_firstOfTwo 10 = .ok (.if_icmp .ge 156, 3) := by decide +kernel
theorem dX3_firstOfTwo_13 : decode cX3_firstOfTwo 13 = .ok (.iconst 0, 1) := by decide +kernel
theorem dX3_firstOfTwo_14 : decode cX3_firstOfTwo 14 = .ok (.istore_n 2, 1) := by decide +kernel
theorem dX3_firstOfTwo_15 : decode cX3_firstOfTwo 15 = .ok (.iload_n 2, 1) := by decide +kernel
theorem dX3_firstOfTwo_16 : decode cX3_firstOfTwo 16 = .ok (.aload_n 0, 1) := by decide +kernel
theorem dX3_firstOfTwo_17 : decode cX3_firstOfTwo 17 = .ok (.getfield 18, 3) := by decide +kernel
theorem dX3_firstOfTwo_20 : decode cX3_firstOfTwo 20 = .ok (.invokevirtual 98, 3) := by decide +kernel
theorem dX3_firstOfTwo_23 : decode cX3_firstOfTwo 23 = .ok (.if_icmp .ge 137, 3) := by decide +kernel
theorem dX3_firstOfTwo_26 : decode cX3_firstOfTwo 26 = .ok (.iconst 0, 1) := by decide +kernel
theorem dX3_firstOfTwo_27 : decode cX3_firstOfTwo 27 = .ok (.istore_n 3, 1) := by decide +kernel
theorem dX3_firstOfTwo_28 : decode cX3_firstOfTwo 28 = .ok (.iload_n 3, 1) := by decide +kernel
theorem dX3_firstOfTwo_29 : decode cX3_firstOfTwo 29 = .ok (.aload_n 0, 1) := by decide +kernel
theorem dX3_firstOfTwo_30 : decode cX3_firstOfTwo 30 = .ok (.getfield 18, 3) := by decide +kernel
theorem dX3_firstOfTwo_33 : decode cX3_firstOfTwo 33 = .ok (.invokevirtual 100, 3) := by decide +kernel
theorem dX3_firstOfTwo_36 : decode cX3_firstOfTwo 36 = .ok (.if_icmp .ge 118, 3) := by decide +kernel
theorem dX3_firstOfTwo_39 : decode cX3_firstOfTwo 39 = .ok (.aload_n 0, 1) := by decide +kernel
theorem dX3_firstOfTwo_40 : decode cX3_firstOfTwo 40 = .ok (.getfield 18, 3) := by decide +kernel
theorem dX3_firstOfTwo_43 : decode cX3_firstOfTwo 43 = .ok (.iload_n 1, 1) := by decide +kernel
theorem dX3_firstOfTwo_44 : decode cX3_firstOfTwo 44 = .ok (.iload_n 2, 1) := by decide +kernel
theorem dX3_firstOfTwo_45 : decode cX3_firstOfTwo 45 = .ok (.iload_n 3, 1) := by decide +kernel
theorem dX3_firstOfTwo_46 : decode cX3_firstOfTwo 46 = .ok (.invokevirtual 69, 3) := by decide +kernel
theorem dX3_firstOfTwo_49 : decode cX3_firstOfTwo 49 = .ok (.ifCond .ne 6, 3) := by decide +kernel
theorem dX3_firstOfTwo_52 : decode cX3_firstOfTwo 52 = .ok (.goto 96, 3) := by decide +kernel
theorem dX3_firstOfTwo_55 : decode cX3_firstOfTwo 55 = .ok (.aload_n 0, 1) := by decide +kernel
theorem dX3_firstOfTwo_56 : decode cX3_firstOfTwo 56 = .ok (.getfield 18, 3) := by decide +kernel
theorem dX3_firstOfTwo_59 : decode cX3_firstOfTwo 59 = .ok (.iload_n 1, 1) := by decide +kernel
theorem dX3_firstOfTwo_60 : decode cX3_firstOfTwo 60 = .ok (.iload_n 2, 1) := by decide +kernel
theorem dX3_firstOfTwo_61 : decode cX3_firstOfTwo 61 = .ok (.iload_n 3, 1) := by decide +kernel
theorem dX3_firstOfTwo_62 : decode cX3_firstOfTwo 62 = .ok (.invokevirtual 102, 3) := by decide +kernel
theorem dX3_firstOfTwo_65 : decode cX3_firstOfTwo 65 = .ok (.aload_n 0, 1) := by decide +kernel
theorem dX3_firstOfTwo_66 : decode cX3_firstOfTwo 66 = .ok (.getfield 9, 3) := by decide +kernel
theorem dX3_firstOfTwo_69 : decode cX3_firstOfTwo 69 = .ok (.aload_n 0, 1) := by decide +kernel
theorem dX3_firstOfTwo_70 : decode cX3_firstOfTwo 70 = .ok (.getfield 18, 3) := by decide +kernel
theorem dX3_firstOfTwo_73 : decode cX3_firstOfTwo 73 = .ok (.invokevirtual 30, 3) := by decide +kernel
theorem dX3_firstOfTwo_76 : decode cX3_firstOfTwo 76 = .ok (.aload_n 0, 1) := by decide +kernel
theorem dX3_firstOfTwo_77 : decode cX3_firstOfTwo 77 = .ok (.getfield 9, 3) := by decide +kernel
theorem dX3_firstOfTwo_80 : decode cX3_firstOfTwo 80 = .ok (.aload_n 0, 1) := by decide +kernel
theorem dX3_firstOfTwo_81 : decode cX3_firstOfTwo 81 = .ok (.getfield 9, 3) := by decide +kernel
theorem dX3_firstOfTwo_84 : decode cX3_firstOfTwo 84 = .ok (.invokevirtual 35, 3) := by decide +kernel
theorem dX3_firstOfTwo_87 : decode cX3_firstOfTwo 87 = .ok (.invokevirtual 39, 3) := by decide +kernel
theorem dX3_firstOfTwo_90 : decode cX3_firstOfTwo 90 = .ok (.iconst 1, 1) := by decide +kernel
theorem dX3_firstOfTwo_91 : decode cX3_firstOfTwo 91 = .ok (.if_icmp .gt 7, 3) := by decide +kernel
theorem dX3_firstOfTwo_94 : decode cX3_firstOfTwo 94 = .ok (.iconst 1, 1) := by decide +kernel
theorem dX3_firstOfTwo_95 : decode cX3_firstOfTwo 95 = .ok (.goto 4, 3) := by decide +kernel
theorem dX3_firstOfTwo_98 : decode cX3_firstOfTwo 98 = .ok (.iconst 0, 1) := by decide +kernel
theorem dX3_firstOfTwo_99 : decode cX3_firstOfTwo 99 = .ok (.istore 4, 2) := by decide +kernel
theorem dX3_firstOfTwo_101 : decode cX3_firstOfTwo 101 = .ok (.iload 4, 2) := by decide +kernel
theorem dX3_firstOfTwo_103 : decode cX3_firstOfTwo 103 = .ok (.ifCond .eq 15, 3) := by decide +kernel
theorem dX3_firstOfTwo_106 : decode cX3_firstOfTwo 106 = .ok (.aload_n 0, 1) := by decide +kernel
theorem dX3_firstOfTwo_107 : decode cX3_firstOfTwo 107 = .ok (.invokevirtual 50, 3) := by decide +kernel
theorem dX3_firstOfTwo_110 : decode cX3_firstOfTwo 110 = .ok (.iconst (-1), 1) := by decide +kernel
theorem dX3_firstOfTwo_111 : decode cX3_firstOfTwo 111 = .ok (.if_icmp .eq 7, 3) := by decide +kernel
theorem dX3_firstOfTwo_114 : decode cX3_firstOfTwo 114 = .ok (.iconst 1, 1) := by decide +kernel
theorem dX3_firstOfTwo_115 : decode cX3_firstOfTwo 115 = .ok (.goto 4, 3) := by decide +kernel
theorem dX3_firstOfTwo_118 : decode cX3_firstOfTwo 118 = .ok (.iconst 0, 1) := by decide +kernel
theorem dX3_firstOfTwo_119 : decode cX3_firstOfTwo 119 = .ok (.istore 5, 2) := by decide +kernel
theorem dX3_firstOfTwo_121 : decode cX3_firstOfTwo 121 = .ok (.aload_n 0, 1) := by decide +kernel
theorem dX3_firstOfTwo_122 : decode cX3_firstOfTwo 122 = .ok (.getfield 18, 3) := by decide +kernel
theorem dX3_firstOfTwo_125 : decode cX3_firstOfTwo 125 = .ok (.iload_n 2, 1) := by decide +kernel
theorem dX3_firstOfTwo_126 : decode cX3_firstOfTwo 126 = .ok (.iload_n 1, 1) := by decide +kernel
theorem dX3_firstOfTwo_127 : decode cX3_firstOfTwo 127 = .ok (.iload_n 3, 1) := by decide +kernel
theorem dX3_firstOfTwo_128 : decode cX3_firstOfTwo 128 = .ok (.invokevirtual 102, 3) := by decide +kernel
theorem dX3_firstOfTwo_131 : decode cX3_firstOfTwo 131 = .ok (.iload 5, 2) := by decide +kernel
theorem dX3_firstOfTwo_133 : decode cX3_firstOfTwo 133 = .ok (.ifCond .eq 15, 3) := by decide +kernel
theorem dX3_firstOfTwo_136 : decode cX3_firstOfTwo 136 = .ok (.bipush 100, 2) := by decide +kernel
theorem dX3_firstOfTwo_138 : decode cX3_firstOfTwo 138 = .ok (.iload_n 1, 1) := by decide +kernel
theorem dX3_firstOfTwo_139 : decode cX3_firstOfTwo 139 = .ok (.imul, 1) := by decide +kernel
theorem dX3_firstOfTwo_140 : decode cX3_firstOfTwo 140 = .ok (.bipush 10, 2) := by decide +kernel
theorem dX3_firstOfTwo_142 : decode cX3_firstOfTwo 142 = .ok (.iload_n 2, 1) := by decide +kernel
theorem dX3_firstOfTwo_143 : decode cX3_firstOfTwo 143 = .ok (.imul, 1) := by decide +kernel
theorem dX3_firstOfTwo_144 : decode cX3_firstOfTwo 144 = .ok (.iadd, 1) := by decide +kernel
theorem dX3_firstOfTwo_145 : decode cX3_firstOfTwo 145 = .ok (.iload_n 3, 1) := by decide +kernel
theorem dX3_firstOfTwo_146 : decode cX3_firstOfTwo 146 = .ok (.iadd, 1) := by decide +kernel
theorem dX3_firstOfTwo_147 : decode cX3_firstOfTwo 147 = .ok (.ireturn, 1) := by decide +kernel
theorem dX3_firstOfTwo_148 : decode cX3_firstOfTwo 148 = .ok (.iinc 3 1, 3) := by decide +kernel
theorem dX3_firstOfTwo_151 : decode cX3_firstOfTwo 151 = .ok (.goto (-123), 3) := by decide +kernel
theorem dX3_firstOfTwo_154 : decode cX3_firstOfTwo 154 = .ok (.iinc 2 1, 3) := by decide +kernel
theorem dX3_firstOfTwo_157 : decode cX3_firstOfTwo 157 = .ok (.goto (-142), 3) := by decide +kernel
theorem dX3_firstOfTwo_160 : decode cX3_firstOfTwo 160 = .ok (.iinc 1 1, 3) := by decide +kernel
theorem dX3_firstOfTwo_163 : decode cX3_firstOfTwo 163 = .ok (.goto (-161), 3) := by decide +kernel
theorem dX3_firstOfTwo_166 : decode cX3_firstOfTwo 166 = .ok (.iconst (-1), 1) := by decide +kernel
theorem dX3_firstOfTwo_167 : decode cX3_firstOfTwo 167 = .ok (.ireturn, 1) := by decide +kernel
set_option maxHeartbeats 2000000 in
theorem c3_firstOfTwo {G : Gl} {l : Launch}  {M : Mem} {d : Int → Int} (hG : GR M) (hD : M 47 = d) (hSP : SP d) : Ct G LY 57 l 4 m3_firstOfTwo [vR 45] M (RP (fun v M' => Fr [25, 26, 27, 28, 29, 30, 31, 32, 33, 34, 47, 48] [(24, 11), (24, 12), (24, 13)] M M' ∧ GR M' ∧ M' 47 = d ∧ FstV (d 121) (d 122) (P2 d) v)) := by
  refine R_start (by decide +kernel) (Nat.le_of_ble_eq_true rfl) (fun C hC hRm hlau => ?_)
  show RZ G LY C (Zn G LY 57 C (RP (fun v M' => Fr [25, 26, 27, 28, 29, 30, 31, 32, 33, 34, 47, 48] [(24, 11), (24, 12), (24, 13)] M M' ∧ GR M' ∧ M' 47 = d ∧ FstV (d 121) (d 122) (P2 d) v))) 0 0 57 0 [some (vR 45), none, none, none, none, none] [] M
  have hLd := hSP.1.1
  have hWd := hSP.1.2
  refine R_iconst hC dX3_firstOfTwo_0 ⟨by decide, by decide⟩ ?_
  refine R_istore_1 hC dX3_firstOfTwo_1 rfl ?_
  have L2 : ∀ (mq : Nat) (x : Int) (M1 : Mem), (0 ≤ x) → (x ≤ d 121) → (GR M1) → (M1 47 = d) → (Fr [25, 26, 27, 28, 29, 30, 31, 32, 33, 34, 47, 48] [(24, 11), (24, 12), (24, 13)] M M1) → (∀ x' t' w', 0 ≤ x' → x' < d 121 → 0 ≤ t' → t' < d 121 → 0 ≤ w' → w' < d 122 → 100 * x' + 10 * t' + w' < 100 * x → ¬ P2 d x' t' w') → (d 121 - x).toNat < mq → RZ G LY C (Zn G LY 57 C (RP (fun v M' => Fr [25, 26, 27, 28, 29, 30, 31, 32, 33, 34, 47, 48] [(24, 11), (24, 12), (24, 13)] M M' ∧ GR M' ∧ M' 47 = d ∧ FstV (d 121) (d 122) (P2 d) v))) 0 0 57 2 [some (vR 45), some (vI x), none, none, none, none] [] M1 := by
    intro mq
    induction mq with
    | zero =>
      intro x M1 hx0 hx1 hg hr hF hN hm
      exact absurd hm (Nat.not_lt_zero _)
    | succ mq ih2 =>
      intro x M1 hx0 hx1 hg hr hF hN hm2
      refine R_iload_1 hC dX3_firstOfTwo_2 ?_
      refine R_aload_0 hC dX3_firstOfTwo_3 ?_
      refine R_getR hC dX3_firstOfTwo_4 fl_3_18 (by decide) rfl (by decide) (by decide) (fi := 1) rfl (r := 46) (gr_45_1 hg) ?_
      refine R_callVq (as := []) hC dX3_firstOfTwo_7 mo_8_libraries ml_3_98 (by decide) rfl rfl (c8_libraries_d  hr hg sh_46) rfl rfl hRm (by decide) (by decide) (Nat.le_of_ble_eq_true rfl) ?_
      refine R_icmp_ge hC dX3_firstOfTwo_10 (tgt := 166) (by decide) (fun hb10 => ?_) (fun hb10 => ?_)
      · skip
        refine R_iconst hC dX3_firstOfTwo_166 ⟨by decide, by decide⟩ ?_
        exact R_ireturn hC dX3_firstOfTwo_167 rfl (ret_P ⟨hF, hg, hr, .inl ⟨rfl, fun x' t' w' a1 a2 a3 a4 a5 a6 => hN x' t' w' a1 a2 a3 a4 a5 a6 (by omega)⟩⟩)
      · skip
        refine R_iconst hC dX3_firstOfTwo_13 ⟨by decide, by decide⟩ ?_
        refine R_istore_2 hC dX3_firstOfTwo_14 rfl ?_
        have L15 : ∀ (mq : Nat) (t : Int) (M2 : Mem), (0 ≤ t) → (t ≤ d 121) → (GR M2) → (M2 47 = d) → (Fr [25, 26, 27, 28, 29, 30, 31, 32, 33, 34, 47, 48] [(24, 11), (24, 12), (24, 13)] M M2) → (∀ x' t' w', 0 ≤ x' → x' < d 121 → 0 ≤ t' → t' < d 121 → 0 ≤ w' → w' < d 122 → 100 * x' + 10 * t' + w' < 100 * x + 10 * t → ¬ P2 d x' t' w') → (d 121 - t).toNat < mq → RZ G LY C (Zn G LY 57 C (RP (fun v M' => Fr [25, 26, 27, 28, 29, 30, 31, 32, 33, 34, 47, 48] [(24, 11), (24, 12), (24, 13)] M M' ∧ GR M' ∧ M' 47 = d ∧ FstV (d 121) (d 122) (P2 d) v))) 0 0 57 15 [some (vR 45), some (vI x), some (vI t), none, none, none] [] M2 := by
          intro mq
          induction mq with
          | zero =>
            intro t M2 ht0 ht1 hg2 hr2 hF2 hN2 hm
            exact absurd hm (Nat.not_lt_zero _)
          | succ mq ih15 =>
            intro t M2 ht0 ht1 hg2 hr2 hF2 hN2 hm15
            refine R_iload_2 hC dX3_firstOfTwo_15 ?_
            refine R_aload_0 hC dX3_firstOfTwo_16 ?_
            refine R_getR hC dX3_firstOfTwo_17 fl_3_18 (by decide) rfl (by decide) (by decide) (fi := 1) rfl (r := 46) (gr_45_1 hg2) ?_
            refine R_callVq (as := []) hC dX3_firstOfTwo_20 mo_8_libraries ml_3_98 (by decide) rfl rfl (c8_libraries_d  hr2 hg2 sh_46) rfl rfl hRm (by decide) (by decide) (Nat.le_of_ble_eq_true rfl) ?_
            refine R_icmp_ge hC dX3_firstOfTwo_23 (tgt := 160) (by decide) (fun hb23 => ?_) (fun hb23 => ?_)
            · skip
              refine R_iinc_1 hC dX3_firstOfTwo_160 rfl ⟨by omega, by omega⟩ ?_
              refine R_goto hC dX3_firstOfTwo_163 (tgt := 2) (by decide) ?_
              refine R_weak (subL_c (subL_c (subL_d (subL_c (subL_c (subL_c subL_n)))))) ?_
              exact ih2 _ _ (by omega) (by omega) hg2 hr2 hF2 (fun x' t' w' a1 a2 a3 a4 a5 a6 a7 => hN2 x' t' w' a1 a2 a3 a4 a5 a6 (by omega)) (by omega)
            · skip
              refine R_iconst hC dX3_firstOfTwo_26 ⟨by decide, by decide⟩ ?_
              refine R_istore_3 hC dX3_firstOfTwo_27 rfl ?_
              have L28 : ∀ (mq : Nat) (w : Int) (M3 : Mem), (0 ≤ w) → (w ≤ d 122) → (GR M3) → (M3 47 = d) → (Fr [25, 26, 27, 28, 29, 30, 31, 32, 33, 34, 47, 48] [(24, 11), (24, 12), (24, 13)] M M3) → (∀ x' t' w', 0 ≤ x' → x' < d 121 → 0 ≤ t' → t' < d 121 → 0 ≤ w' → w' < d 122 → 100 * x' + 10 * t' + w' < 100 * x + 10 * t + w → ¬ P2 d x' t' w') → (d 122 - w).toNat < mq → RZ G LY C (Zn G LY 57 C (RP (fun v M' => Fr [25, 26, 27, 28, 29, 30, 31, 32, 33, 34, 47, 48] [(24, 11), (24, 12), (24, 13)] M M' ∧ GR M' ∧ M' 47 = d ∧ FstV (d 121) (d 122) (P2 d) v))) 0 0 57 28 [some (vR 45), some (vI x), some (vI t), some (vI w), none, none] [] M3 := by
                intro mq
                induction mq with
                | zero =>
                  intro w M3 hw0 hw1 hg3 hr3 hF3 hN3 hm
                  exact absurd hm (Nat.not_lt_zero _)
                | succ mq ih28 =>
                  intro w M3 hw0 hw1 hg3 hr3 hF3 hN3 hm28
                  refine R_iload_3 hC dX3_firstOfTwo_28 ?_
                  refine R_aload_0 hC dX3_firstOfTwo_29 ?_
                  refine R_getR hC dX3_firstOfTwo_30 fl_3_18 (by decide) rfl (by decide) (by decide) (fi := 1) rfl (r := 46) (gr_45_1 hg3) ?_
                  refine R_callVq (as := []) hC dX3_firstOfTwo_33 mo_8_works ml_3_100 (by decide) rfl rfl (c8_works_d  hr3 hg3 sh_46) rfl rfl hRm (by decide) (by decide) (Nat.le_of_ble_eq_true rfl) ?_
                  refine R_icmp_ge hC dX3_firstOfTwo_36 (tgt := 154) (by decide) (fun hb36 => ?_) (fun hb36 => ?_)
                  · skip
                    refine R_iinc_2 hC dX3_firstOfTwo_154 rfl ⟨by omega, by omega⟩ ?_
                    refine R_goto hC dX3_firstOfTwo_157 (tgt := 15) (by decide) ?_
                    refine R_weak (subL_c (subL_c (subL_c (subL_d (subL_c (subL_c subL_n)))))) ?_
                    exact ih15 _ _ (by omega) (by omega) hg3 hr3 hF3 (fun x' t' w' a1 a2 a3 a4 a5 a6 a7 => by
                      by_cases q : 100 * x' + 10 * t' + w' < 100 * x + 10 * t
                      · exact hN2 x' t' w' a1 a2 a3 a4 a5 a6 q
                      · have e1 : x' = x := by omega
                        have e2 : t' = t := by omega
                        subst e1; subst e2
                        exact hN3 _ _ w' a1 a2 a3 a4 a5 a6 (by omega)) (by omega)
                  · skip
                    refine R_aload_0 hC dX3_firstOfTwo_39 ?_
                    refine R_getR hC dX3_firstOfTwo_40 fl_3_18 (by decide) rfl (by decide) (by decide) (fi := 1) rfl (r := 46) (gr_45_1 hg3) ?_
                    refine R_iload_1 hC dX3_firstOfTwo_43 ?_
                    refine R_iload_2 hC dX3_firstOfTwo_44 ?_
                    refine R_iload_3 hC dX3_firstOfTwo_45 ?_
                    refine R_callVq (as := [vI _, vI _, vI _]) hC dX3_firstOfTwo_46 mo_8_mayGive ml_3_69 (by decide) rfl rfl (c8_mayGive_d  hr3 hg3 sh_46 hSP.B (by omega) (by omega) (by omega) (by omega) (by omega) (by omega)) rfl rfl hRm (by decide) (by decide) (Nat.le_of_ble_eq_true rfl) ?_
                    refine R_if_ne hC dX3_firstOfTwo_49 (tgt := 55) (by decide) (fun hb49 => ?_) (fun hb49 => ?_)
                    · skip
                      replace hb49 := bP_nz hb49
                      refine R_aload_0 hC dX3_firstOfTwo_55 ?_
                      refine R_getR hC dX3_firstOfTwo_56 fl_3_18 (by decide) rfl (by decide) (by decide) (fi := 1) rfl (r := 46) (gr_45_1 hg3) ?_
                      refine R_iload_1 hC dX3_firstOfTwo_59 ?_
                      refine R_iload_2 hC dX3_firstOfTwo_60 ?_
                      refine R_iload_3 hC dX3_firstOfTwo_61 ?_
                      have hmg := hb49
                      have bo := hSP.off hx0 (show x < 5 by omega) hw0 (show w < 6 by omega)
                      have hSM : SP (mvR d x t w) := hSP.mv hx0 (by omega) ht0 (by omega) hw0 (by omega) hmg.1 (by have := hmg.2.1; omega) hmg.2.2.1
                      have hLM : mvR d x t w 121 = d 121 := by rw [mv_at]; simp only; rw [if_neg (by omega), if_neg (by omega)]
                      have hWM : mvR d x t w 122 = d 122 := by rw [mv_at]; simp only; rw [if_neg (by omega), if_neg (by omega)]
                      refine R_callVv (as := [vI _, vI _, vI _]) hC dX3_firstOfTwo_62 mo_8_moveOne ml_3_102 (by decide) rfl rfl (c8_moveOne  hg3 sh_46 hr3 hSP.B (by omega) (by omega) (by omega) (by omega) (by omega) (by omega)) rfl rfl hRm (by decide) (by decide) (Nat.le_of_ble_eq_true rfl) (fun Mc1 hq2 => ?_)
                      have hG3 := hq2.2.1
                      have hr4 := hq2.2.2
                      refine R_aload_0 hC dX3_firstOfTwo_65 ?_
                      refine R_getR hC dX3_firstOfTwo_66 fl_3_9 (by decide) rfl (by decide) (by decide) (fi := 0) rfl (r := 24) (gr_45_0 hG3) ?_
                      refine R_aload_0 hC dX3_firstOfTwo_69 ?_
                      refine R_getR hC dX3_firstOfTwo_70 fl_3_18 (by decide) rfl (by decide) (by decide) (fi := 1) rfl (r := 46) (gr_45_1 hG3) ?_
                      refine R_callVv (as := [vR _]) hC dX3_firstOfTwo_73 mo_6_load ml_3_30 (by decide) rfl rfl (c6_load  hG3 sh_46 hr4 hSM.B) rfl rfl hRm (by decide) (by decide) (Nat.le_of_ble_eq_true rfl) (fun Mc5 hq6 => ?_)
                      have hSC7 := hq6.2
                      refine R_aload_0 hC dX3_firstOfTwo_76 ?_
                      have hG8 : GR Mc5 := (GR.fr hG3 hq6.1 (by decide +kernel))
                      refine R_getR hC dX3_firstOfTwo_77 fl_3_9 (by decide) rfl (by decide) (by decide) (fi := 0) rfl (r := 24) (gr_45_0 hG8) ?_
                      refine R_aload_0 hC dX3_firstOfTwo_80 ?_
                      refine R_getR hC dX3_firstOfTwo_81 fl_3_9 (by decide) rfl (by decide) (by decide) (fi := 0) rfl (r := 24) (gr_45_0 hG8) ?_
                      refine R_callVq (as := []) hC dX3_firstOfTwo_84 mo_6_worstSet ml_3_35 (by decide) rfl rfl (c6_worstSet  hG8 hSC7 hSM.I) rfl rfl hRm (by decide) (by decide) (Nat.le_of_ble_eq_true rfl) ?_
                      have e84_9 := IB.wb hSM.I
                      refine R_callVq (as := [vI _]) hC dX3_firstOfTwo_87 mo_6_lackOf ml_3_39 (by decide) rfl rfl (c6_lackOf  hG8 hSC7 hSM.I hSM.I.wb.1 hSM.I.wb.2) rfl rfl hRm (by decide) (by decide) (Nat.le_of_ble_eq_true rfl) ?_
                      have e87_10 := IB.lk (t := (worst (insOf (mvR d x t w)))) hSM.I hSM.I.wb.1 hSM.I.wb.2
                      have hF5 : Fr [25, 26, 27, 28, 29, 30, 31, 32, 33, 34, 47, 48] [(24, 11), (24, 12), (24, 13)] M Mc5 := Fr.tt (Fr.tt hF3 (hq2.1.mo (by decide) (by decide))) (hq6.1.mo (by decide) (by decide))
                      refine R_iconst hC dX3_firstOfTwo_90 ⟨by decide, by decide⟩ ?_
                      have L99 : ∀ (e : Int), (e = bP (lackI (insOf (mvR d x t w)) (worst (insOf (mvR d x t w))) ≤ 1)) → RZ G LY C (Zn G LY 57 C (RP (fun v M' => Fr [25, 26, 27, 28, 29, 30, 31, 32, 33, 34, 47, 48] [(24, 11), (24, 12), (24, 13)] M M' ∧ GR M' ∧ M' 47 = d ∧ FstV (d 121) (d 122) (P2 d) v))) 0 0 57 99 [some (vR 45), some (vI x), some (vI t), some (vI w), none, none] [vI e] Mc5 := by
                        intro e he
                        refine R_istore_4 hC dX3_firstOfTwo_99 rfl ?_
                        refine R_iload_4 hC dX3_firstOfTwo_101 ?_
                        have L119 : ∀ (f : Int) (M4 : Mem), (f = bP (P2 d x t w)) → (GR M4) → (M4 47 = mvR d x t w) → (Fr [25, 26, 27, 28, 29, 30, 31, 32, 33, 34, 47, 48] [(24, 11), (24, 12), (24, 13)] M M4) → RZ G LY C (Zn G LY 57 C (RP (fun v M' => Fr [25, 26, 27, 28, 29, 30, 31, 32, 33, 34, 47, 48] [(24, 11), (24, 12), (24, 13)] M M' ∧ GR M' ∧ M' 47 = d ∧ FstV (d 121) (d 122) (P2 d) v))) 0 0 57 119 [some (vR 45), some (vI x), some (vI t), some (vI w), some (vI e), none] [vI f] M4 := by
                          intro f M4 hf hg4 hr4 hF4
                          refine R_istore_5 hC dX3_firstOfTwo_119 rfl ?_
                          refine R_aload_0 hC dX3_firstOfTwo_121 ?_
                          refine R_getR hC dX3_firstOfTwo_122 fl_3_18 (by decide) rfl (by decide) (by decide) (fi := 1) rfl (r := 46) (gr_45_1 hg4) ?_
                          refine R_iload_2 hC dX3_firstOfTwo_125 ?_
                          refine R_iload_1 hC dX3_firstOfTwo_126 ?_
                          refine R_iload_3 hC dX3_firstOfTwo_127 ?_
                          refine R_callVv (as := [vI _, vI _, vI _]) hC dX3_firstOfTwo_128 mo_8_moveOne ml_3_102 (by decide) rfl rfl (c8_moveOne  hg4 sh_46 hr4 hSM.B (by omega) (by omega) (by omega) (by omega) (by omega) (by omega)) rfl rfl hRm (by decide) (by decide) (Nat.le_of_ble_eq_true rfl) (fun Mc11 hq12 => ?_)
                          have hG13 := hq12.2.1
                          have hr14 := hq12.2.2
                          have hr15 : Mc11 47 = d := (hq12.2.2.trans (mvR_back hx0 ht0 hw0 (by omega) hmg.1))
                          refine R_iload_5 hC dX3_firstOfTwo_131 ?_
                          rw [hf]
                          refine R_if_eq hC dX3_firstOfTwo_133 (tgt := 148) (by decide) (fun hb133 => ?_) (fun hb133 => ?_)
                          · skip
                            replace hb133 := bP_z hb133
                            refine R_iinc_3 hC dX3_firstOfTwo_148 rfl ⟨by omega, by omega⟩ ?_
                            refine R_goto hC dX3_firstOfTwo_151 (tgt := 28) (by decide) ?_
                            have hrb : Mc11 47 = d := by first | exact hr3 | exact hr15
                            have hFb : Fr [25, 26, 27, 28, 29, 30, 31, 32, 33, 34, 47, 48] [(24, 11), (24, 12), (24, 13)] M Mc11 := by first | exact hF3 | exact Fr.tt hF4 (hq12.1.mo (by decide) (by decide))
                            refine R_weak (subL_c (subL_c (subL_c (subL_c (subL_d (subL_d subL_n)))))) ?_
                            exact ih28 _ _ (by omega) (by omega) hG13 hrb hFb (fun x' t' w' a1 a2 a3 a4 a5 a6 a7 => by
                              by_cases q : 100 * x' + 10 * t' + w' < 100 * x + 10 * t + w
                              · exact hN3 x' t' w' a1 a2 a3 a4 a5 a6 q
                              · have e1 : x' = x := by omega
                                have e2 : t' = t := by omega
                                have e3 : w' = w := by omega
                                subst e1; subst e2; subst e3
                                first
                                  | exact fun z => hb49 z.1
                                  | exact fun z => hb133 z) (by omega)
                          · skip
                            replace hb133 := bP_nz hb133
                            refine R_bipush hC dX3_firstOfTwo_136 (by decide +kernel) ⟨by decide, by decide⟩ ?_
                            refine R_iload_1 hC dX3_firstOfTwo_138 ?_
                            refine R_imul hC dX3_firstOfTwo_139 ⟨by omega, by omega⟩ ?_
                            refine R_bipush hC dX3_firstOfTwo_140 (by decide +kernel) ⟨by decide, by decide⟩ ?_
                            refine R_iload_2 hC dX3_firstOfTwo_142 ?_
                            refine R_imul hC dX3_firstOfTwo_143 ⟨by omega, by omega⟩ ?_
                            refine R_iadd hC dX3_firstOfTwo_144 ⟨by omega, by omega⟩ ?_
                            refine R_iload_3 hC dX3_firstOfTwo_145 ?_
                            refine R_iadd hC dX3_firstOfTwo_146 ⟨by omega, by omega⟩ ?_
                            exact R_ireturn hC dX3_firstOfTwo_147 rfl (ret_P ⟨Fr.tt hF4 (hq12.1.mo (by decide) (by decide)), hG13, hr15, .inr ⟨x, t, w, ⟨hx0, by omega, ht0, by omega, hw0, by omega⟩, hb133, rfl, fun x' t' w' a1 a2 a3 a4 a5 a6 a7 => hN3 x' t' w' a1 a2 a3 a4 a5 a6 a7⟩⟩)
                        have he01 := bP_01 (lackI (insOf (mvR d x t w)) (worst (insOf (mvR d x t w))) ≤ 1)
                        refine R_if_eq hC dX3_firstOfTwo_103 (tgt := 118) (by decide) (fun hb103 => ?_) (fun hb103 => ?_)
                        · skip
                          have hff : (0 : Int) = bP (P2 d x t w) := (bP_neg (fun z => bP_z (he.symm.trans hb103) z.2.1)).symm
                          refine R_iconst hC dX3_firstOfTwo_118 ⟨by decide, by decide⟩ ?_
                          have hr16 : Mc5 47 = (mvR d x t w) := ((hq6.1.row (by decide) (by decide)).trans hr4)
                          exact L119 _ _ hff hG8 hr16 (by first | exact hF5 | exact Fr.tt hF5 ({qd}.1.mo (by decide) (by decide)))
                        · skip
                          refine R_aload_0 hC dX3_firstOfTwo_106 ?_
                          have hr17 : Mc5 47 = (mvR d x t w) := ((hq6.1.row (by decide) (by decide)).trans hr4)
                          refine R_callVp (as := []) hC dX3_firstOfTwo_107 mo_3_firstThatEnds ml_3_50 (by decide) rfl rfl (c3_firstThatEnds  hG8 hr17 hSM hSC7) rfl rfl hRm (by decide) (by decide) (Nat.le_of_ble_eq_true rfl) (fun v20 Mc18 hq19 => ?_)
                          have hSC21 := SC.fr hSC7 hq19.1 (by decide) (by decide)
                          refine R_iconst hC dX3_firstOfTwo_110 ⟨by decide, by decide⟩ ?_
                          refine R_icmp_eq hC dX3_firstOfTwo_111 (tgt := 118) (by decide) (fun hb111 => ?_) (fun hb111 => ?_)
                          · skip
                            have hqd := hq19.2
                            rw [hLM, hWM, hb111] at hqd
                            have hff : (0 : Int) = bP (P2 d x t w) := (bP_neg (fun z => z.2.2 hqd)).symm
                            refine R_iconst hC dX3_firstOfTwo_118 ⟨by decide, by decide⟩ ?_
                            have hG22 : GR Mc18 := (GR.fr hG8 hq19.1 (by decide +kernel))
                            have hr23 : Mc18 47 = (mvR d x t w) := ((hq19.1.row (by decide) (by decide)).trans hr17)
                            exact L119 _ _ hff hG22 hr23 (by first | exact hF5 | exact Fr.tt hF5 (hq19.1.mo (by decide) (by decide)))
                          · skip
                            have hqd := hq19.2
                            rw [hLM, hWM] at hqd
                            have hnz : bP (lackI (insOf (mvR d x t w)) (worst (insOf (mvR d x t w))) ≤ 1) ≠ 0 := he ▸ hb103
                            have hff : (1 : Int) = bP (P2 d x t w) := (bP_pos (And.intro hb49 (And.intro (bP_nz hnz) (FstV_ne hqd hb111)))).symm
                            refine R_iconst hC dX3_firstOfTwo_114 ⟨by decide, by decide⟩ ?_
                            refine R_goto hC dX3_firstOfTwo_115 (tgt := 119) (by decide) ?_
                            have hG24 : GR Mc18 := (GR.fr hG8 hq19.1 (by decide +kernel))
                            have hr25 : Mc18 47 = (mvR d x t w) := ((hq19.1.row (by decide) (by decide)).trans hr17)
                            exact L119 _ _ hff hG24 hr25 (by first | exact hF5 | exact Fr.tt hF5 (hq19.1.mo (by decide) (by decide)))
                      refine R_icmp_gt hC dX3_firstOfTwo_91 (tgt := 98) (by decide) (fun hb91 => ?_) (fun hb91 => ?_)
                      · skip
                        refine R_iconst hC dX3_firstOfTwo_98 ⟨by decide, by decide⟩ ?_
                        exact L99 _ (by first | (rw [bP_pos hb91]) | (rw [bP_neg (Int.not_le.mpr hb91)]))
                      · skip
                        refine R_iconst hC dX3_firstOfTwo_94 ⟨by decide, by decide⟩ ?_
                        refine R_goto hC dX3_firstOfTwo_95 (tgt := 99) (by decide) ?_
                        exact L99 _ (by first | (rw [bP_pos hb91]) | (rw [bP_neg (Int.not_le.mpr hb91)]))
                    · skip
                      replace hb49 := bP_z hb49
                      refine R_goto hC dX3_firstOfTwo_52 (tgt := 148) (by decide) ?_
                      refine R_iinc_3 hC dX3_firstOfTwo_148 rfl ⟨by omega, by omega⟩ ?_
                      refine R_goto hC dX3_firstOfTwo_151 (tgt := 28) (by decide) ?_
                      have hrb : M3 47 = d := by first | exact hr3 | exact hr3
                      have hFb : Fr [25, 26, 27, 28, 29, 30, 31, 32, 33, 34, 47, 48] [(24, 11), (24, 12), (24, 13)] M M3 := by first | exact hF3 | exact Fr.tt hF4 ({qe}.1.mo (by decide) (by decide))
                      exact ih28 _ _ (by omega) (by omega) hg3 hrb hFb (fun x' t' w' a1 a2 a3 a4 a5 a6 a7 => by
                        by_cases q : 100 * x' + 10 * t' + w' < 100 * x + 10 * t + w
                        · exact hN3 x' t' w' a1 a2 a3 a4 a5 a6 q
                        · have e1 : x' = x := by omega
                          have e2 : t' = t := by omega
                          have e3 : w' = w := by omega
                          subst e1; subst e2; subst e3
                          first
                            | exact fun z => hb49 z.1
                            | exact fun z => hb133 z) (by omega)
              exact L28 _ _ _ (by omega) (by omega) hg2 hr2 hF2 (fun x' t' w' a1 a2 a3 a4 a5 a6 a7 => hN2 x' t' w' a1 a2 a3 a4 a5 a6 (by omega)) (Nat.lt_succ_self _)
        exact L15 _ _ _ (by omega) (by omega) hg hr hF (fun x' t' w' a1 a2 a3 a4 a5 a6 a7 => hN x' t' w' a1 a2 a3 a4 a5 a6 (by omega)) (Nat.lt_succ_self _)
  exact L2 _ _ _ (by omega) (by omega) hG hD Fr.rf (fun x' t' w' a1 a2 a3 a4 a5 a6 a7 => by omega) (Nat.lt_succ_self _)
theorem dX3_find_0 : decode cX3_find 0 = .ok (.aload_n 0, 1) := by decide +kernel
theorem dX3_find_1 : decode cX3_find 1 = .ok (.getfield 18, 3) := by decide +kernel
theorem dX3_find_4 : decode cX3_find 4 = .ok (.aload_n 1, 1) := by decide +kernel
theorem dX3_find_5 : decode cX3_find 5 = .ok (.invokevirtual 26, 3) := by decide +kernel
theorem dX3_find_8 : decode cX3_find 8 = .ok (.aload_n 0, 1) := by decide +kernel
theorem dX3_find_9 : decode cX3_find 9 = .ok (.getfield 9, 3) := by decide +kernel
theorem dX3_find_12 : decode cX3_find 12 = .ok (.aload_n 0, 1) := by decide +kernel
theorem dX3_find_13 : decode cX3_find 13 = .ok (.getfield 18, 3) := by decide +kernel
theorem dX3_find_16 : decode cX3_find 16 = .ok (.invokevirtual 30, 3) := by decide +kernel
theorem dX3_find_19 : decode cX3_find 19 = .ok (.aload_n 0, 1) := by decide +kernel
theorem dX3_find_20 : decode cX3_find 20 = .ok (.getfield 9, 3) := by decide +kernel
theorem dX3_find_23 : decode cX3_find 23 = .ok (.aload_n 0, 1) := by decide +kernel
theorem dX3_find_24 : decode cX3_find 24 = .ok (.getfield 9, 3) := by decide +kernel
theorem dX3_find_27 : decode cX3_find 27 = .ok (.invokevirtual 35, 3) := by decide +kernel
theorem dX3_find_30 : decode cX3_find 30 = .ok (.invokevirtual 39, 3) := by decide +kernel
theorem dX3_find_33 : decode cX3_find 33 = .ok (.istore_n 2, 1) := by decide +kernel
theorem dX3_find_34 : decode cX3_find 34 = .ok (.aload_n 0, 1) := by decide +kernel
theorem dX3_find_35 : decode cX3_find 35 = .ok (.iconst (-1), 1) := by decide +kernel
theorem dX3_find_36 : decode cX3_find 36 = .ok (.putfield 43, 3) := by decide +kernel
theorem dX3_find_39 : decode cX3_find 39 = .ok (.aload_n 0, 1) := by decide +kernel
theorem dX3_find_40 : decode cX3_find 40 = .ok (.iconst (-1), 1) := by decide +kernel
theorem dX3_find_41 : decode cX3_find 41 = .ok (.putfield 47, 3) := by decide +kernel
theorem dX3_find_44 : decode cX3_find 44 = .ok (.iload_n 2, 1) := by decide +kernel
theorem dX3_find_45 : decode cX3_find 45 = .ok (.ifCond .ne 11, 3) := by decide +kernel
theorem dX3_find_48 : decode cX3_find 48 = .ok (.aload_n 0, 1) := by decide +kernel
theorem dX3_find_49 : decode cX3_find 49 = .ok (.iconst 0, 1) := by decide +kernel
theorem dX3_find_50 : decode cX3_find 50 = .ok (.putfield 43, 3) := by decide +kernel
theorem dX3_find_53 : decode cX3_find 53 = .ok (.goto 75, 3) := by decide +kernel
theorem dX3_find_56 : decode cX3_find 56 = .ok (.iload_n 2, 1) := by decide +kernel
theorem dX3_find_57 : decode cX3_find 57 = .ok (.iconst 2, 1) := by decide +kernel
theorem dX3_find_58 : decode cX3_find 58 = .ok (.if_icmp .gt 70, 3) := by decide +kernel
theorem dX3_find_61 : decode cX3_find 61 = .ok (.aload_n 0, 1) := by decide +kernel
theorem dX3_find_62 : decode cX3_find 62 = .ok (.iload_n 2, 1) := by decide +kernel
theorem dX3_find_63 : decode cX3_find 63 = .ok (.iconst 1, 1) := by decide +kernel
theorem dX3_find_64 : decode cX3_find 64 = .ok (.if_icmp .ne 10, 3) := by decide +kernel
theorem dX3_find_67 : decode cX3_find 67 = .ok (.aload_n 0, 1) := by decide +kernel
theorem dX3_find_68 : decode cX3_find 68 = .ok (.invokevirtual 50, 3) := by decide +kernel
theorem dX3_find_71 : decode cX3_find 71 = .ok (.goto 4, 3) := by decide +kernel
theorem dX3_find_74 : decode cX3_find 74 = .ok (.iconst (-1), 1) := by decide +kernel
theorem dX3_find_75 : decode cX3_find 75 = .ok (.putfield 47, 3) := by decide +kernel
theorem dX3_find_78 : decode cX3_find 78 = .ok (.aload_n 0, 1) := by decide +kernel
theorem dX3_find_79 : decode cX3_find 79 = .ok (.aload_n 0, 1) := by decide +kernel
theorem dX3_find_80 : decode cX3_find 80 = .ok (.getfield 47, 3) := by decide +kernel
theorem dX3_find_83 : decode cX3_find 83 = .ok (.iconst (-1), 1) := by decide +kernel
theorem dX3_find_84 : decode cX3_find 84 = .ok (.if_icmp .ne 7, 3) := by decide +kernel
theorem dX3_find_87 : decode cX3_find 87 = .ok (.iconst (-1), 1) := by decide +kernel
theorem dX3_find_88 : decode cX3_find 88 = .ok (.goto 4, 3) := by decide +kernel
theorem dX3_find_91 : decode cX3_find 91 = .ok (.iconst 1, 1) := by decide +kernel
theorem dX3_find_92 : decode cX3_find 92 = .ok (.putfield 43, 3) := by decide +kernel
theorem dX3_find_95 : decode cX3_find 95 = .ok (.aload_n 0, 1) := by decide +kernel
theorem dX3_find_96 : decode cX3_find 96 = .ok (.getfield 47, 3) := by decide +kernel
theorem dX3_find_99 : decode cX3_find 99 = .ok (.iconst (-1), 1) := by decide +kernel
theorem dX3_find_100 : decode cX3_find 100 = .ok (.if_icmp .ne 28, 3) := by decide +kernel
theorem dX3_find_103 : decode cX3_find 103 = .ok (.aload_n 0, 1) := by decide +kernel
theorem dX3_find_104 : decode cX3_find 104 = .ok (.aload_n 0, 1) := by decide +kernel
theorem dX3_find_105 : decode cX3_find 105 = .ok (.invokevirtual 53, 3) := by decide +kernel
theorem dX3_find_108 : decode cX3_find 108 = .ok (.putfield 47, 3) := by decide +kernel
theorem dX3_find_111 : decode cX3_find 111 = .ok (.aload_n 0, 1) := by decide +kernel
theorem dX3_find_112 : decode cX3_find 112 = .ok (.aload_n 0, 1) := by decide +kernel
theorem dX3_find_113 : decode cX3_find 113 = .ok (.getfield 47, 3) := by decide +kernel
theorem dX3_find_116 : decode cX3_find 116 = .ok (.iconst (-1), 1) := by decide +kernel
theorem dX3_find_117 : decode cX3_find 117 = .ok (.if_icmp .ne 7, 3) := by decide +kernel
theorem dX3_find_120 : decode cX3_find 120 = .ok (.iconst (-1), 1) := by decide +kernel
theorem dX3_find_121 : decode cX3_find 121 = .ok (.goto 4, 3) := by decide +kernel
theorem dX3_find_124 : decode cX3_find 124 = .ok (.iconst 2, 1) := by decide +kernel
theorem dX3_find_125 : decode cX3_find 125 = .ok (.putfield 43, 3) := by decide +kernel
theorem dX3_find_128 : decode cX3_find 128 = .ok (.return_, 1) := by decide +kernel
set_option maxHeartbeats 1000000 in
theorem c3_find {G : Gl} {l : Launch}  {M : Mem} {d : Int → Int} (hG : GR M) (hD : M 4 = d) (hSP : SP d) : Ct G LY 57 l 5 m3_find [vR 45, vR 3] M (RV (fun M' => Fr [25, 26, 27, 28, 29, 30, 31, 32, 33, 34, 47, 48] [(24, 11), (24, 12), (24, 13), (45, 3), (45, 4)] M M' ∧ GR M' ∧ HelpC d (M' 45 3) (M' 45 4))) := by
  refine R_start (by decide +kernel) (Nat.le_of_ble_eq_true rfl) (fun C hC hRm hlau => ?_)
  show RZ G LY C (Zn G LY 57 C (RV (fun M' => Fr [25, 26, 27, 28, 29, 30, 31, 32, 33, 34, 47, 48] [(24, 11), (24, 12), (24, 13), (45, 3), (45, 4)] M M' ∧ GR M' ∧ HelpC d (M' 45 3) (M' 45 4)))) 0 0 57 0 [some (vR 45), some (vR 3), none] [] M
  have hLd := hSP.1.1
  have hWd := hSP.1.2
  refine R_aload_0 hC dX3_find_0 ?_
  refine R_getR hC dX3_find_1 fl_3_18 (by decide) rfl (by decide) (by decide) (fi := 1) rfl (r := 46) (gr_45_1 hG) ?_
  refine R_aload_1 hC dX3_find_4 ?_
  refine R_callVv (as := [vR _]) hC dX3_find_5 mo_8_copyFrom ml_3_26 (by decide) rfl rfl (c8_copyFrom  hG sh_46 sh_3 hD) rfl rfl hRm (by decide) (by decide) (Nat.le_of_ble_eq_true rfl) (fun Mc1 hq2 => ?_)
  have hG3 := hq2.2.1
  have hr4 := hq2.2.2
  refine R_aload_0 hC dX3_find_8 ?_
  refine R_getR hC dX3_find_9 fl_3_9 (by decide) rfl (by decide) (by decide) (fi := 0) rfl (r := 24) (gr_45_0 hG3) ?_
  refine R_aload_0 hC dX3_find_12 ?_
  refine R_getR hC dX3_find_13 fl_3_18 (by decide) rfl (by decide) (by decide) (fi := 1) rfl (r := 46) (gr_45_1 hG3) ?_
  refine R_callVv (as := [vR _]) hC dX3_find_16 mo_6_load ml_3_30 (by decide) rfl rfl (c6_load  hG3 sh_46 hr4 hSP.B) rfl rfl hRm (by decide) (by decide) (Nat.le_of_ble_eq_true rfl) (fun Mc5 hq6 => ?_)
  have hSC7 := hq6.2
  refine R_aload_0 hC dX3_find_19 ?_
  have hG8 : GR Mc5 := (GR.fr hG3 hq6.1 (by decide +kernel))
  refine R_getR hC dX3_find_20 fl_3_9 (by decide) rfl (by decide) (by decide) (fi := 0) rfl (r := 24) (gr_45_0 hG8) ?_
  refine R_aload_0 hC dX3_find_23 ?_
  refine R_getR hC dX3_find_24 fl_3_9 (by decide) rfl (by decide) (by decide) (fi := 0) rfl (r := 24) (gr_45_0 hG8) ?_
  refine R_callVq (as := []) hC dX3_find_27 mo_6_worstSet ml_3_35 (by decide) rfl rfl (c6_worstSet  hG8 hSC7 (SP.I hSP)) rfl rfl hRm (by decide) (by decide) (Nat.le_of_ble_eq_true rfl) ?_
  have e27_9 := IB.wb (SP.I hSP)
  refine R_callVq (as := [vI _]) hC dX3_find_30 mo_6_lackOf ml_3_39 (by decide) rfl rfl (c6_lackOf  hG8 hSC7 (SP.I hSP) ((SP.I hSP).wb.1) ((SP.I hSP).wb.2)) rfl rfl hRm (by decide) (by decide) (Nat.le_of_ble_eq_true rfl) ?_
  have e30_10 := IB.lk (t := (worst (insOf d))) (SP.I hSP) ((SP.I hSP).wb.1) ((SP.I hSP).wb.2)
  refine R_istore_2 hC dX3_find_33 rfl ?_
  refine R_aload_0 hC dX3_find_34 ?_
  refine R_iconst hC dX3_find_35 ⟨by decide, by decide⟩ ?_
  refine R_putI hC dX3_find_36 fl_3_43 (by decide) rfl (by decide) (by decide) (fi := 3) rfl ?_
  refine R_aload_0 hC dX3_find_39 ?_
  refine R_iconst hC dX3_find_40 ⟨by decide, by decide⟩ ?_
  refine R_putI hC dX3_find_41 fl_3_47 (by decide) rfl (by decide) (by decide) (fi := 4) rfl ?_
  have hF0 : Fr [25, 26, 27, 28, 29, 30, 31, 32, 33, 34, 47, 48] [(24, 11), (24, 12), (24, 13), (45, 3), (45, 4)] M (uM (uM Mc5 45 3 (-1)) 45 4 (-1)) := Fr.uB (Fr.uB (Fr.tt (hq2.1.mo (by decide) (by decide)) (hq6.1.mo (by decide) (by decide))) (by decide)) (by decide)
  have h30 : (uM (uM Mc5 45 3 (-1)) 45 4 (-1)) 45 3 = -1 := (uM_k (by decide)).trans uM_same
  have h40 : (uM (uM Mc5 45 3 (-1)) 45 4 (-1)) 45 4 = -1 := uM_same
  refine R_iload_2 hC dX3_find_44 ?_
  refine R_if_ne hC dX3_find_45 (tgt := 56) (by decide) (fun hb45 => ?_) (fun hb45 => ?_)
  · skip
    refine R_iload_2 hC dX3_find_56 ?_
    refine R_iconst hC dX3_find_57 ⟨by decide, by decide⟩ ?_
    refine R_icmp_gt hC dX3_find_58 (tgt := 128) (by decide) (fun hb58 => ?_) (fun hb58 => ?_)
    · skip
      have e3 : (uM (uM Mc5 45 3 (-1)) 45 4 (-1)) 45 3 = (-1) := ((uM_k (by decide)).trans uM_same)
      have e4 : (uM (uM Mc5 45 3 (-1)) 45 4 (-1)) 45 4 = (-1) := uM_same
      have hG11 : GR (uM (uM Mc5 45 3 (-1)) 45 4 (-1)) := (GR.uF (GR.uF hG8 (by decide +kernel) (by decide)) (by decide +kernel) (by decide))
      exact R_return hC dX3_find_128 rfl (ret_V ⟨by
            first
              | exact hF0
              | exact Fr.uB hF0 (by decide)
              | exact Fr.uB (Fr.uB hF (by decide)) (by decide)
              | exact Fr.uB (Fr.uB (Fr.tt (Fr.uB (Fr.uB hF (by decide)) (by decide)) ({qf}.1.mo (by decide) (by decide))) (by decide)) (by decide), hG11, by
            rw [e3, e4]
            first
              | exact .inl ⟨hb45, rfl, rfl⟩
              | exact .inr (.inl ⟨hb45, hb58, rfl, rfl⟩)
              | (exfalso; omega)
              | exact .inr (.inr ⟨hb45, hb58, v1, hv, .inl ⟨hb84, rfl, rfl⟩⟩)
              | exact .inr (.inr ⟨hb45, hb58, v1, hv, .inr ⟨hb84, {qf}.2.2.2, (if_pos hb117).symm⟩⟩)
              | exact .inr (.inr ⟨hb45, hb58, v1, hv, .inr ⟨hb84, {qf}.2.2.2, (if_neg hb117).symm⟩⟩)⟩)
    · skip
      have L75 : ∀ (v1 : Int) (M1 : Mem), (GR M1) → (M1 47 = d) → (SC M1 (insOf d)) → (Fr [25, 26, 27, 28, 29, 30, 31, 32, 33, 34, 47, 48] [(24, 11), (24, 12), (24, 13), (45, 3), (45, 4)] M M1) → ((lackI (insOf d) (worst (insOf d)) = 1 ∧ FstV (d 121) (d 122) (P1 d) v1) ∨ (lackI (insOf d) (worst (insOf d)) ≠ 1 ∧ v1 = -1)) → (M1 45 3 = -1) → RZ G LY C (Zn G LY 57 C (RV (fun M' => Fr [25, 26, 27, 28, 29, 30, 31, 32, 33, 34, 47, 48] [(24, 11), (24, 12), (24, 13), (45, 3), (45, 4)] M M' ∧ GR M' ∧ HelpC d (M' 45 3) (M' 45 4)))) 0 0 57 75 [some (vR 45), some (vR 3), some (vI (lackI (insOf d) (worst (insOf d))))] [vI v1, vR 45] M1 := by
        intro v1 M1 hg hr hSJ hF hv h43
        refine R_putI hC dX3_find_75 fl_3_47 (by decide) rfl (by decide) (by decide) (fi := 4) rfl ?_
        refine R_aload_0 hC dX3_find_78 ?_
        refine R_aload_0 hC dX3_find_79 ?_
        refine R_getIE hC dX3_find_80 fl_3_47 (by decide) rfl (by decide) (by decide) (fi := 4) rfl uM_same ?_
        refine R_iconst hC dX3_find_83 ⟨by decide, by decide⟩ ?_
        refine R_icmp_ne hC dX3_find_84 (tgt := 91) (by decide) (fun hb84 => ?_) (fun hb84 => ?_)
        · skip
          refine R_iconst hC dX3_find_91 ⟨by decide, by decide⟩ ?_
          refine R_putI hC dX3_find_92 fl_3_43 (by decide) rfl (by decide) (by decide) (fi := 3) rfl ?_
          refine R_aload_0 hC dX3_find_95 ?_
          refine R_getIE hC dX3_find_96 fl_3_47 (by decide) rfl (by decide) (by decide) (fi := 4) rfl ((uM_k (by decide)).trans uM_same) ?_
          refine R_iconst hC dX3_find_99 ⟨by decide, by decide⟩ ?_
          refine R_icmp_ne hC dX3_find_100 (tgt := 128) (by decide) (fun hb100 => ?_) (fun hb100 => ?_)
          · skip
            have e3 : (uM (uM M1 45 4 v1) 45 3 1) 45 3 = 1 := uM_same
            have e4 : (uM (uM M1 45 4 v1) 45 3 1) 45 4 = v1 := ((uM_k (by decide)).trans uM_same)
            have hG12 : GR (uM (uM M1 45 4 v1) 45 3 1) := (GR.uF (GR.uF hg (by decide +kernel) (by decide)) (by decide +kernel) (by decide))
            exact R_return hC dX3_find_128 rfl (ret_V ⟨by
                  first
                    | exact hF0
                    | exact Fr.uB hF0 (by decide)
                    | exact Fr.uB (Fr.uB hF (by decide)) (by decide)
                    | exact Fr.uB (Fr.uB (Fr.tt (Fr.uB (Fr.uB hF (by decide)) (by decide)) ({qf}.1.mo (by decide) (by decide))) (by decide)) (by decide), hG12, by
                  rw [e3, e4]
                  first
                    | exact .inl ⟨hb45, rfl, rfl⟩
                    | exact .inr (.inl ⟨hb45, hb58, rfl, rfl⟩)
                    | (exfalso; omega)
                    | exact .inr (.inr ⟨hb45, hb58, v1, hv, .inl ⟨hb84, rfl, rfl⟩⟩)
                    | exact .inr (.inr ⟨hb45, hb58, v1, hv, .inr ⟨hb84, {qf}.2.2.2, (if_pos hb117).symm⟩⟩)
                    | exact .inr (.inr ⟨hb45, hb58, v1, hv, .inr ⟨hb84, {qf}.2.2.2, (if_neg hb117).symm⟩⟩)⟩)
          · skip
            refine R_aload_0 hC dX3_find_103 ?_
            refine R_aload_0 hC dX3_find_104 ?_
            have hG13 : GR (uM (uM M1 45 4 v1) 45 3 1) := (GR.uF (GR.uF hg (by decide +kernel) (by decide)) (by decide +kernel) (by decide))
            have hr14 : (uM (uM M1 45 4 v1) 45 3 1) 47 = d := ((uM_ne (by decide)).trans ((uM_ne (by decide)).trans hr))
            refine R_callVp (as := []) hC dX3_find_105 mo_3_firstOfTwo ml_3_53 (by decide) rfl rfl (c3_firstOfTwo  hG13 hr14 hSP) rfl rfl hRm (by decide) (by decide) (Nat.le_of_ble_eq_true rfl) (fun v17 Mc15 hq16 => ?_)
            have hG18 := hq16.2.1
            refine R_putI hC dX3_find_108 fl_3_47 (by decide) rfl (by decide) (by decide) (fi := 4) rfl ?_
            refine R_aload_0 hC dX3_find_111 ?_
            refine R_aload_0 hC dX3_find_112 ?_
            refine R_getIE hC dX3_find_113 fl_3_47 (by decide) rfl (by decide) (by decide) (fi := 4) rfl uM_same ?_
            refine R_iconst hC dX3_find_116 ⟨by decide, by decide⟩ ?_
            refine R_icmp_ne hC dX3_find_117 (tgt := 124) (by decide) (fun hb117 => ?_) (fun hb117 => ?_)
            · skip
              refine R_iconst hC dX3_find_124 ⟨by decide, by decide⟩ ?_
              refine R_putI hC dX3_find_125 fl_3_43 (by decide) rfl (by decide) (by decide) (fi := 3) rfl ?_
              have e3 : (uM (uM Mc15 45 4 v17) 45 3 2) 45 3 = 2 := uM_same
              have e4 : (uM (uM Mc15 45 4 v17) 45 3 2) 45 4 = v17 := ((uM_k (by decide)).trans uM_same)
              have hG19 : GR (uM (uM Mc15 45 4 v17) 45 3 2) := (GR.uF (GR.uF hG18 (by decide +kernel) (by decide)) (by decide +kernel) (by decide))
              exact R_return hC dX3_find_128 rfl (ret_V ⟨by
                    first
                      | exact hF0
                      | exact Fr.uB hF0 (by decide)
                      | exact Fr.uB (Fr.uB hF (by decide)) (by decide)
                      | exact Fr.uB (Fr.uB (Fr.tt (Fr.uB (Fr.uB hF (by decide)) (by decide)) (hq16.1.mo (by decide) (by decide))) (by decide)) (by decide), hG19, by
                    rw [e3, e4]
                    first
                      | exact .inl ⟨hb45, rfl, rfl⟩
                      | exact .inr (.inl ⟨hb45, hb58, rfl, rfl⟩)
                      | (exfalso; omega)
                      | exact .inr (.inr ⟨hb45, hb58, v1, hv, .inl ⟨hb84, rfl, rfl⟩⟩)
                      | exact .inr (.inr ⟨hb45, hb58, v1, hv, .inr ⟨hb84, hq16.2.2.2, (if_pos hb117).symm⟩⟩)
                      | exact .inr (.inr ⟨hb45, hb58, v1, hv, .inr ⟨hb84, hq16.2.2.2, (if_neg hb117).symm⟩⟩)⟩)
            · skip
              refine R_iconst hC dX3_find_120 ⟨by decide, by decide⟩ ?_
              refine R_goto hC dX3_find_121 (tgt := 125) (by decide) ?_
              refine R_putI hC dX3_find_125 fl_3_43 (by decide) rfl (by decide) (by decide) (fi := 3) rfl ?_
              have e3 : (uM (uM Mc15 45 4 v17) 45 3 (-1)) 45 3 = (-1) := uM_same
              have e4 : (uM (uM Mc15 45 4 v17) 45 3 (-1)) 45 4 = v17 := ((uM_k (by decide)).trans uM_same)
              have hG20 : GR (uM (uM Mc15 45 4 v17) 45 3 (-1)) := (GR.uF (GR.uF hG18 (by decide +kernel) (by decide)) (by decide +kernel) (by decide))
              exact R_return hC dX3_find_128 rfl (ret_V ⟨by
                    first
                      | exact hF0
                      | exact Fr.uB hF0 (by decide)
                      | exact Fr.uB (Fr.uB hF (by decide)) (by decide)
                      | exact Fr.uB (Fr.uB (Fr.tt (Fr.uB (Fr.uB hF (by decide)) (by decide)) (hq16.1.mo (by decide) (by decide))) (by decide)) (by decide), hG20, by
                    rw [e3, e4]
                    first
                      | exact .inl ⟨hb45, rfl, rfl⟩
                      | exact .inr (.inl ⟨hb45, hb58, rfl, rfl⟩)
                      | (exfalso; omega)
                      | exact .inr (.inr ⟨hb45, hb58, v1, hv, .inl ⟨hb84, rfl, rfl⟩⟩)
                      | exact .inr (.inr ⟨hb45, hb58, v1, hv, .inr ⟨hb84, hq16.2.2.2, (if_pos hb117).symm⟩⟩)
                      | exact .inr (.inr ⟨hb45, hb58, v1, hv, .inr ⟨hb84, hq16.2.2.2, (if_neg hb117).symm⟩⟩)⟩)
        · skip
          refine R_iconst hC dX3_find_87 ⟨by decide, by decide⟩ ?_
          refine R_goto hC dX3_find_88 (tgt := 92) (by decide) ?_
          refine R_putI hC dX3_find_92 fl_3_43 (by decide) rfl (by decide) (by decide) (fi := 3) rfl ?_
          refine R_aload_0 hC dX3_find_95 ?_
          refine R_getIE hC dX3_find_96 fl_3_47 (by decide) rfl (by decide) (by decide) (fi := 4) rfl ((uM_k (by decide)).trans uM_same) ?_
          refine R_iconst hC dX3_find_99 ⟨by decide, by decide⟩ ?_
          refine R_icmp_ne hC dX3_find_100 (tgt := 128) (by decide) (fun hb100 => ?_) (fun hb100 => ?_)
          · skip
            have e3 : (uM (uM M1 45 4 v1) 45 3 (-1)) 45 3 = (-1) := uM_same
            have e4 : (uM (uM M1 45 4 v1) 45 3 (-1)) 45 4 = v1 := ((uM_k (by decide)).trans uM_same)
            have hG21 : GR (uM (uM M1 45 4 v1) 45 3 (-1)) := (GR.uF (GR.uF hg (by decide +kernel) (by decide)) (by decide +kernel) (by decide))
            exact R_return hC dX3_find_128 rfl (ret_V ⟨by
                  first
                    | exact hF0
                    | exact Fr.uB hF0 (by decide)
                    | exact Fr.uB (Fr.uB hF (by decide)) (by decide)
                    | exact Fr.uB (Fr.uB (Fr.tt (Fr.uB (Fr.uB hF (by decide)) (by decide)) ({qf}.1.mo (by decide) (by decide))) (by decide)) (by decide), hG21, by
                  rw [e3, e4]
                  first
                    | exact .inl ⟨hb45, rfl, rfl⟩
                    | exact .inr (.inl ⟨hb45, hb58, rfl, rfl⟩)
                    | (exfalso; omega)
                    | exact .inr (.inr ⟨hb45, hb58, v1, hv, .inl ⟨hb84, rfl, rfl⟩⟩)
                    | exact .inr (.inr ⟨hb45, hb58, v1, hv, .inr ⟨hb84, {qf}.2.2.2, (if_pos hb117).symm⟩⟩)
                    | exact .inr (.inr ⟨hb45, hb58, v1, hv, .inr ⟨hb84, {qf}.2.2.2, (if_neg hb117).symm⟩⟩)⟩)
          · skip
            refine R_aload_0 hC dX3_find_103 ?_
            refine R_aload_0 hC dX3_find_104 ?_
            have hG22 : GR (uM (uM M1 45 4 v1) 45 3 (-1)) := (GR.uF (GR.uF hg (by decide +kernel) (by decide)) (by decide +kernel) (by decide))
            have hr23 : (uM (uM M1 45 4 v1) 45 3 (-1)) 47 = d := ((uM_ne (by decide)).trans ((uM_ne (by decide)).trans hr))
            refine R_callVp (as := []) hC dX3_find_105 mo_3_firstOfTwo ml_3_53 (by decide) rfl rfl (c3_firstOfTwo  hG22 hr23 hSP) rfl rfl hRm (by decide) (by decide) (Nat.le_of_ble_eq_true rfl) (fun v26 Mc24 hq25 => ?_)
            have hG27 := hq25.2.1
            refine R_putI hC dX3_find_108 fl_3_47 (by decide) rfl (by decide) (by decide) (fi := 4) rfl ?_
            refine R_aload_0 hC dX3_find_111 ?_
            refine R_aload_0 hC dX3_find_112 ?_
            refine R_getIE hC dX3_find_113 fl_3_47 (by decide) rfl (by decide) (by decide) (fi := 4) rfl uM_same ?_
            refine R_iconst hC dX3_find_116 ⟨by decide, by decide⟩ ?_
            refine R_icmp_ne hC dX3_find_117 (tgt := 124) (by decide) (fun hb117 => ?_) (fun hb117 => ?_)
            · skip
              refine R_iconst hC dX3_find_124 ⟨by decide, by decide⟩ ?_
              refine R_putI hC dX3_find_125 fl_3_43 (by decide) rfl (by decide) (by decide) (fi := 3) rfl ?_
              have e3 : (uM (uM Mc24 45 4 v26) 45 3 2) 45 3 = 2 := uM_same
              have e4 : (uM (uM Mc24 45 4 v26) 45 3 2) 45 4 = v26 := ((uM_k (by decide)).trans uM_same)
              have hG28 : GR (uM (uM Mc24 45 4 v26) 45 3 2) := (GR.uF (GR.uF hG27 (by decide +kernel) (by decide)) (by decide +kernel) (by decide))
              exact R_return hC dX3_find_128 rfl (ret_V ⟨by
                    first
                      | exact hF0
                      | exact Fr.uB hF0 (by decide)
                      | exact Fr.uB (Fr.uB hF (by decide)) (by decide)
                      | exact Fr.uB (Fr.uB (Fr.tt (Fr.uB (Fr.uB hF (by decide)) (by decide)) (hq25.1.mo (by decide) (by decide))) (by decide)) (by decide), hG28, by
                    rw [e3, e4]
                    first
                      | exact .inl ⟨hb45, rfl, rfl⟩
                      | exact .inr (.inl ⟨hb45, hb58, rfl, rfl⟩)
                      | (exfalso; omega)
                      | exact .inr (.inr ⟨hb45, hb58, v1, hv, .inl ⟨hb84, rfl, rfl⟩⟩)
                      | exact .inr (.inr ⟨hb45, hb58, v1, hv, .inr ⟨hb84, hq25.2.2.2, (if_pos hb117).symm⟩⟩)
                      | exact .inr (.inr ⟨hb45, hb58, v1, hv, .inr ⟨hb84, hq25.2.2.2, (if_neg hb117).symm⟩⟩)⟩)
            · skip
              refine R_iconst hC dX3_find_120 ⟨by decide, by decide⟩ ?_
              refine R_goto hC dX3_find_121 (tgt := 125) (by decide) ?_
              refine R_putI hC dX3_find_125 fl_3_43 (by decide) rfl (by decide) (by decide) (fi := 3) rfl ?_
              have e3 : (uM (uM Mc24 45 4 v26) 45 3 (-1)) 45 3 = (-1) := uM_same
              have e4 : (uM (uM Mc24 45 4 v26) 45 3 (-1)) 45 4 = v26 := ((uM_k (by decide)).trans uM_same)
              have hG29 : GR (uM (uM Mc24 45 4 v26) 45 3 (-1)) := (GR.uF (GR.uF hG27 (by decide +kernel) (by decide)) (by decide +kernel) (by decide))
              exact R_return hC dX3_find_128 rfl (ret_V ⟨by
                    first
                      | exact hF0
                      | exact Fr.uB hF0 (by decide)
                      | exact Fr.uB (Fr.uB hF (by decide)) (by decide)
                      | exact Fr.uB (Fr.uB (Fr.tt (Fr.uB (Fr.uB hF (by decide)) (by decide)) (hq25.1.mo (by decide) (by decide))) (by decide)) (by decide), hG29, by
                    rw [e3, e4]
                    first
                      | exact .inl ⟨hb45, rfl, rfl⟩
                      | exact .inr (.inl ⟨hb45, hb58, rfl, rfl⟩)
                      | (exfalso; omega)
                      | exact .inr (.inr ⟨hb45, hb58, v1, hv, .inl ⟨hb84, rfl, rfl⟩⟩)
                      | exact .inr (.inr ⟨hb45, hb58, v1, hv, .inr ⟨hb84, hq25.2.2.2, (if_pos hb117).symm⟩⟩)
                      | exact .inr (.inr ⟨hb45, hb58, v1, hv, .inr ⟨hb84, hq25.2.2.2, (if_neg hb117).symm⟩⟩)⟩)
      refine R_aload_0 hC dX3_find_61 ?_
      refine R_iload_2 hC dX3_find_62 ?_
      refine R_iconst hC dX3_find_63 ⟨by decide, by decide⟩ ?_
      refine R_icmp_ne hC dX3_find_64 (tgt := 74) (by decide) (fun hb64 => ?_) (fun hb64 => ?_)
      · skip
        refine R_iconst hC dX3_find_74 ⟨by decide, by decide⟩ ?_
        have hG30 : GR (uM (uM Mc5 45 3 (-1)) 45 4 (-1)) := (GR.uF (GR.uF hG8 (by decide +kernel) (by decide)) (by decide +kernel) (by decide))
        have hr31 : (uM (uM Mc5 45 3 (-1)) 45 4 (-1)) 47 = d := ((uM_ne (by decide)).trans ((uM_ne (by decide)).trans ((hq6.1.row (by decide) (by decide)).trans hr4)))
        exact L75 _ _ hG30 hr31 (SC.u (SC.u hSC7 (by decide)) (by decide)) (by first | exact hF0 | exact Fr.tt hF0 ({qd}.1.mo (by decide) (by decide))) (by first | exact .inr ⟨hb64, rfl⟩ | exact .inl ⟨hb64, {qd}.2⟩) (by first | exact h30 | exact ({qd}.1 45 3 (by decide) (by decide)).trans h30)
      · skip
        refine R_aload_0 hC dX3_find_67 ?_
        have hG32 : GR (uM (uM Mc5 45 3 (-1)) 45 4 (-1)) := (GR.uF (GR.uF hG8 (by decide +kernel) (by decide)) (by decide +kernel) (by decide))
        have hr33 : (uM (uM Mc5 45 3 (-1)) 45 4 (-1)) 47 = d := ((uM_ne (by decide)).trans ((uM_ne (by decide)).trans ((hq6.1.row (by decide) (by decide)).trans hr4)))
        refine R_callVp (as := []) hC dX3_find_68 mo_3_firstThatEnds ml_3_50 (by decide) rfl rfl (c3_firstThatEnds  hG32 hr33 hSP (SC.u (SC.u hSC7 (by decide)) (by decide))) rfl rfl hRm (by decide) (by decide) (Nat.le_of_ble_eq_true rfl) (fun v36 Mc34 hq35 => ?_)
        have hSC37 := SC.fr (SC.u (SC.u hSC7 (by decide)) (by decide)) hq35.1 (by decide) (by decide)
        refine R_goto hC dX3_find_71 (tgt := 75) (by decide) ?_
        have hG38 : GR Mc34 := (GR.fr hG32 hq35.1 (by decide +kernel))
        have hr39 : Mc34 47 = d := ((hq35.1.row (by decide) (by decide)).trans hr33)
        exact L75 _ _ hG38 hr39 hSC37 (by first | exact hF0 | exact Fr.tt hF0 (hq35.1.mo (by decide) (by decide))) (by first | exact .inr ⟨hb64, rfl⟩ | exact .inl ⟨hb64, hq35.2⟩) (by first | exact h30 | exact (hq35.1 45 3 (by decide) (by decide)).trans h30)
  · skip
    refine R_aload_0 hC dX3_find_48 ?_
    refine R_iconst hC dX3_find_49 ⟨by decide, by decide⟩ ?_
    refine R_putI hC dX3_find_50 fl_3_43 (by decide) rfl (by decide) (by decide) (fi := 3) rfl ?_
    refine R_goto hC dX3_find_53 (tgt := 128) (by decide) ?_
    have e3 : (uM (uM (uM Mc5 45 3 (-1)) 45 4 (-1)) 45 3 0) 45 3 = 0 := uM_same
    have e4 : (uM (uM (uM Mc5 45 3 (-1)) 45 4 (-1)) 45 3 0) 45 4 = (-1) := ((uM_k (by decide)).trans uM_same)
    have hG40 : GR (uM (uM (uM Mc5 45 3 (-1)) 45 4 (-1)) 45 3 0) := (GR.uF (GR.uF (GR.uF hG8 (by decide +kernel) (by decide)) (by decide +kernel) (by decide)) (by decide +kernel) (by decide))
    exact R_return hC dX3_find_128 rfl (ret_V ⟨by
          first
            | exact hF0
            | exact Fr.uB hF0 (by decide)
            | exact Fr.uB (Fr.uB hF (by decide)) (by decide)
            | exact Fr.uB (Fr.uB (Fr.tt (Fr.uB (Fr.uB hF (by decide)) (by decide)) ({qf}.1.mo (by decide) (by decide))) (by decide)) (by decide), hG40, by
          rw [e3, e4]
          first
            | exact .inl ⟨hb45, rfl, rfl⟩
            | exact .inr (.inl ⟨hb45, hb58, rfl, rfl⟩)
            | (exfalso; omega)
            | exact .inr (.inr ⟨hb45, hb58, v1, hv, .inl ⟨hb84, rfl, rfl⟩⟩)
            | exact .inr (.inr ⟨hb45, hb58, v1, hv, .inr ⟨hb84, {qf}.2.2.2, (if_pos hb117).symm⟩⟩)
            | exact .inr (.inr ⟨hb45, hb58, v1, hv, .inr ⟨hb84, {qf}.2.2.2, (if_neg hb117).symm⟩⟩)⟩)
