/-! THE PLAN, settled cell by cell: the model's way and the class's -/
def RJ (I J : Ins) (q : Int) : Prop := (I.1 = J.1 ∧ iO I = iO J ∧ iS I = iS J ∧ iZ I = iZ J) ∧ (∀ y, 0 ≤ y → y < iL I → iN I y = iN J y) ∧ (∀ y, q ≤ y → iM I y = iM J y) ∧ ∀ y, 0 ≤ y → y < q → y < iL I → ∀ w, 0 ≤ w → w < iW I → iO I y w = 0
section RJS
variable {I J : Ins} {q : Int}
theorem RJ.L (h : RJ I J q) : iL I = iL J := congrArg Prod.fst h.1.1
theorem RJ.W (h : RJ I J q) : iW I = iW J := congrArg Prod.snd h.1.1
theorem RJ.sy (h : RJ I J q) : RJ J I q := by
  have eL := h.L
  have eW := h.W
  refine ⟨⟨h.1.1.symm, h.1.2.1.symm, h.1.2.2.1.symm, h.1.2.2.2.symm⟩, fun y a b => (h.2.1 y a (by omega)).symm, fun y a => (h.2.2.1 y a).symm, fun y a b c w d e => ?_⟩
  rw [← h.1.2.1]
  exact h.2.2.2 y a b (by omega) w d (by omega)
theorem RJ.pl (h : RJ I J q) (hI : IB I) : planI I ↔ planI J := by
  have eL := h.L
  have eW := h.W
  have k : ∀ t, 0 ≤ t → t < 2 ^ (iL I).toNat → lackI I t = lackI J t := fun t t0 t1 => by
    unfold lackI canI canw
    rw [ss_congr hI.1.1 hI.1.2 t0 t1 h.2.1, h.1.2.1, h.1.2.2.1, eW]
  unfold planI
  rw [← eL]
  exact ⟨fun g t a b => by rw [← k t a b]; exact g t a b, fun g t a b => by rw [k t a b]; exact g t a b⟩
theorem RJ.mc1 (h : RJ I J q) (hI : IB I) (hJ : IB J) (s : Int) : MC J s ≤ MC I s := by
  have eL := h.L
  have eW := h.W
  have hL := hI.1
  have hf := hI.fs
  have hf2 := hJ.fs
  obtain ⟨t, t0, t1, e⟩ := mnn_ex (cutS I s) (fullS I).toNat
  have tb : t < 2 ^ (iL I).toNat := by omega
  have hb := bits_bd (fun x => x < q ∨ t / 2 ^ x.toNat % 2 = 1) (iL I).toNat
  generalize hu : bits (iL I).toNat (fun x => x < q ∨ t / 2 ^ x.toNat % 2 = 1) = u at hb
  have bt : ∀ x : Int, 0 ≤ x → x < iL I → u / 2 ^ x.toNat % 2 = bP (x < q ∨ t / 2 ^ x.toNat % 2 = 1) := by
    intro x x0 x1
    rw [← hu, bits_at _ _ _ (by omega), Int.toNat_of_nonneg x0]
  have b1 : ∀ x : Int, 0 ≤ x → x < iL I → (x < q ∧ u / 2 ^ x.toNat % 2 = 1) ∨ (q ≤ x ∧ u / 2 ^ x.toNat % 2 = t / 2 ^ x.toNat % 2) := by
    intro x x0 x1
    rw [bt x x0 x1]
    by_cases z : x < q
    · exact .inl ⟨z, bP_pos (.inl z)⟩
    · refine .inr ⟨by omega, ?_⟩
      rcases bt_01 t x.toNat with y | y
      · rw [y]; exact bP_neg (fun v => by omega)
      · rw [y]; exact bP_pos (.inr rfl)
  have le : MC J s ≤ cutS J s u := mnn_le _ _ _ hb.1 (by
    rw [hf2.2.2]
    unfold fullS
    rw [← eL]
    omega)
  have ub : u < 2 ^ (iL J).toNat := by rw [← eL]; exact hb.2
  have c : cutS J s u ≤ cutS I s t := by
    unfold cutS
    rw [← hJ.rest hb.1 ub, ← hI.rest t0 tb, ← eL, ← eW, ← h.1.2.2.2]
    have a1 : sm (iL I).toNat (fun x => (1 - u / 2 ^ x.toNat % 2) * iM J x) ≤ sm (iL I).toNat (fun x => (1 - t / 2 ^ x.toNat % 2) * iM I x) := by
      refine sm_le _ (fun x x0 x1 => ?_)
      have := hI.2.2.2.2 x x0 (by omega)
      rcases b1 x x0 (by omega) with z | z
      · rw [z.2]
        rcases bt_01 t x.toNat with y | y <;> rw [y] <;> omega
      · rw [z.2, h.2.2.1 x z.1]
        exact Int.le_refl _
    have a2 : sm (iW I).toNat (fun w => if s ≤ iZ I w then canw J w u else 0) = sm (iW I).toNat (fun w => if s ≤ iZ I w then canw I w t else 0) := by
      refine sm_congr _ (fun w w0 w1 => ?_)
      have : canw J w u = canw I w t := by
        unfold canw
        rw [← h.1.2.1, ← h.1.2.2.1, ss_L hL.1 hL.2 hb.1 hb.2, ss_L hL.1 hL.2 t0 tb]
        congr 1
        refine sm_congr _ (fun x x0 x1 => ?_)
        rcases b1 x x0 (by omega) with z | z
        · rw [h.2.2.2 x x0 z.1 (by omega) w w0 (by omega), Int.mul_zero, Int.mul_zero]
        · rw [z.2]
      rw [this]
    omega
  show _ ≤ mnn _ _
  rw [e]
  omega
theorem RJ.sp (h : RJ I J q) (hI : IB I) (hJ : IB J) : SPC I = SPC J ∧ sumMC I = sumMC J := by
  have m : sumMC I = sumMC J := sm_congr 9 (fun s _ _ => Int.le_antisymm (h.sy.mc1 hJ hI _) (h.mc1 hI hJ _))
  refine ⟨?_, m⟩
  by_cases p : planI I
  · rw [SPC_t p, SPC_t ((h.pl hI).mp p), m]
  · rw [SPC_f p, SPC_f (fun z => p ((h.pl hI).mpr z))]
theorem RJ.TK (h : RJ I J q) {x w n : Int} (hx : q ≤ x) (x0 : 0 ≤ x) (x1 : x < iL I) : RJ (TK I x w n) (TK J x w n) q := by
  refine ⟨⟨h.1.1, ?_, ?_, h.1.2.2.2⟩, fun y a b => ?_, fun y a => ?_, fun y a b c u d e => ?_⟩
  · funext a b; rw [TK_O, TK_O, h.1.2.1]
  · funext b; rw [TK_S, TK_S, h.1.2.2.1]
  · rw [TK_N, TK_N, h.2.1 y a b, h.2.1 x x0 x1]
  · rw [TK_M, TK_M, h.2.2.1 y a, h.2.2.1 x hx]
  · rw [TK_O]
    split
    · rfl
    · exact h.2.2.2 y a b c u d e
theorem lack1 (hI : IB I) {x : Int} (x0 : 0 ≤ x) (x1 : x < iL I) (hp : planI I) (hO : ∀ w, 0 ≤ w → w < iW I → iO I x w = 0) : iN I x = 0 := by
  have hL := hI.1
  have p0 := pw_le6 x0 (by omega)
  have p1 : (2 : Int) ^ x.toNat < 2 ^ (iL I).toNat := by
    have a := pw_le (i := x + 1) (j := iL I) (by omega) (by omega)
    rw [pw_s x0] at a
    omega
  have one : ∀ f : Int → Int, ss f (2 ^ x.toNat) = f x := fun f => by
    have := ss_add f (l := x) (s := 0) (p := 2 ^ x.toNat) x0 (by omega) rfl (Int.le_refl _) (by omega)
    rw [Int.add_zero, ss_0, Int.zero_add] at this
    exact this
  have h := hp (2 ^ x.toNat) (by omega) p1
  unfold lackI canI canw at h
  rw [one, sm_zero _ (fun w w0 w1 => by
    rw [one, hO w w0 (by omega)]
    have := (hI.2.2.2.1 w w0 (by omega)).1
    omega)] at h
  have := hI.2.2.2.2 x x0 x1
  omega
theorem RJ.row (h : RJ I J q) (hJ : IB J) (q0 : 0 ≤ q) (q1 : q < iL J) (hp : planI J) (hO : RO J q (iW J)) : RJ I (setNM J q 0 0) (q + 1) := by
  have eL := h.L
  have eW := h.W
  have e0 := lack1 hJ q0 q1 hp (fun w a b => hO w a b)
  refine ⟨h.1, fun y a b => ?_, fun y a => ?_, fun y a b c u d e => ?_⟩
  · show _ = up (iN J) q 0 y
    by_cases z : y = q
    · rw [z, up_same, h.2.1 q q0 (by omega), e0]
    · rw [up_ne z]; exact h.2.1 y a b
  · show _ = up (iM J) q 0 y
    rw [up_ne (by omega)]; exact h.2.2.1 y (by omega)
  · by_cases z : y = q
    · rw [h.1.2.1, z]; exact hO u d (by omega)
    · exact h.2.2.2 y a (by omega) c u d e
theorem RJ.rf (I : Ins) : RJ I I 0 := ⟨⟨rfl, rfl, rfl, rfl⟩, fun _ _ _ => rfl, fun _ _ => rfl, fun y a b => by omega⟩
theorem RJ.rf2 (hI : IB I) (h : ∀ y, 0 ≤ y → y < q → y < iL I → ∀ w, 0 ≤ w → w < iW I → iO I y w = 0) : RJ I I q := ⟨⟨rfl, rfl, rfl, rfl⟩, fun _ _ _ => rfl, fun _ _ => rfl, h⟩
end RJS
/-- what is asked for, less the cells before k; their space -/
def inC (I : Ins) (k : Int) : Prop := k / 6 < iL I ∧ k % 6 < iW I
noncomputable def aB (I : Ins) (T : Int → Int) : Nat → Ins
  | 0 => I
  | k + 1 => itc (inC I k) (TK (aB I T k) ((k : Int) / 6) ((k : Int) % 6) (T k)) (aB I T k)
noncomputable def sB (I : Ins) (T : Int → Int) (k : Nat) : Int := sm k (fun j => itc (inC I j) (T j * iZ I (j % 6)) 0)
section ABS
variable {I : Ins} {T T' : Int → Int}
theorem aB_1 : ∀ k : Nat, (aB I T k).1 = I.1
  | 0 => rfl
  | k + 1 => by
    rw [aB]
    by_cases q : inC I k
    · rw [itc_t q]; exact aB_1 k
    · rw [itc_f q]; exact aB_1 k
theorem aB_Z : ∀ k : Nat, iZ (aB I T k) = iZ I
  | 0 => rfl
  | k + 1 => by
    rw [aB]
    by_cases q : inC I k
    · rw [itc_t q]; exact aB_Z k
    · rw [itc_f q]; exact aB_Z k
theorem aB_L (k : Nat) : iL (aB I T k) = iL I := congrArg Prod.fst (aB_1 k)
theorem aB_W (k : Nat) : iW (aB I T k) = iW I := congrArg Prod.snd (aB_1 k)
theorem aB_c : ∀ k : Nat, (∀ j : Int, 0 ≤ j → j < k → T j = T' j) → aB I T k = aB I T' k
  | 0, _ => rfl
  | k + 1, h => by rw [aB, aB, aB_c k (fun j a b => h j a (by omega)), h k (by omega) (by omega)]
theorem sB_c (k : Nat) (h : ∀ j : Int, 0 ≤ j → j < k → T j = T' j) : sB I T k = sB I T' k := sm_congr k (fun j a b => by rw [h j a b])
theorem aB_t {k : Int} (k0 : 0 ≤ k) (h : inC I k) : aB I T (k + 1).toNat = TK (aB I T k.toNat) (k / 6) (k % 6) (T k) := by
  rw [show (k + 1).toNat = k.toNat + 1 by omega, aB, Int.toNat_of_nonneg k0, itc_t h]
theorem aB_f {k : Int} (k0 : 0 ≤ k) (h : ¬ inC I k) : aB I T (k + 1).toNat = aB I T k.toNat := by
  rw [show (k + 1).toNat = k.toNat + 1 by omega, aB, Int.toNat_of_nonneg k0, itc_f h]
theorem sB_t {k : Int} (k0 : 0 ≤ k) (h : inC I k) : sB I T (k + 1).toNat = sB I T k.toNat + T k * iZ I (k % 6) := by
  unfold sB; rw [sm_to k0 rfl, itc_t h]
theorem sB_f {k : Int} (k0 : 0 ≤ k) (h : ¬ inC I k) : sB I T (k + 1).toNat = sB I T k.toNat := by
  unfold sB; rw [sm_to k0 rfl, itc_f h, Int.add_zero]
theorem sB_bd (h : IB I) (hT : ∀ q, 0 ≤ q → 0 ≤ T q ∧ T q ≤ 3) {k : Int} (k0 : 0 ≤ k) (k1 : k ≤ 30) : 0 ≤ sB I T k.toNat ∧ sB I T k.toNat ≤ 30 * 27 :=
  sm_bd2 27 k0 (fun j a b => by
    by_cases q : inC I j
    · rw [itc_t q]
      have := (h.2.2.2.1 (j % 6) (by omega) q.2).2
      have := hT j a
      have := mul_bd (a := T j) (b := iZ I (j % 6)) (p := 3) (q := 9) (by omega) (by omega) (by omega) (by omega)
      omega
    · rw [itc_f q]; exact ⟨by decide, by decide⟩) (by decide) k1
end ABS
/-! the state at a cell -/
noncomputable def S0 (I : Ins) : PT := (I, SPC I, fun _ => 0, 0)
noncomputable def clS (I : Ins) (x j : Int) : PT := prow (pall (S0 I) (iW I) x.toNat) x (min j (iW I)).toNat
def PL (I : Ins) (x j : Int) (S : PT) : Prop := PB I x (min j (iW I)) S ∧ planI S.1 ∧ SPC S.1 = S.2.1 ∧ RJ (aB I S.2.2.1 (6 * x + j).toNat) S.1 x ∧ S.2.1 = SPC I - sB I S.2.2.1 (6 * x + j).toNat ∧ ∀ i : Nat, (i : Int) ≤ 6 * x + j → IB (aB I S.2.2.1 i)
section PLS
variable {I : Ins} {x j : Int} {S : PT}
theorem PL.in (hI : IB I) (h : PL I x j S) (x0 : 0 ≤ x) (x1 : x < iL I) (j0 : 0 ≤ j) (j1 : j < iW I) : PL I x (j + 1) (stepT S x j) := by
  obtain ⟨hB, hp, hs, hR, hv, hi⟩ := h
  have hW := hI.2.1
  rw [show min j (iW I) = j by omega] at hB
  have hJ := hB.1.2.2.1
  have eL : iL S.1 = iL I := congrArg Prod.fst hB.1.1
  have eW : iW S.1 = iW I := congrArg Prod.snd hB.1.1
  have eZ : iZ S.1 = iZ I := hB.1.2.1
  have g := tk_gd hJ hp x0 (by omega) j0 (show j < iW S.1 by omega)
  rw [hs] at g
  have b := tk_bd hJ S.2.1 x0 (by omega) j0 (show j < iW S.1 by omega)
  have hc : inC I (6 * x + j) := ⟨by omega, by omega⟩
  have hq : ∀ i : Int, 0 ≤ i → i < 6 * x + j → S.2.2.1 i = (stepT S x j).2.2.1 i := fun i _ i1 => (up_ne (by omega)).symm
  have hk : (stepT S x j).2.2.1 (6 * x + j) = tk S.1 x j S.2.1 := by
    show up S.2.2.1 (x * 6 + j) _ (6 * x + j) = _
    rw [show x * 6 + j = 6 * x + j by omega, up_same]
  have ea : aB I (stepT S x j).2.2.1 (6 * x + j).toNat = aB I S.2.2.1 (6 * x + j).toNat := (aB_c _ (fun i a b => hq i a (by omega))).symm
  have e1 : aB I (stepT S x j).2.2.1 (6 * x + (j + 1)).toNat = TK (aB I S.2.2.1 (6 * x + j).toNat) x j (tk S.1 x j S.2.1) := by
    rw [show 6 * x + (j + 1) = 6 * x + j + 1 by omega, aB_t (by omega) hc, ea, hk, show (6 * x + j) / 6 = x by omega, show (6 * x + j) % 6 = j by omega]
  have hIk := hi (6 * x + j).toNat (by omega)
  have aL := aB_L (I := I) (T := S.2.2.1) (6 * x + j).toNat
  have aW := aB_W (I := I) (T := S.2.2.1) (6 * x + j).toNat
  have hI1 : IB (TK (aB I S.2.2.1 (6 * x + j).toNat) x j (tk S.1 x j S.2.1)) := hIk.TK x0 (by omega) j0 (by omega) b.1 (by rw [hR.1.2.2.1]; exact b.2.2.1) (by rw [hR.2.2.1 x (Int.le_refl _)]; exact b.2.2.2.1)
  refine ⟨?_, g.1, ?_, ?_, ?_, fun i hi1 => ?_⟩
  · rw [show min (j + 1) (iW I) = j + 1 by omega]
    exact hB.step x0 x1 j0 j1 (by omega)
  · show SPC (TK S.1 x j _) = S.2.1 - _
    have := g.2
    omega
  · rw [e1]
    exact hR.TK (Int.le_refl _) x0 (by omega)
  · show S.2.1 - tk S.1 x j S.2.1 * iZ S.1 j = _
    rw [show 6 * x + (j + 1) = 6 * x + j + 1 by omega, sB_t (by omega) hc, hk, show (6 * x + j) % 6 = j by omega, ← sB_c (T := S.2.2.1) _ (fun i a b => hq i a (by omega)), hv, eZ]
    omega
  · by_cases z : (i : Int) ≤ 6 * x + j
    · rw [← aB_c (T := S.2.2.1) i (fun a p q => hq a p (by omega))]
      exact hi i z
    · rw [show i = (6 * x + (j + 1)).toNat by omega, e1]
      exact hI1
theorem PL.out (hI : IB I) (h : PL I x j S) (x0 : 0 ≤ x) (j0 : 0 ≤ j) (j1 : iW I ≤ j) (j6 : j < 6) : PL I x (j + 1) S := by
  obtain ⟨hB, hp, hs, hR, hv, hi⟩ := h
  have hc : ¬ inC I (6 * x + j) := fun z => by have := z.2; omega
  have e1 : aB I S.2.2.1 (6 * x + (j + 1)).toNat = aB I S.2.2.1 (6 * x + j).toNat := by
    rw [show 6 * x + (j + 1) = 6 * x + j + 1 by omega, aB_f (by omega) hc]
  refine ⟨?_, hp, hs, by rw [e1]; exact hR, ?_, fun i hi1 => ?_⟩
  · rw [show min (j + 1) (iW I) = min j (iW I) by omega]; exact hB
  · rw [show 6 * x + (j + 1) = 6 * x + j + 1 by omega, sB_f (by omega) hc]; exact hv
  · by_cases z : (i : Int) ≤ 6 * x + j
    · exact hi i z
    · rw [show i = (6 * x + (j + 1)).toNat by omega, e1]
      exact hi _ (by omega)
theorem PL.row (hI : IB I) (h : PL I x 6 S) (x0 : 0 ≤ x) (x1 : x < iL I) : PL I (x + 1) 0 (endR S x) := by
  obtain ⟨hB, hp, hs, hR, hv, hi⟩ := h
  have hW := hI.2.1
  rw [show min 6 (iW I) = iW I by omega] at hB
  have hJ := hB.1.2.2.1
  have eL : iL S.1 = iL I := congrArg Prod.fst hB.1.1
  have eW : iW S.1 = iW I := congrArg Prod.snd hB.1.1
  have hO : RO S.1 x (iW S.1) := by rw [eW]; exact hB.2.1
  have r0 : RJ S.1 S.1 x := RJ.rf2 hJ (fun y a b c w d e => (hB.1.2.2.2 y a b).2.2 w d e)
  have r1 := r0.row hJ x0 (by omega) hp hO
  have hJ2 : IB (setNM S.1 x 0 0) := hJ.setNM (by decide) (by decide) (by decide)
  refine ⟨?_, (r1.pl hJ).mp hp, ?_, ?_, ?_, fun i hi1 => hi i (by omega)⟩
  · rw [show min 0 (iW I) = 0 by omega]
    exact hB.fin x0 hW.2
  · show SPC (setNM S.1 x 0 0) = S.2.1
    rw [← (r1.sp hJ hJ2).1, hs]
  · rw [show 6 * (x + 1) + 0 = 6 * x + 6 by omega]
    exact hR.row hJ x0 (by omega) hp hO
  · rw [show 6 * (x + 1) + 0 = 6 * x + 6 by omega]; exact hv
end PLS
theorem tk_max {I : Ins} {x w v : Int} {m : Int} (m0 : 0 < m) (g : gdT I x w v m) : ∀ n : Nat, m ≤ n → m ≤ tkF I x w v n
  | 0, h => by omega
  | n + 1, h => by
    by_cases s : gdT I x w v ((n + 1 : Nat) : Int)
    · have := tkF_t (n := ((n + 1 : Nat) : Int)) (by omega) s
      rw [Int.toNat_natCast] at this
      omega
    · have := tkF_f (n := ((n + 1 : Nat) : Int)) (by omega) s
      rw [Int.toNat_natCast, show (((n + 1 : Nat) : Int) - 1).toNat = n by omega] at this
      rw [this]
      refine tk_max m0 g n ?_
      by_cases t : m = ((n + 1 : Nat) : Int)
      · exact absurd (t ▸ g) s
      · omega
/-- n copies can be settled at cell k -/
def gdS (I : Ins) (T : Int → Int) (k n : Int) : Prop := n ≤ iM (aB I T k.toNat) (k / 6) ∧ n ≤ iS (aB I T k.toNat) (k % 6) ∧ planI (TK (aB I T k.toNat) (k / 6) (k % 6) n) ∧ sumMC (TK (aB I T k.toNat) (k / 6) (k % 6) n) + (sB I T k.toNat + n * iZ I (k % 6)) = SPC I
def PLE (I : Ins) (k : Int) (T : Int → Int) : Prop := ∃ S, PL I (k / 6) (k % 6) S ∧ S.2.2.1 = T ∧ S = clS I (k / 6) (k % 6)
section PLES
variable {I : Ins} {k : Int} {T : Int → Int}
theorem PLE.f (hI : IB I) (h : PLE I k T) (k0 : 0 ≤ k) : (∀ q, 0 ≤ q → 0 ≤ T q ∧ T q ≤ 3) ∧ (∀ j : Nat, (j : Int) ≤ k → IB (aB I T j)) ∧ (inC I k → iO (aB I T k.toNat) (k / 6) (k % 6) = iO I (k / 6) (k % 6)) ∧ ∀ q, k ≤ q → T q = 0 := by
  obtain ⟨S, ⟨hB, hp, hs, hR, hv, hi⟩, rfl, -⟩ := h
  rw [show 6 * (k / 6) + k % 6 = k by omega] at hR hi
  refine ⟨fun q q0 => ?_, hi, fun hc => ?_, fun q hq => hB.2.2.2.1 q (by have := Int.min_le_left (k % 6) (iW I); omega)⟩
  · have a := hB.2.2.2.2.1 (q / 6) (q % 6) (by omega) (by omega) (by omega)
    have b := oIf_bd hI (y := q / 6) (u := q % 6) (by omega) (by omega)
    rw [show q / 6 * 6 + q % 6 = q by omega] at a
    omega
  · rw [hR.1.2.1]
    exact hB.2.2.1 _ _ (.inr ⟨rfl, Int.min_le_left _ _⟩)
theorem PLE.wrap (hI : IB I) {x : Int} {S : PT} (x0 : 0 ≤ x) (x1 : x < iL I) (hk : k + 1 = 6 * x + 6) (h : PL I x 6 S) (e : S = clS I x 6) : PLE I (k + 1) S.2.2.1 := by
  refine ⟨endR S x, ?_, rfl, ?_⟩
  · rw [show (k + 1) / 6 = x + 1 by omega, show (k + 1) % 6 = 0 by omega]
    exact h.row hI x0 x1
  · have hW := hI.2.1
    rw [show (k + 1) / 6 = x + 1 by omega, show (k + 1) % 6 = 0 by omega, e]
    unfold clS
    rw [show min 0 (iW I) = 0 by omega, show min 6 (iW I) = iW I by omega]
    exact (pall_s x0 rfl).symm
theorem PLE.step (hI : IB I) (h : PLE I k T) {n : Int} (k0 : 0 ≤ k) (hc : inC I k) (n0 : 0 ≤ n) (n1 : n ≤ iO I (k / 6) (k % 6)) (hg : n = 0 ∨ gdS I T k n) (hm : ∀ m, n < m → m ≤ iO I (k / 6) (k % 6) → ¬ gdS I T k m) : PLE I (k + 1) (up T k n) := by
  have hf := h.f hI k0
  obtain ⟨S, hL, rfl, hcl⟩ := h
  have hW := hI.2.1
  have hB := hL.1
  have hR := hL.2.2.2.1
  have hv := hL.2.2.2.2.1
  have hi := hL.2.2.2.2.2
  rw [show 6 * (k / 6) + k % 6 = k by omega] at hR hv hi
  have hJ := hB.1.2.2.1
  have eL : iL S.1 = iL I := congrArg Prod.fst hB.1.1
  have eW : iW S.1 = iW I := congrArg Prod.snd hB.1.1
  have eZ : iZ S.1 = iZ I := hB.1.2.1
  have hIk := hi k.toNat (by omega)
  have aL := aB_L (I := I) (T := S.2.2.1) k.toNat
  have aW := aB_W (I := I) (T := S.2.2.1) k.toNat
  have c1 := hc.1
  have c2 := hc.2
  have hO : iO S.1 (k / 6) (k % 6) = iO I (k / 6) (k % 6) := hB.2.2.1 _ _ (.inr ⟨rfl, Int.min_le_left _ _⟩)
  have key : ∀ m, 0 < m → m ≤ iO I (k / 6) (k % 6) → (gdS I S.2.2.1 k m ↔ m ≤ mxT S.1 (k / 6) (k % 6) ∧ gdT S.1 (k / 6) (k % 6) S.2.1 m) := by
    intro m m0 m1
    unfold gdS gdT mxT
    rw [hR.1.2.2.1, hR.2.2.1 _ (Int.le_refl _), hO, eZ]
    by_cases z : m ≤ iM S.1 (k / 6) ∧ m ≤ iS S.1 (k % 6)
    · have r := hR.TK (x := k / 6) (w := k % 6) (n := m) (Int.le_refl _) (by omega) (by omega)
      have i1 : IB (TK (aB I S.2.2.1 k.toNat) (k / 6) (k % 6) m) := hIk.TK (by omega) (by omega) (by omega) (by omega) (by omega) (by rw [hR.1.2.2.1]; exact z.2) (by rw [hR.2.2.1 _ (Int.le_refl _)]; exact z.1)
      have i2 : IB (TK S.1 (k / 6) (k % 6) m) := hJ.TK (by omega) (by omega) (by omega) (by omega) (by omega) z.2 z.1
      have rp := r.pl i1
      have rs := r.sp i1 i2
      constructor
      · rintro ⟨-, -, p, s⟩
        refine ⟨by omega, rp.mp p, ?_⟩
        rw [← rs.1, SPC_t p]
        omega
      · rintro ⟨-, p, s⟩
        have p' := rp.mpr p
        refine ⟨z.1, z.2, p', ?_⟩
        rw [← rs.1, SPC_t p'] at s
        omega
    · constructor
      · intro y; exact absurd ⟨y.1, y.2.1⟩ z
      · intro y; have := y.1; exact absurd (by omega) z
  have et : tk S.1 (k / 6) (k % 6) S.2.1 = n := by
    have b := tk_bd hJ S.2.1 (x := k / 6) (w := k % 6) (by omega) (by omega) (by omega) (by omega)
    rw [hO] at b
    have bm : tk S.1 (k / 6) (k % 6) S.2.1 ≤ mxT S.1 (k / 6) (k % 6) := by unfold mxT; omega
    have up1 : ∀ m, 0 < m → m ≤ mxT S.1 (k / 6) (k % 6) → gdT S.1 (k / 6) (k % 6) S.2.1 m → m ≤ tk S.1 (k / 6) (k % 6) S.2.1 := fun m a c g => tk_max a g _ (by omega)
    by_cases z : 0 < n
    · have g := (key n z n1).mp (hg.resolve_left (by omega))
      have l := up1 n z g.1 g.2
      by_cases y : n < tk S.1 (k / 6) (k % 6) S.2.1
      · exact absurd ((key _ (by omega) b.2.2.2.2).mpr ⟨bm, tk_good (by omega)⟩) (hm _ y b.2.2.2.2)
      · omega
    · by_cases y : 0 < tk S.1 (k / 6) (k % 6) S.2.1
      · exact absurd ((key _ y b.2.2.2.2).mpr ⟨bm, tk_good y⟩) (hm _ (by omega) b.2.2.2.2)
      · omega
  have hin := hL.in hI (by omega) c1 (by omega) c2
  have eT : (stepT S (k / 6) (k % 6)).2.2.1 = up S.2.2.1 k n := by
    show up S.2.2.1 (k / 6 * 6 + k % 6) (tk S.1 (k / 6) (k % 6) S.2.1) = _
    rw [et, show k / 6 * 6 + k % 6 = k by omega]
  have ec : stepT S (k / 6) (k % 6) = clS I (k / 6) (k % 6 + 1) := by
    rw [hcl]
    unfold clS
    rw [show min (k % 6) (iW I) = k % 6 by omega, show min (k % 6 + 1) (iW I) = k % 6 + 1 by omega]
    exact (prow_s (by omega) rfl).symm
  rw [← eT]
  by_cases w : k % 6 = 5
  · rw [show k % 6 + 1 = 6 by omega] at hin ec
    exact PLE.wrap hI (by omega) c1 (by omega) hin ec
  · refine ⟨_, ?_, rfl, ?_⟩
    · rw [show (k + 1) / 6 = k / 6 by omega, show (k + 1) % 6 = k % 6 + 1 by omega]; exact hin
    · rw [show (k + 1) / 6 = k / 6 by omega, show (k + 1) % 6 = k % 6 + 1 by omega]; exact ec
theorem PLE.skip (hI : IB I) (h : PLE I k T) (k0 : 0 ≤ k) (k1 : k / 6 < iL I) (hw : iW I ≤ k % 6) : PLE I (k + 1) T := by
  obtain ⟨S, hL, rfl, hcl⟩ := h
  have hW := hI.2.1
  have hin := hL.out hI (by omega) (by omega) hw (by omega)
  have ec : S = clS I (k / 6) (k % 6 + 1) := by
    rw [hcl]
    unfold clS
    rw [show min (k % 6) (iW I) = iW I by omega, show min (k % 6 + 1) (iW I) = iW I by omega]
  by_cases w : k % 6 = 5
  · rw [show k % 6 + 1 = 6 by omega] at hin ec
    exact PLE.wrap hI (by omega) k1 (by omega) hin ec
  · refine ⟨_, ?_, rfl, ?_⟩
    · rw [show (k + 1) / 6 = k / 6 by omega, show (k + 1) % 6 = k % 6 + 1 by omega]; exact hin
    · rw [show (k + 1) / 6 = k / 6 by omega, show (k + 1) % 6 = k % 6 + 1 by omega]; exact ec
theorem PLE.start (hI : IB I) (hp : planI I) : PLE I 0 (fun _ => 0) := by
  have hW := hI.2.1
  have hB := PB.all hI 0 (by have := hI.1.1; omega)
  have e : min (0 % 6) (iW I) = 0 := by omega
  refine ⟨S0 I, ⟨by rw [e]; exact hB, hp, rfl, RJ.rf I, ?_, fun i hi => ?_⟩, rfl, ?_⟩
  · show SPC I = SPC I - sB I _ 0
    exact (Int.sub_zero _).symm
  · rw [show i = 0 by omega]; exact hI
  · unfold clS
    rw [e]
    rfl
theorem PLE.end (hI : IB I) (hp : planI I) (h : PLE I (6 * iL I) T) (q : Int) : plT I q = T q := by
  have hW := hI.2.1
  obtain ⟨S, -, rfl, hcl⟩ := h
  unfold plT
  rw [if_pos hp, hcl]
  unfold clS
  rw [show 6 * iL I / 6 = iL I by omega, show 6 * iL I % 6 = 0 by omega, show min 0 (iW I) = 0 by omega]
  rfl
end PLES
theorem uM_if {M : Mem} {h : Nat} {a n q : Int} : uM M h a n h q = if q = a then n else M h q := by
  by_cases e : q = a
  · rw [if_pos e, uM_at e]
  · rw [if_neg e, uM_k e]
theorem sB_I {I J : Ins} {T : Int → Int} {k : Nat} (e : J.1 = I.1) (z : iZ J = iZ I) : sB J T k = sB I T k := by
  unfold sB inC iL iW
  rw [e, z]
