/-! THE PLAN, settled cell by cell: the model's way and the class's -/
def RJ (I J : Ins) (q : Int) : Prop := (I.1 = J.1 ∧ iO I = iO J ∧ iS I = iS J ∧ iZ I = iZ J) ∧ (∀ y, 0 ≤ y → y < iL I → iN I y = iN J y) ∧ (∀ y, q ≤ y → iM I y = iM J y) ∧ ∀ y, 0 ≤ y → y < q → y < iL I → ∀ w, 0 ≤ w → w < iW I → iO I y w = 0
section RJS
variable {I J : Ins} {q : Int}
theorem RJ.L (h : RJ I J q) : iL I = iL J := congrArg Prod.fst h.1.1
theorem RJ.W (h : RJ I J q) : iW I = iW J := congrArg Prod.snd h.1.1
theorem RJ.sy (h : RJ I J q) : RJ J I q := by
  have eL := h.L
  have eW := h.W
  refine ⟨⟨h.1.1.symm, h.1.2.1.symm, h.1.2.2.1.symm, h.1.2.2.2.symm⟩, fun y a b => (h.2.1 y a (by omega)).symm, fun y a => (h.2.2.1 y a).symm, fun y a b c w d e => ?_⟩
  rw [← h.1.2.1]
  exact h.2.2.2 y a b (by omega) w d (by omega)
theorem RJ.pl (h : RJ I J q) (hI : IB I) : planI I ↔ planI J := by
  have eL := h.L
  have eW := h.W
  have k : ∀ t, 0 ≤ t → t < 2 ^ (iL I).toNat → lackI I t = lackI J t := fun t t0 t1 => by
    unfold lackI canI canw
    rw [ss_congr hI.1.1 hI.1.2 t0 t1 h.2.1, h.1.2.1, h.1.2.2.1, eW]
  unfold planI
  rw [← eL]
  exact ⟨fun g t a b => by rw [← k t a b]; exact g t a b, fun g t a b => by rw [k t a b]; exact g t a b⟩
theorem RJ.mc1 (h : RJ I J q) (hI : IB I) (hJ : IB J) (s : Int) : MC J s ≤ MC I s := by
  have eL := h.L
  have eW := h.W
  have hL := hI.1
  have hf := hI.fs
  have hf2 := hJ.fs
  obtain ⟨t, t0, t1, e⟩ := mnn_ex (cutS I s) (fullS I).toNat
  have tb : t < 2 ^ (iL I).toNat := by omega
  have hb := bits_bd (fun x => x < q ∨ t / 2 ^ x.toNat % 2 = 1) (iL I).toNat
  generalize hu : bits (iL I).toNat (fun x => x < q ∨ t / 2 ^ x.toNat % 2 = 1) = u at hb
  have bt : ∀ x : Int, 0 ≤ x → x < iL I → u / 2 ^ x.toNat % 2 = bP (x < q ∨ t / 2 ^ x.toNat % 2 = 1) := by
    intro x x0 x1
    rw [← hu, bits_at _ _ _ (by omega), Int.toNat_of_nonneg x0]
  have b1 : ∀ x : Int, 0 ≤ x → x < iL I → (x < q ∧ u / 2 ^ x.toNat % 2 = 1) ∨ (q ≤ x ∧ u / 2 ^ x.toNat % 2 = t / 2 ^ x.toNat % 2) := by
    intro x x0 x1
    rw [bt x x0 x1]
    by_cases z : x < q
    · exact .inl ⟨z, bP_pos (.inl z)⟩
    · refine .inr ⟨by omega, ?_⟩
      rcases bt_01 t x.toNat with y | y
      · rw [y]; exact bP_neg (fun v => by omega)
      · rw [y]; exact bP_pos (.inr rfl)
  have le : MC J s ≤ cutS J s u := mnn_le _ _ _ hb.1 (by
    rw [hf2.2.2]
    unfold fullS
    rw [← eL]
    omega)
  have ub : u < 2 ^ (iL J).toNat := by rw [← eL]; exact hb.2
  have c : cutS J s u ≤ cutS I s t := by
    unfold cutS
    rw [← hJ.rest hb.1 ub, ← hI.rest t0 tb, ← eL, ← eW, ← h.1.2.2.2]
    have a1 : sm (iL I).toNat (fun x => (1 - u / 2 ^ x.toNat % 2) * iM J x) ≤ sm (iL I).toNat (fun x => (1 - t / 2 ^ x.toNat % 2) * iM I x) := by
      refine sm_le _ (fun x x0 x1 => ?_)
      have := hI.2.2.2.2 x x0 (by omega)
      rcases b1 x x0 (by omega) with z | z
      · rw [z.2]
        rcases bt_01 t x.toNat with y | y <;> rw [y] <;> omega
      · rw [z.2, h.2.2.1 x z.1]
        exact Int.le_refl _
    have a2 : sm (iW I).toNat (fun w => if s ≤ iZ I w then canw J w u else 0) = sm (iW I).toNat (fun w => if s ≤ iZ I w then canw I w t else 0) := by
      refine sm_congr _ (fun w w0 w1 => ?_)
      have : canw J w u = canw I w t := by
        unfold canw
        rw [← h.1.2.1, ← h.1.2.2.1, ss_L hL.1 hL.2 hb.1 hb.2, ss_L hL.1 hL.2 t0 tb]
        congr 1
        refine sm_congr _ (fun x x0 x1 => ?_)
        rcases b1 x x0 (by omega) with z | z
        · rw [h.2.2.2 x x0 z.1 (by omega) w w0 (by omega), Int.mul_zero, Int.mul_zero]
        · rw [z.2]
      rw [this]
    omega
  show _ ≤ mnn _ _
  rw [e]
  omega
theorem RJ.sp (h : RJ I J q) (hI : IB I) (hJ : IB J) : SPC I = SPC J ∧ sumMC I = sumMC J := by
  have m : sumMC I = sumMC J := sm_congr 9 (fun s _ _ => Int.le_antisymm (h.sy.mc1 hJ hI _) (h.mc1 hI hJ _))
  refine ⟨?_, m⟩
  by_cases p : planI I
  · rw [SPC_t p, SPC_t ((h.pl hI).mp p), m]
  · rw [SPC_f p, SPC_f (fun z => p ((h.pl hI).mpr z))]
theorem RJ.TK (h : RJ I J q) {x w n : Int} (hx : q ≤ x) (x0 : 0 ≤ x) (x1 : x < iL I) : RJ (TK I x w n) (TK J x w n) q := by
  refine ⟨⟨h.1.1, ?_, ?_, h.1.2.2.2⟩, fun y a b => ?_, fun y a => ?_, fun y a b c u d e => ?_⟩
  · funext a b; rw [TK_O, TK_O, h.1.2.1]
  · funext b; rw [TK_S, TK_S, h.1.2.2.1]
  · rw [TK_N, TK_N, h.2.1 y a b, h.2.1 x x0 x1]
  · rw [TK_M, TK_M, h.2.2.1 y a, h.2.2.1 x hx]
  · rw [TK_O]
    split
    · rfl
    · exact h.2.2.2 y a b c u d e
theorem lack1 (hI : IB I) {x : Int} (x0 : 0 ≤ x) (x1 : x < iL I) (hp : planI I) (hO : ∀ w, 0 ≤ w → w < iW I → iO I x w = 0) : iN I x = 0 := by
  have hL := hI.1
  have p0 := pw_le6 x0 (by omega)
  have p1 : (2 : Int) ^ x.toNat < 2 ^ (iL I).toNat := by
    have a := pw_le (i := x + 1) (j := iL I) (by omega) (by omega)
    rw [pw_s x0] at a
    omega
  have one : ∀ f : Int → Int, ss f (2 ^ x.toNat) = f x := fun f => by
    have := ss_add f (l := x) (s := 0) (p := 2 ^ x.toNat) x0 (by omega) rfl (Int.le_refl _) (by omega)
    rw [Int.add_zero, ss_0, Int.zero_add] at this
    exact this
  have h := hp (2 ^ x.toNat) (by omega) p1
  unfold lackI canI canw at h
  rw [one, sm_zero _ (fun w w0 w1 => by
    rw [one, hO w w0 (by omega)]
    have := (hI.2.2.2.1 w w0 (by omega)).1
    omega)] at h
  have := hI.2.2.2.2 x x0 x1
  omega
theorem RJ.row (h : RJ I J q) (hJ : IB J) (q0 : 0 ≤ q) (q1 : q < iL J) (hp : planI J) (hO : RO J q (iW J)) : RJ I (setNM J q 0 0) (q + 1) := by
  have eL := h.L
  have eW := h.W
  have e0 := lack1 hJ q0 q1 hp (fun w a b => hO w a b)
  refine ⟨h.1, fun y a b => ?_, fun y a => ?_, fun y a b c u d e => ?_⟩
  · show _ = up (iN J) q 0 y
    by_cases z : y = q
    · rw [z, up_same, h.2.1 q q0 (by omega), e0]
    · rw [up_ne z]; exact h.2.1 y a b
  · show _ = up (iM J) q 0 y
    rw [up_ne (by omega)]; exact h.2.2.1 y (by omega)
  · by_cases z : y = q
    · rw [h.1.2.1, z]; exact hO u d (by omega)
    · exact h.2.2.2 y a (by omega) c u d e
theorem RJ.rf (I : Ins) : RJ I I 0 := ⟨⟨rfl, rfl, rfl, rfl⟩, fun _ _ _ => rfl, fun _ _ => rfl, fun y a b => by omega⟩
theorem RJ.rf2 (hI : IB I) (h : ∀ y, 0 ≤ y → y < q → y < iL I → ∀ w, 0 ≤ w → w < iW I → iO I y w = 0) : RJ I I q := ⟨⟨rfl, rfl, rfl, rfl⟩, fun _ _ _ => rfl, fun _ _ => rfl, h⟩
end RJS
/-- what is asked for, less the cells before k; their space -/
def inC (I : Ins) (k : Int) : Prop := k / 6 < iL I ∧ k % 6 < iW I
noncomputable def aB (I : Ins) (T : Int → Int) : Nat → Ins
  | 0 => I
  | k + 1 => itc (inC I k) (TK (aB I T k) ((k : Int) / 6) ((k : Int) % 6) (T k)) (aB I T k)
noncomputable def sB (I : Ins) (T : Int → Int) (k : Nat) : Int := sm k (fun j => itc (inC I j) (T j * iZ I (j % 6)) 0)
section ABS
variable {I : Ins} {T T' : Int → Int}
theorem aB_1 : ∀ k : Nat, (aB I T k).1 = I.1
  | 0 => rfl
  | k + 1 => by
    rw [aB]
    by_cases q : inC I k
    · rw [itc_t q]; exact aB_1 k
    · rw [itc_f q]; exact aB_1 k
theorem aB_Z : ∀ k : Nat, iZ (aB I T k) = iZ I
  | 0 => rfl
  | k + 1 => by
    rw [aB]
    by_cases q : inC I k
    · rw [itc_t q]; exact aB_Z k
    · rw [itc_f q]; exact aB_Z k
theorem aB_L (k : Nat) : iL (aB I T k) = iL I := congrArg Prod.fst (aB_1 k)
theorem aB_W (k : Nat) : iW (aB I T k) = iW I := congrArg Prod.snd (aB_1 k)
theorem aB_c : ∀ k : Nat, (∀ j : Int, 0 ≤ j → j < k → T j = T' j) → aB I T k = aB I T' k
  | 0, _ => rfl
  | k + 1, h => by rw [aB, aB, aB_c k (fun j a b => h j a (by omega)), h k (by omega) (by omega)]
theorem sB_c (k : Nat) (h : ∀ j : Int, 0 ≤ j → j < k → T j = T' j) : sB I T k = sB I T' k := sm_congr k (fun j a b => by rw [h j a b])
theorem aB_t {k : Int} (k0 : 0 ≤ k) (h : inC I k) : aB I T (k + 1).toNat = TK (aB I T k.toNat) (k / 6) (k % 6) (T k) := by
  rw [show (k + 1).toNat = k.toNat + 1 by omega, aB, Int.toNat_of_nonneg k0, itc_t h]
theorem aB_f {k : Int} (k0 : 0 ≤ k) (h : ¬ inC I k) : aB I T (k + 1).toNat = aB I T k.toNat := by
  rw [show (k + 1).toNat = k.toNat + 1 by omega, aB, Int.toNat_of_nonneg k0, itc_f h]
theorem sB_t {k : Int} (k0 : 0 ≤ k) (h : inC I k) : sB I T (k + 1).toNat = sB I T k.toNat + T k * iZ I (k % 6) := by
  unfold sB; rw [sm_to k0 rfl, itc_t h]
theorem sB_f {k : Int} (k0 : 0 ≤ k) (h : ¬ inC I k) : sB I T (k + 1).toNat = sB I T k.toNat := by
  unfold sB; rw [sm_to k0 rfl, itc_f h, Int.add_zero]
theorem sB_bd (h : IB I) (hT : ∀ q, 0 ≤ q → 0 ≤ T q ∧ T q ≤ 3) {k : Int} (k0 : 0 ≤ k) (k1 : k ≤ 30) : 0 ≤ sB I T k.toNat ∧ sB I T k.toNat ≤ 30 * 27 :=
  sm_bd2 27 k0 (fun j a b => by
    by_cases q : inC I j
    · rw [itc_t q]
      have := (h.2.2.2.1 (j % 6) (by omega) q.2).2
      have := hT j a
      have := mul_bd (a := T j) (b := iZ I (j % 6)) (p := 3) (q := 9) (by omega) (by omega) (by omega) (by omega)
      omega
    · rw [itc_f q]; exact ⟨by decide, by decide⟩) (by decide) k1
end ABS
/-! the state at a cell -/
noncomputable def S0 (I : Ins) : PT := (I, SPC I, fun _ => 0, 0)
noncomputable def clS (I : Ins) (x j : Int) : PT := prow (pall (S0 I) (iW I) x.toNat) x (min j (iW I)).toNat
def PL (I : Ins) (x j : Int) (S : PT) : Prop := PB I x (min j (iW I)) S ∧ planI S.1 ∧ SPC S.1 = S.2.1 ∧ RJ (aB I S.2.2.1 (6 * x + j).toNat) S.1 x ∧ S.2.1 = SPC I - sB I S.2.2.1 (6 * x + j).toNat ∧ ∀ i : Nat, (i : Int) ≤ 6 * x + j → IB (aB I S.2.2.1 i)
section PLS
variable {I : Ins} {x j : Int} {S : PT}
theorem PL.in (hI : IB I) (h : PL I x j S) (x0 : 0 ≤ x) (x1 : x < iL I) (j0 : 0 ≤ j) (j1 : j < iW I) : PL I x (j + 1) (stepT S x j) := by
  obtain ⟨hB, hp, hs, hR, hv, hi⟩ := h
  have hW := hI.2.1
  rw [show min j (iW I) = j by omega] at hB
  have hJ := hB.1.2.2.1
  have eL : iL S.1 = iL I := congrArg Prod.fst hB.1.1
  have eW : iW S.1 = iW I := congrArg Prod.snd hB.1.1
  have eZ : iZ S.1 = iZ I := hB.1.2.1
  have g := tk_gd hJ hp x0 (by omega) j0 (show j < iW S.1 by omega)
  rw [hs] at g
  have b := tk_bd hJ S.2.1 x0 (by omega) j0 (show j < iW S.1 by omega)
  have hc : inC I (6 * x + j) := ⟨by omega, by omega⟩
  have hq : ∀ i : Int, 0 ≤ i → i < 6 * x + j → S.2.2.1 i = (stepT S x j).2.2.1 i := fun i _ i1 => (up_ne (by omega)).symm
  have hk : (stepT S x j).2.2.1 (6 * x + j) = tk S.1 x j S.2.1 := by
    show up S.2.2.1 (x * 6 + j) _ (6 * x + j) = _
    rw [show x * 6 + j = 6 * x + j by omega, up_same]
  have ea : aB I (stepT S x j).2.2.1 (6 * x + j).toNat = aB I S.2.2.1 (6 * x + j).toNat := (aB_c _ (fun i a b => hq i a (by omega))).symm
  have e1 : aB I (stepT S x j).2.2.1 (6 * x + (j + 1)).toNat = TK (aB I S.2.2.1 (6 * x + j).toNat) x j (tk S.1 x j S.2.1) := by
    rw [show 6 * x + (j + 1) = 6 * x + j + 1 by omega, aB_t (by omega) hc, ea, hk, show (6 * x + j) / 6 = x by omega, show (6 * x + j) % 6 = j by omega]
  have hIk := hi (6 * x + j).toNat (by omega)
  have aL := aB_L (I := I) (T := S.2.2.1) (6 * x + j).toNat
  have aW := aB_W (I := I) (T := S.2.2.1) (6 * x + j).toNat
  have hI1 : IB (TK (aB I S.2.2.1 (6 * x + j).toNat) x j (tk S.1 x j S.2.1)) := hIk.TK x0 (by omega) j0 (by omega) b.1 (by rw [hR.1.2.2.1]; exact b.2.2.1) (by rw [hR.2.2.1 x (Int.le_refl _)]; exact b.2.2.2.1)
  refine ⟨?_, g.1, ?_, ?_, ?_, fun i hi1 => ?_⟩
  · rw [show min (j + 1) (iW I) = j + 1 by omega]
    exact hB.step x0 x1 j0 j1 (by omega)
  · show SPC (TK S.1 x j _) = S.2.1 - _
    have := g.2
    omega
  · rw [e1]
    exact hR.TK (Int.le_refl _) x0 (by omega)
  · show S.2.1 - tk S.1 x j S.2.1 * iZ S.1 j = _
    rw [show 6 * x + (j + 1) = 6 * x + j + 1 by omega, sB_t (by omega) hc, hk, show (6 * x + j) % 6 = j by omega, ← sB_c (T := S.2.2.1) _ (fun i a b => hq i a (by omega)), hv, eZ]
    omega
  · by_cases z : (i : Int) ≤ 6 * x + j
    · rw [← aB_c (T := S.2.2.1) i (fun a p q => hq a p (by omega))]
      exact hi i z
    · rw [show i = (6 * x + (j + 1)).toNat by omega, e1]
      exact hI1
theorem PL.out (hI : IB I) (h : PL I x j S) (x0 : 0 ≤ x) (j0 : 0 ≤ j) (j1 : iW I ≤ j) (j6 : j < 6) : PL I x (j + 1) S := by
  obtain ⟨hB, hp, hs, hR, hv, hi⟩ := h
  have hc : ¬ inC I (6 * x + j) := fun z => by have := z.2; omega
  have e1 : aB I S.2.2.1 (6 * x + (j + 1)).toNat = aB I S.2.2.1 (6 * x + j).toNat := by
    rw [show 6 * x + (j + 1) = 6 * x + j + 1 by omega, aB_f (by omega) hc]
  refine ⟨?_, hp, hs, by rw [e1]; exact hR, ?_, fun i hi1 => ?_⟩
  · rw [show min (j + 1) (iW I) = min j (iW I) by omega]; exact hB
  · rw [show 6 * x + (j + 1) = 6 * x + j + 1 by omega, sB_f (by omega) hc]; exact hv
  · by_cases z : (i : Int) ≤ 6 * x + j
    · exact hi i z
    · rw [show i = (6 * x + (j + 1)).toNat by omega, e1]
      exact hi _ (by omega)
theorem PL.row (hI : IB I) (h : PL I x 6 S) (x0 : 0 ≤ x) (x1 : x < iL I) : PL I (x + 1) 0 (endR S x) := by
  obtain ⟨hB, hp, hs, hR, hv, hi⟩ := h
  have hW := hI.2.1
  rw [show min 6 (iW I) = iW I by omega] at hB
  have hJ := hB.1.2.2.1
  have eL : iL S.1 = iL I := congrArg Prod.fst hB.1.1
  have eW : iW S.1 = iW I := congrArg Prod.snd hB.1.1
  have hO : RO S.1 x (iW S.1) := by rw [eW]; exact hB.2.1
  have r0 : RJ S.1 S.1 x := RJ.rf2 hJ (fun y a b c w d e => (hB.1.2.2.2 y a b).2.2 w d e)
  have r1 := r0.row hJ x0 (by omega) hp hO
  have hJ2 : IB (setNM S.1 x 0 0) := hJ.setNM (by decide) (by decide) (by decide)
  refine ⟨?_, (r1.pl hJ).mp hp, ?_, ?_, ?_, fun i hi1 => hi i (by omega)⟩
  · rw [show min 0 (iW I) = 0 by omega]
    exact hB.fin x0 hW.2
  · show SPC (setNM S.1 x 0 0) = S.2.1
    rw [← (r1.sp hJ hJ2).1, hs]
  · rw [show 6 * (x + 1) + 0 = 6 * x + 6 by omega]
    exact hR.row hJ x0 (by omega) hp hO
  · rw [show 6 * (x + 1) + 0 = 6 * x + 6 by omega]; exact hv
end PLS
theorem tk_max {I : Ins} {x w v : Int} {m : Int} (m0 : 0 < m) (g : gdT I x w v m) : ∀ n : Nat, m ≤ n → m ≤ tkF I x w v n
  | 0, h => by omega
  | n + 1, h => by
    by_cases s : gdT I x w v ((n + 1 : Nat) : Int)
    · have := tkF_t (n := ((n + 1 : Nat) : Int)) (by omega) s
      rw [Int.toNat_natCast] at this
      omega
    · have := tkF_f (n := ((n + 1 : Nat) : Int)) (by omega) s
      rw [Int.toNat_natCast, show (((n + 1 : Nat) : Int) - 1).toNat = n by omega] at this
      rw [this]
      refine tk_max m0 g n ?_
      by_cases t : m = ((n + 1 : Nat) : Int)
      · exact absurd (t ▸ g) s
      · omega
/-- n copies can be settled at cell k -/
def gdS (I : Ins) (T : Int → Int) (k n : Int) : Prop := n ≤ iM (aB I T k.toNat) (k / 6) ∧ n ≤ iS (aB I T k.toNat) (k % 6) ∧ planI (TK (aB I T k.toNat) (k / 6) (k % 6) n) ∧ sumMC (TK (aB I T k.toNat) (k / 6) (k % 6) n) + (sB I T k.toNat + n * iZ I (k % 6)) = SPC I
def PLE (I : Ins) (k : Int) (T : Int → Int) : Prop := ∃ S, PL I (k / 6) (k % 6) S ∧ S.2.2.1 = T ∧ S = clS I (k / 6) (k % 6)
section PLES
variable {I : Ins} {k : Int} {T : Int → Int}
theorem PLE.f (hI : IB I) (h : PLE I k T) (k0 : 0 ≤ k) : (∀ q, 0 ≤ q → 0 ≤ T q ∧ T q ≤ 3) ∧ (∀ j : Nat, (j : Int) ≤ k → IB (aB I T j)) ∧ (inC I k → iO (aB I T k.toNat) (k / 6) (k % 6) = iO I (k / 6) (k % 6)) ∧ ∀ q, k ≤ q → T q = 0 := by
  obtain ⟨S, ⟨hB, hp, hs, hR, hv, hi⟩, rfl, -⟩ := h
  rw [show 6 * (k / 6) + k % 6 = k by omega] at hR hi
  refine ⟨fun q q0 => ?_, hi, fun hc => ?_, fun q hq => hB.2.2.2.1 q (by have := Int.min_le_left (k % 6) (iW I); omega)⟩
  · have a := hB.2.2.2.2.1 (q / 6) (q % 6) (by omega) (by omega) (by omega)
    have b := oIf_bd hI (y := q / 6) (u := q % 6) (by omega) (by omega)
    rw [show q / 6 * 6 + q % 6 = q by omega] at a
    omega
  · rw [hR.1.2.1]
    exact hB.2.2.1 _ _ (.inr ⟨rfl, Int.min_le_left _ _⟩)
theorem PLE.wrap (hI : IB I) {x : Int} {S : PT} (x0 : 0 ≤ x) (x1 : x < iL I) (hk : k + 1 = 6 * x + 6) (h : PL I x 6 S) (e : S = clS I x 6) : PLE I (k + 1) S.2.2.1 := by
  refine ⟨endR S x, ?_, rfl, ?_⟩
  · rw [show (k + 1) / 6 = x + 1 by omega, show (k + 1) % 6 = 0 by omega]
    exact h.row hI x0 x1
  · have hW := hI.2.1
    rw [show (k + 1) / 6 = x + 1 by omega, show (k + 1) % 6 = 0 by omega, e]
    unfold clS
    rw [show min 0 (iW I) = 0 by omega, show min 6 (iW I) = iW I by omega]
    exact (pall_s x0 rfl).symm
theorem PLE.step (hI : IB I) (h : PLE I k T) {n : Int} (k0 : 0 ≤ k) (hc : inC I k) (n0 : 0 ≤ n) (n1 : n ≤ iO I (k / 6) (k % 6)) (hg : n = 0 ∨ gdS I T k n) (hm : ∀ m, n < m → m ≤ iO I (k / 6) (k % 6) → ¬ gdS I T k m) : PLE I (k + 1) (up T k n) := by
  have hf := h.f hI k0
  obtain ⟨S, hL, rfl, hcl⟩ := h
  have hW := hI.2.1
  have hB := hL.1
  have hR := hL.2.2.2.1
  have hv := hL.2.2.2.2.1
  have hi := hL.2.2.2.2.2
  rw [show 6 * (k / 6) + k % 6 = k by omega] at hR hv hi
  have hJ := hB.1.2.2.1
  have eL : iL S.1 = iL I := congrArg Prod.fst hB.1.1
  have eW : iW S.1 = iW I := congrArg Prod.snd hB.1.1
  have eZ : iZ S.1 = iZ I := hB.1.2.1
  have hIk := hi k.toNat (by omega)
  have aL := aB_L (I := I) (T := S.2.2.1) k.toNat
  have aW := aB_W (I := I) (T := S.2.2.1) k.toNat
  have c1 := hc.1
  have c2 := hc.2
  have hO : iO S.1 (k / 6) (k % 6) = iO I (k / 6) (k % 6) := hB.2.2.1 _ _ (.inr ⟨rfl, Int.min_le_left _ _⟩)
  have key : ∀ m, 0 < m → m ≤ iO I (k / 6) (k % 6) → (gdS I S.2.2.1 k m ↔ m ≤ mxT S.1 (k / 6) (k % 6) ∧ gdT S.1 (k / 6) (k % 6) S.2.1 m) := by
    intro m m0 m1
    unfold gdS gdT mxT
    rw [hR.1.2.2.1, hR.2.2.1 _ (Int.le_refl _), hO, eZ]
    by_cases z : m ≤ iM S.1 (k / 6) ∧ m ≤ iS S.1 (k % 6)
    · have r := hR.TK (x := k / 6) (w := k % 6) (n := m) (Int.le_refl _) (by omega) (by omega)
      have i1 : IB (TK (aB I S.2.2.1 k.toNat) (k / 6) (k % 6) m) := hIk.TK (by omega) (by omega) (by omega) (by omega) (by omega) (by rw [hR.1.2.2.1]; exact z.2) (by rw [hR.2.2.1 _ (Int.le_refl _)]; exact z.1)
      have i2 : IB (TK S.1 (k / 6) (k % 6) m) := hJ.TK (by omega) (by omega) (by omega) (by omega) (by omega) z.2 z.1
      have rp := r.pl i1
      have rs := r.sp i1 i2
      constructor
      · rintro ⟨-, -, p, s⟩
        refine ⟨by omega, rp.mp p, ?_⟩
        rw [← rs.1, SPC_t p]
        omega
      · rintro ⟨-, p, s⟩
        have p' := rp.mpr p
        refine ⟨z.1, z.2, p', ?_⟩
        rw [← rs.1, SPC_t p'] at s
        omega
    · constructor
      · intro y; exact absurd ⟨y.1, y.2.1⟩ z
      · intro y; have := y.1; exact absurd (by omega) z
  have et : tk S.1 (k / 6) (k % 6) S.2.1 = n := by
    have b := tk_bd hJ S.2.1 (x := k / 6) (w := k % 6) (by omega) (by omega) (by omega) (by omega)
    rw [hO] at b
    have bm : tk S.1 (k / 6) (k % 6) S.2.1 ≤ mxT S.1 (k / 6) (k % 6) := by unfold mxT; omega
    have up1 : ∀ m, 0 < m → m ≤ mxT S.1 (k / 6) (k % 6) → gdT S.1 (k / 6) (k % 6) S.2.1 m → m ≤ tk S.1 (k / 6) (k % 6) S.2.1 := fun m a c g => tk_max a g _ (by omega)
    by_cases z : 0 < n
    · have g := (key n z n1).mp (hg.resolve_left (by omega))
      have l := up1 n z g.1 g.2
      by_cases y : n < tk S.1 (k / 6) (k % 6) S.2.1
      · exact absurd ((key _ (by omega) b.2.2.2.2).mpr ⟨bm, tk_good (by omega)⟩) (hm _ y b.2.2.2.2)
      · omega
    · by_cases y : 0 < tk S.1 (k / 6) (k % 6) S.2.1
      · exact absurd ((key _ y b.2.2.2.2).mpr ⟨bm, tk_good y⟩) (hm _ (by omega) b.2.2.2.2)
      · omega
  have hin := hL.in hI (by omega) c1 (by omega) c2
  have eT : (stepT S (k / 6) (k % 6)).2.2.1 = up S.2.2.1 k n := by
    show up S.2.2.1 (k / 6 * 6 + k % 6) (tk S.1 (k / 6) (k % 6) S.2.1) = _
    rw [et, show k / 6 * 6 + k % 6 = k by omega]
  have ec : stepT S (k / 6) (k % 6) = clS I (k / 6) (k % 6 + 1) := by
    rw [hcl]
    unfold clS
    rw [show min (k % 6) (iW I) = k % 6 by omega, show min (k % 6 + 1) (iW I) = k % 6 + 1 by omega]
    exact (prow_s (by omega) rfl).symm
  rw [← eT]
  by_cases w : k % 6 = 5
  · rw [show k % 6 + 1 = 6 by omega] at hin ec
    exact PLE.wrap hI (by omega) c1 (by omega) hin ec
  · refine ⟨_, ?_, rfl, ?_⟩
    · rw [show (k + 1) / 6 = k / 6 by omega, show (k + 1) % 6 = k % 6 + 1 by omega]; exact hin
    · rw [show (k + 1) / 6 = k / 6 by omega, show (k + 1) % 6 = k % 6 + 1 by omega]; exact ec
theorem PLE.skip (hI : IB I) (h : PLE I k T) (k0 : 0 ≤ k) (k1 : k / 6 < iL I) (hw : iW I ≤ k % 6) : PLE I (k + 1) T := by
  obtain ⟨S, hL, rfl, hcl⟩ := h
  have hW := hI.2.1
  have hin := hL.out hI (by omega) (by omega) hw (by omega)
  have ec : S = clS I (k / 6) (k % 6 + 1) := by
    rw [hcl]
    unfold clS
    rw [show min (k % 6) (iW I) = iW I by omega, show min (k % 6 + 1) (iW I) = iW I by omega]
  by_cases w : k % 6 = 5
  · rw [show k % 6 + 1 = 6 by omega] at hin ec
    exact PLE.wrap hI (by omega) k1 (by omega) hin ec
  · refine ⟨_, ?_, rfl, ?_⟩
    · rw [show (k + 1) / 6 = k / 6 by omega, show (k + 1) % 6 = k % 6 + 1 by omega]; exact hin
    · rw [show (k + 1) / 6 = k / 6 by omega, show (k + 1) % 6 = k % 6 + 1 by omega]; exact ec
theorem PLE.start (hI : IB I) (hp : planI I) : PLE I 0 (fun _ => 0) := by
  have hW := hI.2.1
  have hB := PB.all hI 0 (by have := hI.1.1; omega)
  have e : min (0 % 6) (iW I) = 0 := by omega
  refine ⟨S0 I, ⟨by rw [e]; exact hB, hp, rfl, RJ.rf I, ?_, fun i hi => ?_⟩, rfl, ?_⟩
  · show SPC I = SPC I - sB I _ 0
    exact (Int.sub_zero _).symm
  · rw [show i = 0 by omega]; exact hI
  · unfold clS
    rw [e]
    rfl
theorem PLE.end (hI : IB I) (hp : planI I) (h : PLE I (6 * iL I) T) (q : Int) : plT I q = T q := by
  have hW := hI.2.1
  obtain ⟨S, -, rfl, hcl⟩ := h
  unfold plT
  rw [if_pos hp, hcl]
  unfold clS
  rw [show 6 * iL I / 6 = iL I by omega, show 6 * iL I % 6 = 0 by omega, show min 0 (iW I) = 0 by omega]
  rfl
end PLES
theorem uM_if {M : Mem} {h : Nat} {a n q : Int} : uM M h a n h q = if q = a then n else M h q := by
  by_cases e : q = a
  · rw [if_pos e, uM_at e]
  · rw [if_neg e, uM_k e]
theorem MA.st {M : Mem} {I : Ins} {x w n a b u v z : Int} (h : MA M I) (hW : 0 ≤ w ∧ w < iW I ∧ iW I ≤ 6) (e : a = 6 * x + w ∧ b = max 0 (iN I x - n) ∧ u = iM I x - n ∧ v = iS I w - n ∧ z = 6 * x + w) : MA (uM (uM (uM (uM (uM M 72 a n) 63 x b) 64 x u) 65 w v) 66 z 0) (TK I x w n) := by
  obtain ⟨rfl, rfl, rfl, rfl, rfl⟩ := e
  refine ⟨⟨h.1.1, h.1.2⟩, fun y y0 y1 => ⟨⟨?_, ?_⟩, fun p p0 p1 => ?_⟩, fun p p0 p1 => ⟨?_, ?_⟩⟩
  · rw [uM_h (by decide), uM_h (by decide), uM_h (by decide), TK_N]
    by_cases q : y = x
    · rw [if_pos q, uM_at q]
    · rw [if_neg q, uM_k q, uM_h (by decide)]; exact h.n y y0 y1
  · rw [uM_h (by decide), uM_h (by decide), TK_M]
    by_cases q : y = x
    · rw [if_pos q, uM_at q]
    · rw [if_neg q, uM_k q, uM_h (by decide), uM_h (by decide)]; exact h.m y y0 y1
  · rw [TK_O]
    by_cases q : y = x ∧ p = w
    · rw [if_pos q, uM_at (by omega)]
    · have p1 : p < iW I := p1
      rw [if_neg q, uM_k (by omega), uM_h (by decide), uM_h (by decide), uM_h (by decide), uM_h (by decide)]; exact h.o y p y0 y1 p0 p1
  · rw [uM_h (by decide), TK_S]
    by_cases q : p = w
    · rw [if_pos q, uM_at q]
    · rw [if_neg q, uM_k q, uM_h (by decide), uM_h (by decide), uM_h (by decide)]; exact h.s p p0 p1
  · rw [uM_h (by decide), uM_h (by decide), uM_h (by decide), uM_h (by decide), uM_h (by decide)]; exact h.z p p0 p1
theorem sB_I {I J : Ins} {T : Int → Int} {k : Nat} (e : J.1 = I.1) (z : iZ J = iZ I) : sB J T k = sB I T k := by
  unfold sB inC iL iW
  rw [e, z]

theorem dX12_settles_0 : decode cX12_settles 0 = .ok (.aload_n 0, 1) := by decide +kernel
theorem dX12_settles_1 : decode cX12_settles 1 = .ok (.getfield 56, 3) := by decide +kernel
theorem dX12_settles_4 : decode cX12_settles 4 = .ok (.iload_n 1, 1) := by decide +kernel
theorem dX12_settles_5 : decode cX12_settles 5 = .ok (.iload_n 2, 1) := by decide +kernel
theorem dX12_settles_6 : decode cX12_settles 6 = .ok (.invokestatic 87, 3) := by decide +kernel
theorem dX12_settles_9 : decode cX12_settles 9 = .ok (.iload_n 3, 1) := by decide +kernel
theorem dX12_settles_10 : decode cX12_settles 10 = .ok (.iastore, 1) := by decide +kernel
theorem dX12_settles_11 : decode cX12_settles 11 = .ok (.aload_n 0, 1) := by decide +kernel
theorem dX12_settles_12 : decode cX12_settles 12 = .ok (.getfield 29, 3) := by decide +kernel
theorem dX12_settles_15 : decode cX12_settles 15 = .ok (.iload_n 1, 1) := by decide +kernel
theorem dX12_settles_16 : decode cX12_settles 16 = .ok (.iconst 0, 1) := by decide +kernel
theorem dX12_settles_17 : decode cX12_settles 17 = .ok (.aload_n 0, 1) := by decide +kernel
theorem dX12_settles_18 : decode cX12_settles 18 = .ok (.getfield 29, 3) := by decide +kernel
theorem dX12_settles_21 : decode cX12_settles 21 = .ok (.iload_n 1, 1) := by decide +kernel
theorem dX12_settles_22 : decode cX12_settles 22 = .ok (.iaload, 1) := by decide +kernel
theorem dX12_settles_23 : decode cX12_settles 23 = .ok (.iload_n 3, 1) := by decide +kernel
theorem dX12_settles_24 : decode cX12_settles 24 = .ok (.isub, 1) := by decide +kernel
theorem dX12_settles_25 : decode cX12_settles 25 = .ok (.invokestatic 99, 3) := by decide +kernel
theorem dX12_settles_28 : decode cX12_settles 28 = .ok (.iastore, 1) := by decide +kernel
theorem dX12_settles_29 : decode cX12_settles 29 = .ok (.aload_n 0, 1) := by decide +kernel
theorem dX12_settles_30 : decode cX12_settles 30 = .ok (.getfield 32, 3) := by decide +kernel
theorem dX12_settles_33 : decode cX12_settles 33 = .ok (.iload_n 1, 1) := by decide +kernel
theorem dX12_settles_34 : decode cX12_settles 34 = .ok (.dup2, 1) := by decide +kernel
theorem dX12_settles_35 : decode cX12_settles 35 = .ok (.iaload, 1) := by decide +kernel
theorem dX12_settles_36 : decode cX12_settles 36 = .ok (.iload_n 3, 1) := by decide +kernel
theorem dX12_settles_37 : decode cX12_settles 37 = .ok (.isub, 1) := by decide +kernel
theorem dX12_settles_38 : decode cX12_settles 38 = .ok (.iastore, 1) := by decide +kernel
theorem dX12_settles_39 : decode cX12_settles 39 = .ok (.aload_n 0, 1) := by decide +kernel
theorem dX12_settles_40 : decode cX12_settles 40 = .ok (.getfield 35, 3) := by decide +kernel
theorem dX12_settles_43 : decode cX12_settles 43 = .ok (.iload_n 2, 1) := by decide +kernel
theorem dX12_settles_44 : decode cX12_settles 44 = .ok (.dup2, 1) := by decide +kernel
theorem dX12_settles_45 : decode cX12_settles 45 = .ok (.iaload, 1) := by decide +kernel
theorem dX12_settles_46 : decode cX12_settles 46 = .ok (.iload_n 3, 1) := by decide +kernel
theorem dX12_settles_47 : decode cX12_settles 47 = .ok (.isub, 1) := by decide +kernel
theorem dX12_settles_48 : decode cX12_settles 48 = .ok (.iastore, 1) := by decide +kernel
theorem dX12_settles_49 : decode cX12_settles 49 = .ok (.aload_n 0, 1) := by decide +kernel
theorem dX12_settles_50 : decode cX12_settles 50 = .ok (.getfield 38, 3) := by decide +kernel
theorem dX12_settles_53 : decode cX12_settles 53 = .ok (.iload_n 1, 1) := by decide +kernel
theorem dX12_settles_54 : decode cX12_settles 54 = .ok (.iload_n 2, 1) := by decide +kernel
theorem dX12_settles_55 : decode cX12_settles 55 = .ok (.invokestatic 87, 3) := by decide +kernel
theorem dX12_settles_58 : decode cX12_settles 58 = .ok (.iconst 0, 1) := by decide +kernel
theorem dX12_settles_59 : decode cX12_settles 59 = .ok (.iastore, 1) := by decide +kernel
theorem dX12_settles_60 : decode cX12_settles 60 = .ok (.return_, 1) := by decide +kernel
set_option maxHeartbeats 400000 in
theorem c12_settles {G : Gl} {l : Launch}  {M : Mem} {I : Ins} {x w n : Int} (hG : GR M) (hA : MA M I) (hIb : IB I) (hx0 : 0 ≤ x) (hx1 : x < iL I) (hw0 : 0 ≤ w) (hw1 : w < iW I) (hn0 : 0 ≤ n) (hn1 : n ≤ 100) : Ct G LY 82 l 1 m12_settles [vR 57, vI x, vI w, vI n] M (RV (fun M' => Fr [63, 64, 65, 66, 72] [] M M' ∧ MA M' (TK I x w n) ∧ ∀ q, M' 72 q = if q = 6 * x + w then n else M 72 q)) := by
  refine R_start (by decide +kernel) (Nat.le_of_ble_eq_true rfl) (fun C hC hRm hlau => ?_)
  show RZ G LY C (Zn G LY 82 C (RV (fun M' => Fr [63, 64, 65, 66, 72] [] M M' ∧ MA M' (TK I x w n) ∧ ∀ q, M' 72 q = if q = 6 * x + w then n else M 72 q))) 0 0 82 0 [some (vR 57), some (vI x), some (vI w), some (vI n)] [] M
  have hL := hIb.1
  have hW := hIb.2.1
  have b1 := hIb.2.2.2.2 x hx0 hx1
  have b2 := (hIb.2.2.2.1 w hw0 hw1).1
  refine R_aload_0 hC dX12_settles_0 ?_
  refine R_getR hC dX12_settles_1 fl_12_56 (by decide) rfl (by decide) (by decide) (fi := 29) rfl (r := 72) (gr_57_29 hG) ?_
  refine R_iload_1 hC dX12_settles_4 ?_
  refine R_iload_2 hC dX12_settles_5 ?_
  refine R_callSq (as := [vI _, vI _]) hC dX12_settles_6 mo_12_cell ml_12_87 (c12_cell  (by omega) (by omega) (by omega) (by omega)) rfl rfl hRm (by decide) (by decide) (Nat.le_of_ble_eq_true rfl) ?_
  refine R_iload_3 hC dX12_settles_9 ?_
  refine R_iastore hC dX12_settles_10 (by decide) rfl (by omega) (by omega) ?_
  refine R_aload_0 hC dX12_settles_11 ?_
  have hG1 : GR (uM M 72 (6 * x + w) n) := (GR.uA hG (by decide +kernel) (.inl (by decide)))
  refine R_getR hC dX12_settles_12 fl_12_29 (by decide) rfl (by decide) (by decide) (fi := 18) rfl (r := 63) (gr_57_18 hG1) ?_
  refine R_iload_1 hC dX12_settles_15 ?_
  refine R_iconst hC dX12_settles_16 ⟨by decide, by decide⟩ ?_
  refine R_aload_0 hC dX12_settles_17 ?_
  refine R_getR hC dX12_settles_18 fl_12_29 (by decide) rfl (by decide) (by decide) (fi := 18) rfl (r := 63) (gr_57_18 hG1) ?_
  refine R_iload_1 hC dX12_settles_21 ?_
  have hk2 : MA (uM M 72 (6 * x + w) n) I := (MA.u hA (by decide))
  refine R_ialoadE hC dX12_settles_22 (by decide) rfl (by omega) (by omega) (hk2.n x (by omega) (by omega)) ?_
  refine R_iload_3 hC dX12_settles_23 ?_
  refine R_isub hC dX12_settles_24 ⟨by omega, by omega⟩ ?_
  refine R_callSq (as := [vI _, vI _]) hC dX12_settles_25 mo_12_greater ml_12_99 (c12_greater  ) rfl rfl hRm (by decide) (by decide) (Nat.le_of_ble_eq_true rfl) ?_
  refine R_iastore hC dX12_settles_28 (by decide) rfl (by omega) (by omega) ?_
  refine R_aload_0 hC dX12_settles_29 ?_
  have hG3 : GR (uM (uM M 72 (6 * x + w) n) 63 x (max 0 ((iN I x) - n))) := (GR.uA hG1 (by decide +kernel) (.inl (by decide)))
  refine R_getR hC dX12_settles_30 fl_12_32 (by decide) rfl (by decide) (by decide) (fi := 19) rfl (r := 64) (gr_57_19 hG3) ?_
  refine R_iload_1 hC dX12_settles_33 ?_
  refine R_dup2 hC dX12_settles_34 rfl rfl ?_
  refine R_ialoadE hC dX12_settles_35 (by decide) rfl (by omega) (by omega) ((uM_h (by decide)).trans ((uM_h (by decide)).trans (hA.m x hx0 hx1))) ?_
  refine R_iload_3 hC dX12_settles_36 ?_
  refine R_isub hC dX12_settles_37 ⟨by omega, by omega⟩ ?_
  refine R_iastore hC dX12_settles_38 (by decide) rfl (by omega) (by omega) ?_
  refine R_aload_0 hC dX12_settles_39 ?_
  have hG4 : GR (uM (uM (uM M 72 (6 * x + w) n) 63 x (max 0 ((iN I x) - n))) 64 x ((iM I x) - n)) := (GR.uA hG3 (by decide +kernel) (.inl (by decide)))
  refine R_getR hC dX12_settles_40 fl_12_35 (by decide) rfl (by decide) (by decide) (fi := 20) rfl (r := 65) (gr_57_20 hG4) ?_
  refine R_iload_2 hC dX12_settles_43 ?_
  refine R_dup2 hC dX12_settles_44 rfl rfl ?_
  refine R_ialoadE hC dX12_settles_45 (by decide) rfl (by omega) (by omega) ((uM_h (by decide)).trans ((uM_h (by decide)).trans ((uM_h (by decide)).trans (hA.s w hw0 hw1)))) ?_
  refine R_iload_3 hC dX12_settles_46 ?_
  refine R_isub hC dX12_settles_47 ⟨by omega, by omega⟩ ?_
  refine R_iastore hC dX12_settles_48 (by decide) rfl (by omega) (by omega) ?_
  refine R_aload_0 hC dX12_settles_49 ?_
  have hG5 : GR (uM (uM (uM (uM M 72 (6 * x + w) n) 63 x (max 0 ((iN I x) - n))) 64 x ((iM I x) - n)) 65 w ((iS I w) - n)) := (GR.uA hG4 (by decide +kernel) (.inl (by decide)))
  refine R_getR hC dX12_settles_50 fl_12_38 (by decide) rfl (by decide) (by decide) (fi := 21) rfl (r := 66) (gr_57_21 hG5) ?_
  refine R_iload_1 hC dX12_settles_53 ?_
  refine R_iload_2 hC dX12_settles_54 ?_
  refine R_callSq (as := [vI _, vI _]) hC dX12_settles_55 mo_12_cell ml_12_87 (c12_cell  (by omega) (by omega) (by omega) (by omega)) rfl rfl hRm (by decide) (by decide) (Nat.le_of_ble_eq_true rfl) ?_
  refine R_iconst hC dX12_settles_58 ⟨by decide, by decide⟩ ?_
  refine R_iastore hC dX12_settles_59 (by decide) rfl (by omega) (by omega) ?_
  exact R_return hC dX12_settles_60 rfl (ret_V ⟨Fr.uA (Fr.uA (Fr.uA (Fr.uA (Fr.uA Fr.rf (by decide)) (by decide)) (by decide)) (by decide)) (by decide), MA.st hA (by omega) (by omega), fun q => (uM_h (by decide)).trans ((uM_h (by decide)).trans ((uM_h (by decide)).trans ((uM_h (by decide)).trans uM_if)))⟩)
theorem dX12_asksBut_0 : decode cX12_asksBut 0 = .ok (.aload_n 0, 1) := by decide +kernel
theorem dX12_asksBut_1 : decode cX12_asksBut 1 = .ok (.iload_n 1, 1) := by decide +kernel
theorem dX12_asksBut_2 : decode cX12_asksBut 2 = .ok (.iconst (-1), 1) := by decide +kernel
theorem dX12_asksBut_3 : decode cX12_asksBut 3 = .ok (.invokevirtual 145, 3) := by decide +kernel
theorem dX12_asksBut_6 : decode cX12_asksBut 6 = .ok (.iconst 0, 1) := by decide +kernel
theorem dX12_asksBut_7 : decode cX12_asksBut 7 = .ok (.istore_n 3, 1) := by decide +kernel
theorem dX12_asksBut_8 : decode cX12_asksBut 8 = .ok (.iload_n 3, 1) := by decide +kernel
theorem dX12_asksBut_9 : decode cX12_asksBut 9 = .ok (.iload_n 2, 1) := by decide +kernel
theorem dX12_asksBut_10 : decode cX12_asksBut 10 = .ok (.if_icmp .ge 49, 3) := by decide +kernel
theorem dX12_asksBut_13 : decode cX12_asksBut 13 = .ok (.iload_n 3, 1) := by decide +kernel
theorem dX12_asksBut_14 : decode cX12_asksBut 14 = .ok (.bipush 6, 2) := by decide +kernel
theorem dX12_asksBut_16 : decode cX12_asksBut 16 = .ok (.idiv, 1) := by decide +kernel
theorem dX12_asksBut_17 : decode cX12_asksBut 17 = .ok (.aload_n 0, 1) := by decide +kernel
theorem dX12_asksBut_18 : decode cX12_asksBut 18 = .ok (.getfield 105, 3) := by decide +kernel
theorem dX12_asksBut_21 : decode cX12_asksBut 21 = .ok (.if_icmp .ge 32, 3) := by decide +kernel
theorem dX12_asksBut_24 : decode cX12_asksBut 24 = .ok (.iload_n 3, 1) := by decide +kernel
theorem dX12_asksBut_25 : decode cX12_asksBut 25 = .ok (.bipush 6, 2) := by decide +kernel
theorem dX12_asksBut_27 : decode cX12_asksBut 27 = .ok (.irem, 1) := by decide +kernel
theorem dX12_asksBut_28 : decode cX12_asksBut 28 = .ok (.aload_n 0, 1) := by decide +kernel
theorem dX12_asksBut_29 : decode cX12_asksBut 29 = .ok (.getfield 102, 3) := by decide +kernel
theorem dX12_asksBut_32 : decode cX12_asksBut 32 = .ok (.if_icmp .ge 21, 3) := by decide +kernel
theorem dX12_asksBut_35 : decode cX12_asksBut 35 = .ok (.aload_n 0, 1) := by decide +kernel
theorem dX12_asksBut_36 : decode cX12_asksBut 36 = .ok (.iload_n 3, 1) := by decide +kernel
theorem dX12_asksBut_37 : decode cX12_asksBut 37 = .ok (.bipush 6, 2) := by decide +kernel
theorem dX12_asksBut_39 : decode cX12_asksBut 39 = .ok (.idiv, 1) := by decide +kernel
theorem dX12_asksBut_40 : decode cX12_asksBut 40 = .ok (.iload_n 3, 1) := by decide +kernel
theorem dX12_asksBut_41 : decode cX12_asksBut 41 = .ok (.bipush 6, 2) := by decide +kernel
theorem dX12_asksBut_43 : decode cX12_asksBut 43 = .ok (.irem, 1) := by decide +kernel
theorem dX12_asksBut_44 : decode cX12_asksBut 44 = .ok (.aload_n 0, 1) := by decide +kernel
theorem dX12_asksBut_45 : decode cX12_asksBut 45 = .ok (.getfield 56, 3) := by decide +kernel
theorem dX12_asksBut_48 : decode cX12_asksBut 48 = .ok (.iload_n 3, 1) := by decide +kernel
theorem dX12_asksBut_49 : decode cX12_asksBut 49 = .ok (.iaload, 1) := by decide +kernel
theorem dX12_asksBut_50 : decode cX12_asksBut 50 = .ok (.invokevirtual 168, 3) := by decide +kernel
theorem dX12_asksBut_53 : decode cX12_asksBut 53 = .ok (.iinc 3 1, 3) := by decide +kernel
theorem dX12_asksBut_56 : decode cX12_asksBut 56 = .ok (.goto (-48), 3) := by decide +kernel
theorem dX12_asksBut_59 : decode cX12_asksBut 59 = .ok (.return_, 1) := by decide +kernel
set_option maxHeartbeats 400000 in
theorem c12_asksBut {G : Gl} {l : Launch}  {M : Mem} {b k : Int} {c T : Int → Int} (hG : GR M) (hK : RW M b c) (hb0 : 0 ≤ b) (hb1 : b ≤ 9686) (hM : SM c) (hT : ∀ q, 0 ≤ q → q < k → M 72 q = T q) (hT3 : ∀ q, 0 ≤ q → 0 ≤ T q ∧ T q ≤ 3) (hIs : ∀ j : Nat, (j : Int) ≤ k → IB (aB (insOf c) T j)) (hk0 : 0 ≤ k) (hk1 : k ≤ 30) : Ct G LY 82 l 5 m12_asksBut [vR 57, vI b, vI k] M (RV (fun M' => Fr [63, 64, 65, 66, 72] [] M M' ∧ MA M' (aB (insOf c) T k.toNat) ∧ ∀ q, M' 72 q = M 72 q)) := by
  refine R_start (by decide +kernel) (Nat.le_of_ble_eq_true rfl) (fun C hC hRm hlau => ?_)
  show RZ G LY C (Zn G LY 82 C (RV (fun M' => Fr [63, 64, 65, 66, 72] [] M M' ∧ MA M' (aB (insOf c) T k.toNat) ∧ ∀ q, M' 72 q = M 72 q))) 0 0 82 0 [some (vR 57), some (vI b), some (vI k), none] [] M
  refine R_aload_0 hC dX12_asksBut_0 ?_
  refine R_iload_1 hC dX12_asksBut_1 ?_
  refine R_iconst hC dX12_asksBut_2 ⟨by decide, by decide⟩ ?_
  refine R_callVv (as := [vI _, vI _]) hC dX12_asksBut_3 mo_12_asks ml_12_145 (by decide) rfl rfl (c12_asks  hG hK (by omega) (by omega) hM) rfl rfl hRm (by decide) (by decide) (Nat.le_of_ble_eq_true rfl) (fun Mc1 hq2 => ?_)
  refine R_iconst hC dX12_asksBut_6 ⟨by decide, by decide⟩ ?_
  refine R_istore_3 hC dX12_asksBut_7 rfl ?_
  have L8 : ∀ (mq : Nat) (j : Int) (M2 : Mem), (0 ≤ j) → (j ≤ k) → (GR M2) → (MA M2 (aB (insOf c) T j.toNat)) → (Fr [63, 64, 65, 66, 72] [] M M2) → (∀ q, M2 72 q = M 72 q) → (k - j).toNat < mq → RZ G LY C (Zn G LY 82 C (RV (fun M' => Fr [63, 64, 65, 66, 72] [] M M' ∧ MA M' (aB (insOf c) T k.toNat) ∧ ∀ q, M' 72 q = M 72 q))) 0 0 82 8 [some (vR 57), some (vI b), some (vI k), some (vI j)] [] M2 := by
    intro mq
    induction mq with
    | zero =>
      intro j M2 hj0 hj1 hg hA hF h72 hm
      exact absurd hm (Nat.not_lt_zero _)
    | succ mq ih8 =>
      intro j M2 hj0 hj1 hg hA hF h72 hm8
      have hIj := hIs j.toNat (by omega)
      have eL := aB_L (I := insOf c) (T := T) j.toNat
      have eW := aB_W (I := insOf c) (T := T) j.toNat
      refine R_iload_3 hC dX12_asksBut_8 ?_
      refine R_iload_2 hC dX12_asksBut_9 ?_
      refine R_icmp_ge hC dX12_asksBut_10 (tgt := 59) (by decide) (fun hb10 => ?_) (fun hb10 => ?_)
      · skip
        exact R_return hC dX12_asksBut_59 rfl (ret_V ⟨hF, by (rw [show k = j by omega]; exact hA), h72⟩)
      · skip
        refine R_iload_3 hC dX12_asksBut_13 ?_
        refine R_bipush hC dX12_asksBut_14 (by decide +kernel) ⟨by decide, by decide⟩ ?_
        refine R_idiv hC dX12_asksBut_16 (by omega) (by omega) ?_
        refine R_aload_0 hC dX12_asksBut_17 ?_
        refine R_getIE hC dX12_asksBut_18 fl_12_105 (by decide) rfl (by decide) (by decide) (fi := 5) rfl hA.1.1 ?_
        refine R_icmp_ge hC dX12_asksBut_21 (tgt := 53) (by decide) (fun hb21 => ?_) (fun hb21 => ?_)
        · skip
          have hc : ¬ inC (insOf c) j := fun z => by have := z.1; omega
          have hgN := hg
          have hAN : MA M2 (aB (insOf c) T (j + 1).toNat) := by (rw [aB_f hj0 hc]; exact hA)
          have hFN := hF
          have h7N := h72
          refine R_iinc_3 hC dX12_asksBut_53 rfl ⟨by omega, by omega⟩ ?_
          refine R_goto hC dX12_asksBut_56 (tgt := 8) (by decide) ?_
          exact ih8 _ _ (by omega) (by omega) hgN hAN hFN h7N (by omega)
        · skip
          refine R_iload_3 hC dX12_asksBut_24 ?_
          refine R_bipush hC dX12_asksBut_25 (by decide +kernel) ⟨by decide, by decide⟩ ?_
          refine R_irem hC dX12_asksBut_27 (by omega) (by omega) ?_
          refine R_aload_0 hC dX12_asksBut_28 ?_
          refine R_getIE hC dX12_asksBut_29 fl_12_102 (by decide) rfl (by decide) (by decide) (fi := 6) rfl hA.1.2 ?_
          refine R_icmp_ge hC dX12_asksBut_32 (tgt := 53) (by decide) (fun hb32 => ?_) (fun hb32 => ?_)
          · skip
            have hc : ¬ inC (insOf c) j := fun z => by have := z.2; omega
            have hgN := hg
            have hAN : MA M2 (aB (insOf c) T (j + 1).toNat) := by (rw [aB_f hj0 hc]; exact hA)
            have hFN := hF
            have h7N := h72
            refine R_iinc_3 hC dX12_asksBut_53 rfl ⟨by omega, by omega⟩ ?_
            refine R_goto hC dX12_asksBut_56 (tgt := 8) (by decide) ?_
            exact ih8 _ _ (by omega) (by omega) hgN hAN hFN h7N (by omega)
          · skip
            refine R_aload_0 hC dX12_asksBut_35 ?_
            refine R_iload_3 hC dX12_asksBut_36 ?_
            refine R_bipush hC dX12_asksBut_37 (by decide +kernel) ⟨by decide, by decide⟩ ?_
            refine R_idiv hC dX12_asksBut_39 (by omega) (by omega) ?_
            refine R_iload_3 hC dX12_asksBut_40 ?_
            refine R_bipush hC dX12_asksBut_41 (by decide +kernel) ⟨by decide, by decide⟩ ?_
            refine R_irem hC dX12_asksBut_43 (by omega) (by omega) ?_
            refine R_aload_0 hC dX12_asksBut_44 ?_
            refine R_getR hC dX12_asksBut_45 fl_12_56 (by decide) rfl (by decide) (by decide) (fi := 29) rfl (r := 72) (gr_57_29 hg) ?_
            refine R_iload_3 hC dX12_asksBut_48 ?_
            refine R_ialoadE hC dX12_asksBut_49 (by decide) rfl (by omega) (by omega) ((h72 j).trans (hT j hj0 (by omega))) ?_
            have bT := hT3 j hj0
            have hc : inC (insOf c) j := ⟨by omega, by omega⟩
            refine R_callVv (as := [vI _, vI _, vI _]) hC dX12_asksBut_50 mo_12_settles ml_12_168 (by decide) rfl rfl (c12_settles  hg hA hIj (by omega) (by omega) (by omega) (by omega) (by omega) (by omega)) rfl rfl hRm (by decide) (by decide) (Nat.le_of_ble_eq_true rfl) (fun Mc3 hq4 => ?_)
            have hG5 : GR Mc3 := (GR.fr hg hq4.1 (by decide +kernel))
            have hgN : GR Mc3 := hG5
            have hAN : MA Mc3 (aB (insOf c) T (j + 1).toNat) := by (rw [aB_t hj0 hc]; exact hq4.2.1)
            have hFN : Fr [63, 64, 65, 66, 72] [] M Mc3 := Fr.tt hF hq4.1
            have h7N : ∀ q, Mc3 72 q = M 72 q := fun q => by
              rw [hq4.2.2 q]
              by_cases e : q = 6 * (j / 6) + j % 6
              · rw [if_pos e, hT q (by omega) (by omega), show q = j by omega]
              · rw [if_neg e]; exact h72 q
            refine R_iinc_3 hC dX12_asksBut_53 rfl ⟨by omega, by omega⟩ ?_
            refine R_goto hC dX12_asksBut_56 (tgt := 8) (by decide) ?_
            exact ih8 _ _ (by omega) (by omega) hgN hAN hFN h7N (by omega)
  have hG6 : GR Mc1 := (GR.fr hG hq2.1 (by decide +kernel))
  have hk7 : MA Mc1 (insOf c) := (hq2.2.q (apI_n (by decide)))
  exact L8 _ _ _ (by omega) (by omega) hG6 hk7 (hq2.1.mo (by simp) (by simp)) (fun q => hq2.1.at (by decide)) (Nat.lt_succ_self _)
theorem dX12_settledSpace_0 : decode cX12_settledSpace 0 = .ok (.iconst 0, 1) := by decide +kernel
theorem dX12_settledSpace_1 : decode cX12_settledSpace 1 = .ok (.istore_n 2, 1) := by decide +kernel
theorem dX12_settledSpace_2 : decode cX12_settledSpace 2 = .ok (.iconst 0, 1) := by decide +kernel
theorem dX12_settledSpace_3 : decode cX12_settledSpace 3 = .ok (.istore_n 3, 1) := by decide +kernel
theorem dX12_settledSpace_4 : decode cX12_settledSpace 4 = .ok (.iload_n 3, 1) := by decide +kernel
theorem dX12_settledSpace_5 : decode cX12_settledSpace 5 = .ok (.iload_n 1, 1) := by decide +kernel
theorem dX12_settledSpace_6 : decode cX12_settledSpace 6 = .ok (.if_icmp .ge 54, 3) := by decide +kernel
theorem dX12_settledSpace_9 : decode cX12_settledSpace 9 = .ok (.iload_n 2, 1) := by decide +kernel
theorem dX12_settledSpace_10 : decode cX12_settledSpace 10 = .ok (.iload_n 3, 1) := by decide +kernel
theorem dX12_settledSpace_11 : decode cX12_settledSpace 11 = .ok (.bipush 6, 2) := by decide +kernel
theorem dX12_settledSpace_13 : decode cX12_settledSpace 13 = .ok (.idiv, 1) := by decide +kernel
theorem dX12_settledSpace_14 : decode cX12_settledSpace 14 = .ok (.aload_n 0, 1) := by decide +kernel
theorem dX12_settledSpace_15 : decode cX12_settledSpace 15 = .ok (.getfield 105, 3) := by decide +kernel
theorem dX12_settledSpace_18 : decode cX12_settledSpace 18 = .ok (.if_icmp .ge 33, 3) := by decide +kernel
theorem dX12_settledSpace_21 : decode cX12_settledSpace 21 = .ok (.iload_n 3, 1) := by decide +kernel
theorem dX12_settledSpace_22 : decode cX12_settledSpace 22 = .ok (.bipush 6, 2) := by decide +kernel
theorem dX12_settledSpace_24 : decode cX12_settledSpace 24 = .ok (.irem, 1) := by decide +kernel
theorem dX12_settledSpace_25 : decode cX12_settledSpace 25 = .ok (.aload_n 0, 1) := by decide +kernel
theorem dX12_settledSpace_26 : decode cX12_settledSpace 26 = .ok (.getfield 102, 3) := by decide +kernel
theorem dX12_settledSpace_29 : decode cX12_settledSpace 29 = .ok (.if_icmp .ge 22, 3) := by decide +kernel
theorem dX12_settledSpace_32 : decode cX12_settledSpace 32 = .ok (.aload_n 0, 1) := by decide +kernel
theorem dX12_settledSpace_33 : decode cX12_settledSpace 33 = .ok (.getfield 56, 3) := by decide +kernel
theorem dX12_settledSpace_36 : decode cX12_settledSpace 36 = .ok (.iload_n 3, 1) := by decide +kernel
theorem dX12_settledSpace_37 : decode cX12_settledSpace 37 = .ok (.iaload, 1) := by decide +kernel
theorem dX12_settledSpace_38 : decode cX12_settledSpace 38 = .ok (.aload_n 0, 1) := by decide +kernel
theorem dX12_settledSpace_39 : decode cX12_settledSpace 39 = .ok (.getfield 13, 3) := by decide +kernel
theorem dX12_settledSpace_42 : decode cX12_settledSpace 42 = .ok (.iload_n 3, 1) := by decide +kernel
theorem dX12_settledSpace_43 : decode cX12_settledSpace 43 = .ok (.bipush 6, 2) := by decide +kernel
theorem dX12_settledSpace_45 : decode cX12_settledSpace 45 = .ok (.irem, 1) := by decide +kernel
theorem dX12_settledSpace_46 : decode cX12_settledSpace 46 = .ok (.iaload, 1) := by decide +kernel
theorem dX12_settledSpace_47 : decode cX12_settledSpace 47 = .ok (.imul, 1) := by decide +kernel
theorem dX12_settledSpace_48 : decode cX12_settledSpace 48 = .ok (.goto 4, 3) := by decide +kernel
theorem dX12_settledSpace_51 : decode cX12_settledSpace 51 = .ok (.iconst 0, 1) := by decide +kernel
theorem dX12_settledSpace_52 : decode cX12_settledSpace 52 = .ok (.iadd, 1) := by decide +kernel
theorem dX12_settledSpace_53 : decode cX12_settledSpace 53 = .ok (.istore_n 2, 1) := by decide +kernel
theorem dX12_settledSpace_54 : decode cX12_settledSpace 54 = .ok (.iinc 3 1, 3) := by decide +kernel
theorem dX12_settledSpace_57 : decode cX12_settledSpace 57 = .ok (.goto (-53), 3) := by decide +kernel
theorem dX12_settledSpace_60 : decode cX12_settledSpace 60 = .ok (.iload_n 2, 1) := by decide +kernel
theorem dX12_settledSpace_61 : decode cX12_settledSpace 61 = .ok (.ireturn, 1) := by decide +kernel
set_option maxHeartbeats 400000 in
theorem c12_settledSpace {G : Gl} {l : Launch}  {M : Mem} {I : Ins} {k : Int} {T : Int → Int} (hG : GR M) (hA : MA M I) (hIb : IB I) (hT : ∀ q, 0 ≤ q → q < k → M 72 q = T q) (hT3 : ∀ q, 0 ≤ q → 0 ≤ T q ∧ T q ≤ 3) (hk0 : 0 ≤ k) (hk1 : k ≤ 30) : Ct G LY 82 l 0 m12_settledSpace [vR 57, vI k] M (Ret (vI (sB I T k.toNat)) M) := by
  refine R_start (by decide +kernel) (Nat.le_of_ble_eq_true rfl) (fun C hC hRm hlau => ?_)
  show RZ G LY C (Zn G LY 82 C (Ret (vI (sB I T k.toNat)) M)) 0 0 82 0 [some (vR 57), some (vI k), none, none] [] M
  have hL := hIb.1
  have hW := hIb.2.1
  refine R_iconst hC dX12_settledSpace_0 ⟨by decide, by decide⟩ ?_
  refine R_istore_2 hC dX12_settledSpace_1 rfl ?_
  refine R_iconst hC dX12_settledSpace_2 ⟨by decide, by decide⟩ ?_
  refine R_istore_3 hC dX12_settledSpace_3 rfl ?_
  have L4 : ∀ (mq : Nat) (j : Int), (0 ≤ j) → (j ≤ k) → (k - j).toNat < mq → RZ G LY C (Zn G LY 82 C (Ret (vI (sB I T k.toNat)) M)) 0 0 82 4 [some (vR 57), some (vI k), some (vI (sB I T j.toNat)), some (vI j)] [] M := by
    intro mq
    induction mq with
    | zero =>
      intro j hj0 hj1 hm
      exact absurd hm (Nat.not_lt_zero _)
    | succ mq ih4 =>
      intro j hj0 hj1 hm4
      have hs := sB_bd hIb hT3 hj0 (show j ≤ 30 by omega)
      refine R_iload_3 hC dX12_settledSpace_4 ?_
      refine R_iload_1 hC dX12_settledSpace_5 ?_
      refine R_icmp_ge hC dX12_settledSpace_6 (tgt := 60) (by decide) (fun hb6 => ?_) (fun hb6 => ?_)
      · skip
        refine R_iload_2 hC dX12_settledSpace_60 ?_
        exact R_ireturn hC dX12_settledSpace_61 rfl (ret_I (by rw [show k = j by omega]))
      · skip
        refine R_iload_2 hC dX12_settledSpace_9 ?_
        refine R_iload_3 hC dX12_settledSpace_10 ?_
        refine R_bipush hC dX12_settledSpace_11 (by decide +kernel) ⟨by decide, by decide⟩ ?_
        refine R_idiv hC dX12_settledSpace_13 (by omega) (by omega) ?_
        refine R_aload_0 hC dX12_settledSpace_14 ?_
        refine R_getIE hC dX12_settledSpace_15 fl_12_105 (by decide) rfl (by decide) (by decide) (fi := 5) rfl hA.1.1 ?_
        have L52 : ∀ (p : Int), (sB I T (j + 1).toNat = sB I T j.toNat + p) → (0 ≤ p ∧ p ≤ 27) → RZ G LY C (Zn G LY 82 C (Ret (vI (sB I T k.toNat)) M)) 0 0 82 52 [some (vR 57), some (vI k), some (vI (sB I T j.toNat)), some (vI j)] [vI p, vI (sB I T j.toNat)] M := by
          intro p hp hpb
          refine R_iadd hC dX12_settledSpace_52 ⟨by omega, by omega⟩ ?_
          rw [← hp]
          refine R_istore_2 hC dX12_settledSpace_53 rfl ?_
          refine R_iinc_3 hC dX12_settledSpace_54 rfl ⟨by omega, by omega⟩ ?_
          refine R_goto hC dX12_settledSpace_57 (tgt := 4) (by decide) ?_
          exact ih4 _ (by omega) (by omega) (by omega)
        refine R_icmp_ge hC dX12_settledSpace_18 (tgt := 51) (by decide) (fun hb18 => ?_) (fun hb18 => ?_)
        · skip
          have hpN : sB I T (j + 1).toNat = sB I T j.toNat + 0 := (sB_f hj0 (fun z => by have := z.1; omega)).trans (Int.add_zero _).symm
          have hpbN : (0 : Int) ≤ 0 ∧ (0 : Int) ≤ 27 := by decide
          refine R_iconst hC dX12_settledSpace_51 ⟨by decide, by decide⟩ ?_
          exact L52 _ hpN hpbN
        · skip
          refine R_iload_3 hC dX12_settledSpace_21 ?_
          refine R_bipush hC dX12_settledSpace_22 (by decide +kernel) ⟨by decide, by decide⟩ ?_
          refine R_irem hC dX12_settledSpace_24 (by omega) (by omega) ?_
          refine R_aload_0 hC dX12_settledSpace_25 ?_
          refine R_getIE hC dX12_settledSpace_26 fl_12_102 (by decide) rfl (by decide) (by decide) (fi := 6) rfl hA.1.2 ?_
          refine R_icmp_ge hC dX12_settledSpace_29 (tgt := 51) (by decide) (fun hb29 => ?_) (fun hb29 => ?_)
          · skip
            have hpN : sB I T (j + 1).toNat = sB I T j.toNat + 0 := (sB_f hj0 (fun z => by have := z.2; omega)).trans (Int.add_zero _).symm
            have hpbN : (0 : Int) ≤ 0 ∧ (0 : Int) ≤ 27 := by decide
            refine R_iconst hC dX12_settledSpace_51 ⟨by decide, by decide⟩ ?_
            exact L52 _ hpN hpbN
          · skip
            refine R_aload_0 hC dX12_settledSpace_32 ?_
            refine R_getR hC dX12_settledSpace_33 fl_12_56 (by decide) rfl (by decide) (by decide) (fi := 29) rfl (r := 72) (gr_57_29 hG) ?_
            refine R_iload_3 hC dX12_settledSpace_36 ?_
            refine R_ialoadE hC dX12_settledSpace_37 (by decide) rfl (by omega) (by omega) (hT j hj0 (by omega)) ?_
            refine R_aload_0 hC dX12_settledSpace_38 ?_
            refine R_getR hC dX12_settledSpace_39 fl_12_13 (by decide) rfl (by decide) (by decide) (fi := 1) rfl (r := 59) (gr_57_1 hG) ?_
            refine R_iload_3 hC dX12_settledSpace_42 ?_
            refine R_bipush hC dX12_settledSpace_43 (by decide +kernel) ⟨by decide, by decide⟩ ?_
            refine R_irem hC dX12_settledSpace_45 (by omega) (by omega) ?_
            refine R_ialoadE hC dX12_settledSpace_46 (by decide) rfl (by omega) (by omega) (hA.z (j % 6) (by omega) (by omega)) ?_
            have bT := hT3 j hj0
            have bz := (hIb.2.2.2.1 (j % 6) (by omega) (by omega)).2
            have bm := mul_bd (a := T j) (b := iZ I (j % 6)) (p := 3) (q := 9) (by omega) (by omega) (by omega) (by omega)
            have hpN := sB_t (I := I) (T := T) hj0 ⟨(by omega), (by omega)⟩
            have hpbN : 0 ≤ T j * iZ I (j % 6) ∧ T j * iZ I (j % 6) ≤ 27 := by omega
            refine R_imul hC dX12_settledSpace_47 ⟨by omega, by omega⟩ ?_
            refine R_goto hC dX12_settledSpace_48 (tgt := 52) (by decide) ?_
            exact L52 _ hpN hpbN
  exact L4 _ 0 (by omega) (by omega) (Nat.lt_succ_self _)
theorem dX12_canSettle_0 : decode cX12_canSettle 0 = .ok (.iload_n 3, 1) := by decide +kernel
theorem dX12_canSettle_1 : decode cX12_canSettle 1 = .ok (.ifCond .ne 5, 3) := by decide +kernel
theorem dX12_canSettle_4 : decode cX12_canSettle 4 = .ok (.iconst 1, 1) := by decide +kernel
theorem dX12_canSettle_5 : decode cX12_canSettle 5 = .ok (.ireturn, 1) := by decide +kernel
theorem dX12_canSettle_6 : decode cX12_canSettle 6 = .ok (.aload_n 0, 1) := by decide +kernel
theorem dX12_canSettle_7 : decode cX12_canSettle 7 = .ok (.iload_n 1, 1) := by decide +kernel
theorem dX12_canSettle_8 : decode cX12_canSettle 8 = .ok (.iload_n 2, 1) := by decide +kernel
theorem dX12_canSettle_9 : decode cX12_canSettle 9 = .ok (.invokevirtual 181, 3) := by decide +kernel
theorem dX12_canSettle_12 : decode cX12_canSettle 12 = .ok (.iload_n 3, 1) := by decide +kernel
theorem dX12_canSettle_13 : decode cX12_canSettle 13 = .ok (.aload_n 0, 1) := by decide +kernel
theorem dX12_canSettle_14 : decode cX12_canSettle 14 = .ok (.getfield 32, 3) := by decide +kernel
theorem dX12_canSettle_17 : decode cX12_canSettle 17 = .ok (.iload_n 2, 1) := by decide +kernel
theorem dX12_canSettle_18 : decode cX12_canSettle 18 = .ok (.bipush 6, 2) := by decide +kernel
theorem dX12_canSettle_20 : decode cX12_canSettle 20 = .ok (.idiv, 1) := by decide +kernel
theorem dX12_canSettle_21 : decode cX12_canSettle 21 = .ok (.iaload, 1) := by decide +kernel
theorem dX12_canSettle_22 : decode cX12_canSettle 22 = .ok (.if_icmp .gt 16, 3) := by decide +kernel
theorem dX12_canSettle_25 : decode cX12_canSettle 25 = .ok (.iload_n 3, 1) := by decide +kernel
theorem dX12_canSettle_26 : decode cX12_canSettle 26 = .ok (.aload_n 0, 1) := by decide +kernel
theorem dX12_canSettle_27 : decode cX12_canSettle 27 = .ok (.getfield 35, 3) := by decide +kernel
theorem dX12_canSettle_30 : decode cX12_canSettle 30 = .ok (.iload_n 2, 1) := by decide +kernel
theorem dX12_canSettle_31 : decode cX12_canSettle 31 = .ok (.bipush 6, 2) := by decide +kernel
theorem dX12_canSettle_33 : decode cX12_canSettle 33 = .ok (.irem, 1) := by decide +kernel
theorem dX12_canSettle_34 : decode cX12_canSettle 34 = .ok (.iaload, 1) := by decide +kernel
theorem dX12_canSettle_35 : decode cX12_canSettle 35 = .ok (.if_icmp .le 5, 3) := by decide +kernel
theorem dX12_canSettle_38 : decode cX12_canSettle 38 = .ok (.iconst 0, 1) := by decide +kernel
theorem dX12_canSettle_39 : decode cX12_canSettle 39 = .ok (.ireturn, 1) := by decide +kernel
theorem dX12_canSettle_40 : decode cX12_canSettle 40 = .ok (.aload_n 0, 1) := by decide +kernel
theorem dX12_canSettle_41 : decode cX12_canSettle 41 = .ok (.iload_n 2, 1) := by decide +kernel
theorem dX12_canSettle_42 : decode cX12_canSettle 42 = .ok (.bipush 6, 2) := by decide +kernel
theorem dX12_canSettle_44 : decode cX12_canSettle 44 = .ok (.idiv, 1) := by decide +kernel
theorem dX12_canSettle_45 : decode cX12_canSettle 45 = .ok (.iload_n 2, 1) := by decide +kernel
theorem dX12_canSettle_46 : decode cX12_canSettle 46 = .ok (.bipush 6, 2) := by decide +kernel
theorem dX12_canSettle_48 : decode cX12_canSettle 48 = .ok (.irem, 1) := by decide +kernel
theorem dX12_canSettle_49 : decode cX12_canSettle 49 = .ok (.iload_n 3, 1) := by decide +kernel
theorem dX12_canSettle_50 : decode cX12_canSettle 50 = .ok (.invokevirtual 168, 3) := by decide +kernel
theorem dX12_canSettle_53 : decode cX12_canSettle 53 = .ok (.aload_n 0, 1) := by decide +kernel
theorem dX12_canSettle_54 : decode cX12_canSettle 54 = .ok (.invokevirtual 149, 3) := by decide +kernel
theorem dX12_canSettle_57 : decode cX12_canSettle 57 = .ok (.ifCond .eq 26, 3) := by decide +kernel
theorem dX12_canSettle_60 : decode cX12_canSettle 60 = .ok (.aload_n 0, 1) := by decide +kernel
theorem dX12_canSettle_61 : decode cX12_canSettle 61 = .ok (.invokevirtual 161, 3) := by decide +kernel
theorem dX12_canSettle_64 : decode cX12_canSettle 64 = .ok (.aload_n 0, 1) := by decide +kernel
theorem dX12_canSettle_65 : decode cX12_canSettle 65 = .ok (.iload_n 2, 1) := by decide +kernel
theorem dX12_canSettle_66 : decode cX12_canSettle 66 = .ok (.iconst 1, 1) := by decide +kernel
theorem dX12_canSettle_67 : decode cX12_canSettle 67 = .ok (.iadd, 1) := by decide +kernel
theorem dX12_canSettle_68 : decode cX12_canSettle 68 = .ok (.invokevirtual 184, 3) := by decide +kernel
theorem dX12_canSettle_71 : decode cX12_canSettle 71 = .ok (.iadd, 1) := by decide +kernel
theorem dX12_canSettle_72 : decode cX12_canSettle 72 = .ok (.aload_n 0, 1) := by decide +kernel
theorem dX12_canSettle_73 : decode cX12_canSettle 73 = .ok (.getfield 175, 3) := by decide +kernel
theorem dX12_canSettle_76 : decode cX12_canSettle 76 = .ok (.if_icmp .ne 7, 3) := by decide +kernel
theorem dX12_canSettle_79 : decode cX12_canSettle 79 = .ok (.iconst 1, 1) := by decide +kernel
theorem dX12_canSettle_80 : decode cX12_canSettle 80 = .ok (.goto 4, 3) := by decide +kernel
theorem dX12_canSettle_83 : decode cX12_canSettle 83 = .ok (.iconst 0, 1) := by decide +kernel
theorem dX12_canSettle_84 : decode cX12_canSettle 84 = .ok (.ireturn, 1) := by decide +kernel
set_option maxHeartbeats 1000000 in
theorem c12_canSettle {G : Gl} {l : Launch}  {M : Mem} {b k n : Int} {c T : Int → Int} (hG : GR M) (hK : RW M b c) (hb0 : 0 ≤ b) (hb1 : b ≤ 9686) (hM : SM c) (hT : ∀ q, 0 ≤ q → q < k → M 72 q = T q) (hT3 : ∀ q, 0 ≤ q → 0 ≤ T q ∧ T q ≤ 3) (hIs : ∀ j : Nat, (j : Int) ≤ k → IB (aB (insOf c) T j)) (hk0 : 0 ≤ k) (hk1 : k < 30) (hc0 : k / 6 < c 121) (hc1 : k % 6 < c 122) (hn0 : 0 ≤ n) (hn1 : n ≤ 3) (hs : M 57 30 = SPC (insOf c)) : Ct G LY 82 l 6 m12_canSettle [vR 57, vI b, vI k, vI n] M (RP (fun v M' => Fr [63, 64, 65, 66, 67, 68, 69, 70, 71, 72] [(57, 22), (57, 23)] M M' ∧ (∀ q, q ≠ k → M' 72 q = M 72 q) ∧ v = bP (n = 0 ∨ (gdS (insOf c) T k n)))) := by
  refine R_start (by decide +kernel) (Nat.le_of_ble_eq_true rfl) (fun C hC hRm hlau => ?_)
  show RZ G LY C (Zn G LY 82 C (RP (fun v M' => Fr [63, 64, 65, 66, 67, 68, 69, 70, 71, 72] [(57, 22), (57, 23)] M M' ∧ (∀ q, q ≠ k → M' 72 q = M 72 q) ∧ v = bP (n = 0 ∨ (gdS (insOf c) T k n))))) 0 0 82 0 [some (vR 57), some (vI b), some (vI k), some (vI n)] [] M
  have hIj := hIs k.toNat (by omega)
  have eL : iL (aB (insOf c) T k.toNat) = c 121 := aB_L _
  have eW : iW (aB (insOf c) T k.toNat) = c 122 := aB_W _
  have eZ := aB_Z (I := insOf c) (T := T) k.toNat
  refine R_iload_3 hC dX12_canSettle_0 ?_
  refine R_if_ne hC dX12_canSettle_1 (tgt := 6) (by decide) (fun hb1 => ?_) (fun hb1 => ?_)
  · skip
    refine R_aload_0 hC dX12_canSettle_6 ?_
    refine R_iload_1 hC dX12_canSettle_7 ?_
    refine R_iload_2 hC dX12_canSettle_8 ?_
    refine R_callVv (as := [vI _, vI _]) hC dX12_canSettle_9 mo_12_asksBut ml_12_181 (by decide) rfl rfl (c12_asksBut  hG hK (by omega) (by omega) hM hT hT3 hIs (by omega) (by omega)) rfl rfl hRm (by decide) (by decide) (Nat.le_of_ble_eq_true rfl) (fun Mc1 hq2 => ?_)
    have hF0 : Fr [63, 64, 65, 66, 67, 68, 69, 70, 71, 72] [(57, 22), (57, 23)] M Mc1 := hq2.1.mo (by simp) (by simp)
    refine R_iload_3 hC dX12_canSettle_12 ?_
    refine R_aload_0 hC dX12_canSettle_13 ?_
    have hG3 : GR Mc1 := (GR.fr hG hq2.1 (by decide +kernel))
    refine R_getR hC dX12_canSettle_14 fl_12_32 (by decide) rfl (by decide) (by decide) (fi := 19) rfl (r := 64) (gr_57_19 hG3) ?_
    refine R_iload_2 hC dX12_canSettle_17 ?_
    refine R_bipush hC dX12_canSettle_18 (by decide +kernel) ⟨by decide, by decide⟩ ?_
    refine R_idiv hC dX12_canSettle_20 (by omega) (by omega) ?_
    have hk4 : MA Mc1 (aB (insOf c) T k.toNat) := (hq2.2.1)
    refine R_ialoadE hC dX12_canSettle_21 (by decide) rfl (by omega) (by omega) (hk4.m (k / 6) (by omega) (by omega)) ?_
    refine R_icmp_gt hC dX12_canSettle_22 (tgt := 38) (by decide) (fun hb22 => ?_) (fun hb22 => ?_)
    · skip
      have hno : bP (n = 0 ∨ (gdS (insOf c) T k n)) = 0 := bP_neg (fun z => z.elim (fun y => hb1 y) (fun y => by have := y.1; omega))
      refine R_iconst hC dX12_canSettle_38 ⟨by decide, by decide⟩ ?_
      exact R_zreturn hC dX12_canSettle_39 rfl (.inl rfl) (ret_P ⟨hF0, fun q _ => hq2.2.2 q, hno.symm⟩)
    · skip
      refine R_iload_3 hC dX12_canSettle_25 ?_
      refine R_aload_0 hC dX12_canSettle_26 ?_
      refine R_getR hC dX12_canSettle_27 fl_12_35 (by decide) rfl (by decide) (by decide) (fi := 20) rfl (r := 65) (gr_57_20 hG3) ?_
      refine R_iload_2 hC dX12_canSettle_30 ?_
      refine R_bipush hC dX12_canSettle_31 (by decide +kernel) ⟨by decide, by decide⟩ ?_
      refine R_irem hC dX12_canSettle_33 (by omega) (by omega) ?_
      refine R_ialoadE hC dX12_canSettle_34 (by decide) rfl (by omega) (by omega) (hk4.s (k % 6) (by omega) (by omega)) ?_
      refine R_icmp_le hC dX12_canSettle_35 (tgt := 40) (by decide) (fun hb35 => ?_) (fun hb35 => ?_)
      · skip
        refine R_aload_0 hC dX12_canSettle_40 ?_
        refine R_iload_2 hC dX12_canSettle_41 ?_
        refine R_bipush hC dX12_canSettle_42 (by decide +kernel) ⟨by decide, by decide⟩ ?_
        refine R_idiv hC dX12_canSettle_44 (by omega) (by omega) ?_
        refine R_iload_2 hC dX12_canSettle_45 ?_
        refine R_bipush hC dX12_canSettle_46 (by decide +kernel) ⟨by decide, by decide⟩ ?_
        refine R_irem hC dX12_canSettle_48 (by omega) (by omega) ?_
        refine R_iload_3 hC dX12_canSettle_49 ?_
        refine R_callVv (as := [vI _, vI _, vI _]) hC dX12_canSettle_50 mo_12_settles ml_12_168 (by decide) rfl rfl (c12_settles  hG3 hk4 hIj (by omega) (by omega) (by omega) (by omega) (by omega) (by omega)) rfl rfl hRm (by decide) (by decide) (Nat.le_of_ble_eq_true rfl) (fun Mc5 hq6 => ?_)
        have hF1 : Fr [63, 64, 65, 66, 67, 68, 69, 70, 71, 72] [(57, 22), (57, 23)] M Mc5 := Fr.tt hF0 (hq6.1.mo (by simp) (by simp))
        have hI2 := hIj.TK (x := k / 6) (w := k % 6) (n := n) (by omega) (by omega) (by omega) (by omega) hn0 (by omega) (by omega)
        have e72 : ∀ q, Mc5 72 q = if q = k then n else M 72 q := fun q => by
          rw [hq6.2.2 q, hq2.2.2 q, show 6 * (k / 6) + k % 6 = k by omega]
        have hcB : sB (TK (aB (insOf c) T k.toNat) (k / 6) (k % 6) n) (up T k n) (k + 1).toNat = sB (insOf c) T k.toNat + n * iZ (insOf c) (k % 6) := by
          rw [sB_I (I := insOf c) ((show (TK (aB (insOf c) T k.toNat) (k / 6) (k % 6) n).1 = _ from rfl).trans (aB_1 _)) eZ, sB_t (I := insOf c) hk0 ⟨hc0, hc1⟩, up_same, sB_c (T' := T) _ (fun j p q => up_ne (by omega))]
        refine R_aload_0 hC dX12_canSettle_53 ?_
        have hG7 : GR Mc5 := (GR.fr hG3 hq6.1 (by decide +kernel))
        have hk8 : MA Mc5 (TK (aB (insOf c) T k.toNat) (k / 6) (k % 6) n) := (hq6.2.1)
        refine R_callVp (as := []) hC dX12_canSettle_54 mo_12_isPlan ml_12_149 (by decide) rfl rfl (c12_isPlan  hG7 hk8 hI2) rfl rfl hRm (by decide) (by decide) (Nat.le_of_ble_eq_true rfl) (fun v11 Mc9 hq10 => ?_)
        have hF2 : Fr [63, 64, 65, 66, 67, 68, 69, 70, 71, 72] [(57, 22), (57, 23)] M Mc9 := Fr.tt hF1 (hq10.1.mo (by simp) (by simp))
        have h7N : ∀ q, q ≠ k → Mc9 72 q = M 72 q := fun q ne => (hq10.1 72 q (by simp) (by simp)).trans ((e72 q).trans (if_neg ne))
        have hpq := hq10.2.1
        refine R_if_eq hC dX12_canSettle_57 (tgt := 83) (by decide) (fun hb57 => ?_) (fun hb57 => ?_)
        · skip
          have hno : bP (n = 0 ∨ (gdS (insOf c) T k n)) = 0 := bP_neg (fun z => z.elim (fun y => hb1 y) (fun y => bP_z (hpq.symm.trans hb57) y.2.2.1))
          refine R_iconst hC dX12_canSettle_83 ⟨by decide, by decide⟩ ?_
          exact R_zreturn hC dX12_canSettle_84 rfl (.inl rfl) (ret_P (by
                first
                  | exact ⟨hF2, h7N, hno.symm⟩
                  | exact ⟨hF3, h7M, (bP_pos (.inr ⟨by omega, by omega, bP_nz (fun z => hb57 (hpq.trans z)), by rw [hcB, hsP] at hb76; exact hb76⟩)).symm⟩
                  | exact ⟨hF3, h7M, (bP_neg (fun z => z.elim (fun y => hb1 y) (fun y => hb76 (by rw [hcB, hsP]; exact y.2.2.2)))).symm⟩))
        · skip
          refine R_aload_0 hC dX12_canSettle_60 ?_
          have hG12 : GR Mc9 := (GR.fr hG7 hq10.1 (by decide +kernel))
          have hk13 : MA Mc9 (TK (aB (insOf c) T k.toNat) (k / 6) (k % 6) n) := (MA.fr hk8 hq10.1 (by decide +kernel))
          refine R_callVp (as := []) hC dX12_canSettle_61 mo_12_laysMost ml_12_161 (by decide) rfl rfl (c12_laysMost  hG12 hk13 hI2) rfl rfl hRm (by decide) (by decide) (Nat.le_of_ble_eq_true rfl) (fun v16 Mc14 hq15 => ?_)
          have hF3 : Fr [63, 64, 65, 66, 67, 68, 69, 70, 71, 72] [(57, 22), (57, 23)] M Mc14 := Fr.tt hF2 (hq15.1.mo (by simp) (by simp))
          have h7M : ∀ q, q ≠ k → Mc14 72 q = M 72 q := fun q ne => (hq15.1.at (by decide)).trans (h7N q ne)
          refine R_aload_0 hC dX12_canSettle_64 ?_
          refine R_iload_2 hC dX12_canSettle_65 ?_
          refine R_iconst hC dX12_canSettle_66 ⟨by decide, by decide⟩ ?_
          refine R_iadd hC dX12_canSettle_67 ⟨by omega, by omega⟩ ?_
          have hG17 : GR Mc14 := (GR.fr hG12 hq15.1 (by decide +kernel))
          have hk18 : MA Mc14 (TK (aB (insOf c) T k.toNat) (k / 6) (k % 6) n) := (MA.fr hk13 hq15.1 (by decide +kernel))
          refine R_callVq (as := [vI _]) hC dX12_canSettle_68 mo_12_settledSpace ml_12_184 (by decide) rfl rfl (c12_settledSpace (T := (up T k n)) hG17 hk18 hI2 (fun q q0 q1 => by
              rw [hq15.1.at (show 72 ∉ _ by decide), hq10.1 72 q (by simp) (by simp), e72 q]
              show _ = up T k n q
              by_cases e : q = k
              · rw [if_pos e, e, up_same]
              · rw [if_neg e, up_ne e]; exact hT q q0 (by omega)) (fun q q0 => by
              unfold up
              split
              · exact ⟨hn0, hn1⟩
              · exact hT3 q q0) (by omega) (by omega)) rfl rfl hRm (by decide) (by decide) (Nat.le_of_ble_eq_true rfl) ?_
          have hsm := sumMC_bd hI2
          have hs3 := sB_bd hI2 (T := up T k n) (k := k + 1) (fun q q0 => by
            show 0 ≤ up T k n q ∧ up T k n q ≤ 3
            unfold up
            split
            · exact ⟨hn0, hn1⟩
            · exact hT3 q q0) (by omega) (by omega)
          rw [hq15.2]
          refine R_iadd hC dX12_canSettle_71 ⟨by omega, by omega⟩ ?_
          refine R_aload_0 hC dX12_canSettle_72 ?_
          refine R_getI hC dX12_canSettle_73 fl_12_175 (by decide) rfl (by decide) (by decide) (fi := 30) rfl ?_
          have hsP : Mc14 57 30 = SPC (insOf c) := (hF3 57 30 (by decide) (by decide)).trans hs
          refine R_icmp_ne hC dX12_canSettle_76 (tgt := 83) (by decide) (fun hb76 => ?_) (fun hb76 => ?_)
          · skip
            refine R_iconst hC dX12_canSettle_83 ⟨by decide, by decide⟩ ?_
            exact R_zreturn hC dX12_canSettle_84 rfl (.inl rfl) (ret_P (by
                  first
                    | exact ⟨hF2, h7N, hno.symm⟩
                    | exact ⟨hF3, h7M, (bP_pos (.inr ⟨by omega, by omega, bP_nz (fun z => hb57 (hpq.trans z)), by rw [hcB, hsP] at hb76; exact hb76⟩)).symm⟩
                    | exact ⟨hF3, h7M, (bP_neg (fun z => z.elim (fun y => hb1 y) (fun y => hb76 (by rw [hcB, hsP]; exact y.2.2.2)))).symm⟩))
          · skip
            refine R_iconst hC dX12_canSettle_79 ⟨by decide, by decide⟩ ?_
            refine R_goto hC dX12_canSettle_80 (tgt := 84) (by decide) ?_
            exact R_zreturn hC dX12_canSettle_84 rfl (.inr rfl) (ret_P (by
                  first
                    | exact ⟨hF2, h7N, hno.symm⟩
                    | exact ⟨hF3, h7M, (bP_pos (.inr ⟨by omega, by omega, bP_nz (fun z => hb57 (hpq.trans z)), by rw [hcB, hsP] at hb76; exact hb76⟩)).symm⟩
                    | exact ⟨hF3, h7M, (bP_neg (fun z => z.elim (fun y => hb1 y) (fun y => hb76 (by rw [hcB, hsP]; exact y.2.2.2)))).symm⟩))
      · skip
        have hno : bP (n = 0 ∨ (gdS (insOf c) T k n)) = 0 := bP_neg (fun z => z.elim (fun y => hb1 y) (fun y => by have := y.2.1; omega))
        refine R_iconst hC dX12_canSettle_38 ⟨by decide, by decide⟩ ?_
        exact R_zreturn hC dX12_canSettle_39 rfl (.inl rfl) (ret_P ⟨hF0, fun q _ => hq2.2.2 q, hno.symm⟩)
  · skip
    refine R_iconst hC dX12_canSettle_4 ⟨by decide, by decide⟩ ?_
    exact R_zreturn hC dX12_canSettle_5 rfl (.inr rfl) (ret_P ⟨Fr.rf, fun _ _ => rfl, (bP_pos (.inl hb1)).symm⟩)
