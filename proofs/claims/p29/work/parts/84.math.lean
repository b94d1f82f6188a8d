/-! the plan is a way; by turns, and apart, no more is won -/
section WAYP
variable {I : Ins} {T : Int → Int}
theorem TK_1 {x w n : Int} : (TK I x w n).1 = I.1 := rfl
theorem aB_M (y : Int) : ∀ k : Nat, iM (aB I T k) y = iM I y - sm k (fun j => itc (inC I j ∧ j / 6 = y) (T j) 0)
  | 0 => (Int.sub_zero _).symm
  | k + 1 => by
    have ih := aB_M y k
    rw [aB, sm]
    by_cases c : inC I k
    · rw [itc_t c, TK_M]
      by_cases e : y = (k : Int) / 6
      · rw [if_pos e, itc_t ⟨c, e.symm⟩, ← e, ih]
        omega
      · rw [if_neg e, itc_f (fun z => e z.2.symm), ih]
        omega
    · rw [itc_f c, itc_f (fun z => c z.1), ih]
      omega
theorem aB_S (u : Int) : ∀ k : Nat, iS (aB I T k) u = iS I u - sm k (fun j => itc (inC I j ∧ j % 6 = u) (T j) 0)
  | 0 => (Int.sub_zero _).symm
  | k + 1 => by
    have ih := aB_S u k
    rw [aB, sm]
    by_cases c : inC I k
    · rw [itc_t c, TK_S]
      by_cases e : u = (k : Int) % 6
      · rw [if_pos e, itc_t ⟨c, e.symm⟩, ← e, ih]
        omega
      · rw [if_neg e, itc_f (fun z => e z.2.symm), ih]
        omega
    · rw [itc_f c, itc_f (fun z => c z.1), ih]
      omega
theorem aB_N (hT : ∀ q, 0 ≤ q → 0 ≤ T q) (y : Int) (h0 : 0 ≤ iN I y) : ∀ k : Nat, iN (aB I T k) y = max 0 (iN I y - sm k (fun j => itc (inC I j ∧ j / 6 = y) (T j) 0))
  | 0 => by
    show iN I y = max 0 (iN I y - 0)
    omega
  | k + 1 => by
    have ih := aB_N hT y h0 k
    have ht := hT k (by omega)
    rw [aB, sm]
    by_cases c : inC I k
    · rw [itc_t c, TK_N]
      by_cases e : y = (k : Int) / 6
      · rw [if_pos e, itc_t ⟨c, e.symm⟩, ← e, ih]
        omega
      · rw [if_neg e, itc_f (fun z => e z.2.symm), ih]
        omega
    · rw [itc_f c, itc_f (fun z => c z.1), ih]
      omega
theorem six {f : Int → Int} {L : Int} (hL : 0 ≤ L) : sm (6 * L).toNat f = sm L.toNat (fun x => sm 6 (fun w => f (6 * x + w))) := by
  rw [show (6 * L).toNat = 6 * L.toNat by omega]
  exact sm_blk _
theorem s_row (hI : IB I) {y : Int} (y0 : 0 ≤ y) (y1 : y < iL I) : sm (6 * iL I).toNat (fun j => itc (inC I j ∧ j / 6 = y) (T j) 0) = sm (iW I).toNat (fun w => T (6 * y + w)) := by
  have hL := hI.1
  have hW := hI.2.1
  rw [six hL.1, sm_one (i := y) _ y0 (by omega) (fun k k0 k1 ne => sm_zero _ (fun w w0 w1 => itc_f (fun z => ne (by have := z.2; omega))))]
  rw [sm_ext (n := (iW I).toNat) 6 (by omega) (fun w w0 w1 => itc_f (fun z => by have := z.1.2; omega))]
  exact sm_congr _ (fun w w0 w1 => itc_t ⟨⟨by omega, by omega⟩, by omega⟩)
theorem s_col (hI : IB I) {u : Int} (u0 : 0 ≤ u) (u1 : u < iW I) : sm (6 * iL I).toNat (fun j => itc (inC I j ∧ j % 6 = u) (T j) 0) = sm (iL I).toNat (fun x => T (6 * x + u)) := by
  have hL := hI.1
  have hW := hI.2.1
  rw [six hL.1]
  refine sm_congr _ (fun x x0 x1 => ?_)
  rw [sm_one (i := u) 6 u0 (by omega) (fun k k0 k1 ne => itc_f (fun z => ne (by have := z.2; omega)))]
  exact itc_t ⟨⟨by omega, by omega⟩, by omega⟩
theorem s_all (hI : IB I) : sB I T (6 * iL I).toNat = spF I (fun x w => T (6 * x + w)) := by
  have hL := hI.1
  have hW := hI.2.1
  unfold sB spF
  rw [six hL.1]
  have e : ∀ w : Int, iZ I w * sm (iL I).toNat (fun x => T (6 * x + w)) = sm (iL I).toNat (fun x => iZ I w * T (6 * x + w)) := fun w => (sm_mul _ _ _).symm
  rw [sm_congr (f := fun w => iZ I w * sm (iL I).toNat (fun x => T (6 * x + w))) _ (fun w _ _ => e w), sm_swap (fun w x => iZ I w * T (6 * x + w))]
  refine sm_congr _ (fun x x0 x1 => ?_)
  rw [sm_ext (n := (iW I).toNat) 6 (by omega) (fun w w0 w1 => itc_f (fun z => by have := z.2; omega))]
  refine sm_congr _ (fun w w0 w1 => ?_)
  have c : inC I (6 * x + w) := ⟨by omega, by omega⟩
  show itc (inC I (6 * x + w)) (T (6 * x + w) * iZ I ((6 * x + w) % 6)) 0 = _
  rw [itc_t c, show (6 * x + w) % 6 = w by omega]
  exact Int.mul_comm _ _
theorem plan_way (hI : IB I) (hp : planI I) : (CAP I (fun x w => plT I (6 * x + w)) ∧ NDS I (fun x w => plT I (6 * x + w))) ∧ spF I (fun x w => plT I (6 * x + w)) = sumMC I := by
  have hL := hI.1
  have hW := hI.2.1
  have r := (pmc hI hp (iL I).toNat (by omega)).1
  rw [show (((iL I).toNat : Nat) : Int) = iL I by omega] at r
  obtain ⟨hB, hpS, hs, hR, hv, hi⟩ := r
  have hJ := hB.1.2.2.1
  have eT : (pall (S0 I) (iW I) (iL I).toNat).2.2.1 = plT I := funext fun q => by
    unfold plT
    rw [if_pos hp]
    rfl
  rw [eT, show 6 * iL I + 0 = 6 * iL I by omega] at hR hv
  rw [eT] at hi
  have eW : iW (pall (S0 I) (iW I) (iL I).toNat).1 = iW I := congrArg Prod.snd hB.1.1
  have eL : iL (pall (S0 I) (iW I) (iL I).toNat).1 = iL I := congrArg Prod.fst hB.1.1
  have hIa := hi (6 * iL I).toNat (by omega)
  have hpa : planI (aB I (plT I) (6 * iL I).toNat) := (hR.pl hIa).mpr hpS
  have hO : ∀ x w, 0 ≤ x → x < iL I → 0 ≤ w → w < iW I → iO (pall (S0 I) (iW I) (iL I).toNat).1 x w = 0 := fun x w x0 x1 w0 w1 => (hB.1.2.2.2 x x0 (by omega)).2.2 w w0 (by omega)
  have hT3 : ∀ q, 0 ≤ q → 0 ≤ plT I q := fun q q0 => (plT_3 hI q0).1
  have z0 : sumMC (pall (S0 I) (iW I) (iL I).toNat).1 = 0 := by
    obtain ⟨F, hF, e⟩ := flow_ex hJ
    rw [← e]
    unfold spF
    refine sm_zero _ (fun w w0 w1 => ?_)
    rw [sm_zero _ (fun x x0 x1 => ?_)]
    · exact Int.mul_zero _
    · have q := hF.1 x w x0 (by omega) w0 (by omega)
      rw [hO x w x0 (by omega) w0 (by omega)] at q
      omega
  rw [SPC_t hpS, z0] at hs
  rw [← hs, s_all hI, SPC_t hp] at hv
  refine ⟨⟨⟨fun x w x0 x1 w0 w1 => ?_, fun x x0 x1 => ?_, fun w w0 w1 => ?_⟩, fun x x0 x1 => ?_⟩, by omega⟩
  · have z := plT_bd hI x0 w0 (show w < 6 by omega)
    unfold oIf at z
    rw [if_pos ⟨x1, w1⟩, show x * 6 + w = 6 * x + w by omega] at z
    exact z
  · have b := hIa.2.2.2.2 x x0 (by rw [aB_L]; exact x1)
    rw [aB_M, s_row hI x0 x1] at b
    have := b.1
    have := b.2
    show sm (iW I).toNat (fun w => plT I (6 * x + w)) ≤ iM I x
    have hn := hI.2.2.2.2 x x0 x1
    have b1 := b.1.1
    have b2 := b.1.2
    omega
  · have b := (hIa.2.2.2.1 w w0 (by rw [aB_W]; exact w1)).1.1
    rw [aB_S, s_col hI w0 w1] at b
    show sm (iL I).toNat (fun x => plT I (6 * x + w)) ≤ iS I w
    omega
  · have hOa : ∀ w, 0 ≤ w → w < iW (aB I (plT I) (6 * iL I).toNat) → iO (aB I (plT I) (6 * iL I).toNat) x w = 0 := fun w w0 w1 => by
      rw [aB_W] at w1
      rw [hR.1.2.1]
      exact hO x w x0 x1 w0 w1
    have b := lack1 hIa x0 (by rw [aB_L]; exact x1) hpa hOa
    rw [aB_N hT3 x (hI.2.2.2.2 x x0 x1).1.1, s_row hI x0 x1] at b
    show iN I x ≤ sm (iW I).toNat (fun w => plT I (6 * x + w))
    omega
/-! apart -/
theorem apart_ok (hI : IB I) (hp : planI I) {x : Int} (x0 : 0 ≤ x) (x1 : x < iL I) : planI (setNM I x 0 0) ∧ sumMC (setNM I x 0 0) ≤ sumMC I := by
  have hK : IB (setNM I x 0 0) := hI.setNM (by decide) (by decide) (by decide)
  refine ⟨?_, ?_⟩
  · obtain ⟨F, hF, hN⟩ := need_ex hI hp
    have hF2 : CAP (setNM I x 0 0) (fun y w => if y = x then 0 else F y w) := by
      refine ⟨fun y w y0 y1 w0 w1 => ?_, fun y y0 y1 => ?_, fun w w0 w1 => ?_⟩
      · have z := hF.1 y w y0 y1 w0 w1
        show 0 ≤ (if y = x then 0 else F y w) ∧ (if y = x then 0 else F y w) ≤ iO I y w
        split <;> omega
      · show sm (iW I).toNat (fun w => if y = x then 0 else F y w) ≤ up (iM I) x 0 y
        by_cases e : y = x
        · rw [e, up_same, sm_zero _ (fun w _ _ => if_pos rfl)]
          exact Int.le_refl _
        · rw [up_ne e, sm_congr (g := fun w => F y w) _ (fun w _ _ => if_neg e)]
          exact hF.2.1 y y0 y1
      · refine Int.le_trans ?_ (hF.2.2 w w0 w1)
        refine sm_le _ (fun y y0 y1 => ?_)
        have z := hF.1 y w y0 (show y < iL I by have : iL (setNM I x 0 0) = iL I := rfl; omega) w0 w1
        show (if y = x then 0 else F y w) ≤ F y w
        split <;> omega
    refine way_pl hK hF2 (fun y y0 y1 => ?_)
    show up (iN I) x 0 y ≤ sm (iW I).toNat (fun w => if y = x then 0 else F y w)
    by_cases e : y = x
    · rw [e, up_same, sm_zero _ (fun w _ _ => if_pos rfl)]
      exact Int.le_refl _
    · rw [up_ne e, sm_congr (g := fun w => F y w) _ (fun w _ _ => if_neg e)]
      exact hN y y0 y1
  · obtain ⟨F, hF, e⟩ := flow_ex hK
    have hM := hI.2.2.2.2 x x0 x1
    have hC : CAP I F := ⟨hF.1, fun y y0 y1 => by
      have z : sm (iW I).toNat (fun w => F y w) ≤ up (iM I) x 0 y := hF.2.1 y y0 y1
      by_cases q : y = x
      · rw [q, up_same] at z
        rw [q]
        omega
      · rw [up_ne q] at z
        exact z, hF.2.2⟩
    have z := CAP.sp hI hC
    have e2 : spF I F = sumMC (setNM I x 0 0) := e
    omega
end WAYP
/-! by turns -/
section TURNP
variable {I J : Ins} {b : Int → Int} {x f : Int} {s : Int → Int}
theorem wl_cg (h : J.1 = I.1) (hz : iZ J = iZ I) (hb : RK (iW I) (iZ I) b) (hM : iM J x = iM I x) (hO : ∀ w, 0 ≤ w → w < iW I → iO J x w = iO I x w) {s' : Int → Int} (hs : ∀ w, 0 ≤ w → w < iW I → s' w = s w) : ∀ i : Nat, (i : Int) ≤ iW I → wl J b x s' i = wl I b x s i
  | 0, _ => by
    show (iM J x, (0 : Int)) = (iM I x, 0)
    rw [hM]
  | i + 1, hi => by
    have hbi := hb.1 i (by omega) (by omega)
    rw [wl, wl, wl_cg h hz hb hM hO hs i (by omega), hs _ hbi.1 hbi.2, hO _ hbi.1 hbi.2, hz]
/-- a library's turn, work by work -/
def TRN (J : Ins) (b : Int → Int) (x : Int) : Nat → Ins
  | 0 => J
  | i + 1 => TK (TRN J b x i) x (b i) (mny J b x (iS J) i)
theorem trn_ok (hJ : IB J) (hb : RK (iW J) (iZ J) b) (x0 : 0 ≤ x) (x1 : x < iL J) : ∀ i : Nat, (i : Int) ≤ iW J → IB (TRN J b x i) ∧ (TRN J b x i).1 = J.1 ∧ iZ (TRN J b x i) = iZ J ∧ iM (TRN J b x i) x = (wl J b x (iS J) i).1 ∧ (∀ k : Int, i ≤ k → k < iW J → iO (TRN J b x i) x (b k) = iO J x (b k) ∧ iS (TRN J b x i) (b k) = iS J (b k)) ∧
    (∀ k : Int, 0 ≤ k → k < i → iS (TRN J b x i) (b k) = iS J (b k) - mny J b x (iS J) k) ∧ (∀ y, y ≠ x → iM (TRN J b x i) y = iM J y ∧ ∀ w, iO (TRN J b x i) y w = iO J y w) ∧ sumMC (TRN J b x i) + (wl J b x (iS J) i).2 ≤ sumMC J
  | 0, _ => ⟨hJ, rfl, rfl, rfl, fun k _ _ => ⟨rfl, rfl⟩, fun k a c => absurd c (by omega), fun y _ => ⟨rfl, fun _ => rfl⟩, by
    show sumMC J + 0 ≤ sumMC J
    omega⟩
  | i + 1, hi => by
    obtain ⟨h1, h2, h3, h4, h5, h6, h7, h8⟩ := trn_ok hJ hb x0 x1 i (by omega)
    have hbi := hb.1 i (by omega) (by omega)
    have eL : iL (TRN J b x i) = iL J := congrArg Prod.fst h2
    have eW : iW (TRN J b x i) = iW J := congrArg Prod.snd h2
    have hn := mny_bd hJ hb x0 x1 (s := iS J) (fun w a c => (hJ.2.2.2.1 w a c).1) (i := i) (by omega) (by omega)
    have e5 := h5 i (by omega) (by omega)
    have em : mny J b x (iS J) i = mxT (TRN J b x i) x (b i) := by
      unfold mny mxT
      rw [h4, e5.1, e5.2, show ((i : Int)).toNat = i by omega]
      omega
    have hmx : mny J b x (iS J) i ≤ iS (TRN J b x i) (b i) ∧ mny J b x (iS J) i ≤ iM (TRN J b x i) x := by
      rw [em]
      unfold mxT
      omega
    have hI2 := h1.TK (x := x) (w := b i) (n := mny J b x (iS J) i) x0 (by omega) hbi.1 (by omega) hn.1 hmx.1 hmx.2
    have hup := tk_up h1 x0 (show x < iL (TRN J b x i) by omega) hbi.1 (show b i < iW (TRN J b x i) by omega) hn.1 (by rw [em]; exact Int.le_refl _)
    have ews := wl_s (I := J) (b := b) (x := x) (s := iS J) (i := i) (j := ((i + 1 : Nat) : Int)) (by omega) (by omega)
    rw [show (((i + 1 : Nat) : Int)).toNat = i + 1 by omega, show ((i : Int)).toNat = i by omega] at ews
    refine ⟨hI2, h2, h3, ?_, fun k k0 k1 => ⟨?_, ?_⟩, fun k k0 k1 => ?_, fun y hy => ⟨?_, fun w => ?_⟩, ?_⟩
    · rw [TRN, TK_M, if_pos rfl, h4, ews]
    · have ne : b k ≠ b i := fun e => hb.inj (i := i) (j := k) (by omega) (by omega) k1 e.symm
      rw [TRN, TK_O, if_neg (fun z => ne z.2)]
      exact (h5 k (by omega) k1).1
    · have ne : b k ≠ b i := fun e => hb.inj (i := i) (j := k) (by omega) (by omega) k1 e.symm
      rw [TRN, TK_S, if_neg ne]
      exact (h5 k (by omega) k1).2
    · rw [TRN, TK_S]
      by_cases e : k = i
      · rw [e, if_pos rfl, e5.2]
      · have ne : b k ≠ b i := fun z => hb.inj (i := k) (j := i) k0 (by omega) (by omega) z
        rw [if_neg ne]
        exact h6 k k0 (by omega)
    · rw [TRN, TK_M, if_neg hy]
      exact (h7 y hy).1
    · rw [TRN, TK_O, if_neg (fun z => hy z.1)]
      exact (h7 y hy).2 w
    · rw [ews]
      show sumMC (TK (TRN J b x i) x (b i) (mny J b x (iS J) i)) + ((wl J b x (iS J) i).2 + mny J b x (iS J) i * iZ J (b i)) ≤ sumMC J
      rw [h3] at hup
      omega
theorem lib_ne {L f j k : Int} (f0 : 0 ≤ f) (f1 : f < L) (j0 : 0 ≤ j) (jk : j < k) (k1 : k < L) : lib L f j ≠ lib L f k := by
  unfold lib
  split <;> split <;> omega
theorem lib_b {L f k : Int} (f0 : 0 ≤ f) (f1 : f < L) (k0 : 0 ≤ k) (k1 : k < L) : 0 ≤ lib L f k ∧ lib L f k < L := by
  unfold lib
  split <;> omega
theorem rnd_ok (hI : IB I) (hb : RK (iW I) (iZ I) b) (f0 : 0 ≤ f) (f1 : f < iL I) : ∀ k : Nat, (k : Int) ≤ iL I → ∃ J, IB J ∧ J.1 = I.1 ∧ iZ J = iZ I ∧ (∀ w, 0 ≤ w → w < iW I → iS J w = gS I b f k w) ∧ (∀ j : Int, k ≤ j → j < iL I → iM J (lib (iL I) f j) = iM I (lib (iL I) f j) ∧ ∀ w, iO J (lib (iL I) f j) w = iO I (lib (iL I) f j) w) ∧
    sumMC J + sm k (fun j => wnn I b (lib (iL I) f j) (gS I b f j.toNat)) ≤ sumMC I
  | 0, _ => ⟨I, hI, rfl, rfl, fun _ _ _ => rfl, fun _ _ _ => ⟨rfl, fun _ => rfl⟩, by
    show sumMC I + 0 ≤ sumMC I
    omega⟩
  | k + 1, hk => by
    obtain ⟨J, h1, h2, h3, h4, h5, h6⟩ := rnd_ok hI hb f0 f1 k (by omega)
    have hx := lib_b (k := k) f0 f1 (by omega) (show (k : Int) < iL I by omega)
    have eL : iL J = iL I := congrArg Prod.fst h2
    have eW : iW J = iW I := congrArg Prod.snd h2
    have hW := hI.2.1
    have hbJ : RK (iW J) (iZ J) b := by rw [eW, h3]; exact hb
    have t := trn_ok h1 hbJ hx.1 (show lib (iL I) f k < iL J by omega) (iW J).toNat (by omega)
    have e5 := h5 k (by omega) (by omega)
    have ew := wl_cg (I := I) (J := J) (b := b) (x := lib (iL I) f k) (s := gS I b f k) h2 h3 hb e5.1 (fun w _ _ => e5.2 w) (s' := iS J) h4
    obtain ⟨t1, t2, t3, t4, t5, t6, t7, t8⟩ := t
    refine ⟨_, t1, t2.trans h2, t3.trans h3, fun w w0 w1 => ?_, fun j j0 j1 => ?_, ?_⟩
    · obtain ⟨i, i0, i1, rfl⟩ := hb.sur w0 w1
      rw [t6 i i0 (by omega), gS, sN_at hb i0 i1, h4 _ w0 w1]
      unfold mny
      rw [ew i.toNat (by omega), h4 _ w0 w1, e5.2]
    · have ne := (lib_ne f0 f1 (show (0 : Int) ≤ k by omega) (show (k : Int) < j by omega) j1).symm
      have a := t7 _ ne
      have c := h5 j (by omega) j1
      exact ⟨a.1.trans c.1, fun w => (a.2 w).trans (c.2 w)⟩
    · rw [sm]
      have e9 : wnn I b (lib (iL I) f k) (gS I b f ((k : Int)).toNat) = (wl J b (lib (iL I) f k) (iS J) (iW J).toNat).2 := by
        unfold wnn
        rw [show ((k : Int)).toNat = k by omega, eW, ew (iW I).toNat (by omega)]
      rw [e9]
      omega
theorem turns_ok (hI : IB I) (hb : RK (iW I) (iZ I) b) (f0 : 0 ≤ f) (f1 : f < iL I) : sm (iL I).toNat (fun k => wnn I b (lib (iL I) f k) (gS I b f k.toNat)) ≤ sumMC I := by
  obtain ⟨J, h1, -, -, -, -, h6⟩ := rnd_ok hI hb f0 f1 (iL I).toNat (by omega)
  have := (sumMC_bd h1).1
  omega
end TURNP
