/-! the two sides' answers are one -/
theorem LateV_u {d : Int → Int} {v u : Int} (h : LateV d v) (g : LateV d u) : v = u := by
  rcases h with ⟨rfl, h⟩ | ⟨h1, h2, h3, h4⟩
  · rcases g with ⟨rfl, g⟩ | ⟨g1, g2, g3, g4⟩
    · rfl
    · exact absurd g3 (h u g1 g2)
  · rcases g with ⟨rfl, g⟩ | ⟨g1, g2, g3, g4⟩
    · exact absurd h3 (g v h1 h2)
    · rcases Int.lt_trichotomy v u with q | q | q
      · exact absurd h3 (g4 v h1 q)
      · exact q
      · exact absurd g3 (h4 u g1 q)
theorem FF_u {P Q : Int → Prop} {b v u : Int} (h : FF P b v) (g : FF Q b u) (e : ∀ m, 1 ≤ m → m ≤ b → (P m ↔ Q m)) : v = u := by
  obtain ⟨h0, h1, h2, h3⟩ := h
  obtain ⟨g0, g1, g2, g3⟩ := g
  rcases Int.lt_trichotomy v u with q | q | q
  · exact absurd ((e (v + 1) (by omega) (by omega)).mpr (g2 (v + 1) (by omega) (by omega))) (h3 (by omega))
  · exact q
  · exact absurd ((e (u + 1) (by omega) (by omega)).mp (h2 (u + 1) (by omega) (by omega))) (g3 (by omega))
theorem cr_cg {P Q : Int → Int → Prop} {x : Int} : ∀ (n : Nat) (s : Int × Int), (∀ w : Int, 0 ≤ w → w < n → (P x w ↔ Q x w)) → cr P x n s = cr Q x n s
  | 0, _, _ => rfl
  | n + 1, s, h => by
    have r := cr_cg n s (fun w a b => h w a (by omega))
    have k := h n (by omega) (by omega)
    unfold cr
    rw [r]
    by_cases p : P x n
    · rw [if_pos p, if_pos (k.mp p)]
    · rw [if_neg p, if_neg (fun z => p (k.mpr z))]
theorem ca_cg {P Q : Int → Int → Prop} {W : Int} : ∀ (n : Nat), (∀ x w : Int, 0 ≤ x → x < n → 0 ≤ w → w < W → (P x w ↔ Q x w)) → ca P W n = ca Q W n
  | 0, _ => rfl
  | n + 1, h => by
    have r := ca_cg n (fun x w a b => h x w a (by omega))
    unfold ca
    rw [r]
    exact cr_cg _ _ (fun w a b => h n w (by omega) (by omega) a (by omega))
section EQS
variable {d : Int → Int}
theorem kpL (hS : SP d) {w v : Int} (w0 : 0 ≤ w) (w1 : w < d 122) : 0 ≤ iL (insOf (upd1 d (16 + w) v)) ∧ iL (insOf (upd1 d (16 + w) v)) ≤ 5 := by
  show 0 ≤ upd1 d _ v 121 ∧ upd1 d _ v 121 ≤ 5
  have hW := hS.1.2
  rw [upd1_o (by omega)]
  exact hS.1.1
/-- the same flows: the same greatest flow -/
theorem mc_eq {I J : Ins} (hI : IB I) (hJ : IB J) (h1 : I.1 = J.1) (hz : iZ I = iZ J) (hc : ∀ F, CAP I F ↔ CAP J F) : sumMC I = sumMC J ∧ MC I 1 = MC J 1 := by
  have eL : iL I = iL J := congrArg Prod.fst h1
  have eW : iW I = iW J := congrArg Prod.snd h1
  have es : ∀ F, spF I F = spF J F := fun F => by unfold spF; rw [eL, eW, hz]
  obtain ⟨F, hF, e⟩ := flow_ex hI
  obtain ⟨K, hK, e2⟩ := flow_ex hJ
  have a := ((hc F).mp hF).sp hJ
  have b := ((hc K).mpr hK).sp hI
  rw [← es, e] at a
  rw [es, e2] at b
  have q : sumMC I = sumMC J := by omega
  refine ⟨q, ?_⟩
  have m1 := CAP.all hI hF e
  have m2 := CAP.all hJ ((hc F).mp hF) (by rw [← es, e, q])
  rw [← m1, ← m2, eL, eW]
end EQS
/-! the copies of the plan -/
theorem tk_mc {I : Ins} {x w n : Int} (hI : IB I) (hp : planI I) (x0 : 0 ≤ x) (x1 : x < iL I) (w0 : 0 ≤ w) (w1 : w < iW I) (n0 : 0 ≤ n) (hm : n ≤ iO I x w ∧ n ≤ iS I w ∧ n ≤ iM I x) (hg : gdT I x w (SPC I) n) : MC I 1 = MC (TK I x w n) 1 + n := by
  have hL := hI.1
  have hW := hI.2.1
  have hJ := hI.TK x0 x1 w0 w1 n0 hm.2.1 hm.2.2
  obtain ⟨F, hF, e⟩ := flow_ex hJ
  have hF1 : ∀ a b, 0 ≤ a → a < iL I → 0 ≤ b → b < iW I → 0 ≤ F a b ∧ F a b ≤ iO (TK I x w n) a b := hF.1
  have hF2 : ∀ a, 0 ≤ a → a < iL I → sm (iW I).toNat (fun b => F a b) ≤ iM (TK I x w n) a := hF.2.1
  have hF3 : ∀ b, 0 ≤ b → b < iW I → sm (iL I).toNat (fun a => F a b) ≤ iS (TK I x w n) b := hF.2.2
  have z := hF1 x w x0 x1 w0 w1
  rw [TK_O, if_pos ⟨rfl, rfl⟩] at z
  have hC : CAP I (upF F x w n) := by
    refine ⟨fun a b a0 a1 b0 b1 => ?_, fun a a0 a1 => ?_, fun b b0 b1 => ?_⟩
    · by_cases q : a = x ∧ b = w
      · rw [q.1, q.2, upF_at]; omega
      · rw [upF_ne q]
        have := hF1 a b a0 a1 b0 b1
        rw [TK_O, if_neg q] at this
        exact this
    · rw [row_up w0 (by omega)]
      have := hF2 a a0 a1
      rw [TK_M] at this
      by_cases q : a = x
      · rw [if_pos q] at this ⊢; rw [q] at this ⊢; omega
      · rw [if_neg q] at this ⊢; omega
    · rw [col_up x0 (by omega)]
      have := hF3 b b0 b1
      rw [TK_S] at this
      by_cases q : b = w
      · rw [if_pos q] at this ⊢; rw [q] at this ⊢; omega
      · rw [if_neg q] at this ⊢; omega
  have h2 : spF I F = sumMC (TK I x w n) := e
  have h3 := hg.2
  rw [SPC_t hg.1, SPC_t hp] at h3
  have h4 : spF I (upF F x w n) = sumMC I := by
    rw [spF_up x0 x1 w0 w1, show n - F x w = n by omega, h2, Int.mul_comm]
    exact h3
  have m1 := CAP.all hI hC h4
  have m2 : sm (iW I).toNat (fun w => sm (iL I).toNat (fun x => F x w)) = MC (TK I x w n) 1 := CAP.all hJ hF e
  rw [← m1, ← m2]
  refine sm_chg (a := w) _ w0 (by omega) (fun k a b c => ?_) ?_
  · rw [col_up x0 (by omega), if_neg c]
    omega
  · rw [col_up x0 (by omega), if_pos rfl]
    omega
theorem row_mc {J : Ins} {x : Int} (hJ : IB J) (x0 : 0 ≤ x) (x1 : x < iL J) (hO : RO J x (iW J)) : MC J 1 = MC (setNM J x 0 0) 1 := by
  have hK : IB (setNM J x 0 0) := hJ.setNM (by decide) (by decide) (by decide)
  have hM := (hJ.2.2.2.2 x x0 x1).1
  refine (mc_eq hJ hK rfl rfl (fun F => ?_)).2
  constructor
  · intro h
    refine ⟨h.1, fun y y0 y1 => ?_, h.2.2⟩
    show sm (iW J).toNat (fun w => F y w) ≤ up (iM J) x 0 y
    by_cases e : y = x
    · rw [e, up_same, sm_zero _ (fun k a b => by
        have q := h.1 x k x0 x1 a (by omega)
        rw [hO k a (by omega)] at q
        omega)]
      exact Int.le_refl _
    · rw [up_ne e]; exact h.2.1 y y0 y1
  · intro h
    refine ⟨h.1, fun y y0 y1 => ?_, h.2.2⟩
    have q : sm (iW J).toNat (fun w => F y w) ≤ up (iM J) x 0 y := h.2.1 y y0 y1
    by_cases e : y = x
    · rw [e, up_same] at q
      rw [e]
      omega
    · rw [up_ne e] at q; exact q
section PMC
variable {I : Ins}
theorem pmc_in (hI : IB I) {x j : Int} {S : PT} (h : PL I x j S) (x0 : 0 ≤ x) (x1 : x < iL I) (j0 : 0 ≤ j) (j1 : j < iW I) (e : MC I 1 = S.2.2.2 + MC S.1 1) : MC I 1 = (stepT S x j).2.2.2 + MC (stepT S x j).1 1 := by
  have hW := hI.2.1
  obtain ⟨hB, hp, hs, hR, hv, hi⟩ := h
  rw [show min j (iW I) = j by omega] at hB
  have hJ := hB.1.2.2.1
  have eL : iL S.1 = iL I := congrArg Prod.fst hB.1.1
  have eW : iW S.1 = iW I := congrArg Prod.snd hB.1.1
  have hb := tk_bd hJ S.2.1 x0 (show x < iL S.1 by omega) j0 (show j < iW S.1 by omega)
  have hg := tk_gd hJ hp x0 (show x < iL S.1 by omega) j0 (show j < iW S.1 by omega)
  rw [hs] at hg
  have m := tk_mc hJ hp x0 (show x < iL S.1 by omega) j0 (show j < iW S.1 by omega) hb.1 ⟨hb.2.2.2.2, hb.2.2.1, hb.2.2.2.1⟩ (by rw [hs]; exact hg)
  show MC I 1 = S.2.2.2 + tk S.1 x j S.2.1 + MC (TK S.1 x j (tk S.1 x j S.2.1)) 1
  omega
theorem pmc_row (hI : IB I) {x : Int} {S : PT} (h : PL I x 0 S) (x0 : 0 ≤ x) (x1 : x < iL I) (e : MC I 1 = S.2.2.2 + MC S.1 1) : ∀ n : Nat, (n : Int) ≤ iW I → PL I x n (prow S x n) ∧ MC I 1 = (prow S x n).2.2.2 + MC (prow S x n).1 1
  | 0, _ => ⟨h, e⟩
  | n + 1, hn => by
    have r := pmc_row hI h x0 x1 e n (by omega)
    have a := PL.in hI r.1 x0 x1 (by omega) (by omega)
    have b := pmc_in hI r.1 x0 x1 (by omega) (by omega) r.2
    rw [prow, show ((n + 1 : Nat) : Int) = (n : Int) + 1 by omega]
    exact ⟨a, b⟩
theorem pmc_out (hI : IB I) {x : Int} {S : PT} (x0 : 0 ≤ x) (h : PL I x (iW I) S) : ∀ n : Nat, iW I + n ≤ 6 → PL I x (iW I + n) S
  | 0, _ => by rw [show iW I + ((0 : Nat) : Int) = iW I by omega]; exact h
  | n + 1, hn => by
    have hW := hI.2.1
    have r := pmc_out hI x0 h n (by omega)
    have a := PL.out hI r x0 (by omega) (by omega) (by omega)
    rw [show iW I + ((n + 1 : Nat) : Int) = iW I + n + 1 by omega]
    exact a
theorem pmc (hI : IB I) (hp : planI I) : ∀ n : Nat, (n : Int) ≤ iL I → PL I n 0 (pall (S0 I) (iW I) n) ∧ MC I 1 = (pall (S0 I) (iW I) n).2.2.2 + MC (pall (S0 I) (iW I) n).1 1
  | 0, _ => by
    have hW := hI.2.1
    have hB := PB.all hI 0 (by have := hI.1.1; omega)
    refine ⟨⟨by rw [show min 0 (iW I) = 0 by omega]; exact hB, hp, rfl, RJ.rf I, ?_, fun i hi => ?_⟩, ?_⟩
    · show SPC I = SPC I - sB I _ 0
      exact (Int.sub_zero _).symm
    · rw [show i = 0 by omega]; exact hI
    · show MC I 1 = 0 + MC I 1
      omega
  | n + 1, hn => by
    have hW := hI.2.1
    have r := pmc hI hp n (by omega)
    have a := pmc_row hI r.1 (by omega) (by omega) r.2 (iW I).toNat (by omega)
    rw [show (((iW I).toNat : Nat) : Int) = iW I by omega] at a
    have b := pmc_out hI (by omega) a.1 (6 - iW I).toNat (by omega)
    rw [show iW I + (((6 - iW I).toNat : Nat) : Int) = 6 by omega] at b
    have c := PL.row hI b (by omega) (by omega)
    have hB := b.1
    rw [show min 6 (iW I) = iW I by omega] at hB
    have eW : iW (prow (pall (S0 I) (iW I) n) n (iW I).toNat).1 = iW I := congrArg Prod.snd hB.1.1
    have eL : iL (prow (pall (S0 I) (iW I) n) n (iW I).toNat).1 = iL I := congrArg Prod.fst hB.1.1
    have m := row_mc hB.1.2.2.1 (x := n) (by omega) (by omega) (by rw [eW]; exact hB.2.1)
    rw [pall, show ((n + 1 : Nat) : Int) = (n : Int) + 1 by omega]
    refine ⟨c, ?_⟩
    have e2 := a.2
    rw [m] at e2
    exact e2
theorem plC_mc (hI : IB I) (hp : planI I) : plC I = MC I 1 := by
  have hL := hI.1
  have r := pmc hI hp (iL I).toNat (by omega)
  rw [show (((iL I).toNat : Nat) : Int) = iL I by omega] at r
  have hB := r.1.1
  have hJ := hB.1.2.2.1
  have eW : iW (pall (S0 I) (iW I) (iL I).toNat).1 = iW I := congrArg Prod.snd hB.1.1
  have eL : iL (pall (S0 I) (iW I) (iL I).toNat).1 = iL I := congrArg Prod.fst hB.1.1
  obtain ⟨F, hF, e⟩ := flow_ex hJ
  have m := CAP.all hJ hF e
  have z : MC (pall (S0 I) (iW I) (iL I).toNat).1 1 = 0 := by
    rw [← m]
    refine sm_zero _ (fun w w0 w1 => sm_zero _ (fun x x0 x1 => ?_))
    have q := hF.1 x w x0 (by omega) w0 (by omega)
    rw [(hB.1.2.2.2 x x0 (by omega)).2.2 w w0 (by omega)] at q
    omega
  have e2 := r.2
  rw [z] at e2
  unfold plC
  rw [if_pos hp]
  have e3 : (pln I).2.2.2 = (pall (S0 I) (iW I) (iL I).toNat).2.2.2 := rfl
  rw [e3]
  omega
end PMC
theorem c7_e {d : Int → Int} (hS : SP d) : (if SPC (insOf d) = -1 then -1 else if iW (insOf d) = 0 then 0 else MC (insOf d) 1) = itc (planI (insOf d)) (sm (d 121).toNat (fun x => sm (d 122).toNat (fun w => plT (insOf d) (6 * x + w)))) (-1) := by
  have hI := SP.I hS
  have n := SPC_n hI
  by_cases p : planI (insOf d)
  · rw [itc_t p, if_neg (fun z => (n.mp z) p)]
    by_cases q : iW (insOf d) = 0
    · rw [if_pos q]
      have q' : d 122 = 0 := q
      rw [q']
      exact (sm_zero _ (fun x _ _ => rfl)).symm
    · rw [if_neg q, ← plC_mc hI p, pl_sum hI p]
      exact (pl_two hI).symm
  · rw [itc_f p, if_pos (n.mpr p)]
/-! looking on -/
theorem bits_cg {p q : Int → Prop} : ∀ n : Nat, (∀ k : Int, 0 ≤ k → k < n → (p k ↔ q k)) → bits n p = bits n q := fun n h => sm_congr n (fun k a b => by
  show bP (p k) * _ = bP (q k) * _
  rw [propext (h k a b)])
/-- an order there is -/
theorem RK_ex (z : Int → Int) : ∀ n : Nat, ∃ b, RK n z b
  | 0 => ⟨fun _ => 0, fun i a b => by omega, fun i a b => by omega, fun g => rfl, fun i a b => by omega⟩
  | n + 1 => by
    obtain ⟨b, hb⟩ := RK_ex z n
    have key : ∀ k : Nat, ∃ a : Int, 0 ≤ a ∧ a ≤ k ∧ (∀ i, a ≤ i → i < k → z (b i) < z n) ∧ (0 < a → z n ≤ z (b (a - 1))) := fun k => by
      induction k with
      | zero => exact ⟨0, Int.le_refl _, by omega, fun i p q => by omega, fun p => by omega⟩
      | succ k ih =>
        obtain ⟨a, a0, a1, a2, a3⟩ := ih
        by_cases q : z (b k) < z n
        · exact ⟨a, a0, by omega, fun i p r => by
            by_cases e : i = k
            · rw [e]; exact q
            · exact a2 i p (by omega), a3⟩
        · exact ⟨k + 1, by omega, by omega, fun i p r => by omega, fun _ => by
            rw [show (k : Int) + 1 - 1 = k by omega]
            omega⟩
    obtain ⟨a, a0, a1, a2, a3⟩ := key n
    exact ⟨ins b a n, by
      have := RK_ins (w := (n : Int)) hb a0 a1 a2 a3
      rw [show ((n + 1 : Nat) : Int) = (n : Int) + 1 by omega]
      exact this⟩

