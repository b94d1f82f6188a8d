/-! the two sides' answers are one -/
theorem LateV_u {d : Int → Int} {v u : Int} (h : LateV d v) (g : LateV d u) : v = u := by
  rcases h with ⟨rfl, h⟩ | ⟨h1, h2, h3, h4⟩
  · rcases g with ⟨rfl, g⟩ | ⟨g1, g2, g3, g4⟩
    · rfl
    · exact absurd g3 (h u g1 g2)
  · rcases g with ⟨rfl, g⟩ | ⟨g1, g2, g3, g4⟩
    · exact absurd h3 (g v h1 h2)
    · rcases Int.lt_trichotomy v u with q | q | q
      · exact absurd h3 (g4 v h1 q)
      · exact q
      · exact absurd g3 (h4 u g1 q)
theorem FF_u {P Q : Int → Prop} {b v u : Int} (h : FF P b v) (g : FF Q b u) (e : ∀ m, 1 ≤ m → m ≤ b → (P m ↔ Q m)) : v = u := by
  obtain ⟨h0, h1, h2, h3⟩ := h
  obtain ⟨g0, g1, g2, g3⟩ := g
  rcases Int.lt_trichotomy v u with q | q | q
  · exact absurd ((e (v + 1) (by omega) (by omega)).mpr (g2 (v + 1) (by omega) (by omega))) (h3 (by omega))
  · exact q
  · exact absurd ((e (u + 1) (by omega) (by omega)).mp (h2 (u + 1) (by omega) (by omega))) (g3 (by omega))
theorem cr_cg {P Q : Int → Int → Prop} {x : Int} : ∀ (n : Nat) (s : Int × Int), (∀ w : Int, 0 ≤ w → w < n → (P x w ↔ Q x w)) → cr P x n s = cr Q x n s
  | 0, _, _ => rfl
  | n + 1, s, h => by
    have r := cr_cg n s (fun w a b => h w a (by omega))
    have k := h n (by omega) (by omega)
    unfold cr
    rw [r]
    by_cases p : P x n
    · rw [if_pos p, if_pos (k.mp p)]
    · rw [if_neg p, if_neg (fun z => p (k.mpr z))]
theorem ca_cg {P Q : Int → Int → Prop} {W : Int} : ∀ (n : Nat), (∀ x w : Int, 0 ≤ x → x < n → 0 ≤ w → w < W → (P x w ↔ Q x w)) → ca P W n = ca Q W n
  | 0, _ => rfl
  | n + 1, h => by
    have r := ca_cg n (fun x w a b => h x w a (by omega))
    unfold ca
    rw [r]
    exact cr_cg _ _ (fun w a b => h n w (by omega) (by omega) a (by omega))
section EQS
variable {d : Int → Int}
theorem itw_e (hS : SP d) {x w : Int} (x0 : 0 ≤ x) (x1 : x < d 121) (w0 : 0 ≤ w) (w1 : w < d 122) : itwM d x w ↔ itwP d x w := by
  have hL := hS.1.1
  have hW := hS.1.2
  have hI := SP.I hS
  have hh := (hS.h x0 (show x < 5 by omega) w0 (show w < 6 by omega)).1
  have e : IQ (insOf (upd1 d (58 + x * 6 + w) 0)) (setO (insOf d) x w (d (28 + x * 6 + w))) := by
    have k : ∀ j, j ≠ 58 + x * 6 + w → upd1 d (58 + x * 6 + w) 0 j = d j := fun j q => upd1_o q
    refine ⟨by show (upd1 d _ 0 121, upd1 d _ 0 122) = (d 121, d 122); rw [k 121 (by omega), k 122 (by omega)], fun y u y0 y1 u0 u1 => ?_, fun u u0 u1 => ⟨?_, ?_⟩, fun y y0 y1 => ?_⟩
    · have y1' : y < upd1 d (58 + x * 6 + w) 0 121 := y1
      have u1' : u < upd1 d (58 + x * 6 + w) 0 122 := u1
      rw [k 121 (by omega)] at y1'
      rw [k 122 (by omega)] at u1'
      show offr (upd1 d (58 + x * 6 + w) 0) y u = if y = x ∧ u = w then d (28 + x * 6 + w) else offr d y u
      unfold offr
      rw [k (28 + y * 6 + u) (by omega), k 118 (by omega), k (88 + y * 6 + u) (by omega)]
      by_cases q : y = x ∧ u = w
      · rw [if_pos q, q.1, q.2, upd1_e, if_neg (fun z => by omega)]
        omega
      · rw [if_neg q, k (58 + y * 6 + u) (by omega)]
    · show spr (upd1 d (58 + x * 6 + w) 0) u = spr d u
      have u1' : u < upd1 d (58 + x * 6 + w) 0 122 := u1
      rw [k 122 (by omega)] at u1'
      unfold spr allOf
      rw [k (22 + u) (by omega), k (16 + u) (by omega), k 121 (by omega)]
      have e2 : sm (d 121).toNat (fun y => upd1 d (58 + x * 6 + w) 0 (28 + y * 6 + u)) = sm (d 121).toNat (fun y => d (28 + y * 6 + u)) := sm_congr _ (fun y y0 y1 => k _ (by omega))
      rw [e2]
    · have u1' : u < upd1 d (58 + x * 6 + w) 0 122 := u1
      rw [k 122 (by omega)] at u1'
      exact k (10 + u) (by omega)
    · have y1' : y < upd1 d (58 + x * 6 + w) 0 121 := y1
      rw [k 121 (by omega)] at y1'
      have en : nee (upd1 d (58 + x * 6 + w) 0) y = nee d y := by
        unfold nee inAll
        rw [k y (by omega), k 122 (by omega)]
        have e2 : sm (d 122).toNat (fun u => upd1 d (58 + x * 6 + w) 0 (28 + y * 6 + u)) = sm (d 122).toNat (fun u => d (28 + y * 6 + u)) := sm_congr _ (fun u u0 u1 => k _ (by omega))
        rw [e2]
      refine ⟨en, ?_⟩
      show max (nee (upd1 d _ 0) y) (upd1 d _ 0 (5 + y)) = max (nee d y) (d (5 + y))
      rw [en, k (5 + y) (by omega)]
  have hs := e.sp (by show 0 ≤ upd1 d _ 0 121 ∧ upd1 d _ 0 121 ≤ 5; rw [upd1_o (by omega)]; exact hL)
  unfold itwM itwP
  rw [hs]
theorem prL_e (hS : SP d) {x v : Int} (x0 : 0 ≤ x) (x1 : x < d 121) : SPC (insOf (upd1 d (5 + x) v)) = SPC (setNM (insOf d) x (nee d x) (max (nee d x) v)) := by
  have hL := hS.1.1
  have hW := hS.1.2
  have k : ∀ j, j ≠ 5 + x → upd1 d (5 + x) v j = d j := fun j q => upd1_o q
  have c := fun {a b : Int → Int} => @offr_cg a b
  refine IQ.sp ⟨by show (upd1 d _ v 121, upd1 d _ v 122) = (d 121, d 122); rw [k 121 (by omega), k 122 (by omega)], fun y u y0 y1 u0 u1 => offr_cg (fun j q => k j (by omega)) y0 u0, fun u u0 u1 => ⟨?_, k (10 + u) ?_⟩, fun y y0 y1 => ?_⟩ (by show 0 ≤ upd1 d _ v 121 ∧ upd1 d _ v 121 ≤ 5; rw [k 121 (by omega)]; exact hL)
  · show spr (upd1 d (5 + x) v) u = spr d u
    unfold spr
    rw [allOf_cg (fun j q => k j (by omega)) u0, k (16 + u) (by omega)]
  · omega
  · have y1' : y < upd1 d (5 + x) v 121 := y1
    rw [k 121 (by omega)] at y1'
    have en : nee (upd1 d (5 + x) v) y = nee d y := by
      unfold nee
      rw [inAll_cg (fun j q => k j (by omega)) y0, k y (by omega)]
    constructor
    · show nee (upd1 d (5 + x) v) y = up (nee d) x (nee d x) y
      rw [en]
      by_cases q : y = x
      · rw [q, up_same]
      · rw [up_ne q]
    · show max (nee (upd1 d (5 + x) v) y) (upd1 d (5 + x) v (5 + y)) = up (fun x => max (nee d x) (d (5 + x))) x (max (nee d x) v) y
      rw [en]
      by_cases q : y = x
      · rw [q, up_same, upd1_e]
      · rw [up_ne q, k (5 + y) (by omega)]
theorem tig_e (hS : SP d) {x m : Int} (x0 : 0 ≤ x) (x1 : x < d 121) : planI (setNM (insOf d) x (max 0 (inAll d x - (d x - m))) (max (max 0 (inAll d x - (d x - m))) (d (5 + x)))) ↔ planI (insOf (upd1 d x (d x - m))) := by
  have hL := hS.1.1
  have hW := hS.1.2
  have k : ∀ j, j ≠ x → upd1 d x (d x - m) j = d j := fun j q => upd1_o q
  have q : IQ (insOf (upd1 d x (d x - m))) (setNM (insOf d) x (max 0 (inAll d x - (d x - m))) (max (max 0 (inAll d x - (d x - m))) (d (5 + x)))) := by
    refine ⟨by show (upd1 d x _ 121, upd1 d x _ 122) = (d 121, d 122); rw [k 121 (by omega), k 122 (by omega)], fun y u y0 y1 u0 u1 => offr_cg (fun j q => k j (by omega)) y0 u0, fun u u0 u1 => ⟨?_, k (10 + u) (by omega)⟩, fun y y0 y1 => ?_⟩
    · show spr (upd1 d x (d x - m)) u = spr d u
      unfold spr
      rw [allOf_cg (fun j q => k j (by omega)) u0, k (16 + u) (by omega)]
    · have y1' : y < upd1 d x (d x - m) 121 := y1
      rw [k 121 (by omega)] at y1'
      have en : nee (upd1 d x (d x - m)) y = up (nee d) x (max 0 (inAll d x - (d x - m))) y := by
        unfold nee
        rw [inAll_cg (fun j q => k j (by omega)) y0]
        by_cases q : y = x
        · rw [q, up_same, upd1_e]
        · rw [up_ne q, k y q]
      refine ⟨en, ?_⟩
      show max (nee (upd1 d x (d x - m)) y) (upd1 d x (d x - m) (5 + y)) = up (fun x => max (nee d x) (d (5 + x))) x _ y
      rw [en, k (5 + y) (by omega)]
      by_cases q : y = x
      · rw [q, up_same, up_same]
      · rw [up_ne q, up_ne q]
  exact (IQ.pl q (by show 0 ≤ upd1 d x _ 121 ∧ upd1 d x _ 121 ≤ 5; rw [k 121 (by omega)]; exact hL)).symm
theorem kp_IQ (hS : SP d) {w v : Int} (w0 : 0 ≤ w) (w1 : w < d 122) : IQ (insOf (upd1 d (16 + w) v)) (setS (insOf d) w (max 0 (allOf d w - v))) := by
  have hL := hS.1.1
  have hW := hS.1.2
  have k : ∀ j, j ≠ 16 + w → upd1 d (16 + w) v j = d j := fun j q => upd1_o q
  refine ⟨by show (upd1 d _ v 121, upd1 d _ v 122) = (d 121, d 122); rw [k 121 (by omega), k 122 (by omega)], fun y u y0 y1 u0 u1 => offr_cg (fun j q => k j (by omega)) y0 u0, fun u u0 u1 => ⟨?_, ?_⟩, fun y y0 y1 => ?_⟩
  · show spr (upd1 d (16 + w) v) u = up (spr d) w _ u
    unfold spr
    rw [allOf_cg (fun j q => k j (by omega)) u0]
    by_cases q : u = w
    · rw [q, up_same, upd1_e]
    · rw [up_ne q, k (16 + u) (by omega)]
  · have u1' : u < upd1 d (16 + w) v 122 := u1
    rw [k 122 (by omega)] at u1'
    exact k (10 + u) (by omega)
  · have y1' : y < upd1 d (16 + w) v 121 := y1
    rw [k 121 (by omega)] at y1'
    have en : nee (upd1 d (16 + w) v) y = nee d y := by
      unfold nee
      rw [inAll_cg (fun j q => k j (by omega)) y0, k y (by omega)]
    refine ⟨en, ?_⟩
    show max (nee (upd1 d _ v) y) (upd1 d _ v (5 + y)) = max (nee d y) (d (5 + y))
    rw [en, k (5 + y) (by omega)]
theorem kpL (hS : SP d) {w v : Int} (w0 : 0 ≤ w) (w1 : w < d 122) : 0 ≤ iL (insOf (upd1 d (16 + w) v)) ∧ iL (insOf (upd1 d (16 + w) v)) ≤ 5 := by
  show 0 ≤ upd1 d _ v 121 ∧ upd1 d _ v 121 ≤ 5
  have hW := hS.1.2
  rw [upd1_o (by omega)]
  exact hS.1.1
/-- the same flows: the same greatest flow -/
theorem mc_eq {I J : Ins} (hI : IB I) (hJ : IB J) (h1 : I.1 = J.1) (hz : iZ I = iZ J) (hc : ∀ F, CAP I F ↔ CAP J F) : sumMC I = sumMC J ∧ MC I 1 = MC J 1 := by
  have eL : iL I = iL J := congrArg Prod.fst h1
  have eW : iW I = iW J := congrArg Prod.snd h1
  have es : ∀ F, spF I F = spF J F := fun F => by unfold spF; rw [eL, eW, hz]
  obtain ⟨F, hF, e⟩ := flow_ex hI
  obtain ⟨K, hK, e2⟩ := flow_ex hJ
  have a := ((hc F).mp hF).sp hJ
  have b := ((hc K).mpr hK).sp hI
  rw [← es, e] at a
  rw [es, e2] at b
  have q : sumMC I = sumMC J := by omega
  refine ⟨q, ?_⟩
  have m1 := CAP.all hI hF e
  have m2 := CAP.all hJ ((hc F).mp hF) (by rw [← es, e, q])
  rw [← m1, ← m2, eL, eW]
theorem apart_e (hS : SP d) {x : Int} (x0 : 0 ≤ x) (x1 : x < d 121) : SPC (apI d x) = SPC (setNM (insOf d) x 0 0) := by
  have hI := SP.I hS
  have hJ : IB (setNM (insOf d) x 0 0) := hI.setNM (by decide) (by decide) (by decide)
  have hA := apI_IB hS.m x
  have hw := (hS.2.1 x x0 (by have := hS.1.1; omega)).2
  have z0 : ∀ F, CAP (apI d x) F → ∀ w, 0 ≤ w → w < d 122 → F x w = 0 := fun F h w w0 w1 => by
    have q : 0 ≤ F x w ∧ F x w ≤ (if x = x then (0 : Int) else offr d x w) := h.1 x w x0 x1 w0 w1
    rw [if_pos rfl] at q
    omega
  have z1 : ∀ F, CAP (setNM (insOf d) x 0 0) F → ∀ w, 0 ≤ w → w < d 122 → F x w = 0 := fun F h w w0 w1 => by
    have q : sm (d 122).toNat (fun w => F x w) ≤ up (fun x => max (nee d x) (d (5 + x))) x 0 x := h.2.1 x x0 x1
    rw [up_same] at q
    have p : ∀ k : Int, 0 ≤ k → k < (d 122).toNat → 0 ≤ F x k := fun k a b => (h.1 x k x0 x1 a (by show k < d 122; omega)).1
    have s := sm_ge (f := fun w => F x w) (i := w) (n := (d 122).toNat) p w0 (by omega)
    have := p w w0 (by omega)
    have s' : F x w ≤ sm (d 122).toNat (fun w => F x w) := s
    omega
  have hc : ∀ F, CAP (apI d x) F ↔ CAP (setNM (insOf d) x 0 0) F := fun F => by
    constructor
    · intro h
      have z := z0 F h
      refine ⟨fun y w y0 y1 w0 w1 => ?_, fun y y0 y1 => ?_, h.2.2⟩
      · have q : 0 ≤ F y w ∧ F y w ≤ (if y = x then (0 : Int) else offr d y w) := h.1 y w y0 y1 w0 w1
        have p : 0 ≤ offr d y w ∧ offr d y w ≤ 3 := hI.2.2.1 y w y0 y1 w0 w1
        show 0 ≤ F y w ∧ F y w ≤ offr d y w
        split at q <;> omega
      · show sm (d 122).toNat (fun w => F y w) ≤ up (fun x => max (nee d x) (d (5 + x))) x 0 y
        by_cases e : y = x
        · rw [e, up_same, sm_zero _ (fun k a b => z k a (by omega))]
          exact Int.le_refl _
        · rw [up_ne e]
          have q : sm (d 122).toNat (fun w => F y w) ≤ max (d (5 + y)) (if y = x then 0 else nee d y) := h.2.1 y y0 y1
          rw [if_neg e] at q
          show _ ≤ max (nee d y) (d (5 + y))
          omega
    · intro h
      have z := z1 F h
      refine ⟨fun y w y0 y1 w0 w1 => ?_, fun y y0 y1 => ?_, h.2.2⟩
      · have q : 0 ≤ F y w ∧ F y w ≤ offr d y w := h.1 y w y0 y1 w0 w1
        show 0 ≤ F y w ∧ F y w ≤ (if y = x then (0 : Int) else offr d y w)
        by_cases e : y = x
        · rw [if_pos e, e, z w w0 w1]
          exact ⟨Int.le_refl _, Int.le_refl _⟩
        · rw [if_neg e]
          exact q
      · show sm (d 122).toNat (fun w => F y w) ≤ max (d (5 + y)) (if y = x then 0 else nee d y)
        by_cases e : y = x
        · rw [if_pos e, e, sm_zero _ (fun k a b => z k a (by omega))]
          omega
        · rw [if_neg e]
          have q : sm (d 122).toNat (fun w => F y w) ≤ up (fun x => max (nee d x) (d (5 + x))) x 0 y := h.2.1 y y0 y1
          rw [up_ne e] at q
          have q' : sm (d 122).toNat (fun w => F y w) ≤ max (nee d y) (d (5 + y)) := q
          omega
  have m := mc_eq hA hJ rfl rfl hc
  have hn : ∀ F, NDS (apI d x) F → CAP (apI d x) F → NDS (setNM (insOf d) x 0 0) F := fun F h hF y y0 y1 => by
    show up (nee d) x 0 y ≤ sm (d 122).toNat (fun w => F y w)
    have q : (if y = x then 0 else nee d y) ≤ sm (d 122).toNat (fun w => F y w) := h y y0 y1
    by_cases e : y = x
    · rw [if_pos e] at q
      rw [e, up_same, ← e]
      exact q
    · rw [if_neg e] at q
      rw [up_ne e]
      exact q
  have hn2 : ∀ F, NDS (setNM (insOf d) x 0 0) F → NDS (apI d x) F := fun F h y y0 y1 => by
    have q : up (nee d) x 0 y ≤ sm (d 122).toNat (fun w => F y w) := h y y0 y1
    show (if y = x then 0 else nee d y) ≤ sm (d 122).toNat (fun w => F y w)
    by_cases e : y = x
    · rw [e, up_same] at q
      rw [if_pos e, e]
      exact q
    · rw [up_ne e] at q
      rw [if_neg e]
      exact q
  have hp : planI (apI d x) ↔ planI (setNM (insOf d) x 0 0) := by
    constructor
    · intro p
      obtain ⟨F, a, b⟩ := need_ex hA p
      exact way_pl hJ ((hc F).mp a) (hn F b a)
    · intro p
      obtain ⟨F, a, b⟩ := need_ex hJ p
      exact way_pl hA ((hc F).mpr a) (hn2 F b)
  by_cases p : planI (apI d x)
  · rw [SPC_t p, SPC_t (hp.mp p), m.1]
  · rw [SPC_f p, SPC_f (fun z => p (hp.mpr z))]
end EQS
/-! the copies of the plan -/
theorem tk_mc {I : Ins} {x w n : Int} (hI : IB I) (hp : planI I) (x0 : 0 ≤ x) (x1 : x < iL I) (w0 : 0 ≤ w) (w1 : w < iW I) (n0 : 0 ≤ n) (hm : n ≤ iO I x w ∧ n ≤ iS I w ∧ n ≤ iM I x) (hg : gdT I x w (SPC I) n) : MC I 1 = MC (TK I x w n) 1 + n := by
  have hL := hI.1
  have hW := hI.2.1
  have hJ := hI.TK x0 x1 w0 w1 n0 hm.2.1 hm.2.2
  obtain ⟨F, hF, e⟩ := flow_ex hJ
  have hF1 : ∀ a b, 0 ≤ a → a < iL I → 0 ≤ b → b < iW I → 0 ≤ F a b ∧ F a b ≤ iO (TK I x w n) a b := hF.1
  have hF2 : ∀ a, 0 ≤ a → a < iL I → sm (iW I).toNat (fun b => F a b) ≤ iM (TK I x w n) a := hF.2.1
  have hF3 : ∀ b, 0 ≤ b → b < iW I → sm (iL I).toNat (fun a => F a b) ≤ iS (TK I x w n) b := hF.2.2
  have z := hF1 x w x0 x1 w0 w1
  rw [TK_O, if_pos ⟨rfl, rfl⟩] at z
  have hC : CAP I (upF F x w n) := by
    refine ⟨fun a b a0 a1 b0 b1 => ?_, fun a a0 a1 => ?_, fun b b0 b1 => ?_⟩
    · by_cases q : a = x ∧ b = w
      · rw [q.1, q.2, upF_at]; omega
      · rw [upF_ne q]
        have := hF1 a b a0 a1 b0 b1
        rw [TK_O, if_neg q] at this
        exact this
    · rw [row_up w0 (by omega)]
      have := hF2 a a0 a1
      rw [TK_M] at this
      by_cases q : a = x
      · rw [if_pos q] at this ⊢; rw [q] at this ⊢; omega
      · rw [if_neg q] at this ⊢; omega
    · rw [col_up x0 (by omega)]
      have := hF3 b b0 b1
      rw [TK_S] at this
      by_cases q : b = w
      · rw [if_pos q] at this ⊢; rw [q] at this ⊢; omega
      · rw [if_neg q] at this ⊢; omega
  have h2 : spF I F = sumMC (TK I x w n) := e
  have h3 := hg.2
  rw [SPC_t hg.1, SPC_t hp] at h3
  have h4 : spF I (upF F x w n) = sumMC I := by
    rw [spF_up x0 x1 w0 w1, show n - F x w = n by omega, h2, Int.mul_comm]
    exact h3
  have m1 := CAP.all hI hC h4
  have m2 : sm (iW I).toNat (fun w => sm (iL I).toNat (fun x => F x w)) = MC (TK I x w n) 1 := CAP.all hJ hF e
  rw [← m1, ← m2]
  refine sm_chg (a := w) _ w0 (by omega) (fun k a b c => ?_) ?_
  · rw [col_up x0 (by omega), if_neg c]
    omega
  · rw [col_up x0 (by omega), if_pos rfl]
    omega
theorem row_mc {J : Ins} {x : Int} (hJ : IB J) (x0 : 0 ≤ x) (x1 : x < iL J) (hO : RO J x (iW J)) : MC J 1 = MC (setNM J x 0 0) 1 := by
  have hK : IB (setNM J x 0 0) := hJ.setNM (by decide) (by decide) (by decide)
  have hM := (hJ.2.2.2.2 x x0 x1).1
  refine (mc_eq hJ hK rfl rfl (fun F => ?_)).2
  constructor
  · intro h
    refine ⟨h.1, fun y y0 y1 => ?_, h.2.2⟩
    show sm (iW J).toNat (fun w => F y w) ≤ up (iM J) x 0 y
    by_cases e : y = x
    · rw [e, up_same, sm_zero _ (fun k a b => by
        have q := h.1 x k x0 x1 a (by omega)
        rw [hO k a (by omega)] at q
        omega)]
      exact Int.le_refl _
    · rw [up_ne e]; exact h.2.1 y y0 y1
  · intro h
    refine ⟨h.1, fun y y0 y1 => ?_, h.2.2⟩
    have q : sm (iW J).toNat (fun w => F y w) ≤ up (iM J) x 0 y := h.2.1 y y0 y1
    by_cases e : y = x
    · rw [e, up_same] at q
      rw [e]
      omega
    · rw [up_ne e] at q; exact q
section PMC
variable {I : Ins}
theorem pmc_in (hI : IB I) {x j : Int} {S : PT} (h : PL I x j S) (x0 : 0 ≤ x) (x1 : x < iL I) (j0 : 0 ≤ j) (j1 : j < iW I) (e : MC I 1 = S.2.2.2 + MC S.1 1) : MC I 1 = (stepT S x j).2.2.2 + MC (stepT S x j).1 1 := by
  have hW := hI.2.1
  obtain ⟨hB, hp, hs, hR, hv, hi⟩ := h
  rw [show min j (iW I) = j by omega] at hB
  have hJ := hB.1.2.2.1
  have eL : iL S.1 = iL I := congrArg Prod.fst hB.1.1
  have eW : iW S.1 = iW I := congrArg Prod.snd hB.1.1
  have hb := tk_bd hJ S.2.1 x0 (show x < iL S.1 by omega) j0 (show j < iW S.1 by omega)
  have hg := tk_gd hJ hp x0 (show x < iL S.1 by omega) j0 (show j < iW S.1 by omega)
  rw [hs] at hg
  have m := tk_mc hJ hp x0 (show x < iL S.1 by omega) j0 (show j < iW S.1 by omega) hb.1 ⟨hb.2.2.2.2, hb.2.2.1, hb.2.2.2.1⟩ (by rw [hs]; exact hg)
  show MC I 1 = S.2.2.2 + tk S.1 x j S.2.1 + MC (TK S.1 x j (tk S.1 x j S.2.1)) 1
  omega
theorem pmc_row (hI : IB I) {x : Int} {S : PT} (h : PL I x 0 S) (x0 : 0 ≤ x) (x1 : x < iL I) (e : MC I 1 = S.2.2.2 + MC S.1 1) : ∀ n : Nat, (n : Int) ≤ iW I → PL I x n (prow S x n) ∧ MC I 1 = (prow S x n).2.2.2 + MC (prow S x n).1 1
  | 0, _ => ⟨h, e⟩
  | n + 1, hn => by
    have r := pmc_row hI h x0 x1 e n (by omega)
    have a := PL.in hI r.1 x0 x1 (by omega) (by omega)
    have b := pmc_in hI r.1 x0 x1 (by omega) (by omega) r.2
    rw [prow, show ((n + 1 : Nat) : Int) = (n : Int) + 1 by omega]
    exact ⟨a, b⟩
theorem pmc_out (hI : IB I) {x : Int} {S : PT} (x0 : 0 ≤ x) (h : PL I x (iW I) S) : ∀ n : Nat, iW I + n ≤ 6 → PL I x (iW I + n) S
  | 0, _ => by rw [show iW I + ((0 : Nat) : Int) = iW I by omega]; exact h
  | n + 1, hn => by
    have hW := hI.2.1
    have r := pmc_out hI x0 h n (by omega)
    have a := PL.out hI r x0 (by omega) (by omega) (by omega)
    rw [show iW I + ((n + 1 : Nat) : Int) = iW I + n + 1 by omega]
    exact a
theorem pmc (hI : IB I) (hp : planI I) : ∀ n : Nat, (n : Int) ≤ iL I → PL I n 0 (pall (S0 I) (iW I) n) ∧ MC I 1 = (pall (S0 I) (iW I) n).2.2.2 + MC (pall (S0 I) (iW I) n).1 1
  | 0, _ => by
    have hW := hI.2.1
    have hB := PB.all hI 0 (by have := hI.1.1; omega)
    refine ⟨⟨by rw [show min 0 (iW I) = 0 by omega]; exact hB, hp, rfl, RJ.rf I, ?_, fun i hi => ?_⟩, ?_⟩
    · show SPC I = SPC I - sB I _ 0
      exact (Int.sub_zero _).symm
    · rw [show i = 0 by omega]; exact hI
    · show MC I 1 = 0 + MC I 1
      omega
  | n + 1, hn => by
    have hW := hI.2.1
    have r := pmc hI hp n (by omega)
    have a := pmc_row hI r.1 (by omega) (by omega) r.2 (iW I).toNat (by omega)
    rw [show (((iW I).toNat : Nat) : Int) = iW I by omega] at a
    have b := pmc_out hI (by omega) a.1 (6 - iW I).toNat (by omega)
    rw [show iW I + (((6 - iW I).toNat : Nat) : Int) = 6 by omega] at b
    have c := PL.row hI b (by omega) (by omega)
    have hB := b.1
    rw [show min 6 (iW I) = iW I by omega] at hB
    have eW : iW (prow (pall (S0 I) (iW I) n) n (iW I).toNat).1 = iW I := congrArg Prod.snd hB.1.1
    have eL : iL (prow (pall (S0 I) (iW I) n) n (iW I).toNat).1 = iL I := congrArg Prod.fst hB.1.1
    have m := row_mc hB.1.2.2.1 (x := n) (by omega) (by omega) (by rw [eW]; exact hB.2.1)
    rw [pall, show ((n + 1 : Nat) : Int) = (n : Int) + 1 by omega]
    refine ⟨c, ?_⟩
    have e2 := a.2
    rw [m] at e2
    exact e2
theorem plC_mc (hI : IB I) (hp : planI I) : plC I = MC I 1 := by
  have hL := hI.1
  have r := pmc hI hp (iL I).toNat (by omega)
  rw [show (((iL I).toNat : Nat) : Int) = iL I by omega] at r
  have hB := r.1.1
  have hJ := hB.1.2.2.1
  have eW : iW (pall (S0 I) (iW I) (iL I).toNat).1 = iW I := congrArg Prod.snd hB.1.1
  have eL : iL (pall (S0 I) (iW I) (iL I).toNat).1 = iL I := congrArg Prod.fst hB.1.1
  obtain ⟨F, hF, e⟩ := flow_ex hJ
  have m := CAP.all hJ hF e
  have z : MC (pall (S0 I) (iW I) (iL I).toNat).1 1 = 0 := by
    rw [← m]
    refine sm_zero _ (fun w w0 w1 => sm_zero _ (fun x x0 x1 => ?_))
    have q := hF.1 x w x0 (by omega) w0 (by omega)
    rw [(hB.1.2.2.2 x x0 (by omega)).2.2 w w0 (by omega)] at q
    omega
  have e2 := r.2
  rw [z] at e2
  unfold plC
  rw [if_pos hp]
  have e3 : (pln I).2.2.2 = (pall (S0 I) (iW I) (iL I).toNat).2.2.2 := rfl
  rw [e3]
  omega
end PMC
theorem c7_e {d : Int → Int} (hS : SP d) : (if SPC (insOf d) = -1 then -1 else if iW (insOf d) = 0 then 0 else MC (insOf d) 1) = itc (planI (insOf d)) (sm (d 121).toNat (fun x => sm (d 122).toNat (fun w => plT (insOf d) (6 * x + w)))) (-1) := by
  have hI := SP.I hS
  have n := SPC_n hI
  by_cases p : planI (insOf d)
  · rw [itc_t p, if_neg (fun z => (n.mp z) p)]
    by_cases q : iW (insOf d) = 0
    · rw [if_pos q]
      have q' : d 122 = 0 := q
      rw [q']
      exact (sm_zero _ (fun x _ _ => rfl)).symm
    · rw [if_neg q, ← plC_mc hI p, pl_sum hI p]
      exact (pl_two hI).symm
  · rw [itc_f p, if_pos (n.mpr p)]
/-! looking on -/
theorem ck0 {P : Int → Int → Prop} {w : Int} {s : Int × Int} (hs : 0 ≤ s.1) : ∀ n : Nat, (ck P w n s).1 = 0 → s.1 = 0 ∧ ∀ k : Int, 0 ≤ k → k < n → ¬ P w k
  | 0, h => ⟨h, fun k a b => by omega⟩
  | n + 1, h => by
    have b := (ck_bd (P := P) (w := w) (s := s) n).1
    unfold ck at h
    by_cases p : P w n
    · rw [if_pos p] at h
      have h' : (ck P w n s).1 + 1 = 0 := h
      omega
    · rw [if_neg p] at h
      have r := ck0 hs n h
      exact ⟨r.1, fun k a b => by
        by_cases e : k = n
        · rw [e]; exact p
        · exact r.2 k a (by omega)⟩
theorem ckA0 {P : Int → Int → Prop} : ∀ n : Nat, (ckA P n).1 = 0 → ∀ w k : Int, 0 ≤ w → w < n → 0 ≤ k → k < 16 → ¬ P w k
  | 0, _ => fun w k a b => by omega
  | n + 1, h => fun w k a b c e => by
    have r := ck0 (ckA_bd (P := P) n).1 16 h
    by_cases q : w = n
    · rw [q]; exact r.2 k c (by omega)
    · exact ckA0 n r.1 w k a (by omega) c e
theorem nwS0 {f : Int → Prop} {g : Int → Int} {T : Int → Prop} : ∀ n : Nat, (∀ k : Int, 0 ≤ k → k < n → ¬ f k) → nwS f g T n = (0, T)
  | 0, _ => rfl
  | n + 1, h => by
    unfold nwS
    rw [if_neg (h n (by omega) (by omega)), nwS0 n (fun k a b => h k a (by omega))]
theorem nwA0 {f : Int → Int → Prop} {g : Int → Int → Int} : ∀ n : Nat, (∀ w k : Int, 0 ≤ w → w < n → 0 ≤ k → k < 16 → ¬ f w k) → (nwA f g n).1 = 0
  | 0, _ => rfl
  | n + 1, h => by
    have r := nwA0 (f := f) (g := g) n (fun w k a b => h w k a (by omega))
    show (nwA f g n).1 + (nwS (f n) (g n) (nwA f g n).2 16).1 = 0
    rw [r, nwS0 16 (fun k a b => h n k (by omega) (by omega) a (by omega))]
    rfl
theorem ubF0 {U : Int → Int} : ∀ n : Nat, (∀ x : Int, 0 ≤ x → x < n → U x = 0) → ubF U n = (0, -1)
  | 0, _ => rfl
  | n + 1, h => by
    have r := ubF0 (U := U) n (fun x a b => h x a (by omega))
    unfold ubF
    rw [r, h n (by omega) (by omega)]
    rfl
theorem look0 {d : Int → Int} {f : Int → Int → Prop} {g : Int → Int → Int → Int} (h : (ckA f (d 122).toNat).1 = 0) : ubF (fun x => (nwA f (g x) (d 122).toNat).1) (d 121).toNat = (0, -1) :=
  ubF0 _ (fun x _ _ => nwA0 _ (ckA0 _ h))
theorem bits_cg {p q : Int → Prop} : ∀ n : Nat, (∀ k : Int, 0 ≤ k → k < n → (p k ↔ q k)) → bits n p = bits n q := fun n h => sm_congr n (fun k a b => by
  show bP (p k) * _ = bP (q k) * _
  rw [propext (h k a b)])
/-- an order there is -/
theorem RK_ex (z : Int → Int) : ∀ n : Nat, ∃ b, RK n z b
  | 0 => ⟨fun _ => 0, fun i a b => by omega, fun i a b => by omega, fun g => rfl, fun i a b => by omega⟩
  | n + 1 => by
    obtain ⟨b, hb⟩ := RK_ex z n
    have key : ∀ k : Nat, ∃ a : Int, 0 ≤ a ∧ a ≤ k ∧ (∀ i, a ≤ i → i < k → z (b i) < z n) ∧ (0 < a → z n ≤ z (b (a - 1))) := fun k => by
      induction k with
      | zero => exact ⟨0, Int.le_refl _, by omega, fun i p q => by omega, fun p => by omega⟩
      | succ k ih =>
        obtain ⟨a, a0, a1, a2, a3⟩ := ih
        by_cases q : z (b k) < z n
        · exact ⟨a, a0, by omega, fun i p r => by
            by_cases e : i = k
            · rw [e]; exact q
            · exact a2 i p (by omega), a3⟩
        · exact ⟨k + 1, by omega, by omega, fun i p r => by omega, fun _ => by
            rw [show (k : Int) + 1 - 1 = k by omega]
            omega⟩
    obtain ⟨a, a0, a1, a2, a3⟩ := key n
    exact ⟨ins b a n, by
      have := RK_ins (w := (n : Int)) hb a0 a1 a2 a3
      rw [show ((n + 1 : Nat) : Int) = (n : Int) + 1 by omega]
      exact this⟩

