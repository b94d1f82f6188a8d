/-! what a Stock is, to the number; its instance; a few words of the document -/
def SP (d : Int → Int) : Prop := ((0 ≤ d 121 ∧ d 121 ≤ 5) ∧ 0 ≤ d 122 ∧ d 122 ≤ 6) ∧ (∀ x, 0 ≤ x → x < 5 → (0 ≤ d x ∧ d x ≤ 20) ∧ 0 ≤ d (5 + x) ∧ d (5 + x) ≤ 20) ∧
  (∀ w, 0 ≤ w → w < 6 → (0 ≤ d (10 + w) ∧ d (10 + w) ≤ 9) ∧ (0 ≤ d (16 + w) ∧ d (16 + w) ≤ 15) ∧ 0 ≤ d (22 + w) ∧ d (22 + w) ≤ 20) ∧
  (∀ p, 0 ≤ p → p < 30 → (0 ≤ d (28 + p) ∧ d (28 + p) ≤ 3) ∧ (0 ≤ d (58 + p) ∧ d (58 + p) ≤ 3) ∧ 0 ≤ d (88 + p) ∧ d (88 + p) ≤ 60) ∧
  ((0 ≤ d 118 ∧ d 118 ≤ 61) ∧ (0 ≤ d 119 ∧ d 119 ≤ 90000) ∧ 0 ≤ d 120 ∧ d 120 ≤ 20) ∧ ∀ w, 0 ≤ w → w < d 122 → 1 ≤ d (10 + w)
theorem SP.B {d : Int → Int} (h : SP d) : SB d := by
  refine ⟨fun k k0 k1 => ?_, h.1.1.2, h.1.2.2⟩
  by_cases a1 : k < 5
  · have := h.2.1 k k0 a1; omega
  by_cases a2 : k < 10
  · have := h.2.1 (k - 5) (by omega) (by omega)
    rw [show 5 + (k - 5) = k by omega] at this
    omega
  by_cases a3 : k < 16
  · have := h.2.2.1 (k - 10) (by omega) (by omega)
    rw [show 10 + (k - 10) = k by omega] at this
    omega
  by_cases a4 : k < 22
  · have := h.2.2.1 (k - 16) (by omega) (by omega)
    rw [show 16 + (k - 16) = k by omega] at this
    omega
  by_cases a5 : k < 28
  · have := h.2.2.1 (k - 22) (by omega) (by omega)
    rw [show 22 + (k - 22) = k by omega] at this
    omega
  by_cases a6 : k < 58
  · have := h.2.2.2.1 (k - 28) (by omega) (by omega)
    rw [show 28 + (k - 28) = k by omega] at this
    omega
  by_cases a7 : k < 88
  · have := h.2.2.2.1 (k - 58) (by omega) (by omega)
    rw [show 58 + (k - 58) = k by omega] at this
    omega
  by_cases a8 : k < 118
  · have := h.2.2.2.1 (k - 88) (by omega) (by omega)
    rw [show 88 + (k - 88) = k by omega] at this
    omega
  have h5 := h.2.2.2.2.1
  have h1 := h.1
  have e : k = 118 ∨ k = 119 ∨ k = 120 ∨ k = 121 ∨ k = 122 := by omega
  rcases e with rfl | rfl | rfl | rfl | rfl <;> omega
theorem SP.h {d : Int → Int} (h : SP d) {x w : Int} (x0 : 0 ≤ x) (x1 : x < 5) (w0 : 0 ≤ w) (w1 : w < 6) : (0 ≤ d (28 + x * 6 + w) ∧ d (28 + x * 6 + w) ≤ 3) ∧ (0 ≤ d (58 + x * 6 + w) ∧ d (58 + x * 6 + w) ≤ 3) ∧ 0 ≤ d (88 + x * 6 + w) ∧ d (88 + x * 6 + w) ≤ 60 := by
  have := h.2.2.2.1 (x * 6 + w) (by omega) (by omega)
  rw [← Int.add_assoc, ← Int.add_assoc, ← Int.add_assoc] at this
  exact this
theorem SP.inA {d : Int → Int} (h : SP d) {x : Int} (x0 : 0 ≤ x) (x1 : x < 5) : 0 ≤ inAll d x ∧ inAll d x ≤ 18 :=
  sm_bd2 (q := 6) 3 h.1.2.1 (fun k a b => (h.h x0 x1 a (by have := h.1.2.2; omega)).1) (by decide) h.1.2.2
theorem SP.all {d : Int → Int} (h : SP d) {w : Int} (w0 : 0 ≤ w) (w1 : w < 6) : 0 ≤ allOf d w ∧ allOf d w ≤ 35 := by
  have h2 := sm_bd2 (f := fun x => d (28 + x * 6 + w)) (q := 5) 3 h.1.1.1 (fun k a b => (h.h a (by have := h.1.1.2; omega) w0 w1).1) (by decide) h.1.1.2
  have := h.2.2.1 w w0 w1
  unfold allOf
  omega
theorem SP.ne {d : Int → Int} (h : SP d) {x : Int} (x0 : 0 ≤ x) (x1 : x < 5) : 0 ≤ nee d x ∧ nee d x ≤ 18 := by
  have h1 := h.inA x0 x1
  have h2 := h.2.1 x x0 x1
  show 0 ≤ max 0 (inAll d x - d x) ∧ max 0 (inAll d x - d x) ≤ 18
  omega
theorem SP.off {d : Int → Int} (h : SP d) {x w : Int} (x0 : 0 ≤ x) (x1 : x < 5) (w0 : 0 ≤ w) (w1 : w < 6) : 0 ≤ offr d x w ∧ offr d x w ≤ d (28 + x * 6 + w) := by
  have := h.h x0 x1 w0 w1
  unfold offr
  split <;> omega
theorem SP.sr {d : Int → Int} (h : SP d) {w : Int} (w0 : 0 ≤ w) (w1 : w < 6) : 0 ≤ spr d w ∧ spr d w ≤ 35 := by
  have h1 := h.all w0 w1
  have h2 := h.2.2.1 w w0 w1
  show 0 ≤ max 0 (allOf d w - d (16 + w)) ∧ max 0 (allOf d w - d (16 + w)) ≤ 35
  omega
theorem SP.I {d : Int → Int} (h : SP d) : IB (insOf d) := by
  refine ⟨h.1.1, h.1.2, fun x w x0 x1 w0 w1 => ?_, fun w w0 w1 => ?_, fun x x0 x1 => ?_⟩
  · have e1 : x < d 121 := x1
    have e2 : w < d 122 := w1
    have a := h.1
    have b := h.off x0 (show x < 5 by omega) w0 (show w < 6 by omega)
    have c := h.h x0 (show x < 5 by omega) w0 (show w < 6 by omega)
    show 0 ≤ offr d x w ∧ offr d x w ≤ 3
    omega
  · have e2 : w < d 122 := w1
    have a := h.1
    have b := h.sr w0 (show w < 6 by omega)
    have c := h.2.2.1 w w0 (by omega)
    have f := h.2.2.2.2.2 w w0 e2
    show (0 ≤ spr d w ∧ spr d w ≤ 1000) ∧ 1 ≤ d (10 + w) ∧ d (10 + w) ≤ 9
    omega
  · have e1 : x < d 121 := x1
    have a := h.1
    have b := h.ne x0 (show x < 5 by omega)
    have c := h.2.1 x x0 (by omega)
    show (0 ≤ nee d x ∧ nee d x ≤ max (nee d x) (d (5 + x))) ∧ max (nee d x) (d (5 + x)) ≤ 100
    omega
theorem SP.yr {d : Int → Int} (h : SP d) {y : Int} (y0 : 0 ≤ y) (y1 : y ≤ 61) : SP (upd1 d 118 y) := by
  have z : ∀ k, k ≠ 118 → upd1 d 118 y k = d k := fun k hk => if_neg hk
  obtain ⟨a, b, c, e, f, g⟩ := h
  refine ⟨?_, fun x x0 x1 => ?_, fun w w0 w1 => ?_, fun p p0 p1 => ?_, ⟨?_, ?_⟩, fun w w0 w1 => ?_⟩
  · rw [z 121 (by decide), z 122 (by decide)]; exact a
  · rw [z x (by omega), z (5 + x) (by omega)]; exact b x x0 x1
  · rw [z _ (by omega), z _ (by omega), z _ (by omega)]; exact c w w0 w1
  · rw [z _ (by omega), z _ (by omega), z _ (by omega)]; exact e p p0 p1
  · exact ⟨by show 0 ≤ (if (118 : Int) = 118 then y else _); rw [if_pos rfl]; exact y0, by show (if (118 : Int) = 118 then y else _) ≤ 61; rw [if_pos rfl]; exact y1⟩
  · rw [z 119 (by decide), z 120 (by decide)]; exact f.2
  · rw [z 122 (by decide)] at w1
    rw [z _ (by omega)]
    exact g w w0 w1
/-- instances that agree where it counts -/
def IQ (I J : Ins) : Prop := I.1 = J.1 ∧ (∀ x w, 0 ≤ x → x < iL I → 0 ≤ w → w < iW I → iO I x w = iO J x w) ∧ (∀ w, 0 ≤ w → w < iW I → iS I w = iS J w ∧ iZ I w = iZ J w) ∧ ∀ x, 0 ≤ x → x < iL I → iN I x = iN J x ∧ iM I x = iM J x
theorem IQ.L {I J : Ins} (h : IQ I J) : iL I = iL J := congrArg Prod.fst h.1
theorem IQ.W {I J : Ins} (h : IQ I J) : iW I = iW J := congrArg Prod.snd h.1
theorem IQ.cw {I J : Ins} (h : IQ I J) (hL : 0 ≤ iL I ∧ iL I ≤ 5) {w t : Int} (w0 : 0 ≤ w) (w1 : w < iW I) (t0 : 0 ≤ t) (t1 : t < 2 ^ (iL I).toNat) : canw I w t = canw J w t := by
  unfold canw
  rw [(h.2.2.1 w w0 w1).1, ss_congr (f := fun x => iO I x w) (g := fun x => iO J x w) hL.1 hL.2 t0 t1 (fun x x0 x1 => h.2.1 x w x0 x1 w0 w1)]
theorem IQ.cI {I J : Ins} (h : IQ I J) (hL : 0 ≤ iL I ∧ iL I ≤ 5) {t : Int} (t0 : 0 ≤ t) (t1 : t < 2 ^ (iL I).toNat) : canI I t = canI J t := by
  unfold canI
  rw [← h.W]
  exact sm_congr _ (fun w w0 w1 => h.cw hL w0 (by omega) t0 t1)
theorem IQ.lk {I J : Ins} (h : IQ I J) (hL : 0 ≤ iL I ∧ iL I ≤ 5) {t : Int} (t0 : 0 ≤ t) (t1 : t < 2 ^ (iL I).toNat) : lackI I t = lackI J t := by
  unfold lackI
  rw [h.cI hL t0 t1, ss_congr hL.1 hL.2 t0 t1 (fun x x0 x1 => (h.2.2.2 x x0 x1).1)]
theorem IQ.pl {I J : Ins} (h : IQ I J) (hL : 0 ≤ iL I ∧ iL I ≤ 5) : planI I ↔ planI J := by
  unfold planI
  rw [← h.L]
  exact ⟨fun q t t0 t1 => by rw [← h.lk hL t0 t1]; exact q t t0 t1, fun q t t0 t1 => by rw [h.lk hL t0 t1]; exact q t t0 t1⟩
theorem IQ.mc {I J : Ins} (h : IQ I J) (hL : 0 ≤ iL I ∧ iL I ≤ 5) (s : Int) : MC I s = MC J s := by
  have hp := pw_le6 hL.1 hL.2
  have e : fullS I = fullS J := by unfold fullS; rw [h.L]
  have hf : fullS I = 2 ^ (iL I).toNat - 1 := rfl
  unfold MC
  rw [← e]
  refine mnn_congr (fun t t0 t1 => ?_)
  have t2 : t < 2 ^ (iL I).toNat := by omega
  unfold cutS lsum
  rw [← e, ← h.W, ss_congr (f := iM I) (g := iM J) hL.1 hL.2 t0 t2 (fun x x0 x1 => (h.2.2.2 x x0 x1).2), ss_congr (f := iM I) (g := iM J) hL.1 hL.2 (show 0 ≤ fullS I by omega) (by omega) (fun x x0 x1 => (h.2.2.2 x x0 x1).2)]
  congr 1
  exact sm_congr _ (fun w w0 w1 => by rw [(h.2.2.1 w w0 (by omega)).2, h.cw hL w0 (by omega) t0 t2])
theorem IQ.sp {I J : Ins} (h : IQ I J) (hL : 0 ≤ iL I ∧ iL I ≤ 5) : SPC I = SPC J := by
  by_cases q : planI I
  · rw [SPC_t q, SPC_t ((h.pl hL).mp q)]
    exact sm_congr 9 (fun s _ _ => h.mc hL _)
  · rw [SPC_f q, SPC_f (fun z => q ((h.pl hL).mpr z))]
theorem IQ.rf (I : Ins) : IQ I I := ⟨rfl, fun _ _ _ _ _ _ => rfl, fun _ _ _ => ⟨rfl, rfl⟩, fun _ _ _ => ⟨rfl, rfl⟩⟩
theorem IQ.sy {I J : Ins} (h : IQ I J) : IQ J I :=
  ⟨h.1.symm, fun x w a b c e => (h.2.1 x w a (by rw [h.L]; exact b) c (by rw [h.W]; exact e)).symm, fun w a b => ⟨(h.2.2.1 w a (by rw [h.W]; exact b)).1.symm, (h.2.2.1 w a (by rw [h.W]; exact b)).2.symm⟩, fun x a b => ⟨(h.2.2.2 x a (by rw [h.L]; exact b)).1.symm, (h.2.2.2 x a (by rw [h.L]; exact b)).2.symm⟩⟩
/-- the first that fails, at most b -/
def FF (P : Int → Prop) (b v : Int) : Prop := 0 ≤ v ∧ v ≤ b ∧ (∀ m, 1 ≤ m → m ≤ v → P m) ∧ (v < b → ¬ P (v + 1))
/-- how many, and the first, row by row -/
noncomputable def cr (P : Int → Int → Prop) (x : Int) : Nat → Int × Int → Int × Int
  | 0, s => s
  | w + 1, s => @ite (Int × Int) (P x w) (Classical.propDecidable _) ((cr P x w s).1 + 1, if (cr P x w s).1 = 0 then 10 * x + w else (cr P x w s).2) (cr P x w s)
noncomputable def ca (P : Int → Int → Prop) (W : Int) : Nat → Int × Int
  | 0 => (0, -1)
  | x + 1 => cr P x W.toNat (ca P W x)
theorem cr_t {P : Int → Int → Prop} {x w j : Int} {s : Int × Int} (h : 0 ≤ w) (hj : j = w + 1) (p : P x w) : cr P x j.toNat s = ((cr P x w.toNat s).1 + 1, if (cr P x w.toNat s).1 = 0 then 10 * x + w else (cr P x w.toNat s).2) := by
  subst hj
  rw [show (w + 1).toNat = w.toNat + 1 by omega, cr, Int.toNat_of_nonneg h, if_pos p]
theorem cr_f {P : Int → Int → Prop} {x w j : Int} {s : Int × Int} (h : 0 ≤ w) (hj : j = w + 1) (p : ¬ P x w) : cr P x j.toNat s = cr P x w.toNat s := by
  subst hj
  rw [show (w + 1).toNat = w.toNat + 1 by omega, cr, Int.toNat_of_nonneg h, if_neg p]
theorem ca_s {P : Int → Int → Prop} {W x j : Int} (h : 0 ≤ x) (hj : j = x + 1) : ca P W j.toNat = cr P x W.toNat (ca P W x.toNat) := by
  subst hj
  rw [show (x + 1).toNat = x.toNat + 1 by omega, ca, Int.toNat_of_nonneg h]
def planY (d : Int → Int) (y : Int) : Prop := planI (insOf (upd1 d 118 y))
/-- LATE -/
def LateV (d : Int → Int) (v : Int) : Prop := (v = -1 ∧ ∀ y, d 118 ≤ y → y ≤ 61 → ¬ planY d y) ∨ (d 118 ≤ v ∧ v ≤ 61 ∧ planY d v ∧ ∀ y, d 118 ≤ y → y < v → ¬ planY d y)
/-- a PROMISE that counts is in the way -/
def itwP (d : Int → Int) (x w : Int) : Prop := (0 < d (58 + x * 6 + w) ∧ d 118 ≤ d (88 + x * 6 + w)) ∧ SPC (insOf d) < SPC (setO (insOf d) x w (d (28 + x * 6 + w)))
theorem setS_S (I : Ins) (w a b : Int) : setS (setS I w a) w b = setS I w b := by
  have e : up (up (iS I) w a) w b = up (iS I) w b := funext (fun v => by
    unfold up
    split <;> rfl)
  show (I.1, iO I, up (up (iS I) w a) w b, iN I, iM I, iZ I) = (I.1, iO I, up (iS I) w b, iN I, iM I, iZ I)
  rw [e]
theorem up_up (f : Int → Int) (k a b : Int) : up (up f k a) k b = up f k b := funext (fun v => by
  unfold up
  split <;> rfl)
theorem setNM_S (I : Ins) (x a b a' b' : Int) : setNM (setNM I x a b) x a' b' = setNM I x a' b' := by
  show (I.1, iO I, iS I, up (up (iN I) x a) x a', up (up (iM I) x b) x b', iZ I) = (I.1, iO I, iS I, up (iN I) x a', up (iM I) x b', iZ I)
  rw [up_up, up_up]
theorem setO_S (I : Ins) (x w a : Int) : setO (setO I x w a) x w (iO I x w) = I := by
  have e : (fun p q => if p = x ∧ q = w then iO I x w else iO (setO I x w a) p q) = iO I := funext (fun p => funext (fun q => by
    by_cases h : p = x ∧ q = w
    · rw [if_pos h, h.1, h.2]
    · rw [if_neg h]
      exact if_neg h))
  show (I.1, (fun p q => if p = x ∧ q = w then iO I x w else iO (setO I x w a) p q), iS I, iN I, iM I, iZ I) = I
  rw [e]
  rfl
theorem yr_IQ {d : Int → Int} (h : SP d) {y : Int} (hp : ∀ p, 0 ≤ p → p < 30 → 0 < d (58 + p) → ¬ d (88 + p) = y - 1) : IQ (insOf (upd1 d 118 y)) (insOf (upd1 d 118 (y - 1))) := by
  have z : ∀ u k, k ≠ 118 → upd1 d 118 u k = d k := fun u k hk => if_neg hk
  have z2 : ∀ u, upd1 d 118 u 118 = u := fun u => if_pos rfl
  have hs : ∀ u w, 0 ≤ w → w < 6 → spr (upd1 d 118 u) w = spr d w := fun u w w0 w1 => by
    unfold spr allOf
    rw [z u 121 (by decide), z u (22 + w) (by omega), z u (16 + w) (by omega)]
    congr 2
    congr 1
    exact sm_congr _ (fun x x0 x1 => z u _ (by have := h.1; omega))
  have hn : ∀ u x, 0 ≤ x → x < 5 → nee (upd1 d 118 u) x = nee d x := fun u x x0 x1 => by
    unfold nee inAll
    rw [z u 122 (by decide), z u x (by omega)]
    congr 2
    exact sm_congr _ (fun w w0 w1 => z u _ (by have := h.1; omega))
  refine ⟨?_, fun x w x0 x1 w0 w1 => ?_, fun w w0 w1 => ?_, fun x x0 x1 => ?_⟩
  · show (upd1 d 118 y 121, upd1 d 118 y 122) = (upd1 d 118 (y - 1) 121, upd1 d 118 (y - 1) 122)
    rw [z _ 121 (by decide), z _ 122 (by decide), z _ 121 (by decide), z _ 122 (by decide)]
  · have x1 : x < upd1 d 118 y 121 := x1
    have w1 : w < upd1 d 118 y 122 := w1
    rw [z _ 121 (by decide)] at x1
    rw [z _ 122 (by decide)] at w1
    have hL := h.1
    have h1 := hp (x * 6 + w) (by omega) (by omega)
    rw [← Int.add_assoc, ← Int.add_assoc] at h1
    show offr _ x w = offr _ x w
    unfold offr
    rw [z2, z2, z y (28 + x * 6 + w) (by omega), z y (58 + x * 6 + w) (by omega), z y (88 + x * 6 + w) (by omega), z (y - 1) (28 + x * 6 + w) (by omega), z (y - 1) (58 + x * 6 + w) (by omega), z (y - 1) (88 + x * 6 + w) (by omega)]
    by_cases a : 0 < d (58 + x * 6 + w)
    · have b := h1 a
      by_cases q : y ≤ d (88 + x * 6 + w)
      · rw [if_pos ⟨a, q⟩, if_pos ⟨a, by omega⟩]
      · rw [if_neg (fun e => q e.2), if_neg (fun e => by omega)]
    · rw [if_neg (fun e => a e.1), if_neg (fun e => a e.1)]
  · have w1 : w < upd1 d 118 y 122 := w1
    rw [z _ 122 (by decide)] at w1
    have hL := h.1
    refine ⟨?_, ?_⟩
    · show spr _ w = spr _ w
      rw [hs y w w0 (by omega), hs (y - 1) w w0 (by omega)]
    · show upd1 d 118 y (10 + w) = upd1 d 118 (y - 1) (10 + w)
      rw [z _ _ (by omega), z _ _ (by omega)]
  · have x1 : x < upd1 d 118 y 121 := x1
    rw [z _ 121 (by decide)] at x1
    have hL := h.1
    refine ⟨?_, ?_⟩
    · show nee _ x = nee _ x
      rw [hn y x x0 (by omega), hn (y - 1) x x0 (by omega)]
    · show max (nee _ x) (upd1 d 118 y (5 + x)) = max (nee _ x) (upd1 d 118 (y - 1) (5 + x))
      rw [hn y x x0 (by omega), hn (y - 1) x x0 (by omega), z _ _ (by omega), z _ _ (by omega)]

theorem dX4_apart_0 : decode cX4_apart 0 = .ok (.aload_n 0, 1) := by decide +kernel
theorem dX4_apart_1 : decode cX4_apart 1 = .ok (.getfield 9, 3) := by decide +kernel
theorem dX4_apart_4 : decode cX4_apart 4 = .ok (.aload_n 1, 1) := by decide +kernel
theorem dX4_apart_5 : decode cX4_apart 5 = .ok (.invokevirtual 34, 3) := by decide +kernel
theorem dX4_apart_8 : decode cX4_apart 8 = .ok (.aload_n 0, 1) := by decide +kernel
theorem dX4_apart_9 : decode cX4_apart 9 = .ok (.getfield 9, 3) := by decide +kernel
theorem dX4_apart_12 : decode cX4_apart 12 = .ok (.iload_n 2, 1) := by decide +kernel
theorem dX4_apart_13 : decode cX4_apart 13 = .ok (.iconst 0, 1) := by decide +kernel
theorem dX4_apart_14 : decode cX4_apart 14 = .ok (.iconst 0, 1) := by decide +kernel
theorem dX4_apart_15 : decode cX4_apart 15 = .ok (.invokevirtual 104, 3) := by decide +kernel
theorem dX4_apart_18 : decode cX4_apart 18 = .ok (.aload_n 0, 1) := by decide +kernel
theorem dX4_apart_19 : decode cX4_apart 19 = .ok (.getfield 9, 3) := by decide +kernel
theorem dX4_apart_22 : decode cX4_apart 22 = .ok (.iconst 0, 1) := by decide +kernel
theorem dX4_apart_23 : decode cX4_apart 23 = .ok (.invokevirtual 50, 3) := by decide +kernel
theorem dX4_apart_26 : decode cX4_apart 26 = .ok (.ireturn, 1) := by decide +kernel
set_option maxHeartbeats 400000 in
theorem c4_apart {G : Gl} {l : Launch}  {M : Mem} {d : Int → Int} {x : Int} (hG : GR M) (hD : M 4 = d) (hSP : SP d) (hx0 : 0 ≤ x) (hx1 : x < d 121) : Ct G LY 57 l 3 m4_apart [vR 38, vR 3, vI x] M (RP (fun v M' => Fr [25, 26, 27, 28, 29, 30, 31, 32, 33, 34, 35] [(24, 11), (24, 12), (24, 13)] M M' ∧ v = SPC (setNM (insOf d) x 0 0))) := by
  refine R_start (by decide +kernel) (Nat.le_of_ble_eq_true rfl) (fun C hC hRm hlau => ?_)
  show RZ G LY C (Zn G LY 57 C (RP (fun v M' => Fr [25, 26, 27, 28, 29, 30, 31, 32, 33, 34, 35] [(24, 11), (24, 12), (24, 13)] M M' ∧ v = SPC (setNM (insOf d) x 0 0)))) 0 0 57 0 [some (vR 38), some (vR 3), some (vI x)] [] M
  have hLd := hSP.1.1
  have hWd := hSP.1.2
  refine R_aload_0 hC dX4_apart_0 ?_
  refine R_getR hC dX4_apart_1 fl_4_9 (by decide) rfl (by decide) (by decide) (fi := 0) rfl (r := 24) (gr_38_0 hG) ?_
  refine R_aload_1 hC dX4_apart_4 ?_
  refine R_callVv (as := [vR _]) hC dX4_apart_5 mo_6_load ml_4_34 (by decide) rfl rfl (c6_load  hG sh_3 hD hSP.B) rfl rfl hRm (by decide) (by decide) (Nat.le_of_ble_eq_true rfl) (fun Mc1 hq2 => ?_)
  have hSC3 := hq2.2
  refine R_aload_0 hC dX4_apart_8 ?_
  have hG4 : GR Mc1 := (GR.fr hG hq2.1 (by decide +kernel))
  refine R_getR hC dX4_apart_9 fl_4_9 (by decide) rfl (by decide) (by decide) (fi := 0) rfl (r := 24) (gr_38_0 hG4) ?_
  refine R_iload_2 hC dX4_apart_12 ?_
  refine R_iconst hC dX4_apart_13 ⟨by decide, by decide⟩ ?_
  refine R_iconst hC dX4_apart_14 ⟨by decide, by decide⟩ ?_
  refine R_callVv (as := [vI _, vI _, vI _]) hC dX4_apart_15 mo_6_setLibrary ml_4_104 (by decide) rfl rfl (c6_setLibrary  hG4 hSC3 (SP.I hSP) (by omega) (show x < d 121 by omega) (by omega) (by omega) (by omega) (by omega)) rfl rfl hRm (by decide) (by decide) (Nat.le_of_ble_eq_true rfl) (fun Mc5 hq6 => ?_)
  have hSC7 := hq6.2
  refine R_aload_0 hC dX4_apart_18 ?_
  have hG8 : GR Mc5 := (GR.fr hG4 hq6.1 (by decide +kernel))
  refine R_getR hC dX4_apart_19 fl_4_9 (by decide) rfl (by decide) (by decide) (fi := 0) rfl (r := 24) (gr_38_0 hG8) ?_
  refine R_iconst hC dX4_apart_22 ⟨by decide, by decide⟩ ?_
  refine R_callVp (as := [vI _]) hC dX4_apart_23 mo_6_space ml_4_50 (by decide) rfl rfl (c6_space  hG8 hSC7 ((SP.I hSP).setNM (by decide) (by decide) (by decide)) (by omega) (show 0 ≤ d 121 by omega) (fun y a b => by omega)) rfl rfl hRm (by decide) (by decide) (Nat.le_of_ble_eq_true rfl) (fun v11 Mc9 hq10 => ?_)
  have hSC12 := SC.fr hSC7 hq10.1 (by decide) (by decide)
  exact R_ireturn hC dX4_apart_26 rfl (ret_P ⟨Fr.tt (Fr.tt (hq2.1.mo (by decide) (by decide)) (hq6.1.mo (by decide) (by decide))) (hq10.1.mo (by decide) (by decide)), hq10.2.1⟩)
theorem dX4_priceOfWork_0 : decode cX4_priceOfWork 0 = .ok (.aload_n 0, 1) := by decide +kernel
theorem dX4_priceOfWork_1 : decode cX4_priceOfWork 1 = .ok (.getfield 9, 3) := by decide +kernel
theorem dX4_priceOfWork_4 : decode cX4_priceOfWork 4 = .ok (.aload_n 1, 1) := by decide +kernel
theorem dX4_priceOfWork_5 : decode cX4_priceOfWork 5 = .ok (.invokevirtual 34, 3) := by decide +kernel
theorem dX4_priceOfWork_8 : decode cX4_priceOfWork 8 = .ok (.aload_n 0, 1) := by decide +kernel
theorem dX4_priceOfWork_9 : decode cX4_priceOfWork 9 = .ok (.getfield 9, 3) := by decide +kernel
theorem dX4_priceOfWork_12 : decode cX4_priceOfWork 12 = .ok (.iconst 0, 1) := by decide +kernel
theorem dX4_priceOfWork_13 : decode cX4_priceOfWork 13 = .ok (.invokevirtual 50, 3) := by decide +kernel
theorem dX4_priceOfWork_16 : decode cX4_priceOfWork 16 = .ok (.istore_n 3, 1) := by decide +kernel
theorem dX4_priceOfWork_17 : decode cX4_priceOfWork 17 = .ok (.iload_n 3, 1) := by decide +kernel
theorem dX4_priceOfWork_18 : decode cX4_priceOfWork 18 = .ok (.iconst (-1), 1) := by decide +kernel
theorem dX4_priceOfWork_19 : decode cX4_priceOfWork 19 = .ok (.if_icmp .eq 11, 3) := by decide +kernel
theorem dX4_priceOfWork_22 : decode cX4_priceOfWork 22 = .ok (.aload_n 1, 1) := by decide +kernel
theorem dX4_priceOfWork_23 : decode cX4_priceOfWork 23 = .ok (.iload_n 2, 1) := by decide +kernel
theorem dX4_priceOfWork_24 : decode cX4_priceOfWork 24 = .ok (.invokevirtual 83, 3) := by decide +kernel
theorem dX4_priceOfWork_27 : decode cX4_priceOfWork 27 = .ok (.ifCond .ne 5, 3) := by decide +kernel
theorem dX4_priceOfWork_30 : decode cX4_priceOfWork 30 = .ok (.iconst (-1), 1) := by decide +kernel
theorem dX4_priceOfWork_31 : decode cX4_priceOfWork 31 = .ok (.ireturn, 1) := by decide +kernel
theorem dX4_priceOfWork_32 : decode cX4_priceOfWork 32 = .ok (.aload_n 0, 1) := by decide +kernel
theorem dX4_priceOfWork_33 : decode cX4_priceOfWork 33 = .ok (.getfield 9, 3) := by decide +kernel
theorem dX4_priceOfWork_36 : decode cX4_priceOfWork 36 = .ok (.iload_n 2, 1) := by decide +kernel
theorem dX4_priceOfWork_37 : decode cX4_priceOfWork 37 = .ok (.aload_n 1, 1) := by decide +kernel
theorem dX4_priceOfWork_38 : decode cX4_priceOfWork 38 = .ok (.iload_n 2, 1) := by decide +kernel
theorem dX4_priceOfWork_39 : decode cX4_priceOfWork 39 = .ok (.invokevirtual 80, 3) := by decide +kernel
theorem dX4_priceOfWork_42 : decode cX4_priceOfWork 42 = .ok (.aload_n 1, 1) := by decide +kernel
theorem dX4_priceOfWork_43 : decode cX4_priceOfWork 43 = .ok (.iload_n 2, 1) := by decide +kernel
theorem dX4_priceOfWork_44 : decode cX4_priceOfWork 44 = .ok (.invokevirtual 83, 3) := by decide +kernel
theorem dX4_priceOfWork_47 : decode cX4_priceOfWork 47 = .ok (.isub, 1) := by decide +kernel
theorem dX4_priceOfWork_48 : decode cX4_priceOfWork 48 = .ok (.iconst 1, 1) := by decide +kernel
theorem dX4_priceOfWork_49 : decode cX4_priceOfWork 49 = .ok (.iadd, 1) := by decide +kernel
theorem dX4_priceOfWork_50 : decode cX4_priceOfWork 50 = .ok (.invokevirtual 86, 3) := by decide +kernel
theorem dX4_priceOfWork_53 : decode cX4_priceOfWork 53 = .ok (.aload_n 0, 1) := by decide +kernel
theorem dX4_priceOfWork_54 : decode cX4_priceOfWork 54 = .ok (.getfield 9, 3) := by decide +kernel
theorem dX4_priceOfWork_57 : decode cX4_priceOfWork 57 = .ok (.iconst 0, 1) := by decide +kernel
theorem dX4_priceOfWork_58 : decode cX4_priceOfWork 58 = .ok (.invokevirtual 50, 3) := by decide +kernel
theorem dX4_priceOfWork_61 : decode cX4_priceOfWork 61 = .ok (.iload_n 3, 1) := by decide +kernel
theorem dX4_priceOfWork_62 : decode cX4_priceOfWork 62 = .ok (.isub, 1) := by decide +kernel
theorem dX4_priceOfWork_63 : decode cX4_priceOfWork 63 = .ok (.ireturn, 1) := by decide +kernel
set_option maxHeartbeats 1000000 in
theorem c4_priceOfWork {G : Gl} {l : Launch}  {M : Mem} {d : Int → Int} {w : Int} (hG : GR M) (hD : M 4 = d) (hSP : SP d) (hw0 : 0 ≤ w) (hw1 : w < d 122) : Ct G LY 57 l 3 m4_priceOfWork [vR 38, vR 3, vI w] M (RP (fun v M' => Fr [25, 26, 27, 28, 29, 30, 31, 32, 33, 34, 35] [(24, 11), (24, 12), (24, 13)] M M' ∧ v = if SPC (insOf d) = -1 ∨ d (16 + w) = 0 then -1 else SPC (setS (insOf d) w (max 0 (allOf d w - d (16 + w) + 1))) - SPC (insOf d))) := by
  refine R_start (by decide +kernel) (Nat.le_of_ble_eq_true rfl) (fun C hC hRm hlau => ?_)
  show RZ G LY C (Zn G LY 57 C (RP (fun v M' => Fr [25, 26, 27, 28, 29, 30, 31, 32, 33, 34, 35] [(24, 11), (24, 12), (24, 13)] M M' ∧ v = if SPC (insOf d) = -1 ∨ d (16 + w) = 0 then -1 else SPC (setS (insOf d) w (max 0 (allOf d w - d (16 + w) + 1))) - SPC (insOf d)))) 0 0 57 0 [some (vR 38), some (vR 3), some (vI w), none] [] M
  have hLd := hSP.1.1
  have hWd := hSP.1.2
  have bk := (hSP.2.2.1 w hw0 (by omega)).2.1
  have ba := hSP.all hw0 (show w < 6 by omega)
  have bI := SPC_bd (SP.I hSP)
  refine R_aload_0 hC dX4_priceOfWork_0 ?_
  refine R_getR hC dX4_priceOfWork_1 fl_4_9 (by decide) rfl (by decide) (by decide) (fi := 0) rfl (r := 24) (gr_38_0 hG) ?_
  refine R_aload_1 hC dX4_priceOfWork_4 ?_
  refine R_callVv (as := [vR _]) hC dX4_priceOfWork_5 mo_6_load ml_4_34 (by decide) rfl rfl (c6_load  hG sh_3 hD hSP.B) rfl rfl hRm (by decide) (by decide) (Nat.le_of_ble_eq_true rfl) (fun Mc1 hq2 => ?_)
  have hSC3 := hq2.2
  refine R_aload_0 hC dX4_priceOfWork_8 ?_
  have hG4 : GR Mc1 := (GR.fr hG hq2.1 (by decide +kernel))
  refine R_getR hC dX4_priceOfWork_9 fl_4_9 (by decide) rfl (by decide) (by decide) (fi := 0) rfl (r := 24) (gr_38_0 hG4) ?_
  refine R_iconst hC dX4_priceOfWork_12 ⟨by decide, by decide⟩ ?_
  refine R_callVp (as := [vI _]) hC dX4_priceOfWork_13 mo_6_space ml_4_50 (by decide) rfl rfl (c6_space  hG4 hSC3 (SP.I hSP) (by omega) (show 0 ≤ d 121 by omega) (fun y a b => by omega)) rfl rfl hRm (by decide) (by decide) (Nat.le_of_ble_eq_true rfl) (fun v7 Mc5 hq6 => ?_)
  have hSC8 := SC.fr hSC3 hq6.1 (by decide) (by decide)
  rw [hq6.2.1]
  refine R_istore_3 hC dX4_priceOfWork_16 rfl ?_
  refine R_iload_3 hC dX4_priceOfWork_17 ?_
  refine R_iconst hC dX4_priceOfWork_18 ⟨by decide, by decide⟩ ?_
  refine R_icmp_eq hC dX4_priceOfWork_19 (tgt := 30) (by decide) (fun hb19 => ?_) (fun hb19 => ?_)
  · skip
    refine R_iconst hC dX4_priceOfWork_30 ⟨by decide, by decide⟩ ?_
    exact R_ireturn hC dX4_priceOfWork_31 rfl (ret_P ⟨Fr.tt (hq2.1.mo (by decide) (by decide)) (hq6.1.mo (by decide) (by decide)), by rw [if_pos (by omega)]⟩)
  · skip
    refine R_aload_1 hC dX4_priceOfWork_22 ?_
    refine R_iload_2 hC dX4_priceOfWork_23 ?_
    have hr9 : Mc5 4 = d := ((hq6.1.row (by decide) (by decide)).trans ((hq2.1.row (by decide) (by decide)).trans hD))
    have hG10 : GR Mc5 := (GR.fr hG4 hq6.1 (by decide +kernel))
    refine R_callVq (as := [vI _]) hC dX4_priceOfWork_24 mo_8_keepOf ml_4_83 (by decide) rfl rfl (c8_keepOf_d  hr9 hG10 sh_3 (by omega) (by omega)) rfl rfl hRm (by decide) (by decide) (Nat.le_of_ble_eq_true rfl) ?_
    refine R_if_ne hC dX4_priceOfWork_27 (tgt := 32) (by decide) (fun hb27 => ?_) (fun hb27 => ?_)
    · skip
      refine R_aload_0 hC dX4_priceOfWork_32 ?_
      refine R_getR hC dX4_priceOfWork_33 fl_4_9 (by decide) rfl (by decide) (by decide) (fi := 0) rfl (r := 24) (gr_38_0 hG10) ?_
      refine R_iload_2 hC dX4_priceOfWork_36 ?_
      refine R_aload_1 hC dX4_priceOfWork_37 ?_
      refine R_iload_2 hC dX4_priceOfWork_38 ?_
      refine R_callVq (as := [vI _]) hC dX4_priceOfWork_39 mo_8_copiesOf ml_4_80 (by decide) rfl rfl (c8_copiesOf_d  hr9 hG10 sh_3 hSP.B (by omega) (by omega)) rfl rfl hRm (by decide) (by decide) (Nat.le_of_ble_eq_true rfl) ?_
      have e39_11 := allOf_bd (w := w) hSP.B (by omega) (by omega)
      refine R_aload_1 hC dX4_priceOfWork_42 ?_
      refine R_iload_2 hC dX4_priceOfWork_43 ?_
      refine R_callVq (as := [vI _]) hC dX4_priceOfWork_44 mo_8_keepOf ml_4_83 (by decide) rfl rfl (c8_keepOf_d  hr9 hG10 sh_3 (by omega) (by omega)) rfl rfl hRm (by decide) (by decide) (Nat.le_of_ble_eq_true rfl) ?_
      refine R_isub hC dX4_priceOfWork_47 ⟨by omega, by omega⟩ ?_
      refine R_iconst hC dX4_priceOfWork_48 ⟨by decide, by decide⟩ ?_
      refine R_iadd hC dX4_priceOfWork_49 ⟨by omega, by omega⟩ ?_
      refine R_callVv (as := [vI _, vI _]) hC dX4_priceOfWork_50 mo_6_setSpare ml_4_86 (by decide) rfl rfl (c6_setSpare  hG10 (hSC8.w _) (SP.I hSP) (by omega) (show w < d 122 by omega) (by omega)) rfl rfl hRm (by decide) (by decide) (Nat.le_of_ble_eq_true rfl) (fun Mc12 hq13 => ?_)
      have hSC14 := hq13.2
      have hI2 : IB (setS (insOf d) w (max 0 (allOf d w - d (16 + w) + 1))) := (SP.I hSP).setS (by omega) (by omega)
      have bI2 := SPC_bd hI2
      refine R_aload_0 hC dX4_priceOfWork_53 ?_
      have hG15 : GR Mc12 := (GR.fr hG10 hq13.1 (by decide +kernel))
      refine R_getR hC dX4_priceOfWork_54 fl_4_9 (by decide) rfl (by decide) (by decide) (fi := 0) rfl (r := 24) (gr_38_0 hG15) ?_
      refine R_iconst hC dX4_priceOfWork_57 ⟨by decide, by decide⟩ ?_
      refine R_callVp (as := [vI _]) hC dX4_priceOfWork_58 mo_6_space ml_4_50 (by decide) rfl rfl (c6_space  hG15 hSC14 hI2 (by omega) (show 0 ≤ d 121 by omega) (fun y a b => by omega)) rfl rfl hRm (by decide) (by decide) (Nat.le_of_ble_eq_true rfl) (fun v18 Mc16 hq17 => ?_)
      have hSC19 := SC.fr hSC14 hq17.1 (by decide) (by decide)
      refine R_iload_3 hC dX4_priceOfWork_61 ?_
      have q62 := hq17.2.1
      refine R_isub hC dX4_priceOfWork_62 ⟨by omega, by omega⟩ ?_
      exact R_ireturn hC dX4_priceOfWork_63 rfl (ret_P ⟨Fr.tt (Fr.tt (Fr.tt (hq2.1.mo (by decide) (by decide)) (hq6.1.mo (by decide) (by decide))) (hq13.1.mo (by decide) (by decide))) (hq17.1.mo (by decide) (by decide)), by rw [if_neg (by omega), hq17.2.1]⟩)
    · skip
      refine R_iconst hC dX4_priceOfWork_30 ⟨by decide, by decide⟩ ?_
      exact R_ireturn hC dX4_priceOfWork_31 rfl (ret_P ⟨Fr.tt (hq2.1.mo (by decide) (by decide)) (hq6.1.mo (by decide) (by decide)), by rw [if_pos (by omega)]⟩)
theorem dX4_priceOfLibrary_0 : decode cX4_priceOfLibrary 0 = .ok (.aload_n 0, 1) := by decide +kernel
theorem dX4_priceOfLibrary_1 : decode cX4_priceOfLibrary 1 = .ok (.getfield 9, 3) := by decide +kernel
theorem dX4_priceOfLibrary_4 : decode cX4_priceOfLibrary 4 = .ok (.aload_n 1, 1) := by decide +kernel
theorem dX4_priceOfLibrary_5 : decode cX4_priceOfLibrary 5 = .ok (.invokevirtual 34, 3) := by decide +kernel
theorem dX4_priceOfLibrary_8 : decode cX4_priceOfLibrary 8 = .ok (.aload_n 0, 1) := by decide +kernel
theorem dX4_priceOfLibrary_9 : decode cX4_priceOfLibrary 9 = .ok (.getfield 9, 3) := by decide +kernel
theorem dX4_priceOfLibrary_12 : decode cX4_priceOfLibrary 12 = .ok (.iconst 0, 1) := by decide +kernel
theorem dX4_priceOfLibrary_13 : decode cX4_priceOfLibrary 13 = .ok (.invokevirtual 50, 3) := by decide +kernel
theorem dX4_priceOfLibrary_16 : decode cX4_priceOfLibrary 16 = .ok (.istore_n 3, 1) := by decide +kernel
theorem dX4_priceOfLibrary_17 : decode cX4_priceOfLibrary 17 = .ok (.iload_n 3, 1) := by decide +kernel
theorem dX4_priceOfLibrary_18 : decode cX4_priceOfLibrary 18 = .ok (.iconst (-1), 1) := by decide +kernel
theorem dX4_priceOfLibrary_19 : decode cX4_priceOfLibrary 19 = .ok (.if_icmp .ne 5, 3) := by decide +kernel
theorem dX4_priceOfLibrary_22 : decode cX4_priceOfLibrary 22 = .ok (.iconst (-1), 1) := by decide +kernel
theorem dX4_priceOfLibrary_23 : decode cX4_priceOfLibrary 23 = .ok (.ireturn, 1) := by decide +kernel
theorem dX4_priceOfLibrary_24 : decode cX4_priceOfLibrary 24 = .ok (.bipush 20, 2) := by decide +kernel
theorem dX4_priceOfLibrary_26 : decode cX4_priceOfLibrary 26 = .ok (.aload_n 1, 1) := by decide +kernel
theorem dX4_priceOfLibrary_27 : decode cX4_priceOfLibrary 27 = .ok (.iload_n 2, 1) := by decide +kernel
theorem dX4_priceOfLibrary_28 : decode cX4_priceOfLibrary 28 = .ok (.invokevirtual 101, 3) := by decide +kernel
theorem dX4_priceOfLibrary_31 : decode cX4_priceOfLibrary 31 = .ok (.iconst 1, 1) := by decide +kernel
theorem dX4_priceOfLibrary_32 : decode cX4_priceOfLibrary 32 = .ok (.iadd, 1) := by decide +kernel
theorem dX4_priceOfLibrary_33 : decode cX4_priceOfLibrary 33 = .ok (.invokestatic 107, 3) := by decide +kernel
theorem dX4_priceOfLibrary_36 : decode cX4_priceOfLibrary 36 = .ok (.istore 4, 2) := by decide +kernel
theorem dX4_priceOfLibrary_38 : decode cX4_priceOfLibrary 38 = .ok (.aload_n 1, 1) := by decide +kernel
theorem dX4_priceOfLibrary_39 : decode cX4_priceOfLibrary 39 = .ok (.iload_n 2, 1) := by decide +kernel
theorem dX4_priceOfLibrary_40 : decode cX4_priceOfLibrary 40 = .ok (.invokevirtual 110, 3) := by decide +kernel
theorem dX4_priceOfLibrary_43 : decode cX4_priceOfLibrary 43 = .ok (.istore 5, 2) := by decide +kernel
theorem dX4_priceOfLibrary_45 : decode cX4_priceOfLibrary 45 = .ok (.aload_n 0, 1) := by decide +kernel
theorem dX4_priceOfLibrary_46 : decode cX4_priceOfLibrary 46 = .ok (.getfield 9, 3) := by decide +kernel
theorem dX4_priceOfLibrary_49 : decode cX4_priceOfLibrary 49 = .ok (.iload_n 2, 1) := by decide +kernel
theorem dX4_priceOfLibrary_50 : decode cX4_priceOfLibrary 50 = .ok (.iload 5, 2) := by decide +kernel
theorem dX4_priceOfLibrary_52 : decode cX4_priceOfLibrary 52 = .ok (.iload 5, 2) := by decide +kernel
theorem dX4_priceOfLibrary_54 : decode cX4_priceOfLibrary 54 = .ok (.iload 4, 2) := by decide +kernel
theorem dX4_priceOfLibrary_56 : decode cX4_priceOfLibrary 56 = .ok (.invokestatic 96, 3) := by decide +kernel
theorem dX4_priceOfLibrary_59 : decode cX4_priceOfLibrary 59 = .ok (.invokevirtual 104, 3) := by decide +kernel
theorem dX4_priceOfLibrary_62 : decode cX4_priceOfLibrary 62 = .ok (.aload_n 0, 1) := by decide +kernel
theorem dX4_priceOfLibrary_63 : decode cX4_priceOfLibrary 63 = .ok (.getfield 9, 3) := by decide +kernel
theorem dX4_priceOfLibrary_66 : decode cX4_priceOfLibrary 66 = .ok (.iconst 0, 1) := by decide +kernel
theorem dX4_priceOfLibrary_67 : decode cX4_priceOfLibrary 67 = .ok (.invokevirtual 50, 3) := by decide +kernel
theorem dX4_priceOfLibrary_70 : decode cX4_priceOfLibrary 70 = .ok (.iload_n 3, 1) := by decide +kernel
theorem dX4_priceOfLibrary_71 : decode cX4_priceOfLibrary 71 = .ok (.isub, 1) := by decide +kernel
theorem dX4_priceOfLibrary_72 : decode cX4_priceOfLibrary 72 = .ok (.ireturn, 1) := by decide +kernel
set_option maxHeartbeats 1000000 in
theorem c4_priceOfLibrary {G : Gl} {l : Launch}  {M : Mem} {d : Int → Int} {x : Int} (hG : GR M) (hD : M 4 = d) (hSP : SP d) (hx0 : 0 ≤ x) (hx1 : x < d 121) : Ct G LY 57 l 3 m4_priceOfLibrary [vR 38, vR 3, vI x] M (RP (fun v M' => Fr [25, 26, 27, 28, 29, 30, 31, 32, 33, 34, 35] [(24, 11), (24, 12), (24, 13)] M M' ∧ v = if SPC (insOf d) = -1 then -1 else SPC (setNM (insOf d) x (nee d x) (max (nee d x) (min 20 (d (5 + x) + 1)))) - SPC (insOf d))) := by
  refine R_start (by decide +kernel) (Nat.le_of_ble_eq_true rfl) (fun C hC hRm hlau => ?_)
  show RZ G LY C (Zn G LY 57 C (RP (fun v M' => Fr [25, 26, 27, 28, 29, 30, 31, 32, 33, 34, 35] [(24, 11), (24, 12), (24, 13)] M M' ∧ v = if SPC (insOf d) = -1 then -1 else SPC (setNM (insOf d) x (nee d x) (max (nee d x) (min 20 (d (5 + x) + 1)))) - SPC (insOf d)))) 0 0 57 0 [some (vR 38), some (vR 3), some (vI x), none, none, none] [] M
  have hLd := hSP.1.1
  have hWd := hSP.1.2
  have bk := hSP.2.1 x hx0 (by omega)
  have ba := hSP.ne hx0 (show x < 5 by omega)
  have bI := SPC_bd (SP.I hSP)
  refine R_aload_0 hC dX4_priceOfLibrary_0 ?_
  refine R_getR hC dX4_priceOfLibrary_1 fl_4_9 (by decide) rfl (by decide) (by decide) (fi := 0) rfl (r := 24) (gr_38_0 hG) ?_
  refine R_aload_1 hC dX4_priceOfLibrary_4 ?_
  refine R_callVv (as := [vR _]) hC dX4_priceOfLibrary_5 mo_6_load ml_4_34 (by decide) rfl rfl (c6_load  hG sh_3 hD hSP.B) rfl rfl hRm (by decide) (by decide) (Nat.le_of_ble_eq_true rfl) (fun Mc1 hq2 => ?_)
  have hSC3 := hq2.2
  refine R_aload_0 hC dX4_priceOfLibrary_8 ?_
  have hG4 : GR Mc1 := (GR.fr hG hq2.1 (by decide +kernel))
  refine R_getR hC dX4_priceOfLibrary_9 fl_4_9 (by decide) rfl (by decide) (by decide) (fi := 0) rfl (r := 24) (gr_38_0 hG4) ?_
  refine R_iconst hC dX4_priceOfLibrary_12 ⟨by decide, by decide⟩ ?_
  refine R_callVp (as := [vI _]) hC dX4_priceOfLibrary_13 mo_6_space ml_4_50 (by decide) rfl rfl (c6_space  hG4 hSC3 (SP.I hSP) (by omega) (show 0 ≤ d 121 by omega) (fun y a b => by omega)) rfl rfl hRm (by decide) (by decide) (Nat.le_of_ble_eq_true rfl) (fun v7 Mc5 hq6 => ?_)
  have hSC8 := SC.fr hSC3 hq6.1 (by decide) (by decide)
  rw [hq6.2.1]
  refine R_istore_3 hC dX4_priceOfLibrary_16 rfl ?_
  refine R_iload_3 hC dX4_priceOfLibrary_17 ?_
  refine R_iconst hC dX4_priceOfLibrary_18 ⟨by decide, by decide⟩ ?_
  refine R_icmp_ne hC dX4_priceOfLibrary_19 (tgt := 24) (by decide) (fun hb19 => ?_) (fun hb19 => ?_)
  · skip
    refine R_bipush hC dX4_priceOfLibrary_24 (by decide +kernel) ⟨by decide, by decide⟩ ?_
    refine R_aload_1 hC dX4_priceOfLibrary_26 ?_
    refine R_iload_2 hC dX4_priceOfLibrary_27 ?_
    have hr9 : Mc5 4 = d := ((hq6.1.row (by decide) (by decide)).trans ((hq2.1.row (by decide) (by decide)).trans hD))
    have hG10 : GR Mc5 := (GR.fr hG4 hq6.1 (by decide +kernel))
    refine R_callVq (as := [vI _]) hC dX4_priceOfLibrary_28 mo_8_wishOf ml_4_101 (by decide) rfl rfl (c8_wishOf_d  hr9 hG10 sh_3 (by omega) (by omega)) rfl rfl hRm (by decide) (by decide) (Nat.le_of_ble_eq_true rfl) ?_
    refine R_iconst hC dX4_priceOfLibrary_31 ⟨by decide, by decide⟩ ?_
    refine R_iadd hC dX4_priceOfLibrary_32 ⟨by omega, by omega⟩ ?_
    refine R_min hC dX4_priceOfLibrary_33 jl_4_107 hRm (by decide) (Nat.le_of_ble_eq_true rfl) ?_
    refine R_istore_4 hC dX4_priceOfLibrary_36 rfl ?_
    refine R_aload_1 hC dX4_priceOfLibrary_38 ?_
    refine R_iload_2 hC dX4_priceOfLibrary_39 ?_
    refine R_callVq (as := [vI _]) hC dX4_priceOfLibrary_40 mo_8_needOf ml_4_110 (by decide) rfl rfl (c8_needOf_d  hr9 hG10 sh_3 hSP.B (by omega) (by omega)) rfl rfl hRm (by decide) (by decide) (Nat.le_of_ble_eq_true rfl) ?_
    have e40_11 := nee_bd (x := x) hSP.B (by omega) (by omega)
    refine R_istore_5 hC dX4_priceOfLibrary_43 rfl ?_
    refine R_aload_0 hC dX4_priceOfLibrary_45 ?_
    refine R_getR hC dX4_priceOfLibrary_46 fl_4_9 (by decide) rfl (by decide) (by decide) (fi := 0) rfl (r := 24) (gr_38_0 hG10) ?_
    refine R_iload_2 hC dX4_priceOfLibrary_49 ?_
    refine R_iload_5 hC dX4_priceOfLibrary_50 ?_
    refine R_iload_5 hC dX4_priceOfLibrary_52 ?_
    refine R_iload_4 hC dX4_priceOfLibrary_54 ?_
    refine R_max hC dX4_priceOfLibrary_56 jl_4_96 hRm (by decide) (Nat.le_of_ble_eq_true rfl) ?_
    refine R_callVv (as := [vI _, vI _, vI _]) hC dX4_priceOfLibrary_59 mo_6_setLibrary ml_4_104 (by decide) rfl rfl (c6_setLibrary  hG10 hSC8 (SP.I hSP) (by omega) (show x < d 121 by omega) (by omega) (by omega) (by omega) (by omega)) rfl rfl hRm (by decide) (by decide) (Nat.le_of_ble_eq_true rfl) (fun Mc12 hq13 => ?_)
    have hSC14 := hq13.2
    have hI2 : IB (setNM (insOf d) x (nee d x) (max (nee d x) (min 20 (d (5 + x) + 1)))) := (SP.I hSP).setNM (by omega) (by omega) (by omega)
    have bI2 := SPC_bd hI2
    refine R_aload_0 hC dX4_priceOfLibrary_62 ?_
    have hG15 : GR Mc12 := (GR.fr hG10 hq13.1 (by decide +kernel))
    refine R_getR hC dX4_priceOfLibrary_63 fl_4_9 (by decide) rfl (by decide) (by decide) (fi := 0) rfl (r := 24) (gr_38_0 hG15) ?_
    refine R_iconst hC dX4_priceOfLibrary_66 ⟨by decide, by decide⟩ ?_
    refine R_callVp (as := [vI _]) hC dX4_priceOfLibrary_67 mo_6_space ml_4_50 (by decide) rfl rfl (c6_space  hG15 hSC14 hI2 (by omega) (show 0 ≤ d 121 by omega) (fun y a b => by omega)) rfl rfl hRm (by decide) (by decide) (Nat.le_of_ble_eq_true rfl) (fun v18 Mc16 hq17 => ?_)
    have hSC19 := SC.fr hSC14 hq17.1 (by decide) (by decide)
    refine R_iload_3 hC dX4_priceOfLibrary_70 ?_
    have q62 := hq17.2.1
    refine R_isub hC dX4_priceOfLibrary_71 ⟨by omega, by omega⟩ ?_
    exact R_ireturn hC dX4_priceOfLibrary_72 rfl (ret_P ⟨Fr.tt (Fr.tt (Fr.tt (hq2.1.mo (by decide) (by decide)) (hq6.1.mo (by decide) (by decide))) (hq13.1.mo (by decide) (by decide))) (hq17.1.mo (by decide) (by decide)), by rw [if_neg (by omega), hq17.2.1]⟩)
  · skip
    refine R_iconst hC dX4_priceOfLibrary_22 ⟨by decide, by decide⟩ ?_
    exact R_ireturn hC dX4_priceOfLibrary_23 rfl (ret_P ⟨Fr.tt (hq2.1.mo (by decide) (by decide)) (hq6.1.mo (by decide) (by decide)), by rw [if_pos (by omega)]⟩)
theorem dX4_stricter_0 : decode cX4_stricter 0 = .ok (.aload_n 0, 1) := by decide +kernel
theorem dX4_stricter_1 : decode cX4_stricter 1 = .ok (.getfield 9, 3) := by decide +kernel
theorem dX4_stricter_4 : decode cX4_stricter 4 = .ok (.aload_n 1, 1) := by decide +kernel
theorem dX4_stricter_5 : decode cX4_stricter 5 = .ok (.invokevirtual 34, 3) := by decide +kernel
theorem dX4_stricter_8 : decode cX4_stricter 8 = .ok (.aload_n 0, 1) := by decide +kernel
theorem dX4_stricter_9 : decode cX4_stricter 9 = .ok (.getfield 9, 3) := by decide +kernel
theorem dX4_stricter_12 : decode cX4_stricter 12 = .ok (.invokevirtual 39, 3) := by decide +kernel
theorem dX4_stricter_15 : decode cX4_stricter 15 = .ok (.ifCond .ne 5, 3) := by decide +kernel
theorem dX4_stricter_18 : decode cX4_stricter 18 = .ok (.iconst (-1), 1) := by decide +kernel
theorem dX4_stricter_19 : decode cX4_stricter 19 = .ok (.ireturn, 1) := by decide +kernel
theorem dX4_stricter_20 : decode cX4_stricter 20 = .ok (.aload_n 1, 1) := by decide +kernel
theorem dX4_stricter_21 : decode cX4_stricter 21 = .ok (.iload_n 2, 1) := by decide +kernel
theorem dX4_stricter_22 : decode cX4_stricter 22 = .ok (.invokevirtual 80, 3) := by decide +kernel
theorem dX4_stricter_25 : decode cX4_stricter 25 = .ok (.aload_n 1, 1) := by decide +kernel
theorem dX4_stricter_26 : decode cX4_stricter 26 = .ok (.iload_n 2, 1) := by decide +kernel
theorem dX4_stricter_27 : decode cX4_stricter 27 = .ok (.invokevirtual 83, 3) := by decide +kernel
theorem dX4_stricter_30 : decode cX4_stricter 30 = .ok (.isub, 1) := by decide +kernel
theorem dX4_stricter_31 : decode cX4_stricter 31 = .ok (.istore_n 3, 1) := by decide +kernel
theorem dX4_stricter_32 : decode cX4_stricter 32 = .ok (.iconst 1, 1) := by decide +kernel
theorem dX4_stricter_33 : decode cX4_stricter 33 = .ok (.istore 4, 2) := by decide +kernel
theorem dX4_stricter_35 : decode cX4_stricter 35 = .ok (.iload 4, 2) := by decide +kernel
theorem dX4_stricter_37 : decode cX4_stricter 37 = .ok (.bipush 15, 2) := by decide +kernel
theorem dX4_stricter_39 : decode cX4_stricter 39 = .ok (.if_icmp .gt 36, 3) := by decide +kernel
theorem dX4_stricter_42 : decode cX4_stricter 42 = .ok (.aload_n 0, 1) := by decide +kernel
theorem dX4_stricter_43 : decode cX4_stricter 43 = .ok (.getfield 9, 3) := by decide +kernel
theorem dX4_stricter_46 : decode cX4_stricter 46 = .ok (.iload_n 2, 1) := by decide +kernel
theorem dX4_stricter_47 : decode cX4_stricter 47 = .ok (.iload_n 3, 1) := by decide +kernel
theorem dX4_stricter_48 : decode cX4_stricter 48 = .ok (.iload 4, 2) := by decide +kernel
theorem dX4_stricter_50 : decode cX4_stricter 50 = .ok (.isub, 1) := by decide +kernel
theorem dX4_stricter_51 : decode cX4_stricter 51 = .ok (.invokevirtual 86, 3) := by decide +kernel
theorem dX4_stricter_54 : decode cX4_stricter 54 = .ok (.aload_n 0, 1) := by decide +kernel
theorem dX4_stricter_55 : decode cX4_stricter 55 = .ok (.getfield 9, 3) := by decide +kernel
theorem dX4_stricter_58 : decode cX4_stricter 58 = .ok (.invokevirtual 39, 3) := by decide +kernel
theorem dX4_stricter_61 : decode cX4_stricter 61 = .ok (.ifCond .ne 8, 3) := by decide +kernel
theorem dX4_stricter_64 : decode cX4_stricter 64 = .ok (.iload 4, 2) := by decide +kernel
theorem dX4_stricter_66 : decode cX4_stricter 66 = .ok (.iconst 1, 1) := by decide +kernel
theorem dX4_stricter_67 : decode cX4_stricter 67 = .ok (.isub, 1) := by decide +kernel
theorem dX4_stricter_68 : decode cX4_stricter 68 = .ok (.ireturn, 1) := by decide +kernel
theorem dX4_stricter_69 : decode cX4_stricter 69 = .ok (.iinc 4 1, 3) := by decide +kernel
theorem dX4_stricter_72 : decode cX4_stricter 72 = .ok (.goto (-37), 3) := by decide +kernel
theorem dX4_stricter_75 : decode cX4_stricter 75 = .ok (.bipush 15, 2) := by decide +kernel
theorem dX4_stricter_77 : decode cX4_stricter 77 = .ok (.ireturn, 1) := by decide +kernel
set_option maxHeartbeats 1000000 in
theorem c4_stricter {G : Gl} {l : Launch}  {M : Mem} {d : Int → Int} {w : Int} (hG : GR M) (hD : M 4 = d) (hSP : SP d) (hw0 : 0 ≤ w) (hw1 : w < d 122) : Ct G LY 57 l 3 m4_stricter [vR 38, vR 3, vI w] M (RP (fun v M' => Fr [25, 26, 27, 28, 29, 30, 31, 32, 33, 34, 35] [(24, 11), (24, 12), (24, 13)] M M' ∧ ((v = -1 ∧ ¬ planI (insOf d)) ∨ (planI (insOf d) ∧ FF (fun m => planI (setS (insOf d) w (max 0 (allOf d w - d (16 + w) - m)))) 15 v)))) := by
  refine R_start (by decide +kernel) (Nat.le_of_ble_eq_true rfl) (fun C hC hRm hlau => ?_)
  show RZ G LY C (Zn G LY 57 C (RP (fun v M' => Fr [25, 26, 27, 28, 29, 30, 31, 32, 33, 34, 35] [(24, 11), (24, 12), (24, 13)] M M' ∧ ((v = -1 ∧ ¬ planI (insOf d)) ∨ (planI (insOf d) ∧ FF (fun m => planI (setS (insOf d) w (max 0 (allOf d w - d (16 + w) - m)))) 15 v))))) 0 0 57 0 [some (vR 38), some (vR 3), some (vI w), none, none] [] M
  have hLd := hSP.1.1
  have hWd := hSP.1.2
  have bk := (hSP.2.2.1 w hw0 (by omega)).2.1
  have ba := hSP.all hw0 (show w < 6 by omega)
  refine R_aload_0 hC dX4_stricter_0 ?_
  refine R_getR hC dX4_stricter_1 fl_4_9 (by decide) rfl (by decide) (by decide) (fi := 0) rfl (r := 24) (gr_38_0 hG) ?_
  refine R_aload_1 hC dX4_stricter_4 ?_
  refine R_callVv (as := [vR _]) hC dX4_stricter_5 mo_6_load ml_4_34 (by decide) rfl rfl (c6_load  hG sh_3 hD hSP.B) rfl rfl hRm (by decide) (by decide) (Nat.le_of_ble_eq_true rfl) (fun Mc1 hq2 => ?_)
  have hSC3 := hq2.2
  refine R_aload_0 hC dX4_stricter_8 ?_
  have hG4 : GR Mc1 := (GR.fr hG hq2.1 (by decide +kernel))
  refine R_getR hC dX4_stricter_9 fl_4_9 (by decide) rfl (by decide) (by decide) (fi := 0) rfl (r := 24) (gr_38_0 hG4) ?_
  refine R_callVq (as := []) hC dX4_stricter_12 mo_6_hasPlan ml_4_39 (by decide) rfl rfl (c6_hasPlan  hG4 hSC3 (SP.I hSP)) rfl rfl hRm (by decide) (by decide) (Nat.le_of_ble_eq_true rfl) ?_
  refine R_if_ne hC dX4_stricter_15 (tgt := 20) (by decide) (fun hb15 => ?_) (fun hb15 => ?_)
  · skip
    replace hb15 := bP_nz hb15
    refine R_aload_1 hC dX4_stricter_20 ?_
    refine R_iload_2 hC dX4_stricter_21 ?_
    have hr5 : Mc1 4 = d := ((hq2.1.row (by decide) (by decide)).trans hD)
    refine R_callVq (as := [vI _]) hC dX4_stricter_22 mo_8_copiesOf ml_4_80 (by decide) rfl rfl (c8_copiesOf_d  hr5 hG4 sh_3 hSP.B (by omega) (by omega)) rfl rfl hRm (by decide) (by decide) (Nat.le_of_ble_eq_true rfl) ?_
    have e22_6 := allOf_bd (w := w) hSP.B (by omega) (by omega)
    refine R_aload_1 hC dX4_stricter_25 ?_
    refine R_iload_2 hC dX4_stricter_26 ?_
    refine R_callVq (as := [vI _]) hC dX4_stricter_27 mo_8_keepOf ml_4_83 (by decide) rfl rfl (c8_keepOf_d  hr5 hG4 sh_3 (by omega) (by omega)) rfl rfl hRm (by decide) (by decide) (Nat.le_of_ble_eq_true rfl) ?_
    refine R_isub hC dX4_stricter_30 ⟨by omega, by omega⟩ ?_
    refine R_istore_3 hC dX4_stricter_31 rfl ?_
    refine R_iconst hC dX4_stricter_32 ⟨by decide, by decide⟩ ?_
    refine R_istore_4 hC dX4_stricter_33 rfl ?_
    have L35 : ∀ (mq : Nat) (m : Int) (J : Ins) (M1 : Mem), (1 ≤ m) → (m ≤ 16) → (GR M1) → (Fr [25, 26, 27, 28, 29, 30, 31, 32, 33, 34, 35] [(24, 11), (24, 12), (24, 13)] M M1) → (SC M1 J) → (IB J) → (∀ v, setS J w v = setS (insOf d) w v) → (J.1 = (insOf d).1) → (planI (insOf d)) → (∀ k, 1 ≤ k → k < m → planI (setS (insOf d) w (max 0 (allOf d w - d (16 + w) - k)))) → (16 - m).toNat < mq → RZ G LY C (Zn G LY 57 C (RP (fun v M' => Fr [25, 26, 27, 28, 29, 30, 31, 32, 33, 34, 35] [(24, 11), (24, 12), (24, 13)] M M' ∧ ((v = -1 ∧ ¬ planI (insOf d)) ∨ (planI (insOf d) ∧ FF (fun m => planI (setS (insOf d) w (max 0 (allOf d w - d (16 + w) - m)))) 15 v))))) 0 0 57 35 [some (vR 38), some (vR 3), some (vI w), some (vI ((allOf (d) w) - (d (16 + w)))), some (vI m)] [] M1 := by
      intro mq
      induction mq with
      | zero =>
        intro m J M1 hm0 hm1 hg hF hSJ hJb hJ hJ1 hP hA hm
        exact absurd hm (Nat.not_lt_zero _)
      | succ mq ih35 =>
        intro m J M1 hm0 hm1 hg hF hSJ hJb hJ hJ1 hP hA hm35
        refine R_iload_4 hC dX4_stricter_35 ?_
        refine R_bipush hC dX4_stricter_37 (by decide +kernel) ⟨by decide, by decide⟩ ?_
        refine R_icmp_gt hC dX4_stricter_39 (tgt := 75) (by decide) (fun hb39 => ?_) (fun hb39 => ?_)
        · skip
          refine R_bipush hC dX4_stricter_75 (by decide +kernel) ⟨by decide, by decide⟩ ?_
          exact R_ireturn hC dX4_stricter_77 rfl (ret_P ⟨hF, .inr ⟨hP, by decide, by decide, fun k a b => hA k a (by omega), fun q => by omega⟩⟩)
        · skip
          refine R_aload_0 hC dX4_stricter_42 ?_
          refine R_getR hC dX4_stricter_43 fl_4_9 (by decide) rfl (by decide) (by decide) (fi := 0) rfl (r := 24) (gr_38_0 hg) ?_
          refine R_iload_2 hC dX4_stricter_46 ?_
          refine R_iload_3 hC dX4_stricter_47 ?_
          refine R_iload_4 hC dX4_stricter_48 ?_
          refine R_isub hC dX4_stricter_50 ⟨by omega, by omega⟩ ?_
          refine R_callVv (as := [vI _, vI _]) hC dX4_stricter_51 mo_6_setSpare ml_4_86 (by decide) rfl rfl (c6_setSpare  hg (hSJ.w _) hJb (by omega) (by (rw [show iW J = d 122 from congrArg Prod.snd hJ1]; omega)) (by omega)) rfl rfl hRm (by decide) (by decide) (Nat.le_of_ble_eq_true rfl) (fun Mc7 hq8 => ?_)
          have hSC9 := hq8.2
          have hIm : IB (setS J w (max 0 (allOf d w - d (16 + w) - m))) := hJb.setS (by omega) (by omega)
          refine R_aload_0 hC dX4_stricter_54 ?_
          have hG10 : GR Mc7 := (GR.fr hg hq8.1 (by decide +kernel))
          refine R_getR hC dX4_stricter_55 fl_4_9 (by decide) rfl (by decide) (by decide) (fi := 0) rfl (r := 24) (gr_38_0 hG10) ?_
          refine R_callVq (as := []) hC dX4_stricter_58 mo_6_hasPlan ml_4_39 (by decide) rfl rfl (c6_hasPlan  hG10 hSC9 hIm) rfl rfl hRm (by decide) (by decide) (Nat.le_of_ble_eq_true rfl) ?_
          refine R_if_ne hC dX4_stricter_61 (tgt := 69) (by decide) (fun hb61 => ?_) (fun hb61 => ?_)
          · skip
            replace hb61 := bP_nz hb61
            refine R_iinc_4 hC dX4_stricter_69 rfl ⟨by omega, by omega⟩ ?_
            refine R_goto hC dX4_stricter_72 (tgt := 35) (by decide) ?_
            exact ih35 _ (setS J w (max 0 (allOf d w - d (16 + w) - m))) _ (by omega) (by omega) hG10 (Fr.tt hF (hq8.1.mo (by decide) (by decide))) hSC9 hIm (fun v => (setS_S J w _ v).trans (hJ v)) hJ1 hP (fun k a b => by (by_cases q : k = m; (subst q; rw [← hJ]; exact hb61); exact hA k a (by omega))) (by omega)
          · skip
            replace hb61 := bP_z hb61
            refine R_iload_4 hC dX4_stricter_64 ?_
            refine R_iconst hC dX4_stricter_66 ⟨by decide, by decide⟩ ?_
            refine R_isub hC dX4_stricter_67 ⟨by omega, by omega⟩ ?_
            exact R_ireturn hC dX4_stricter_68 rfl (ret_P ⟨Fr.tt hF (hq8.1.mo (by decide) (by decide)), .inr ⟨hP, by omega, by omega, fun k a b => hA k a (by omega), fun _ q => hb61 (by rw [hJ, show m = m - 1 + 1 by omega]; exact q)⟩⟩)
    exact L35 _ _ (insOf d) _ (by omega) (by omega) hG4 (hq2.1.mo (by decide) (by decide)) hSC3 (SP.I hSP) (fun _ => rfl) rfl hb15 (fun k a b => by omega) (Nat.lt_succ_self _)
  · skip
    replace hb15 := bP_z hb15
    refine R_iconst hC dX4_stricter_18 ⟨by decide, by decide⟩ ?_
    exact R_ireturn hC dX4_stricter_19 rfl (ret_P ⟨hq2.1.mo (by decide) (by decide), .inl ⟨rfl, hb15⟩⟩)
theorem dX4_tighter_0 : decode cX4_tighter 0 = .ok (.aload_n 0, 1) := by decide +kernel
theorem dX4_tighter_1 : decode cX4_tighter 1 = .ok (.getfield 9, 3) := by decide +kernel
theorem dX4_tighter_4 : decode cX4_tighter 4 = .ok (.aload_n 1, 1) := by decide +kernel
theorem dX4_tighter_5 : decode cX4_tighter 5 = .ok (.invokevirtual 34, 3) := by decide +kernel
theorem dX4_tighter_8 : decode cX4_tighter 8 = .ok (.aload_n 0, 1) := by decide +kernel
theorem dX4_tighter_9 : decode cX4_tighter 9 = .ok (.getfield 9, 3) := by decide +kernel
theorem dX4_tighter_12 : decode cX4_tighter 12 = .ok (.invokevirtual 39, 3) := by decide +kernel
theorem dX4_tighter_15 : decode cX4_tighter 15 = .ok (.ifCond .ne 5, 3) := by decide +kernel
theorem dX4_tighter_18 : decode cX4_tighter 18 = .ok (.iconst (-1), 1) := by decide +kernel
theorem dX4_tighter_19 : decode cX4_tighter 19 = .ok (.ireturn, 1) := by decide +kernel
theorem dX4_tighter_20 : decode cX4_tighter 20 = .ok (.aload_n 1, 1) := by decide +kernel
theorem dX4_tighter_21 : decode cX4_tighter 21 = .ok (.iload_n 2, 1) := by decide +kernel
theorem dX4_tighter_22 : decode cX4_tighter 22 = .ok (.invokevirtual 90, 3) := by decide +kernel
theorem dX4_tighter_25 : decode cX4_tighter 25 = .ok (.istore_n 3, 1) := by decide +kernel
theorem dX4_tighter_26 : decode cX4_tighter 26 = .ok (.aload_n 1, 1) := by decide +kernel
theorem dX4_tighter_27 : decode cX4_tighter 27 = .ok (.iload_n 2, 1) := by decide +kernel
theorem dX4_tighter_28 : decode cX4_tighter 28 = .ok (.invokevirtual 93, 3) := by decide +kernel
theorem dX4_tighter_31 : decode cX4_tighter 31 = .ok (.istore 4, 2) := by decide +kernel
theorem dX4_tighter_33 : decode cX4_tighter 33 = .ok (.iconst 1, 1) := by decide +kernel
theorem dX4_tighter_34 : decode cX4_tighter 34 = .ok (.istore 5, 2) := by decide +kernel
theorem dX4_tighter_36 : decode cX4_tighter 36 = .ok (.iload 5, 2) := by decide +kernel
theorem dX4_tighter_38 : decode cX4_tighter 38 = .ok (.iload_n 3, 1) := by decide +kernel
theorem dX4_tighter_39 : decode cX4_tighter 39 = .ok (.if_icmp .gt 57, 3) := by decide +kernel
theorem dX4_tighter_42 : decode cX4_tighter 42 = .ok (.iconst 0, 1) := by decide +kernel
theorem dX4_tighter_43 : decode cX4_tighter 43 = .ok (.iload 4, 2) := by decide +kernel
theorem dX4_tighter_45 : decode cX4_tighter 45 = .ok (.iload_n 3, 1) := by decide +kernel
theorem dX4_tighter_46 : decode cX4_tighter 46 = .ok (.iload 5, 2) := by decide +kernel
theorem dX4_tighter_48 : decode cX4_tighter 48 = .ok (.isub, 1) := by decide +kernel
theorem dX4_tighter_49 : decode cX4_tighter 49 = .ok (.isub, 1) := by decide +kernel
theorem dX4_tighter_50 : decode cX4_tighter 50 = .ok (.invokestatic 96, 3) := by decide +kernel
theorem dX4_tighter_53 : decode cX4_tighter 53 = .ok (.istore 6, 2) := by decide +kernel
theorem dX4_tighter_55 : decode cX4_tighter 55 = .ok (.aload_n 0, 1) := by decide +kernel
theorem dX4_tighter_56 : decode cX4_tighter 56 = .ok (.getfield 9, 3) := by decide +kernel
theorem dX4_tighter_59 : decode cX4_tighter 59 = .ok (.iload_n 2, 1) := by decide +kernel
theorem dX4_tighter_60 : decode cX4_tighter 60 = .ok (.iload 6, 2) := by decide +kernel
theorem dX4_tighter_62 : decode cX4_tighter 62 = .ok (.iload 6, 2) := by decide +kernel
theorem dX4_tighter_64 : decode cX4_tighter 64 = .ok (.aload_n 1, 1) := by decide +kernel
theorem dX4_tighter_65 : decode cX4_tighter 65 = .ok (.iload_n 2, 1) := by decide +kernel
theorem dX4_tighter_66 : decode cX4_tighter 66 = .ok (.invokevirtual 101, 3) := by decide +kernel
theorem dX4_tighter_69 : decode cX4_tighter 69 = .ok (.invokestatic 96, 3) := by decide +kernel
theorem dX4_tighter_72 : decode cX4_tighter 72 = .ok (.invokevirtual 104, 3) := by decide +kernel
theorem dX4_tighter_75 : decode cX4_tighter 75 = .ok (.aload_n 0, 1) := by decide +kernel
theorem dX4_tighter_76 : decode cX4_tighter 76 = .ok (.getfield 9, 3) := by decide +kernel
theorem dX4_tighter_79 : decode cX4_tighter 79 = .ok (.invokevirtual 39, 3) := by decide +kernel
theorem dX4_tighter_82 : decode cX4_tighter 82 = .ok (.ifCond .ne 8, 3) := by decide +kernel
theorem dX4_tighter_85 : decode cX4_tighter 85 = .ok (.iload 5, 2) := by decide +kernel
theorem dX4_tighter_87 : decode cX4_tighter 87 = .ok (.iconst 1, 1) := by decide +kernel
theorem dX4_tighter_88 : decode cX4_tighter 88 = .ok (.isub, 1) := by decide +kernel
theorem dX4_tighter_89 : decode cX4_tighter 89 = .ok (.ireturn, 1) := by decide +kernel
theorem dX4_tighter_90 : decode cX4_tighter 90 = .ok (.iinc 5 1, 3) := by decide +kernel
theorem dX4_tighter_93 : decode cX4_tighter 93 = .ok (.goto (-57), 3) := by decide +kernel
theorem dX4_tighter_96 : decode cX4_tighter 96 = .ok (.iload_n 3, 1) := by decide +kernel
theorem dX4_tighter_97 : decode cX4_tighter 97 = .ok (.ireturn, 1) := by decide +kernel
set_option maxHeartbeats 1000000 in
theorem c4_tighter {G : Gl} {l : Launch}  {M : Mem} {d : Int → Int} {x : Int} (hG : GR M) (hD : M 4 = d) (hSP : SP d) (hx0 : 0 ≤ x) (hx1 : x < d 121) : Ct G LY 57 l 3 m4_tighter [vR 38, vR 3, vI x] M (RP (fun v M' => Fr [25, 26, 27, 28, 29, 30, 31, 32, 33, 34, 35] [(24, 11), (24, 12), (24, 13)] M M' ∧ ((v = -1 ∧ ¬ planI (insOf d)) ∨ (planI (insOf d) ∧ FF (fun m => planI (setNM (insOf d) x (max 0 (inAll d x - (d x - m))) (max (max 0 (inAll d x - (d x - m))) (d (5 + x))))) (d x) v)))) := by
  refine R_start (by decide +kernel) (Nat.le_of_ble_eq_true rfl) (fun C hC hRm hlau => ?_)
  show RZ G LY C (Zn G LY 57 C (RP (fun v M' => Fr [25, 26, 27, 28, 29, 30, 31, 32, 33, 34, 35] [(24, 11), (24, 12), (24, 13)] M M' ∧ ((v = -1 ∧ ¬ planI (insOf d)) ∨ (planI (insOf d) ∧ FF (fun m => planI (setNM (insOf d) x (max 0 (inAll d x - (d x - m))) (max (max 0 (inAll d x - (d x - m))) (d (5 + x))))) (d x) v))))) 0 0 57 0 [some (vR 38), some (vR 3), some (vI x), none, none, none, none] [] M
  have hLd := hSP.1.1
  have hWd := hSP.1.2
  have bk := hSP.2.1 x hx0 (by omega)
  have ba := hSP.inA hx0 (show x < 5 by omega)
  refine R_aload_0 hC dX4_tighter_0 ?_
  refine R_getR hC dX4_tighter_1 fl_4_9 (by decide) rfl (by decide) (by decide) (fi := 0) rfl (r := 24) (gr_38_0 hG) ?_
  refine R_aload_1 hC dX4_tighter_4 ?_
  refine R_callVv (as := [vR _]) hC dX4_tighter_5 mo_6_load ml_4_34 (by decide) rfl rfl (c6_load  hG sh_3 hD hSP.B) rfl rfl hRm (by decide) (by decide) (Nat.le_of_ble_eq_true rfl) (fun Mc1 hq2 => ?_)
  have hSC3 := hq2.2
  refine R_aload_0 hC dX4_tighter_8 ?_
  have hG4 : GR Mc1 := (GR.fr hG hq2.1 (by decide +kernel))
  refine R_getR hC dX4_tighter_9 fl_4_9 (by decide) rfl (by decide) (by decide) (fi := 0) rfl (r := 24) (gr_38_0 hG4) ?_
  refine R_callVq (as := []) hC dX4_tighter_12 mo_6_hasPlan ml_4_39 (by decide) rfl rfl (c6_hasPlan  hG4 hSC3 (SP.I hSP)) rfl rfl hRm (by decide) (by decide) (Nat.le_of_ble_eq_true rfl) ?_
  refine R_if_ne hC dX4_tighter_15 (tgt := 20) (by decide) (fun hb15 => ?_) (fun hb15 => ?_)
  · skip
    replace hb15 := bP_nz hb15
    refine R_aload_1 hC dX4_tighter_20 ?_
    refine R_iload_2 hC dX4_tighter_21 ?_
    have hr5 : Mc1 4 = d := ((hq2.1.row (by decide) (by decide)).trans hD)
    refine R_callVq (as := [vI _]) hC dX4_tighter_22 mo_8_roomOf ml_4_90 (by decide) rfl rfl (c8_roomOf_d  hr5 hG4 sh_3 (by omega) (by omega)) rfl rfl hRm (by decide) (by decide) (Nat.le_of_ble_eq_true rfl) ?_
    refine R_istore_3 hC dX4_tighter_25 rfl ?_
    refine R_aload_1 hC dX4_tighter_26 ?_
    refine R_iload_2 hC dX4_tighter_27 ?_
    refine R_callVq (as := [vI _]) hC dX4_tighter_28 mo_8_copiesIn ml_4_93 (by decide) rfl rfl (c8_copiesIn_d  hr5 hG4 sh_3 hSP.B (by omega) (by omega)) rfl rfl hRm (by decide) (by decide) (Nat.le_of_ble_eq_true rfl) ?_
    have e28_6 := inAll_bd (x := x) hSP.B (by omega) (by omega)
    refine R_istore_4 hC dX4_tighter_31 rfl ?_
    refine R_iconst hC dX4_tighter_33 ⟨by decide, by decide⟩ ?_
    refine R_istore_5 hC dX4_tighter_34 rfl ?_
    have L36 : ∀ (mq : Nat) (m : Int) (J : Ins) (M1 : Mem), (1 ≤ m) → (m ≤ d x + 1) → (GR M1) → (M1 4 = d) → (Fr [25, 26, 27, 28, 29, 30, 31, 32, 33, 34, 35] [(24, 11), (24, 12), (24, 13)] M M1) → (SC M1 J) → (IB J) → (∀ a b, setNM J x a b = setNM (insOf d) x a b) → (J.1 = (insOf d).1) → (planI (insOf d)) → (∀ k, 1 ≤ k → k < m → planI (setNM (insOf d) x (max 0 (inAll d x - (d x - k))) (max (max 0 (inAll d x - (d x - k))) (d (5 + x))))) → (d x + 1 - m).toNat < mq → RZ G LY C (Zn G LY 57 C (RP (fun v M' => Fr [25, 26, 27, 28, 29, 30, 31, 32, 33, 34, 35] [(24, 11), (24, 12), (24, 13)] M M' ∧ ((v = -1 ∧ ¬ planI (insOf d)) ∨ (planI (insOf d) ∧ FF (fun m => planI (setNM (insOf d) x (max 0 (inAll d x - (d x - m))) (max (max 0 (inAll d x - (d x - m))) (d (5 + x))))) (d x) v))))) 0 0 57 36 [some (vR 38), some (vR 3), some (vI x), some (vI (d x)), some (vI (inAll (d) x)), some (vI m), none] [] M1 := by
      intro mq
      induction mq with
      | zero =>
        intro m J M1 hm0 hm1 hg hr hF hSJ hJb hJ hJ1 hP hA hm
        exact absurd hm (Nat.not_lt_zero _)
      | succ mq ih36 =>
        intro m J M1 hm0 hm1 hg hr hF hSJ hJb hJ hJ1 hP hA hm36
        refine R_iload_5 hC dX4_tighter_36 ?_
        refine R_iload_3 hC dX4_tighter_38 ?_
        refine R_icmp_gt hC dX4_tighter_39 (tgt := 96) (by decide) (fun hb39 => ?_) (fun hb39 => ?_)
        · skip
          refine R_iload_3 hC dX4_tighter_96 ?_
          exact R_ireturn hC dX4_tighter_97 rfl (ret_P ⟨hF, .inr ⟨hP, by omega, by omega, fun k a b => hA k a (by omega), fun q => by omega⟩⟩)
        · skip
          refine R_iconst hC dX4_tighter_42 ⟨by decide, by decide⟩ ?_
          refine R_iload_4 hC dX4_tighter_43 ?_
          refine R_iload_3 hC dX4_tighter_45 ?_
          refine R_iload_5 hC dX4_tighter_46 ?_
          refine R_isub hC dX4_tighter_48 ⟨by omega, by omega⟩ ?_
          refine R_isub hC dX4_tighter_49 ⟨by omega, by omega⟩ ?_
          refine R_max hC dX4_tighter_50 jl_4_96 hRm (by decide) (Nat.le_of_ble_eq_true rfl) ?_
          refine R_istore_6 hC dX4_tighter_53 rfl ?_
          refine R_aload_0 hC dX4_tighter_55 ?_
          refine R_getR hC dX4_tighter_56 fl_4_9 (by decide) rfl (by decide) (by decide) (fi := 0) rfl (r := 24) (gr_38_0 hg) ?_
          refine R_iload_2 hC dX4_tighter_59 ?_
          refine R_iload_6 hC dX4_tighter_60 ?_
          refine R_iload_6 hC dX4_tighter_62 ?_
          refine R_aload_1 hC dX4_tighter_64 ?_
          refine R_iload_2 hC dX4_tighter_65 ?_
          refine R_callVq (as := [vI _]) hC dX4_tighter_66 mo_8_wishOf ml_4_101 (by decide) rfl rfl (c8_wishOf_d  hr hg sh_3 (by omega) (by omega)) rfl rfl hRm (by decide) (by decide) (Nat.le_of_ble_eq_true rfl) ?_
          refine R_max hC dX4_tighter_69 jl_4_96 hRm (by decide) (Nat.le_of_ble_eq_true rfl) ?_
          refine R_callVv (as := [vI _, vI _, vI _]) hC dX4_tighter_72 mo_6_setLibrary ml_4_104 (by decide) rfl rfl (c6_setLibrary  hg hSJ hJb (by omega) (by (rw [show iL J = d 121 from congrArg Prod.fst hJ1]; omega)) (by omega) (by omega) (by omega) (by omega)) rfl rfl hRm (by decide) (by decide) (Nat.le_of_ble_eq_true rfl) (fun Mc7 hq8 => ?_)
          have hSC9 := hq8.2
          have hIm : IB (setNM J x (max 0 (inAll d x - (d x - m))) (max (max 0 (inAll d x - (d x - m))) (d (5 + x)))) := hJb.setNM (by omega) (by omega) (by omega)
          refine R_aload_0 hC dX4_tighter_75 ?_
          have hG10 : GR Mc7 := (GR.fr hg hq8.1 (by decide +kernel))
          refine R_getR hC dX4_tighter_76 fl_4_9 (by decide) rfl (by decide) (by decide) (fi := 0) rfl (r := 24) (gr_38_0 hG10) ?_
          refine R_callVq (as := []) hC dX4_tighter_79 mo_6_hasPlan ml_4_39 (by decide) rfl rfl (c6_hasPlan  hG10 hSC9 hIm) rfl rfl hRm (by decide) (by decide) (Nat.le_of_ble_eq_true rfl) ?_
          refine R_if_ne hC dX4_tighter_82 (tgt := 90) (by decide) (fun hb82 => ?_) (fun hb82 => ?_)
          · skip
            replace hb82 := bP_nz hb82
            refine R_iinc_5 hC dX4_tighter_90 rfl ⟨by omega, by omega⟩ ?_
            refine R_goto hC dX4_tighter_93 (tgt := 36) (by decide) ?_
            refine R_weak (subL_c (subL_c (subL_c (subL_c (subL_c (subL_c (subL_d subL_n))))))) ?_
            have hr11 : Mc7 4 = d := ((hq8.1.row (by decide) (by decide)).trans hr)
            exact ih36 _ (setNM J x (max 0 (inAll d x - (d x - m))) (max (max 0 (inAll d x - (d x - m))) (d (5 + x)))) _ (by omega) (by omega) hG10 hr11 (Fr.tt hF (hq8.1.mo (by decide) (by decide))) hSC9 hIm (fun a b => (setNM_S J x _ _ a b).trans (hJ a b)) hJ1 hP (fun k a b => by (by_cases q : k = m; (subst q; rw [← hJ]; exact hb82); exact hA k a (by omega))) (by omega)
          · skip
            replace hb82 := bP_z hb82
            refine R_iload_5 hC dX4_tighter_85 ?_
            refine R_iconst hC dX4_tighter_87 ⟨by decide, by decide⟩ ?_
            refine R_isub hC dX4_tighter_88 ⟨by omega, by omega⟩ ?_
            exact R_ireturn hC dX4_tighter_89 rfl (ret_P ⟨Fr.tt hF (hq8.1.mo (by decide) (by decide)), .inr ⟨hP, by omega, by omega, fun k a b => hA k a (by omega), fun _ q => hb82 (by rw [hJ, show m = m - 1 + 1 by omega]; exact q)⟩⟩)
    exact L36 _ _ (insOf d) _ (by omega) (by omega) hG4 hr5 (hq2.1.mo (by decide) (by decide)) hSC3 (SP.I hSP) (fun _ _ => rfl) rfl hb15 (fun k a b => by omega) (Nat.lt_succ_self _)
  · skip
    replace hb15 := bP_z hb15
    refine R_iconst hC dX4_tighter_18 ⟨by decide, by decide⟩ ?_
    exact R_ireturn hC dX4_tighter_19 rfl (ret_P ⟨hq2.1.mo (by decide) (by decide), .inl ⟨rfl, hb15⟩⟩)
theorem dX4_spaceWithout_0 : decode cX4_spaceWithout 0 = .ok (.aload_n 0, 1) := by decide +kernel
theorem dX4_spaceWithout_1 : decode cX4_spaceWithout 1 = .ok (.getfield 9, 3) := by decide +kernel
theorem dX4_spaceWithout_4 : decode cX4_spaceWithout 4 = .ok (.iload_n 2, 1) := by decide +kernel
theorem dX4_spaceWithout_5 : decode cX4_spaceWithout 5 = .ok (.iload_n 3, 1) := by decide +kernel
theorem dX4_spaceWithout_6 : decode cX4_spaceWithout 6 = .ok (.aload_n 1, 1) := by decide +kernel
theorem dX4_spaceWithout_7 : decode cX4_spaceWithout 7 = .ok (.iload_n 2, 1) := by decide +kernel
theorem dX4_spaceWithout_8 : decode cX4_spaceWithout 8 = .ok (.iload_n 3, 1) := by decide +kernel
theorem dX4_spaceWithout_9 : decode cX4_spaceWithout 9 = .ok (.invokevirtual 69, 3) := by decide +kernel
theorem dX4_spaceWithout_12 : decode cX4_spaceWithout 12 = .ok (.invokevirtual 73, 3) := by decide +kernel
theorem dX4_spaceWithout_15 : decode cX4_spaceWithout 15 = .ok (.aload_n 0, 1) := by decide +kernel
theorem dX4_spaceWithout_16 : decode cX4_spaceWithout 16 = .ok (.getfield 9, 3) := by decide +kernel
theorem dX4_spaceWithout_19 : decode cX4_spaceWithout 19 = .ok (.iconst 0, 1) := by decide +kernel
theorem dX4_spaceWithout_20 : decode cX4_spaceWithout 20 = .ok (.invokevirtual 50, 3) := by decide +kernel
theorem dX4_spaceWithout_23 : decode cX4_spaceWithout 23 = .ok (.istore 4, 2) := by decide +kernel
theorem dX4_spaceWithout_25 : decode cX4_spaceWithout 25 = .ok (.aload_n 0, 1) := by decide +kernel
theorem dX4_spaceWithout_26 : decode cX4_spaceWithout 26 = .ok (.getfield 9, 3) := by decide +kernel
theorem dX4_spaceWithout_29 : decode cX4_spaceWithout 29 = .ok (.iload_n 2, 1) := by decide +kernel
theorem dX4_spaceWithout_30 : decode cX4_spaceWithout 30 = .ok (.iload_n 3, 1) := by decide +kernel
theorem dX4_spaceWithout_31 : decode cX4_spaceWithout 31 = .ok (.aload_n 1, 1) := by decide +kernel
theorem dX4_spaceWithout_32 : decode cX4_spaceWithout 32 = .ok (.iload_n 2, 1) := by decide +kernel
theorem dX4_spaceWithout_33 : decode cX4_spaceWithout 33 = .ok (.iload_n 3, 1) := by decide +kernel
theorem dX4_spaceWithout_34 : decode cX4_spaceWithout 34 = .ok (.invokevirtual 77, 3) := by decide +kernel
theorem dX4_spaceWithout_37 : decode cX4_spaceWithout 37 = .ok (.invokevirtual 73, 3) := by decide +kernel
theorem dX4_spaceWithout_40 : decode cX4_spaceWithout 40 = .ok (.iload 4, 2) := by decide +kernel
theorem dX4_spaceWithout_42 : decode cX4_spaceWithout 42 = .ok (.ireturn, 1) := by decide +kernel
set_option maxHeartbeats 400000 in
theorem c4_spaceWithout {G : Gl} {l : Launch}  {M : Mem} {d : Int → Int} {x w : Int} (hG : GR M) (hD : M 4 = d) (hSP : SP d) (hI : SC M (insOf d)) (hx0 : 0 ≤ x) (hx1 : x < d 121) (hw0 : 0 ≤ w) (hw1 : w < d 122) : Ct G LY 57 l 2 m4_spaceWithout [vR 38, vR 3, vI x, vI w] M (RP (fun v M' => Fr [25, 26, 27, 28, 29, 30, 31, 32, 33, 34, 35] [(24, 11), (24, 12), (24, 13)] M M' ∧ v = SPC (setO (insOf d) x w (d (28 + x * 6 + w))) ∧ SC M' (insOf d))) := by
  refine R_start (by decide +kernel) (Nat.le_of_ble_eq_true rfl) (fun C hC hRm hlau => ?_)
  show RZ G LY C (Zn G LY 57 C (RP (fun v M' => Fr [25, 26, 27, 28, 29, 30, 31, 32, 33, 34, 35] [(24, 11), (24, 12), (24, 13)] M M' ∧ v = SPC (setO (insOf d) x w (d (28 + x * 6 + w))) ∧ SC M' (insOf d)))) 0 0 57 0 [some (vR 38), some (vR 3), some (vI x), some (vI w), none] [] M
  have hLd := hSP.1.1
  have hWd := hSP.1.2
  have bh := hSP.h hx0 (show x < 5 by omega) hw0 (show w < 6 by omega)
  have bo := hSP.off hx0 (show x < 5 by omega) hw0 (show w < 6 by omega)
  have bIB : IB (setO (insOf d) x w (d (28 + x * 6 + w))) := (SP.I hSP).setO (by omega) (by omega)
  refine R_aload_0 hC dX4_spaceWithout_0 ?_
  refine R_getR hC dX4_spaceWithout_1 fl_4_9 (by decide) rfl (by decide) (by decide) (fi := 0) rfl (r := 24) (gr_38_0 hG) ?_
  refine R_iload_2 hC dX4_spaceWithout_4 ?_
  refine R_iload_3 hC dX4_spaceWithout_5 ?_
  refine R_aload_1 hC dX4_spaceWithout_6 ?_
  refine R_iload_2 hC dX4_spaceWithout_7 ?_
  refine R_iload_3 hC dX4_spaceWithout_8 ?_
  refine R_callVq (as := [vI _, vI _]) hC dX4_spaceWithout_9 mo_8_heldIn ml_4_69 (by decide) rfl rfl (c8_heldIn_d  hD hG sh_3 (by omega) (by omega) (by omega) (by omega)) rfl rfl hRm (by decide) (by decide) (Nat.le_of_ble_eq_true rfl) ?_
  refine R_callVv (as := [vI _, vI _, vI _]) hC dX4_spaceWithout_12 mo_6_setOffer ml_4_73 (by decide) rfl rfl (c6_setOffer  hG hI (SP.I hSP) (by omega) (show x < d 121 by omega) (by omega) (show w < d 122 by omega) (by omega) (by omega)) rfl rfl hRm (by decide) (by decide) (Nat.le_of_ble_eq_true rfl) (fun Mc1 hq2 => ?_)
  have hSC3 := hq2.2
  refine R_aload_0 hC dX4_spaceWithout_15 ?_
  have hG4 : GR Mc1 := (GR.fr hG hq2.1 (by decide +kernel))
  refine R_getR hC dX4_spaceWithout_16 fl_4_9 (by decide) rfl (by decide) (by decide) (fi := 0) rfl (r := 24) (gr_38_0 hG4) ?_
  refine R_iconst hC dX4_spaceWithout_19 ⟨by decide, by decide⟩ ?_
  refine R_callVp (as := [vI _]) hC dX4_spaceWithout_20 mo_6_space ml_4_50 (by decide) rfl rfl (c6_space  hG4 hSC3 bIB (by omega) (show 0 ≤ d 121 by omega) (fun y a b => by omega)) rfl rfl hRm (by decide) (by decide) (Nat.le_of_ble_eq_true rfl) (fun v7 Mc5 hq6 => ?_)
  have hSC8 := SC.fr hSC3 hq6.1 (by decide) (by decide)
  refine R_istore_4 hC dX4_spaceWithout_23 rfl ?_
  refine R_aload_0 hC dX4_spaceWithout_25 ?_
  have hG9 : GR Mc5 := (GR.fr hG4 hq6.1 (by decide +kernel))
  refine R_getR hC dX4_spaceWithout_26 fl_4_9 (by decide) rfl (by decide) (by decide) (fi := 0) rfl (r := 24) (gr_38_0 hG9) ?_
  refine R_iload_2 hC dX4_spaceWithout_29 ?_
  refine R_iload_3 hC dX4_spaceWithout_30 ?_
  refine R_aload_1 hC dX4_spaceWithout_31 ?_
  refine R_iload_2 hC dX4_spaceWithout_32 ?_
  refine R_iload_3 hC dX4_spaceWithout_33 ?_
  have hr10 : Mc5 4 = d := ((hq6.1.row (by decide) (by decide)).trans ((hq2.1.row (by decide) (by decide)).trans hD))
  refine R_callVq (as := [vI _, vI _]) hC dX4_spaceWithout_34 mo_8_offerOf ml_4_77 (by decide) rfl rfl (c8_offerOf_d  hr10 hG9 sh_3 hSP.B (by omega) (by omega) (by omega) (by omega)) rfl rfl hRm (by decide) (by decide) (Nat.le_of_ble_eq_true rfl) ?_
  have e34_11 := offr_bd (x := x) (w := w) hSP.B (by omega) (by omega) (by omega) (by omega)
  refine R_callVv (as := [vI _, vI _, vI _]) hC dX4_spaceWithout_37 mo_6_setOffer ml_4_73 (by decide) rfl rfl (c6_setOffer  hG9 hSC8 bIB (by omega) (show x < d 121 by omega) (by omega) (show w < d 122 by omega) (by omega) (by omega)) rfl rfl hRm (by decide) (by decide) (Nat.le_of_ble_eq_true rfl) (fun Mc12 hq13 => ?_)
  have hSC14 := hq13.2
  refine R_iload_4 hC dX4_spaceWithout_40 ?_
  exact R_ireturn hC dX4_spaceWithout_42 rfl (ret_P ⟨Fr.tt (Fr.tt (hq2.1.mo (by decide) (by decide)) (hq6.1.mo (by decide) (by decide))) (hq13.1.mo (by decide) (by decide)), hq6.2.1, by (have e := setO_S (insOf d) x w (d (28 + x * 6 + w)); have z := hSC14; exact e ▸ z)⟩)
theorem dX4_findInTheWay_0 : decode cX4_findInTheWay 0 = .ok (.aload_n 0, 1) := by decide +kernel
theorem dX4_findInTheWay_1 : decode cX4_findInTheWay 1 = .ok (.iconst 0, 1) := by decide +kernel
theorem dX4_findInTheWay_2 : decode cX4_findInTheWay 2 = .ok (.putfield 43, 3) := by decide +kernel
theorem dX4_findInTheWay_5 : decode cX4_findInTheWay 5 = .ok (.aload_n 0, 1) := by decide +kernel
theorem dX4_findInTheWay_6 : decode cX4_findInTheWay 6 = .ok (.iconst (-1), 1) := by decide +kernel
theorem dX4_findInTheWay_7 : decode cX4_findInTheWay 7 = .ok (.putfield 47, 3) := by decide +kernel
theorem dX4_findInTheWay_10 : decode cX4_findInTheWay 10 = .ok (.aload_n 0, 1) := by decide +kernel
theorem dX4_findInTheWay_11 : decode cX4_findInTheWay 11 = .ok (.getfield 9, 3) := by decide +kernel
theorem dX4_findInTheWay_14 : decode cX4_findInTheWay 14 = .ok (.aload_n 1, 1) := by decide +kernel
theorem dX4_findInTheWay_15 : decode cX4_findInTheWay 15 = .ok (.invokevirtual 34, 3) := by decide +kernel
theorem dX4_findInTheWay_18 : decode cX4_findInTheWay 18 = .ok (.aload_n 0, 1) := by decide +kernel
theorem dX4_findInTheWay_19 : decode cX4_findInTheWay 19 = .ok (.getfield 9, 3) := by decide +kernel
theorem dX4_findInTheWay_22 : decode cX4_findInTheWay 22 = .ok (.iconst 0, 1) := by decide +kernel
theorem dX4_findInTheWay_23 : decode cX4_findInTheWay 23 = .ok (.invokevirtual 50, 3) := by decide +kernel
theorem dX4_findInTheWay_26 : decode cX4_findInTheWay 26 = .ok (.istore_n 2, 1) := by decide +kernel
theorem dX4_findInTheWay_27 : decode cX4_findInTheWay 27 = .ok (.iconst 0, 1) := by decide +kernel
theorem dX4_findInTheWay_28 : decode cX4_findInTheWay 28 = .ok (.istore_n 3, 1) := by decide +kernel
theorem dX4_findInTheWay_29 : decode cX4_findInTheWay 29 = .ok (.iload_n 3, 1) := by decide +kernel
theorem dX4_findInTheWay_30 : decode cX4_findInTheWay 30 = .ok (.aload_n 1, 1) := by decide +kernel
theorem dX4_findInTheWay_31 : decode cX4_findInTheWay 31 = .ok (.invokevirtual 54, 3) := by decide +kernel
theorem dX4_findInTheWay_34 : decode cX4_findInTheWay 34 = .ok (.if_icmp .ge 84, 3) := by decide +kernel
theorem dX4_findInTheWay_37 : decode cX4_findInTheWay 37 = .ok (.iconst 0, 1) := by decide +kernel
theorem dX4_findInTheWay_38 : decode cX4_findInTheWay 38 = .ok (.istore 4, 2) := by decide +kernel
theorem dX4_findInTheWay_40 : decode cX4_findInTheWay 40 = .ok (.iload 4, 2) := by decide +kernel
theorem dX4_findInTheWay_42 : decode cX4_findInTheWay 42 = .ok (.aload_n 1, 1) := by decide +kernel
theorem dX4_findInTheWay_43 : decode cX4_findInTheWay 43 = .ok (.invokevirtual 58, 3) := by decide +kernel
theorem dX4_findInTheWay_46 : decode cX4_findInTheWay 46 = .ok (.if_icmp .ge 66, 3) := by decide +kernel
theorem dX4_findInTheWay_49 : decode cX4_findInTheWay 49 = .ok (.aload_n 1, 1) := by decide +kernel
theorem dX4_findInTheWay_50 : decode cX4_findInTheWay 50 = .ok (.iload_n 3, 1) := by decide +kernel
theorem dX4_findInTheWay_51 : decode cX4_findInTheWay 51 = .ok (.iload 4, 2) := by decide +kernel
theorem dX4_findInTheWay_53 : decode cX4_findInTheWay 53 = .ok (.invokevirtual 61, 3) := by decide +kernel
theorem dX4_findInTheWay_56 : decode cX4_findInTheWay 56 = .ok (.ifCond .eq 50, 3) := by decide +kernel
theorem dX4_findInTheWay_59 : decode cX4_findInTheWay 59 = .ok (.aload_n 0, 1) := by decide +kernel
theorem dX4_findInTheWay_60 : decode cX4_findInTheWay 60 = .ok (.aload_n 1, 1) := by decide +kernel
theorem dX4_findInTheWay_61 : decode cX4_findInTheWay 61 = .ok (.iload_n 3, 1) := by decide +kernel
theorem dX4_findInTheWay_62 : decode cX4_findInTheWay 62 = .ok (.iload 4, 2) := by decide +kernel
theorem dX4_findInTheWay_64 : decode cX4_findInTheWay 64 = .ok (.invokevirtual 65, 3) := by decide +kernel
theorem dX4_findInTheWay_67 : decode cX4_findInTheWay 67 = .ok (.iload_n 2, 1) := by decide +kernel
theorem dX4_findInTheWay_68 : decode cX4_findInTheWay 68 = .ok (.if_icmp .le 38, 3) := by decide +kernel
theorem dX4_findInTheWay_71 : decode cX4_findInTheWay 71 = .ok (.aload_n 0, 1) := by decide +kernel
theorem dX4_findInTheWay_72 : decode cX4_findInTheWay 72 = .ok (.aload_n 0, 1) := by decide +kernel
theorem dX4_findInTheWay_73 : decode cX4_findInTheWay 73 = .ok (.getfield 43, 3) := by decide +kernel
theorem dX4_findInTheWay_76 : decode cX4_findInTheWay 76 = .ok (.ifCond .ne 13, 3) := by decide +kernel
theorem dX4_findInTheWay_79 : decode cX4_findInTheWay 79 = .ok (.bipush 10, 2) := by decide +kernel
theorem dX4_findInTheWay_81 : decode cX4_findInTheWay 81 = .ok (.iload_n 3, 1) := by decide +kernel
theorem dX4_findInTheWay_82 : decode cX4_findInTheWay 82 = .ok (.imul, 1) := by decide +kernel
theorem dX4_findInTheWay_83 : decode cX4_findInTheWay 83 = .ok (.iload 4, 2) := by decide +kernel
theorem dX4_findInTheWay_85 : decode cX4_findInTheWay 85 = .ok (.iadd, 1) := by decide +kernel
theorem dX4_findInTheWay_86 : decode cX4_findInTheWay 86 = .ok (.goto 7, 3) := by decide +kernel
theorem dX4_findInTheWay_89 : decode cX4_findInTheWay 89 = .ok (.aload_n 0, 1) := by decide +kernel
theorem dX4_findInTheWay_90 : decode cX4_findInTheWay 90 = .ok (.getfield 47, 3) := by decide +kernel
theorem dX4_findInTheWay_93 : decode cX4_findInTheWay 93 = .ok (.putfield 47, 3) := by decide +kernel
theorem dX4_findInTheWay_96 : decode cX4_findInTheWay 96 = .ok (.aload_n 0, 1) := by decide +kernel
theorem dX4_findInTheWay_97 : decode cX4_findInTheWay 97 = .ok (.dup, 1) := by decide +kernel
theorem dX4_findInTheWay_98 : decode cX4_findInTheWay 98 = .ok (.getfield 43, 3) := by decide +kernel
theorem dX4_findInTheWay_101 : decode cX4_findInTheWay 101 = .ok (.iconst 1, 1) := by decide +kernel
theorem dX4_findInTheWay_102 : decode cX4_findInTheWay 102 = .ok (.iadd, 1) := by decide +kernel
theorem dX4_findInTheWay_103 : decode cX4_findInTheWay 103 = .ok (.putfield 43, 3) := by decide +kernel
theorem dX4_findInTheWay_106 : decode cX4_findInTheWay 106 = .ok (.iinc 4 1, 3) := by decide +kernel
theorem dX4_findInTheWay_109 : decode cX4_findInTheWay 109 = .ok (.goto (-69), 3) := by decide +kernel
theorem dX4_findInTheWay_112 : decode cX4_findInTheWay 112 = .ok (.iinc 3 1, 3) := by decide +kernel
theorem dX4_findInTheWay_115 : decode cX4_findInTheWay 115 = .ok (.goto (-86), 3) := by decide +kernel
theorem dX4_findInTheWay_118 : decode cX4_findInTheWay 118 = .ok (.return_, 1) := by decide +kernel
set_option maxHeartbeats 1000000 in
theorem c4_findInTheWay {G : Gl} {l : Launch}  {M : Mem} {d : Int → Int} (hG : GR M) (hD : M 4 = d) (hSP : SP d) : Ct G LY 57 l 3 m4_findInTheWay [vR 38, vR 3] M (RV (fun M' => Fr [25, 26, 27, 28, 29, 30, 31, 32, 33, 34, 35] [(24, 11), (24, 12), (24, 13), (38, 2), (38, 3)] M M' ∧ (M' 38 2, M' 38 3) = ca (itwP d) (d 122) (d 121).toNat)) := by
  refine R_start (by decide +kernel) (Nat.le_of_ble_eq_true rfl) (fun C hC hRm hlau => ?_)
  show RZ G LY C (Zn G LY 57 C (RV (fun M' => Fr [25, 26, 27, 28, 29, 30, 31, 32, 33, 34, 35] [(24, 11), (24, 12), (24, 13), (38, 2), (38, 3)] M M' ∧ (M' 38 2, M' 38 3) = ca (itwP d) (d 122) (d 121).toNat))) 0 0 57 0 [some (vR 38), some (vR 3), none, none, none] [] M
  have hLd := hSP.1.1
  have hWd := hSP.1.2
  have bI := SPC_bd (SP.I hSP)
  refine R_aload_0 hC dX4_findInTheWay_0 ?_
  refine R_iconst hC dX4_findInTheWay_1 ⟨by decide, by decide⟩ ?_
  refine R_putI hC dX4_findInTheWay_2 fl_4_43 (by decide) rfl (by decide) (by decide) (fi := 2) rfl ?_
  refine R_aload_0 hC dX4_findInTheWay_5 ?_
  refine R_iconst hC dX4_findInTheWay_6 ⟨by decide, by decide⟩ ?_
  refine R_putI hC dX4_findInTheWay_7 fl_4_47 (by decide) rfl (by decide) (by decide) (fi := 3) rfl ?_
  refine R_aload_0 hC dX4_findInTheWay_10 ?_
  have hG1 : GR (uM (uM M 38 2 0) 38 3 (-1)) := (GR.uF (GR.uF hG (by decide +kernel) (by decide)) (by decide +kernel) (by decide))
  refine R_getR hC dX4_findInTheWay_11 fl_4_9 (by decide) rfl (by decide) (by decide) (fi := 0) rfl (r := 24) (gr_38_0 hG1) ?_
  refine R_aload_1 hC dX4_findInTheWay_14 ?_
  have hr2 : (uM (uM M 38 2 0) 38 3 (-1)) 4 = d := ((uM_ne (by decide)).trans ((uM_ne (by decide)).trans hD))
  refine R_callVv (as := [vR _]) hC dX4_findInTheWay_15 mo_6_load ml_4_34 (by decide) rfl rfl (c6_load  hG1 sh_3 hr2 hSP.B) rfl rfl hRm (by decide) (by decide) (Nat.le_of_ble_eq_true rfl) (fun Mc3 hq4 => ?_)
  have hSC5 := hq4.2
  refine R_aload_0 hC dX4_findInTheWay_18 ?_
  have hG6 : GR Mc3 := (GR.fr hG1 hq4.1 (by decide +kernel))
  refine R_getR hC dX4_findInTheWay_19 fl_4_9 (by decide) rfl (by decide) (by decide) (fi := 0) rfl (r := 24) (gr_38_0 hG6) ?_
  refine R_iconst hC dX4_findInTheWay_22 ⟨by decide, by decide⟩ ?_
  refine R_callVp (as := [vI _]) hC dX4_findInTheWay_23 mo_6_space ml_4_50 (by decide) rfl rfl (c6_space  hG6 hSC5 (SP.I hSP) (by omega) (show 0 ≤ d 121 by omega) (fun y a b => by omega)) rfl rfl hRm (by decide) (by decide) (Nat.le_of_ble_eq_true rfl) (fun v9 Mc7 hq8 => ?_)
  have hSC10 := SC.fr hSC5 hq8.1 (by decide) (by decide)
  rw [hq8.2.1]
  refine R_istore_2 hC dX4_findInTheWay_26 rfl ?_
  refine R_iconst hC dX4_findInTheWay_27 ⟨by decide, by decide⟩ ?_
  refine R_istore_3 hC dX4_findInTheWay_28 rfl ?_
  have L29 : ∀ (mq : Nat) (x : Int) (M1 : Mem), (0 ≤ x) → (x ≤ d 121) → (GR M1) → (M1 4 = d) → (Fr [25, 26, 27, 28, 29, 30, 31, 32, 33, 34, 35] [(24, 11), (24, 12), (24, 13), (38, 2), (38, 3)] M M1) → (SC M1 (insOf d)) → ((M1 38 2, M1 38 3) = ca (itwP d) (d 122) x.toNat) → (0 ≤ M1 38 2) → (M1 38 2 ≤ x * 6) → (d 121 - x).toNat < mq → RZ G LY C (Zn G LY 57 C (RV (fun M' => Fr [25, 26, 27, 28, 29, 30, 31, 32, 33, 34, 35] [(24, 11), (24, 12), (24, 13), (38, 2), (38, 3)] M M' ∧ (M' 38 2, M' 38 3) = ca (itwP d) (d 122) (d 121).toNat))) 0 0 57 29 [some (vR 38), some (vR 3), some (vI (SPC (insOf d))), some (vI x), none] [] M1 := by
    intro mq
    induction mq with
    | zero =>
      intro x M1 hx0 hx1 hg hr hF hSJ hc hn0 hn1 hm
      exact absurd hm (Nat.not_lt_zero _)
    | succ mq ih29 =>
      intro x M1 hx0 hx1 hg hr hF hSJ hc hn0 hn1 hm29
      refine R_iload_3 hC dX4_findInTheWay_29 ?_
      refine R_aload_1 hC dX4_findInTheWay_30 ?_
      refine R_callVq (as := []) hC dX4_findInTheWay_31 mo_8_libraries ml_4_54 (by decide) rfl rfl (c8_libraries_d  hr hg sh_3) rfl rfl hRm (by decide) (by decide) (Nat.le_of_ble_eq_true rfl) ?_
      refine R_icmp_ge hC dX4_findInTheWay_34 (tgt := 118) (by decide) (fun hb34 => ?_) (fun hb34 => ?_)
      · skip
        exact R_return hC dX4_findInTheWay_118 rfl (ret_V ⟨hF, by rw [show d 121 = x by omega]; exact hc⟩)
      · skip
        refine R_iconst hC dX4_findInTheWay_37 ⟨by decide, by decide⟩ ?_
        refine R_istore_4 hC dX4_findInTheWay_38 rfl ?_
        have L40 : ∀ (mq : Nat) (w : Int) (M2 : Mem), (0 ≤ w) → (w ≤ d 122) → (GR M2) → (M2 4 = d) → (Fr [25, 26, 27, 28, 29, 30, 31, 32, 33, 34, 35] [(24, 11), (24, 12), (24, 13), (38, 2), (38, 3)] M M2) → (SC M2 (insOf d)) → ((M2 38 2, M2 38 3) = cr (itwP d) x w.toNat (ca (itwP d) (d 122) x.toNat)) → (0 ≤ M2 38 2) → (M2 38 2 ≤ x * 6 + w) → (d 122 - w).toNat < mq → RZ G LY C (Zn G LY 57 C (RV (fun M' => Fr [25, 26, 27, 28, 29, 30, 31, 32, 33, 34, 35] [(24, 11), (24, 12), (24, 13), (38, 2), (38, 3)] M M' ∧ (M' 38 2, M' 38 3) = ca (itwP d) (d 122) (d 121).toNat))) 0 0 57 40 [some (vR 38), some (vR 3), some (vI (SPC (insOf d))), some (vI x), some (vI w)] [] M2 := by
          intro mq
          induction mq with
          | zero =>
            intro w M2 hw0 hw1 hg2 hr2 hF2 hSJ2 hc2 hn20 hn21 hm
            exact absurd hm (Nat.not_lt_zero _)
          | succ mq ih40 =>
            intro w M2 hw0 hw1 hg2 hr2 hF2 hSJ2 hc2 hn20 hn21 hm40
            refine R_iload_4 hC dX4_findInTheWay_40 ?_
            refine R_aload_1 hC dX4_findInTheWay_42 ?_
            refine R_callVq (as := []) hC dX4_findInTheWay_43 mo_8_works ml_4_58 (by decide) rfl rfl (c8_works_d  hr2 hg2 sh_3) rfl rfl hRm (by decide) (by decide) (Nat.le_of_ble_eq_true rfl) ?_
            refine R_icmp_ge hC dX4_findInTheWay_46 (tgt := 112) (by decide) (fun hb46 => ?_) (fun hb46 => ?_)
            · skip
              refine R_iinc_3 hC dX4_findInTheWay_112 rfl ⟨by omega, by omega⟩ ?_
              refine R_goto hC dX4_findInTheWay_115 (tgt := 29) (by decide) ?_
              refine R_weak (subL_c (subL_c (subL_c (subL_c (subL_d subL_n))))) ?_
              exact ih29 _ _ (by omega) (by omega) hg2 hr2 hF2 hSJ2 (by rw [ca_s hx0 rfl, show d 122 = w by omega]; rw [show d 122 = w by omega] at hc2; exact hc2) hn20 (by omega) (by omega)
            · skip
              refine R_aload_1 hC dX4_findInTheWay_49 ?_
              refine R_iload_3 hC dX4_findInTheWay_50 ?_
              refine R_iload_4 hC dX4_findInTheWay_51 ?_
              refine R_callVq (as := [vI _, vI _]) hC dX4_findInTheWay_53 mo_8_promiseCounts ml_4_61 (by decide) rfl rfl (c8_promiseCounts_d  hr2 hg2 sh_3 (by omega) (by omega) (by omega) (by omega)) rfl rfl hRm (by decide) (by decide) (Nat.le_of_ble_eq_true rfl) ?_
              refine R_if_eq hC dX4_findInTheWay_56 (tgt := 106) (by decide) (fun hb56 => ?_) (fun hb56 => ?_)
              · skip
                replace hb56 := bP_z hb56
                refine R_iinc_4 hC dX4_findInTheWay_106 rfl ⟨by omega, by omega⟩ ?_
                refine R_goto hC dX4_findInTheWay_109 (tgt := 40) (by decide) ?_
                have hFb : Fr [25, 26, 27, 28, 29, 30, 31, 32, 33, 34, 35] [(24, 11), (24, 12), (24, 13), (38, 2), (38, 3)] M M2 := by first | exact hF2 | exact Fr.tt hF2 ({qc}.1.mo (by decide) (by decide)) | exact Fr.uB (Fr.uB (Fr.tt hF2 ({qc}.1.mo (by decide) (by decide))) (by decide)) (by decide)
                have h22 : M2 38 2 = M2 38 2 ∨ M2 38 2 = M2 38 2 + 1 := by
                  first
                    | exact .inl rfl
                    | exact .inl ({qc}.1 38 2 (by decide) (by decide))
                    | exact .inr (by rw [uM_same, {qc}.1 38 2 (by decide) (by decide)])
                have hcb : (M2 38 2, M2 38 3) = cr (itwP d) x (w + 1).toNat (ca (itwP d) (d 122) x.toNat) := by
                  first
                    | (rw [cr_f hw0 rfl (fun q => hb56 q.1)]; exact hc2)
                    | (rw [cr_f hw0 rfl (fun q => absurd q.2 (by rw [{qc}.2.1] at hb68; omega)), {qc}.1 38 2 (by decide) (by decide), {qc}.1 38 3 (by decide) (by decide)]; exact hc2)
                    | (rw [cr_t hw0 rfl (And.intro hb56 (by rw [{qc}.2.1] at hb68; omega)), ← hc2, uM_same, uM_k (by decide), uM_same, {qc}.1 38 2 (by decide) (by decide)]
                       first
                         | (rw [if_pos (by rw [{qc}.1 38 2 (by decide) (by decide)] at hb76; exact hb76)])
                         | (rw [if_neg (by rw [{qc}.1 38 2 (by decide) (by decide)] at hb76; exact hb76), {qc}.1 38 3 (by decide) (by decide)]))
                exact ih40 _ _ (by omega) (by omega) hg2 hr2 hFb hSJ2 hcb (by omega) (by omega) (by omega)
              · skip
                replace hb56 := bP_nz hb56
                refine R_aload_0 hC dX4_findInTheWay_59 ?_
                refine R_aload_1 hC dX4_findInTheWay_60 ?_
                refine R_iload_3 hC dX4_findInTheWay_61 ?_
                refine R_iload_4 hC dX4_findInTheWay_62 ?_
                refine R_callVp (as := [vR _, vI _, vI _]) hC dX4_findInTheWay_64 mo_4_spaceWithout ml_4_65 (by decide) rfl rfl (c4_spaceWithout  hg2 hr2 hSP hSJ2 (by omega) (by omega) (by omega) (by omega)) rfl rfl hRm (by decide) (by decide) (Nat.le_of_ble_eq_true rfl) (fun v13 Mc11 hq12 => ?_)
                have hSC14 := hq12.2.2
                have q67 := hq12.2.1
                have bsw := SPC_bd ((SP.I hSP).setO (x := x) (w := w) (v := d (28 + x * 6 + w)) (by have := hSP.h hx0 (show x < 5 by omega) hw0 (show w < 6 by omega); omega) (by have := hSP.h hx0 (show x < 5 by omega) hw0 (show w < 6 by omega); omega))
                have q732 := hq12.1 38 2 (by decide) (by decide)
                refine R_iload_2 hC dX4_findInTheWay_67 ?_
                refine R_icmp_le hC dX4_findInTheWay_68 (tgt := 106) (by decide) (fun hb68 => ?_) (fun hb68 => ?_)
                · skip
                  refine R_iinc_4 hC dX4_findInTheWay_106 rfl ⟨by omega, by omega⟩ ?_
                  refine R_goto hC dX4_findInTheWay_109 (tgt := 40) (by decide) ?_
                  have hFb : Fr [25, 26, 27, 28, 29, 30, 31, 32, 33, 34, 35] [(24, 11), (24, 12), (24, 13), (38, 2), (38, 3)] M Mc11 := by first | exact hF2 | exact Fr.tt hF2 (hq12.1.mo (by decide) (by decide)) | exact Fr.uB (Fr.uB (Fr.tt hF2 (hq12.1.mo (by decide) (by decide))) (by decide)) (by decide)
                  have h22 : Mc11 38 2 = M2 38 2 ∨ Mc11 38 2 = M2 38 2 + 1 := by
                    first
                      | exact .inl rfl
                      | exact .inl (hq12.1 38 2 (by decide) (by decide))
                      | exact .inr (by rw [uM_same, hq12.1 38 2 (by decide) (by decide)])
                  have hcb : (Mc11 38 2, Mc11 38 3) = cr (itwP d) x (w + 1).toNat (ca (itwP d) (d 122) x.toNat) := by
                    first
                      | (rw [cr_f hw0 rfl (fun q => hb56 q.1)]; exact hc2)
                      | (rw [cr_f hw0 rfl (fun q => absurd q.2 (by rw [hq12.2.1] at hb68; omega)), hq12.1 38 2 (by decide) (by decide), hq12.1 38 3 (by decide) (by decide)]; exact hc2)
                      | (rw [cr_t hw0 rfl (And.intro hb56 (by rw [hq12.2.1] at hb68; omega)), ← hc2, uM_same, uM_k (by decide), uM_same, hq12.1 38 2 (by decide) (by decide)]
                         first
                           | (rw [if_pos (by rw [hq12.1 38 2 (by decide) (by decide)] at hb76; exact hb76)])
                           | (rw [if_neg (by rw [hq12.1 38 2 (by decide) (by decide)] at hb76; exact hb76), hq12.1 38 3 (by decide) (by decide)]))
                  have hG15 : GR Mc11 := (GR.fr hg2 hq12.1 (by decide +kernel))
                  have hr16 : Mc11 4 = d := ((hq12.1.row (by decide) (by decide)).trans hr2)
                  exact ih40 _ _ (by omega) (by omega) hG15 hr16 hFb hSC14 hcb (by omega) (by omega) (by omega)
                · skip
                  refine R_aload_0 hC dX4_findInTheWay_71 ?_
                  refine R_aload_0 hC dX4_findInTheWay_72 ?_
                  refine R_getI hC dX4_findInTheWay_73 fl_4_43 (by decide) rfl (by decide) (by decide) (fi := 2) rfl ?_
                  refine R_if_ne hC dX4_findInTheWay_76 (tgt := 89) (by decide) (fun hb76 => ?_) (fun hb76 => ?_)
                  · skip
                    refine R_aload_0 hC dX4_findInTheWay_89 ?_
                    refine R_getI hC dX4_findInTheWay_90 fl_4_47 (by decide) rfl (by decide) (by decide) (fi := 3) rfl ?_
                    refine R_putI hC dX4_findInTheWay_93 fl_4_47 (by decide) rfl (by decide) (by decide) (fi := 3) rfl ?_
                    refine R_aload_0 hC dX4_findInTheWay_96 ?_
                    refine R_dup hC dX4_findInTheWay_97 rfl ?_
                    refine R_getIE hC dX4_findInTheWay_98 fl_4_43 (by decide) rfl (by decide) (by decide) (fi := 2) rfl (uM_k (by decide)) ?_
                    refine R_iconst hC dX4_findInTheWay_101 ⟨by decide, by decide⟩ ?_
                    refine R_iadd hC dX4_findInTheWay_102 ⟨by omega, by omega⟩ ?_
                    refine R_putI hC dX4_findInTheWay_103 fl_4_43 (by decide) rfl (by decide) (by decide) (fi := 2) rfl ?_
                    refine R_iinc_4 hC dX4_findInTheWay_106 rfl ⟨by omega, by omega⟩ ?_
                    refine R_goto hC dX4_findInTheWay_109 (tgt := 40) (by decide) ?_
                    have hFb : Fr [25, 26, 27, 28, 29, 30, 31, 32, 33, 34, 35] [(24, 11), (24, 12), (24, 13), (38, 2), (38, 3)] M (uM (uM Mc11 38 3 (Mc11 38 3)) 38 2 ((Mc11 38 2) + 1)) := by first | exact hF2 | exact Fr.tt hF2 (hq12.1.mo (by decide) (by decide)) | exact Fr.uB (Fr.uB (Fr.tt hF2 (hq12.1.mo (by decide) (by decide))) (by decide)) (by decide)
                    have h22 : (uM (uM Mc11 38 3 (Mc11 38 3)) 38 2 ((Mc11 38 2) + 1)) 38 2 = M2 38 2 ∨ (uM (uM Mc11 38 3 (Mc11 38 3)) 38 2 ((Mc11 38 2) + 1)) 38 2 = M2 38 2 + 1 := by
                      first
                        | exact .inl rfl
                        | exact .inl (hq12.1 38 2 (by decide) (by decide))
                        | exact .inr (by rw [uM_same, hq12.1 38 2 (by decide) (by decide)])
                    have hcb : ((uM (uM Mc11 38 3 (Mc11 38 3)) 38 2 ((Mc11 38 2) + 1)) 38 2, (uM (uM Mc11 38 3 (Mc11 38 3)) 38 2 ((Mc11 38 2) + 1)) 38 3) = cr (itwP d) x (w + 1).toNat (ca (itwP d) (d 122) x.toNat) := by
                      first
                        | (rw [cr_f hw0 rfl (fun q => hb56 q.1)]; exact hc2)
                        | (rw [cr_f hw0 rfl (fun q => absurd q.2 (by rw [hq12.2.1] at hb68; omega)), hq12.1 38 2 (by decide) (by decide), hq12.1 38 3 (by decide) (by decide)]; exact hc2)
                        | (rw [cr_t hw0 rfl (And.intro hb56 (by rw [hq12.2.1] at hb68; omega)), ← hc2, uM_same, uM_k (by decide), uM_same, hq12.1 38 2 (by decide) (by decide)]
                           first
                             | (rw [if_pos (by rw [hq12.1 38 2 (by decide) (by decide)] at hb76; exact hb76)])
                             | (rw [if_neg (by rw [hq12.1 38 2 (by decide) (by decide)] at hb76; exact hb76), hq12.1 38 3 (by decide) (by decide)]))
                    have hG17 : GR (uM (uM Mc11 38 3 (Mc11 38 3)) 38 2 ((Mc11 38 2) + 1)) := (GR.uF (GR.uF (GR.fr hg2 hq12.1 (by decide +kernel)) (by decide +kernel) (by decide)) (by decide +kernel) (by decide))
                    have hr18 : (uM (uM Mc11 38 3 (Mc11 38 3)) 38 2 ((Mc11 38 2) + 1)) 4 = d := ((uM_ne (by decide)).trans ((uM_ne (by decide)).trans ((hq12.1.row (by decide) (by decide)).trans hr2)))
                    exact ih40 _ _ (by omega) (by omega) hG17 hr18 hFb (SC.u (SC.u hSC14 (by decide)) (by decide)) hcb (by omega) (by omega) (by omega)
                  · skip
                    refine R_bipush hC dX4_findInTheWay_79 (by decide +kernel) ⟨by decide, by decide⟩ ?_
                    refine R_iload_3 hC dX4_findInTheWay_81 ?_
                    refine R_imul hC dX4_findInTheWay_82 ⟨by omega, by omega⟩ ?_
                    refine R_iload_4 hC dX4_findInTheWay_83 ?_
                    refine R_iadd hC dX4_findInTheWay_85 ⟨by omega, by omega⟩ ?_
                    refine R_goto hC dX4_findInTheWay_86 (tgt := 93) (by decide) ?_
                    refine R_putI hC dX4_findInTheWay_93 fl_4_47 (by decide) rfl (by decide) (by decide) (fi := 3) rfl ?_
                    refine R_aload_0 hC dX4_findInTheWay_96 ?_
                    refine R_dup hC dX4_findInTheWay_97 rfl ?_
                    refine R_getIE hC dX4_findInTheWay_98 fl_4_43 (by decide) rfl (by decide) (by decide) (fi := 2) rfl (uM_k (by decide)) ?_
                    refine R_iconst hC dX4_findInTheWay_101 ⟨by decide, by decide⟩ ?_
                    refine R_iadd hC dX4_findInTheWay_102 ⟨by omega, by omega⟩ ?_
                    refine R_putI hC dX4_findInTheWay_103 fl_4_43 (by decide) rfl (by decide) (by decide) (fi := 2) rfl ?_
                    refine R_iinc_4 hC dX4_findInTheWay_106 rfl ⟨by omega, by omega⟩ ?_
                    refine R_goto hC dX4_findInTheWay_109 (tgt := 40) (by decide) ?_
                    have hFb : Fr [25, 26, 27, 28, 29, 30, 31, 32, 33, 34, 35] [(24, 11), (24, 12), (24, 13), (38, 2), (38, 3)] M (uM (uM Mc11 38 3 ((10 * x) + w)) 38 2 ((Mc11 38 2) + 1)) := by first | exact hF2 | exact Fr.tt hF2 (hq12.1.mo (by decide) (by decide)) | exact Fr.uB (Fr.uB (Fr.tt hF2 (hq12.1.mo (by decide) (by decide))) (by decide)) (by decide)
                    have h22 : (uM (uM Mc11 38 3 ((10 * x) + w)) 38 2 ((Mc11 38 2) + 1)) 38 2 = M2 38 2 ∨ (uM (uM Mc11 38 3 ((10 * x) + w)) 38 2 ((Mc11 38 2) + 1)) 38 2 = M2 38 2 + 1 := by
                      first
                        | exact .inl rfl
                        | exact .inl (hq12.1 38 2 (by decide) (by decide))
                        | exact .inr (by rw [uM_same, hq12.1 38 2 (by decide) (by decide)])
                    have hcb : ((uM (uM Mc11 38 3 ((10 * x) + w)) 38 2 ((Mc11 38 2) + 1)) 38 2, (uM (uM Mc11 38 3 ((10 * x) + w)) 38 2 ((Mc11 38 2) + 1)) 38 3) = cr (itwP d) x (w + 1).toNat (ca (itwP d) (d 122) x.toNat) := by
                      first
                        | (rw [cr_f hw0 rfl (fun q => hb56 q.1)]; exact hc2)
                        | (rw [cr_f hw0 rfl (fun q => absurd q.2 (by rw [hq12.2.1] at hb68; omega)), hq12.1 38 2 (by decide) (by decide), hq12.1 38 3 (by decide) (by decide)]; exact hc2)
                        | (rw [cr_t hw0 rfl (And.intro hb56 (by rw [hq12.2.1] at hb68; omega)), ← hc2, uM_same, uM_k (by decide), uM_same, hq12.1 38 2 (by decide) (by decide)]
                           first
                             | (rw [if_pos (by rw [hq12.1 38 2 (by decide) (by decide)] at hb76; exact hb76)])
                             | (rw [if_neg (by rw [hq12.1 38 2 (by decide) (by decide)] at hb76; exact hb76), hq12.1 38 3 (by decide) (by decide)]))
                    have hG19 : GR (uM (uM Mc11 38 3 ((10 * x) + w)) 38 2 ((Mc11 38 2) + 1)) := (GR.uF (GR.uF (GR.fr hg2 hq12.1 (by decide +kernel)) (by decide +kernel) (by decide)) (by decide +kernel) (by decide))
                    have hr20 : (uM (uM Mc11 38 3 ((10 * x) + w)) 38 2 ((Mc11 38 2) + 1)) 4 = d := ((uM_ne (by decide)).trans ((uM_ne (by decide)).trans ((hq12.1.row (by decide) (by decide)).trans hr2)))
                    exact ih40 _ _ (by omega) (by omega) hG19 hr20 hFb (SC.u (SC.u hSC14 (by decide)) (by decide)) hcb (by omega) (by omega) (by omega)
        exact L40 _ _ _ (by omega) (by omega) hg hr hF hSJ hc hn0 (by omega) (Nat.lt_succ_self _)
  have q2 : Mc7 38 2 = 0 := (hq8.1 38 2 (by decide) (by decide)).trans ((hq4.1 38 2 (by decide) (by decide)).trans ((uM_k (by decide)).trans uM_same))
  have q3 : Mc7 38 3 = -1 := (hq8.1 38 3 (by decide) (by decide)).trans ((hq4.1 38 3 (by decide) (by decide)).trans uM_same)
  have hG21 : GR Mc7 := (GR.fr hG6 hq8.1 (by decide +kernel))
  have hr22 : Mc7 4 = d := ((hq8.1.row (by decide) (by decide)).trans ((hq4.1.row (by decide) (by decide)).trans hr2))
  exact L29 _ _ _ (by omega) (by omega) hG21 hr22 (Fr.tt (Fr.tt (Fr.uB (Fr.uB Fr.rf (by decide)) (by decide)) (hq4.1.mo (by decide) (by decide))) (hq8.1.mo (by decide) (by decide))) hSC10 (by rw [q2, q3]; rfl) (by omega) (by omega) (Nat.lt_succ_self _)
theorem dX4_late_0 : decode cX4_late 0 = .ok (.aload_n 0, 1) := by decide +kernel
theorem dX4_late_1 : decode cX4_late 1 = .ok (.getfield 18, 3) := by decide +kernel
theorem dX4_late_4 : decode cX4_late 4 = .ok (.aload_n 1, 1) := by decide +kernel
theorem dX4_late_5 : decode cX4_late 5 = .ok (.invokevirtual 22, 3) := by decide +kernel
theorem dX4_late_8 : decode cX4_late 8 = .ok (.aload_n 1, 1) := by decide +kernel
theorem dX4_late_9 : decode cX4_late 9 = .ok (.getfield 26, 3) := by decide +kernel
theorem dX4_late_12 : decode cX4_late 12 = .ok (.bipush 118, 2) := by decide +kernel
theorem dX4_late_14 : decode cX4_late 14 = .ok (.iaload, 1) := by decide +kernel
theorem dX4_late_15 : decode cX4_late 15 = .ok (.istore_n 2, 1) := by decide +kernel
theorem dX4_late_16 : decode cX4_late 16 = .ok (.iload_n 2, 1) := by decide +kernel
theorem dX4_late_17 : decode cX4_late 17 = .ok (.istore_n 3, 1) := by decide +kernel
theorem dX4_late_18 : decode cX4_late 18 = .ok (.iload_n 3, 1) := by decide +kernel
theorem dX4_late_19 : decode cX4_late 19 = .ok (.bipush 61, 2) := by decide +kernel
theorem dX4_late_21 : decode cX4_late 21 = .ok (.if_icmp .gt 58, 3) := by decide +kernel
theorem dX4_late_24 : decode cX4_late 24 = .ok (.iload_n 3, 1) := by decide +kernel
theorem dX4_late_25 : decode cX4_late 25 = .ok (.iload_n 2, 1) := by decide +kernel
theorem dX4_late_26 : decode cX4_late 26 = .ok (.if_icmp .eq 13, 3) := by decide +kernel
theorem dX4_late_29 : decode cX4_late 29 = .ok (.aload_n 1, 1) := by decide +kernel
theorem dX4_late_30 : decode cX4_late 30 = .ok (.iload_n 3, 1) := by decide +kernel
theorem dX4_late_31 : decode cX4_late 31 = .ok (.iconst 1, 1) := by decide +kernel
theorem dX4_late_32 : decode cX4_late 32 = .ok (.isub, 1) := by decide +kernel
theorem dX4_late_33 : decode cX4_late 33 = .ok (.invokevirtual 30, 3) := by decide +kernel
theorem dX4_late_36 : decode cX4_late 36 = .ok (.ifCond .eq 37, 3) := by decide +kernel
theorem dX4_late_39 : decode cX4_late 39 = .ok (.aload_n 0, 1) := by decide +kernel
theorem dX4_late_40 : decode cX4_late 40 = .ok (.getfield 18, 3) := by decide +kernel
theorem dX4_late_43 : decode cX4_late 43 = .ok (.getfield 26, 3) := by decide +kernel
theorem dX4_late_46 : decode cX4_late 46 = .ok (.bipush 118, 2) := by decide +kernel
theorem dX4_late_48 : decode cX4_late 48 = .ok (.iload_n 3, 1) := by decide +kernel
theorem dX4_late_49 : decode cX4_late 49 = .ok (.iastore, 1) := by decide +kernel
theorem dX4_late_50 : decode cX4_late 50 = .ok (.aload_n 0, 1) := by decide +kernel
theorem dX4_late_51 : decode cX4_late 51 = .ok (.getfield 9, 3) := by decide +kernel
theorem dX4_late_54 : decode cX4_late 54 = .ok (.aload_n 0, 1) := by decide +kernel
theorem dX4_late_55 : decode cX4_late 55 = .ok (.getfield 18, 3) := by decide +kernel
theorem dX4_late_58 : decode cX4_late 58 = .ok (.invokevirtual 34, 3) := by decide +kernel
theorem dX4_late_61 : decode cX4_late 61 = .ok (.aload_n 0, 1) := by decide +kernel
theorem dX4_late_62 : decode cX4_late 62 = .ok (.getfield 9, 3) := by decide +kernel
theorem dX4_late_65 : decode cX4_late 65 = .ok (.invokevirtual 39, 3) := by decide +kernel
theorem dX4_late_68 : decode cX4_late 68 = .ok (.ifCond .eq 5, 3) := by decide +kernel
theorem dX4_late_71 : decode cX4_late 71 = .ok (.iload_n 3, 1) := by decide +kernel
theorem dX4_late_72 : decode cX4_late 72 = .ok (.ireturn, 1) := by decide +kernel
theorem dX4_late_73 : decode cX4_late 73 = .ok (.iinc 3 1, 3) := by decide +kernel
theorem dX4_late_76 : decode cX4_late 76 = .ok (.goto (-58), 3) := by decide +kernel
theorem dX4_late_79 : decode cX4_late 79 = .ok (.iconst (-1), 1) := by decide +kernel
theorem dX4_late_80 : decode cX4_late 80 = .ok (.ireturn, 1) := by decide +kernel
set_option maxHeartbeats 1000000 in
theorem c4_late {G : Gl} {l : Launch}  {M : Mem} {d : Int → Int} (hG : GR M) (hD : M 4 = d) (hSP : SP d) : Ct G LY 57 l 3 m4_late [vR 38, vR 3] M (RP (fun v M' => Fr [25, 26, 27, 28, 29, 30, 31, 32, 33, 34, 40] [(24, 11), (24, 12), (24, 13)] M M' ∧ GR M' ∧ LateV d v)) := by
  refine R_start (by decide +kernel) (Nat.le_of_ble_eq_true rfl) (fun C hC hRm hlau => ?_)
  show RZ G LY C (Zn G LY 57 C (RP (fun v M' => Fr [25, 26, 27, 28, 29, 30, 31, 32, 33, 34, 40] [(24, 11), (24, 12), (24, 13)] M M' ∧ GR M' ∧ LateV d v))) 0 0 57 0 [some (vR 38), some (vR 3), none, none] [] M
  have hLd := hSP.1.1
  have hWd := hSP.1.2
  have h118 := hSP.2.2.2.2.1.1
  refine R_aload_0 hC dX4_late_0 ?_
  refine R_getR hC dX4_late_1 fl_4_18 (by decide) rfl (by decide) (by decide) (fi := 1) rfl (r := 39) (gr_38_1 hG) ?_
  refine R_aload_1 hC dX4_late_4 ?_
  refine R_callVv (as := [vR _]) hC dX4_late_5 mo_8_copyFrom ml_4_22 (by decide) rfl rfl (c8_copyFrom  hG sh_39 sh_3 hD) rfl rfl hRm (by decide) (by decide) (Nat.le_of_ble_eq_true rfl) (fun Mc1 hq2 => ?_)
  have hG3 := hq2.2.1
  have hr4 := hq2.2.2
  refine R_aload_1 hC dX4_late_8 ?_
  refine R_getR hC dX4_late_9 fl_4_26 (by decide) rfl (by decide) (by decide) (fi := 0) rfl (r := 4) (gr_3_0 hG3) ?_
  refine R_bipush hC dX4_late_12 (by decide +kernel) ⟨by decide, by decide⟩ ?_
  have hr5 : Mc1 4 = d := ((hq2.1.row (by decide) (by decide)).trans hD)
  refine R_ialoadE hC dX4_late_14 (by decide) rfl (by omega) (by omega) (congrFun hr5 _) ?_
  refine R_istore_2 hC dX4_late_15 rfl ?_
  refine R_iload_2 hC dX4_late_16 ?_
  refine R_istore_3 hC dX4_late_17 rfl ?_
  have L18 : ∀ (mq : Nat) (y : Int) (e : Int → Int) (M1 : Mem), (d 118 ≤ y) → (y ≤ 62) → (GR M1) → (M1 4 = d) → (Fr [25, 26, 27, 28, 29, 30, 31, 32, 33, 34, 40] [(24, 11), (24, 12), (24, 13)] M M1) → (M1 40 = e) → (∀ k, k ≠ 118 → e k = d k) → (∀ z, d 118 ≤ z → z < y → ¬ planY d z) → (62 - y).toNat < mq → RZ G LY C (Zn G LY 57 C (RP (fun v M' => Fr [25, 26, 27, 28, 29, 30, 31, 32, 33, 34, 40] [(24, 11), (24, 12), (24, 13)] M M' ∧ GR M' ∧ LateV d v))) 0 0 57 18 [some (vR 38), some (vR 3), some (vI (d 118)), some (vI y)] [] M1 := by
    intro mq
    induction mq with
    | zero =>
      intro y e M1 hy0 hy1 hg hr hF hr40 he hN hm
      exact absurd hm (Nat.not_lt_zero _)
    | succ mq ih18 =>
      intro y e M1 hy0 hy1 hg hr hF hr40 he hN hm18
      refine R_iload_3 hC dX4_late_18 ?_
      refine R_bipush hC dX4_late_19 (by decide +kernel) ⟨by decide, by decide⟩ ?_
      refine R_icmp_gt hC dX4_late_21 (tgt := 79) (by decide) (fun hb21 => ?_) (fun hb21 => ?_)
      · skip
        refine R_iconst hC dX4_late_79 ⟨by decide, by decide⟩ ?_
        exact R_ireturn hC dX4_late_80 rfl (ret_P ⟨hF, hg, .inl ⟨rfl, fun z a b => hN z a (by omega)⟩⟩)
      · skip
        refine R_iload_3 hC dX4_late_24 ?_
        refine R_iload_2 hC dX4_late_25 ?_
        refine R_icmp_eq hC dX4_late_26 (tgt := 39) (by decide) (fun hb26 => ?_) (fun hb26 => ?_)
        · skip
          refine R_aload_0 hC dX4_late_39 ?_
          refine R_getR hC dX4_late_40 fl_4_18 (by decide) rfl (by decide) (by decide) (fi := 1) rfl (r := 39) (gr_38_1 hg) ?_
          refine R_getR hC dX4_late_43 fl_4_26 (by decide) rfl (by decide) (by decide) (fi := 0) rfl (r := 40) (gr_39_0 hg) ?_
          refine R_bipush hC dX4_late_46 (by decide +kernel) ⟨by decide, by decide⟩ ?_
          refine R_iload_3 hC dX4_late_48 ?_
          refine R_iastore hC dX4_late_49 (by decide) rfl (by omega) (by omega) ?_
          have hr6 : (uM M1 40 118 y) 40 = (upd1 d 118 y) := by (rw [uM_row, hr40]; exact funext (fun j => (by (show (if j = 118 then y else e j) = if j = 118 then y else d j); split; rfl; rename_i q; exact he j q)))
          refine R_aload_0 hC dX4_late_50 ?_
          have hG7 : GR (uM M1 40 118 y) := (GR.uA hg (by decide +kernel) (.inr ⟨by omega, by omega⟩))
          refine R_getR hC dX4_late_51 fl_4_9 (by decide) rfl (by decide) (by decide) (fi := 0) rfl (r := 24) (gr_38_0 hG7) ?_
          refine R_aload_0 hC dX4_late_54 ?_
          refine R_getR hC dX4_late_55 fl_4_18 (by decide) rfl (by decide) (by decide) (fi := 1) rfl (r := 39) (gr_38_1 hG7) ?_
          refine R_callVv (as := [vR _]) hC dX4_late_58 mo_6_load ml_4_34 (by decide) rfl rfl (c6_load  hG7 sh_39 hr6 (hSP.yr (by omega) (by omega)).B) rfl rfl hRm (by decide) (by decide) (Nat.le_of_ble_eq_true rfl) (fun Mc8 hq9 => ?_)
          have hSC10 := hq9.2
          refine R_aload_0 hC dX4_late_61 ?_
          have hG11 : GR Mc8 := (GR.fr hG7 hq9.1 (by decide +kernel))
          refine R_getR hC dX4_late_62 fl_4_9 (by decide) rfl (by decide) (by decide) (fi := 0) rfl (r := 24) (gr_38_0 hG11) ?_
          refine R_callVq (as := []) hC dX4_late_65 mo_6_hasPlan ml_4_39 (by decide) rfl rfl (c6_hasPlan  hG11 hSC10 ((hSP.yr (by omega) (by omega)).I)) rfl rfl hRm (by decide) (by decide) (Nat.le_of_ble_eq_true rfl) ?_
          refine R_if_eq hC dX4_late_68 (tgt := 73) (by decide) (fun hb68 => ?_) (fun hb68 => ?_)
          · skip
            replace hb68 := bP_z hb68
            refine R_iinc_3 hC dX4_late_73 rfl ⟨by omega, by omega⟩ ?_
            refine R_goto hC dX4_late_76 (tgt := 18) (by decide) ?_
            have hFb : Fr [25, 26, 27, 28, 29, 30, 31, 32, 33, 34, 40] [(24, 11), (24, 12), (24, 13)] M Mc8 := by first | exact hF | exact Fr.tt (Fr.uA hF (by decide)) (hq9.1.mo (by decide) (by decide))
            have hr12 : Mc8 40 = (upd1 d 118 y) := ((hq9.1.row (by decide) (by decide)).trans hr6)
            obtain ⟨eN, hrN, heN⟩ : ∃ eN, Mc8 40 = eN ∧ ∀ k, k ≠ 118 → eN k = d k := by
              first
                | exact ⟨e, hr40, he⟩
                | exact ⟨upd1 d 118 y, hr12, fun k hk => if_neg hk⟩
            have hNy : ¬ planY d y := by
              first
                | exact hb68
                | (refine fun q => hN (y - 1) (by omega) (by omega) ?_
                   have hL : 0 ≤ iL (insOf (upd1 d 118 y)) ∧ iL (insOf (upd1 d 118 y)) ≤ 5 := hSP.1.1
                   refine ((IQ.pl (J := insOf (upd1 d 118 (y - 1))) ?_ hL).mp q)
                   exact yr_IQ hSP (fun p p0 p1 a b => hb36 ⟨p, p0, p1, a, b⟩))
            have hr13 : Mc8 4 = d := ((hq9.1.row (by decide) (by decide)).trans ((uM_ne (by decide)).trans hr))
            exact ih18 _ eN _ (by omega) (by omega) hG11 hr13 hFb hrN heN (fun z a b => by (by_cases q : z = y; (rw [q]; exact hNy); exact hN z a (by omega))) (by omega)
          · skip
            replace hb68 := bP_nz hb68
            refine R_iload_3 hC dX4_late_71 ?_
            exact R_ireturn hC dX4_late_72 rfl (ret_P ⟨Fr.tt (Fr.uA hF (by decide)) (hq9.1.mo (by decide) (by decide)), hG11, .inr ⟨hy0, by omega, hb68, hN⟩⟩)
        · skip
          refine R_aload_1 hC dX4_late_29 ?_
          refine R_iload_3 hC dX4_late_30 ?_
          refine R_iconst hC dX4_late_31 ⟨by decide, by decide⟩ ?_
          refine R_isub hC dX4_late_32 ⟨by omega, by omega⟩ ?_
          refine R_callVq (as := [vI _]) hC dX4_late_33 mo_8_promiseEndsWith ml_4_30 (by decide) rfl rfl (c8_promiseEndsWith_d  hr hg sh_3) rfl rfl hRm (by decide) (by decide) (Nat.le_of_ble_eq_true rfl) ?_
          refine R_if_eq hC dX4_late_36 (tgt := 73) (by decide) (fun hb36 => ?_) (fun hb36 => ?_)
          · skip
            replace hb36 := bP_z hb36
            refine R_iinc_3 hC dX4_late_73 rfl ⟨by omega, by omega⟩ ?_
            refine R_goto hC dX4_late_76 (tgt := 18) (by decide) ?_
            have hFb : Fr [25, 26, 27, 28, 29, 30, 31, 32, 33, 34, 40] [(24, 11), (24, 12), (24, 13)] M M1 := by first | exact hF | exact Fr.tt (Fr.uA hF (by decide)) ({qb}.1.mo (by decide) (by decide))
            obtain ⟨eN, hrN, heN⟩ : ∃ eN, M1 40 = eN ∧ ∀ k, k ≠ 118 → eN k = d k := by
              first
                | exact ⟨e, hr40, he⟩
                | exact ⟨upd1 d 118 y, hr40, fun k hk => if_neg hk⟩
            have hNy : ¬ planY d y := by
              first
                | exact hb68
                | (refine fun q => hN (y - 1) (by omega) (by omega) ?_
                   have hL : 0 ≤ iL (insOf (upd1 d 118 y)) ∧ iL (insOf (upd1 d 118 y)) ≤ 5 := hSP.1.1
                   refine ((IQ.pl (J := insOf (upd1 d 118 (y - 1))) ?_ hL).mp q)
                   exact yr_IQ hSP (fun p p0 p1 a b => hb36 ⟨p, p0, p1, a, b⟩))
            exact ih18 _ eN _ (by omega) (by omega) hg hr hFb hrN heN (fun z a b => by (by_cases q : z = y; (rw [q]; exact hNy); exact hN z a (by omega))) (by omega)
          · skip
            replace hb36 := bP_nz hb36
            refine R_aload_0 hC dX4_late_39 ?_
            refine R_getR hC dX4_late_40 fl_4_18 (by decide) rfl (by decide) (by decide) (fi := 1) rfl (r := 39) (gr_38_1 hg) ?_
            refine R_getR hC dX4_late_43 fl_4_26 (by decide) rfl (by decide) (by decide) (fi := 0) rfl (r := 40) (gr_39_0 hg) ?_
            refine R_bipush hC dX4_late_46 (by decide +kernel) ⟨by decide, by decide⟩ ?_
            refine R_iload_3 hC dX4_late_48 ?_
            refine R_iastore hC dX4_late_49 (by decide) rfl (by omega) (by omega) ?_
            have hr14 : (uM M1 40 118 y) 40 = (upd1 d 118 y) := by (rw [uM_row, hr40]; exact funext (fun j => (by (show (if j = 118 then y else e j) = if j = 118 then y else d j); split; rfl; rename_i q; exact he j q)))
            refine R_aload_0 hC dX4_late_50 ?_
            have hG15 : GR (uM M1 40 118 y) := (GR.uA hg (by decide +kernel) (.inr ⟨by omega, by omega⟩))
            refine R_getR hC dX4_late_51 fl_4_9 (by decide) rfl (by decide) (by decide) (fi := 0) rfl (r := 24) (gr_38_0 hG15) ?_
            refine R_aload_0 hC dX4_late_54 ?_
            refine R_getR hC dX4_late_55 fl_4_18 (by decide) rfl (by decide) (by decide) (fi := 1) rfl (r := 39) (gr_38_1 hG15) ?_
            refine R_callVv (as := [vR _]) hC dX4_late_58 mo_6_load ml_4_34 (by decide) rfl rfl (c6_load  hG15 sh_39 hr14 (hSP.yr (by omega) (by omega)).B) rfl rfl hRm (by decide) (by decide) (Nat.le_of_ble_eq_true rfl) (fun Mc16 hq17 => ?_)
            have hSC18 := hq17.2
            refine R_aload_0 hC dX4_late_61 ?_
            have hG19 : GR Mc16 := (GR.fr hG15 hq17.1 (by decide +kernel))
            refine R_getR hC dX4_late_62 fl_4_9 (by decide) rfl (by decide) (by decide) (fi := 0) rfl (r := 24) (gr_38_0 hG19) ?_
            refine R_callVq (as := []) hC dX4_late_65 mo_6_hasPlan ml_4_39 (by decide) rfl rfl (c6_hasPlan  hG19 hSC18 ((hSP.yr (by omega) (by omega)).I)) rfl rfl hRm (by decide) (by decide) (Nat.le_of_ble_eq_true rfl) ?_
            refine R_if_eq hC dX4_late_68 (tgt := 73) (by decide) (fun hb68 => ?_) (fun hb68 => ?_)
            · skip
              replace hb68 := bP_z hb68
              refine R_iinc_3 hC dX4_late_73 rfl ⟨by omega, by omega⟩ ?_
              refine R_goto hC dX4_late_76 (tgt := 18) (by decide) ?_
              have hFb : Fr [25, 26, 27, 28, 29, 30, 31, 32, 33, 34, 40] [(24, 11), (24, 12), (24, 13)] M Mc16 := by first | exact hF | exact Fr.tt (Fr.uA hF (by decide)) (hq17.1.mo (by decide) (by decide))
              have hr20 : Mc16 40 = (upd1 d 118 y) := ((hq17.1.row (by decide) (by decide)).trans hr14)
              obtain ⟨eN, hrN, heN⟩ : ∃ eN, Mc16 40 = eN ∧ ∀ k, k ≠ 118 → eN k = d k := by
                first
                  | exact ⟨e, hr40, he⟩
                  | exact ⟨upd1 d 118 y, hr20, fun k hk => if_neg hk⟩
              have hNy : ¬ planY d y := by
                first
                  | exact hb68
                  | (refine fun q => hN (y - 1) (by omega) (by omega) ?_
                     have hL : 0 ≤ iL (insOf (upd1 d 118 y)) ∧ iL (insOf (upd1 d 118 y)) ≤ 5 := hSP.1.1
                     refine ((IQ.pl (J := insOf (upd1 d 118 (y - 1))) ?_ hL).mp q)
                     exact yr_IQ hSP (fun p p0 p1 a b => hb36 ⟨p, p0, p1, a, b⟩))
              have hr21 : Mc16 4 = d := ((hq17.1.row (by decide) (by decide)).trans ((uM_ne (by decide)).trans hr))
              exact ih18 _ eN _ (by omega) (by omega) hG19 hr21 hFb hrN heN (fun z a b => by (by_cases q : z = y; (rw [q]; exact hNy); exact hN z a (by omega))) (by omega)
            · skip
              replace hb68 := bP_nz hb68
              refine R_iload_3 hC dX4_late_71 ?_
              exact R_ireturn hC dX4_late_72 rfl (ret_P ⟨Fr.tt (Fr.uA hF (by decide)) (hq17.1.mo (by decide) (by decide)), hG19, .inr ⟨hy0, by omega, hb68, hN⟩⟩)
  exact L18 _ _ d _ (by omega) (by omega) hG3 hr5 (hq2.1.mo (by decide) (by decide)) hr4 (fun _ _ => rfl) (fun z a b => by omega) (Nat.lt_succ_self _)
