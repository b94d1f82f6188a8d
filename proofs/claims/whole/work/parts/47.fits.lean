/-! FITS and NEXT: keeps one by one, in one line -/
theorem CQ_sp {I J : Ins} (hL : 0 ≤ iL I ∧ iL I ≤ 5) (h1 : I.1 = J.1) (hc : ∀ w t, 0 ≤ w → w < iW I → 0 ≤ t → t < 2 ^ (iL I).toNat → canw I w t = canw J w t) (hz : iZ I = iZ J) (hn : iN I = iN J) (hm : iM I = iM J) : SPC I = SPC J := by
  have eL : iL I = iL J := congrArg Prod.fst h1
  have eW : iW I = iW J := congrArg Prod.snd h1
  have lk : ∀ t, 0 ≤ t → t < 2 ^ (iL I).toNat → lackI I t = lackI J t := fun t t0 t1 => by
    unfold lackI canI
    rw [hn, ← eW, sm_congr _ (fun w w0 w1 => hc w t w0 (by omega) t0 t1)]
  have pl : planI I ↔ planI J := by
    unfold planI
    rw [← eL]
    exact ⟨fun q t t0 t1 => by rw [← lk t t0 t1]; exact q t t0 t1, fun q t t0 t1 => by rw [lk t t0 t1]; exact q t t0 t1⟩
  have mc : ∀ s, MC I s = MC J s := fun s => by
    have e : fullS I = fullS J := by unfold fullS; rw [eL]
    have hp := pw_le6 hL.1 hL.2
    have hf : fullS I = 2 ^ (iL I).toNat - 1 := rfl
    unfold MC
    rw [← e]
    refine mnn_congr (fun t t0 t1 => ?_)
    unfold cutS lsum
    rw [← e, ← eW, hm, hz]
    congr 1
    exact sm_congr _ (fun w w0 w1 => by rw [hc w t w0 (by omega) t0 (by omega)])
  by_cases q : planI I
  · rw [SPC_t q, SPC_t (pl.mp q)]
    exact sm_congr 9 (fun s _ _ => mc _)
  · rw [SPC_f q, SPC_f (fun z => q (pl.mpr z))]
theorem spcK_I {I J : Ins} {d : Int → Int} {w k : Int} (hb : IB I) (hOE : iO I = iO (insOf d) ∧ I.1 = (insOf d).1) (w0 : 0 ≤ w) (w1 : w < iW I) (hJ : IQ (setS I w (max 0 (allOf d w - k))) J) : SPC J = spcK I d w k := by
  rw [← hJ.sp hb.1]
  refine CQ_sp (I := setS I w (max 0 (allOf d w - k))) (J := setS I w (spK d w k)) hb.1 rfl (fun v t v0 v1 t0 t1 => ?_) rfl rfl rfl
  unfold canw
  show min (ss (fun x => iO I x v) t) (if v = w then _ else iS I v) = min (ss (fun x => iO I x v) t) (if v = w then _ else iS I v)
  by_cases q : v = w
  · subst q
    rw [if_pos rfl, if_pos rfl]
    have f := ss_full (f := fun x => iO I x v) hb.1.1 hb.1.2 t0 t1 (fun x x0 x1 => (hb.2.2.1 x v x0 x1 w0 w1).1)
    have e : ofA (insOf d) v = ss (fun x => iO I x v) (2 ^ (iL I).toNat - 1) := by
      unfold ofA iL
      rw [← hOE.1, hOE.2]
    unfold spK
    rw [e]
    omega
  · rw [if_neg q, if_neg q]
theorem offr_cg {d e : Int → Int} (h : ∀ j, 22 ≤ j → e j = d j) {x w : Int} (x0 : 0 ≤ x) (w0 : 0 ≤ w) : offr e x w = offr d x w := by
  unfold offr
  rw [h _ (by omega), h _ (by omega), h _ (by omega), h _ (by omega)]
theorem inAll_cg {d e : Int → Int} (h : ∀ j, 22 ≤ j → e j = d j) {x : Int} (x0 : 0 ≤ x) : inAll e x = inAll d x := by
  unfold inAll
  rw [h 122 (by decide)]
  exact sm_congr _ (fun w w0 w1 => h _ (by omega))
theorem allOf_cg {d e : Int → Int} (h : ∀ j, 22 ≤ j → e j = d j) {w : Int} (w0 : 0 ≤ w) : allOf e w = allOf d w := by
  unfold allOf
  rw [h 121 (by decide), h _ (by omega), sm_congr _ (fun x x0 x1 => h (28 + x * 6 + w) (by omega))]
/-- another keep of work w, another room of library x -/
theorem kr_IQ {d e : Int → Int} {w k x r : Int} (hL : 0 ≤ d 121 ∧ d 121 ≤ 5) (hW : 0 ≤ d 122 ∧ d 122 ≤ 6) (w0 : 0 ≤ w) (x0 : 0 ≤ x) (x1 : x < 5) (h : ∀ j, 22 ≤ j → e j = d j) (hm : ∀ j, 5 ≤ j → j < 16 → e j = d j) (hk : ∀ v, 0 ≤ v → v < 6 → e (16 + v) = if v = w then k else d (16 + v)) (hr : ∀ y, 0 ≤ y → y < 5 → e y = if y = x then r else d y) :
    IQ (setS (setNM (insOf d) x (max 0 (inAll d x - r)) (max (max 0 (inAll d x - r)) (d (5 + x)))) w (max 0 (allOf d w - k))) (insOf e) := by
  have n1 : ∀ y, 0 ≤ y → y < 5 → (if y = x then max 0 (inAll d x - r) else nee d y) = nee e y := fun y y0 y1 => by
    unfold nee
    rw [inAll_cg h y0, hr y y0 y1]
    split
    · rename_i q; rw [q]
    · rfl
  refine ⟨?_, fun y v y0 y1 v0 v1 => ?_, fun v v0 v1 => ⟨?_, ?_⟩, fun y y0 y1 => ?_⟩
  · show (d 121, d 122) = (e 121, e 122)
    rw [h 121 (by decide), h 122 (by decide)]
  · exact (offr_cg h y0 v0).symm
  · have v1 : v < d 122 := v1
    show (if v = w then _ else spr d v) = spr e v
    unfold spr
    rw [allOf_cg h v0, hk v v0 (by omega)]
    split
    · rename_i q; rw [q]
    · rfl
  · have v1 : v < d 122 := v1
    exact (hm (10 + v) (by omega) (by omega)).symm
  · have y1 : y < d 121 := y1
    have q := n1 y y0 (by omega)
    refine ⟨q, ?_⟩
    show (if y = x then _ else max (nee d y) (d (5 + y))) = max (nee e y) (e (5 + y))
    rw [← q, hm (5 + y) (by omega) (by omega)]
    split
    · rename_i z; rw [z]
    · rfl
theorem k_IQ {d e : Int → Int} {w k : Int} (hL : 0 ≤ d 121 ∧ d 121 ≤ 5) (hW : 0 ≤ d 122 ∧ d 122 ≤ 6) (w0 : 0 ≤ w) (h : ∀ j, 22 ≤ j → e j = d j) (hm : ∀ j, 0 ≤ j → j < 16 → e j = d j) (hk : ∀ v, 0 ≤ v → v < 6 → e (16 + v) = if v = w then k else d (16 + v)) :
    IQ (setS (insOf d) w (max 0 (allOf d w - k))) (insOf e) := by
  have g := kr_IQ (x := 0) (r := d 0) hL hW w0 (Int.le_refl _) (by decide) h (fun j a b => hm j (by omega) b) hk (fun y a b => by
    rw [hm y a (by omega)]
    split
    · rename_i q; rw [q]
    · rfl)
  refine ⟨g.1, g.2.1, g.2.2.1, fun y y0 y1 => ?_⟩
  have q := g.2.2.2 y y0 y1
  refine ⟨?_, ?_⟩
  · refine Eq.trans ?_ q.1
    show nee d y = if y = 0 then _ else nee d y
    split
    · rename_i z; rw [z]; rfl
    · rfl
  · refine Eq.trans ?_ q.2
    show max (nee d y) (d (5 + y)) = if y = 0 then _ else max (nee d y) (d (5 + y))
    split
    · rename_i z; rw [z]; rfl
    · rfl
/-- the room of library x less by one -/
def UIx (d : Int → Int) (x : Int) : Ins := setNM (insOf d) x (max 0 (inAll d x - max 0 (d x - 1))) (max (max 0 (inAll d x - max 0 (d x - 1))) (d (5 + x)))
theorem spcK_k {d : Int → Int} (h : SM d) {w k : Int} (w0 : 0 ≤ w) (w1 : w < d 122) : SPC (insOf (upd1 d (16 + w) k)) = spcK (insOf d) d w k :=
  spcK_I h.I ⟨rfl, rfl⟩ w0 w1 (k_IQ h.1.1 h.1.2 w0 (fun j a => upd1_o (by have := h.1.2; omega)) (fun j a b => upd1_o (by omega)) (fun v v0 v1 => by
    by_cases q : v = w
    · rw [if_pos q, q, upd1_e]
    · rw [if_neg q, upd1_o (by omega)]))
theorem spcK_x {d e : Int → Int} (h : SM d) {w k x : Int} (w0 : 0 ≤ w) (w1 : w < d 122) (x0 : 0 ≤ x) (x1 : x < d 121) (he : e = upd1 d (16 + w) k ∧ d x ≤ 0 ∨ e = upd1 (upd1 d (16 + w) k) x (d x - 1) ∧ 0 < d x) : SPC (insOf e) = spcK (UIx d x) d w k := by
  have hL := h.1.1
  have hW := h.1.2
  have bx := (h.2.1 x x0 (by omega)).1
  have bn := (h.I.2.2.2.2 x x0 x1)
  have ba := h.inA x0 (show x < 5 by omega)
  have by5 := (h.2.1 x x0 (by omega)).2
  refine spcK_I (I := UIx d x) (h.I.setNM (by omega) (by omega) (by omega)) ⟨rfl, rfl⟩ w0 w1 (kr_IQ hL hW w0 x0 (by omega) (fun j a => ?_) (fun j a b => ?_) (fun v v0 v1 => ?_) (fun y y0 y1 => ?_))
  · rcases he with ⟨z, _⟩ | ⟨z, _⟩ <;> rw [z]
    · exact upd1_o (by omega)
    · rw [upd1_o (by omega), upd1_o (by omega)]
  · rcases he with ⟨z, _⟩ | ⟨z, _⟩ <;> rw [z]
    · exact upd1_o (by omega)
    · rw [upd1_o (by omega), upd1_o (by omega)]
  · rcases he with ⟨z, _⟩ | ⟨z, _⟩ <;> rw [z]
    · by_cases q : v = w
      · rw [if_pos q, q, upd1_e]
      · rw [if_neg q, upd1_o (by omega)]
    · rw [upd1_o (by omega)]
      by_cases q : v = w
      · rw [if_pos q, q, upd1_e]
      · rw [if_neg q, upd1_o (by omega)]
  · rcases he with ⟨z, g⟩ | ⟨z, g⟩ <;> rw [z]
    · rw [upd1_o (by omega)]
      by_cases q : y = x
      · rw [if_pos q, q]; omega
      · rw [if_neg q]
    · by_cases q : y = x
      · rw [if_pos q, q, upd1_e]; omega
      · rw [if_neg q, upd1_o q, upd1_o (by omega)]
def lin (P : Int → Int → Prop) (i : Int) : Prop := P (i / 16) (i % 16)
noncomputable def cL (P : Int → Int → Prop) (n : Nat) : Int := sm n (fun i => bP (lin P i))
def cdL (i : Int) : Int := 100 * (i / 16) + i % 16
def FLq (P : Int → Int → Prop) (F : Int → Int) (n : Int) : Prop := (∀ i, 0 ≤ i → i < n → lin P i → F (cL P i.toNat) = cdL i) ∧ ∀ a, 0 ≤ a → a < cL P n.toNat → ∃ i, 0 ≤ i ∧ i < n ∧ lin P i ∧ cL P i.toNat = a ∧ F a = cdL i
theorem cL_s {P : Int → Int → Prop} {i j : Int} (h : 0 ≤ i) (hj : j = i + 1) : cL P j.toNat = cL P i.toNat + bP (lin P i) := sm_to h hj
theorem cL_b {P : Int → Int → Prop} (n : Nat) : 0 ≤ cL P n ∧ cL P n ≤ n := by
  have := sm_bd (f := fun i => bP (lin P i)) (b := 1) n (fun _ _ _ => bP_b _)
  unfold cL
  omega
theorem cL_lt {P : Int → Int → Prop} {i n : Int} (h : 0 ≤ i) (hn : i < n) (p : lin P i) : cL P i.toNat < cL P n.toNat := by
  have a := sm_mn (f := fun i => bP (lin P i)) (fun _ => (bP_b _).1) (n := (i + 1).toNat) n.toNat (by omega)
  have b := cL_s (P := P) h rfl
  rw [bP_pos p] at b
  unfold cL at b ⊢
  omega
theorem FLq.z {P : Int → Int → Prop} {F : Int → Int} : FLq P F 0 := ⟨fun i a b => by omega, fun a a0 a1 => absurd a1 (by show ¬ a < 0; omega)⟩
theorem FLq.skip {P : Int → Int → Prop} {F : Int → Int} {n : Int} (h : FLq P F n) (h0 : 0 ≤ n) (hp : ¬ lin P n) : FLq P F (n + 1) := by
  refine ⟨fun i i0 i1 p => ?_, fun a a0 a1 => ?_⟩
  · by_cases q : i = n
    · rw [q] at p; exact absurd p hp
    · exact h.1 i i0 (by omega) p
  · rw [cL_s h0 rfl, bP_neg hp, Int.add_zero] at a1
    obtain ⟨i, i0, i1, r⟩ := h.2 a a0 a1
    exact ⟨i, i0, by omega, r⟩
theorem FLq.add {P : Int → Int → Prop} {F F' : Int → Int} {n : Int} (h : FLq P F n) (h0 : 0 ≤ n) (hp : lin P n) (e : ∀ a, F' a = if a = cL P n.toNat then cdL n else F a) : FLq P F' (n + 1) := by
  refine ⟨fun i i0 i1 p => ?_, fun a a0 a1 => ?_⟩
  · by_cases q : i = n
    · rw [q, e, if_pos rfl]
    · have := cL_lt i0 (show i < n by omega) p
      rw [e, if_neg (by omega)]
      exact h.1 i i0 (by omega) p
  · rw [cL_s h0 rfl, bP_pos hp] at a1
    by_cases q : a = cL P n.toNat
    · exact ⟨n, h0, by omega, hp, q.symm, by rw [e, if_pos q]⟩
    · obtain ⟨i, i0, i1, p, r, s⟩ := h.2 a a0 (by omega)
      exact ⟨i, i0, by omega, p, r, by rw [e, if_neg q]; exact s⟩
theorem cdL_d {i w k : Int} (k0 : 0 ≤ k) (k1 : k < 16) (h : i = 16 * w + k) : i / 16 = w ∧ i % 16 = k := by omega
theorem lin_at {P : Int → Int → Prop} {w k : Int} (k0 : 0 ≤ k) (k1 : k < 16) : lin P (16 * w + k) ↔ P w k := by
  unfold lin
  rw [(cdL_d k0 k1 rfl).1, (cdL_d k0 k1 rfl).2]
theorem ck_lin {P : Int → Int → Prop} {F : Int → Int} {N : Int} (hF : ∀ i, 0 ≤ i → i < N → lin P i → F (cL P i.toNat) = cdL i) : ∀ w : Nat, (∀ k : Nat, k ≤ 16 → (16 * w + k : Int) ≤ N → ck P w k (ckA P w) = (cL P (16 * w + k), if cL P (16 * w + k) = 0 then -1 else F 0)) := by
  have inn : ∀ w : Nat, ((16 * w : Int) ≤ N → ckA P w = (cL P (16 * w), if cL P (16 * w) = 0 then -1 else F 0)) → ∀ k : Nat, k ≤ 16 → (16 * w + k : Int) ≤ N → ck P w k (ckA P w) = (cL P (16 * w + k), if cL P (16 * w + k) = 0 then -1 else F 0) := fun w h => by
    intro k
    induction k with
    | zero => intro _ b; exact h (by omega)
    | succ k ih =>
      intro a b
      have r := ih (by omega) (by omega)
      have la := lin_at (P := P) (w := (w : Int)) (k := (k : Int)) (by omega) (by omega)
      have c := cL_s (P := P) (i := ((16 * w + k : Nat) : Int)) (j := ((16 * w + k : Nat) : Int) + 1) (by omega) rfl
      rw [show (((16 * w + k : Nat) : Int) + 1).toNat = 16 * w + (k + 1) by omega, show (((16 * w + k : Nat) : Int)).toNat = 16 * w + k by omega, show ((16 * w + k : Nat) : Int) = 16 * (w : Int) + k by omega] at c
      have nn := (cL_b (P := P) (16 * w + k)).1
      rw [ck, r, c]
      by_cases p : P w k
      · have lp := la.mpr p
        rw [if_pos p, bP_pos lp]
        refine Prod.ext rfl ?_
        dsimp only
        rw [if_neg (show ¬ cL P (16 * w + k) + 1 = 0 by omega)]
        by_cases z : cL P (16 * w + k) = 0
        · rw [if_pos z]
          have f := hF _ (by omega) (by omega) lp
          rw [show (16 * (w : Int) + k).toNat = 16 * w + k by omega, z] at f
          rw [f]
          unfold cdL
          omega
        · rw [if_neg z, if_neg z]
      · rw [if_neg p, bP_neg (fun z => p (la.mp z)), Int.add_zero]
  intro w
  induction w with
  | zero => exact inn 0 (fun _ => rfl)
  | succ w ih =>
    refine inn (w + 1) (fun b => ?_)
    rw [ckA, ih 16 (by omega) (by omega)]
    rfl
def sL (G : Int → Int) (m : Int) : Int → Prop := fun v => ∃ a, 0 ≤ a ∧ a < m ∧ G a + 1 = v
noncomputable def uL (G : Int → Int) (n : Nat) : Int := sm n (fun a => bP (∀ b, 0 ≤ b → b < a → G b ≠ G a))
theorem uL_s {G : Int → Int} {i j : Int} (h : 0 ≤ i) (hj : j = i + 1) : uL G j.toNat = uL G i.toNat + bP (∀ b, 0 ≤ b → b < i → G b ≠ G i) := sm_to h hj
theorem uL_b {G : Int → Int} (n : Nat) : 0 ≤ uL G n ∧ uL G n ≤ n := by
  have := sm_bd (f := fun a => bP (∀ b, 0 ≤ b → b < a → G b ≠ G a)) (b := 1) n (fun _ _ _ => bP_b _)
  unfold uL
  omega
theorem nw_lin {P : Int → Int → Prop} {g : Int → Int → Int} {G : Int → Int} {N : Int} (hG : ∀ i, 0 ≤ i → i < N → lin P i → G (cL P i.toNat) + 1 = g (i / 16) (i % 16)) : ∀ w : Nat, (∀ k : Nat, k ≤ 16 → (16 * w + k : Int) ≤ N → (nwA P g w).1 + (nwS (P w) (g w) (nwA P g w).2 k).1 = uL G (cL P (16 * w + k)).toNat ∧ (nwS (P w) (g w) (nwA P g w).2 k).2 = sL G (cL P (16 * w + k))) := by
  have inn : ∀ w : Nat, ((16 * w : Int) ≤ N → (nwA P g w).1 = uL G (cL P (16 * w)).toNat ∧ (nwA P g w).2 = sL G (cL P (16 * w))) → ∀ k : Nat, k ≤ 16 → (16 * w + k : Int) ≤ N → (nwA P g w).1 + (nwS (P w) (g w) (nwA P g w).2 k).1 = uL G (cL P (16 * w + k)).toNat ∧ (nwS (P w) (g w) (nwA P g w).2 k).2 = sL G (cL P (16 * w + k)) := fun w h => by
    intro k
    induction k with
    | zero =>
      intro _ b
      have z := h (by omega)
      exact ⟨(Int.add_zero _).trans z.1, z.2⟩
    | succ k ih =>
      intro a b
      have r := ih (by omega) (by omega)
      have la := lin_at (P := P) (w := (w : Int)) (k := (k : Int)) (by omega) (by omega)
      have c := cL_s (P := P) (i := ((16 * w + k : Nat) : Int)) (j := ((16 * w + k : Nat) : Int) + 1) (by omega) rfl
      rw [show (((16 * w + k : Nat) : Int) + 1).toNat = 16 * w + (k + 1) by omega, show (((16 * w + k : Nat) : Int)).toNat = 16 * w + k by omega, show ((16 * w + k : Nat) : Int) = 16 * (w : Int) + k by omega] at c
      have nn := (cL_b (P := P) (16 * w + k)).1
      rw [nwS]
      by_cases p : P w k
      · have lp := la.mpr p
        have e := hG _ (by omega) (by omega) lp
        rw [show (16 * (w : Int) + k).toNat = 16 * w + k by omega, (cdL_d (w := (w : Int)) (k := (k : Int)) (by omega) (by omega) rfl).1, (cdL_d (w := (w : Int)) (k := (k : Int)) (by omega) (by omega) rfl).2] at e
        rw [if_pos p, c, bP_pos lp]
        dsimp only
        rw [r.2, ← e]
        refine ⟨?_, ?_⟩
        · rw [uL_s nn rfl, ← r.1, Int.add_assoc]
          congr 2
          refine bP_iff ⟨fun z b b0 b1 y => z ⟨b, b0, b1, by omega⟩, fun z ⟨b, b0, b1, y⟩ => z b b0 b1 (by omega)⟩
        · funext v
          refine propext ⟨fun z => ?_, fun ⟨a, a0, a1, y⟩ => ?_⟩
          · rcases z with ⟨a, a0, a1, y⟩ | z
            · exact ⟨a, a0, by omega, y⟩
            · exact ⟨_, nn, by omega, z.symm⟩
          · by_cases q : a = cL P (16 * w + k)
            · rw [q] at y; exact .inr y.symm
            · exact .inl ⟨a, a0, by omega, y⟩
      · rw [if_neg p, c, bP_neg (fun z => p (la.mp z)), Int.add_zero]
        exact r
  intro w
  induction w with
  | zero => exact inn 0 (fun _ => ⟨rfl, funext fun v => propext ⟨False.elim, fun ⟨a, a0, a1, _⟩ => absurd a1 (by show ¬ a < 0; omega)⟩⟩)
  | succ w ih =>
    refine inn (w + 1) (fun b => ?_)
    have r := ih 16 (by omega) (by omega)
    rw [nwA]
    exact r
theorem ubF_cg {U V : Int → Int} : ∀ n : Nat, (∀ x : Int, 0 ≤ x → x < n → U x = V x) → ubF U n = ubF V n
  | 0, _ => rfl
  | n + 1, h => by
    rw [ubF, ubF, ubF_cg n (fun x a b => h x a (by omega)), h n (by omega) (by omega)]
theorem ubF_b {U : Int → Int} {m : Int} (hm : 0 ≤ m) : ∀ n : Nat, (∀ x : Int, 0 ≤ x → x < n → U x ≤ m) → (0 ≤ (ubF U n).1 ∧ (ubF U n).1 ≤ m) ∧ -1 ≤ (ubF U n).2 ∧ (ubF U n).2 < n
  | 0, _ => ⟨⟨Int.le_refl _, hm⟩, Int.le_refl _, by show (-1 : Int) < 0; decide⟩
  | n + 1, h => by
    have r := ubF_b hm n (fun x a b => h x a (by omega))
    have u := h n (by omega) (by omega)
    rw [ubF]
    split
    · exact ⟨⟨by dsimp only; omega, u⟩, by dsimp only; omega, by dsimp only; omega⟩
    · omega

theorem dX12_isNoted_0 : decode cX12_isNoted 0 = .ok (.aload_n 0, 1) := by decide +kernel
theorem dX12_isNoted_1 : decode cX12_isNoted 1 = .ok (.iload_n 1, 1) := by decide +kernel
theorem dX12_isNoted_2 : decode cX12_isNoted 2 = .ok (.invokevirtual 172, 3) := by decide +kernel
theorem dX12_isNoted_5 : decode cX12_isNoted 5 = .ok (.istore_n 2, 1) := by decide +kernel
theorem dX12_isNoted_6 : decode cX12_isNoted 6 = .ok (.iconst 0, 1) := by decide +kernel
theorem dX12_isNoted_7 : decode cX12_isNoted 7 = .ok (.istore_n 3, 1) := by decide +kernel
theorem dX12_isNoted_8 : decode cX12_isNoted 8 = .ok (.iload_n 3, 1) := by decide +kernel
theorem dX12_isNoted_9 : decode cX12_isNoted 9 = .ok (.aload_n 0, 1) := by decide +kernel
theorem dX12_isNoted_10 : decode cX12_isNoted 10 = .ok (.getfield 281, 3) := by decide +kernel
theorem dX12_isNoted_13 : decode cX12_isNoted 13 = .ok (.if_icmp .ge 21, 3) := by decide +kernel
theorem dX12_isNoted_16 : decode cX12_isNoted 16 = .ok (.aload_n 0, 1) := by decide +kernel
theorem dX12_isNoted_17 : decode cX12_isNoted 17 = .ok (.getfield 16, 3) := by decide +kernel
theorem dX12_isNoted_20 : decode cX12_isNoted 20 = .ok (.iload_n 3, 1) := by decide +kernel
theorem dX12_isNoted_21 : decode cX12_isNoted 21 = .ok (.iaload, 1) := by decide +kernel
theorem dX12_isNoted_22 : decode cX12_isNoted 22 = .ok (.iload_n 2, 1) := by decide +kernel
theorem dX12_isNoted_23 : decode cX12_isNoted 23 = .ok (.if_icmp .eq 5, 3) := by decide +kernel
theorem dX12_isNoted_26 : decode cX12_isNoted 26 = .ok (.iconst 0, 1) := by decide +kernel
theorem dX12_isNoted_27 : decode cX12_isNoted 27 = .ok (.ireturn, 1) := by decide +kernel
theorem dX12_isNoted_28 : decode cX12_isNoted 28 = .ok (.iinc 3 1, 3) := by decide +kernel
theorem dX12_isNoted_31 : decode cX12_isNoted 31 = .ok (.goto (-23), 3) := by decide +kernel
theorem dX12_isNoted_34 : decode cX12_isNoted 34 = .ok (.iconst 1, 1) := by decide +kernel
theorem dX12_isNoted_35 : decode cX12_isNoted 35 = .ok (.ireturn, 1) := by decide +kernel
set_option maxHeartbeats 400000 in
theorem c12_isNoted {G : Gl} {l : Launch}  {M : Mem} {b n : Int} {c no : Int → Int} (hG : GR M) (hK : RW M b c) (hb0 : 0 ≤ b) (hb1 : b ≤ 9686) (hM : SM c) (hn : M 57 9 = n) (hno : ∀ i, 0 ≤ i → i < n → M 60 i = no i) (hn0 : 0 ≤ n) (hn1 : n ≤ 6) : Ct G LY 82 l 7 m12_isNoted [vR 57, vI b] M (RP (fun v M' => Fr [63, 64, 65, 66, 67, 68, 69, 70, 71] [(57, 22), (57, 23)] M M' ∧ v = bP (∀ i, 0 ≤ i → i < n → no i = SPC (insOf c)))) := by
  refine R_start (by decide +kernel) (Nat.le_of_ble_eq_true rfl) (fun C hC hRm hlau => ?_)
  show RZ G LY C (Zn G LY 82 C (RP (fun v M' => Fr [63, 64, 65, 66, 67, 68, 69, 70, 71] [(57, 22), (57, 23)] M M' ∧ v = bP (∀ i, 0 ≤ i → i < n → no i = SPC (insOf c))))) 0 0 82 0 [some (vR 57), some (vI b), none, none] [] M
  refine R_aload_0 hC dX12_isNoted_0 ?_
  refine R_iload_1 hC dX12_isNoted_1 ?_
  refine R_callVp (as := [vI _]) hC dX12_isNoted_2 mo_12_spaceOf ml_12_172 (by decide) rfl rfl (c12_spaceOf  hG hK (by omega) (by omega) hM) rfl rfl hRm (by decide) (by decide) (Nat.le_of_ble_eq_true rfl) (fun v3 Mc1 hq2 => ?_)
  refine R_istore_2 hC dX12_isNoted_5 rfl ?_
  refine R_iconst hC dX12_isNoted_6 ⟨by decide, by decide⟩ ?_
  refine R_istore_3 hC dX12_isNoted_7 rfl ?_
  have L8 : ∀ (mq : Nat) (i : Int), (0 ≤ i) → (i ≤ n) → (∀ j, 0 ≤ j → j < i → no j = SPC (insOf c)) → (n - i).toNat < mq → RZ G LY C (Zn G LY 82 C (RP (fun v M' => Fr [63, 64, 65, 66, 67, 68, 69, 70, 71] [(57, 22), (57, 23)] M M' ∧ v = bP (∀ i, 0 ≤ i → i < n → no i = SPC (insOf c))))) 0 0 82 8 [some (vR 57), some (vI b), some (vI v3), some (vI i)] [] Mc1 := by
    intro mq
    induction mq with
    | zero =>
      intro i hi0 hi1 hy hm
      exact absurd hm (Nat.not_lt_zero _)
    | succ mq ih8 =>
      intro i hi0 hi1 hy hm8
      refine R_iload_3 hC dX12_isNoted_8 ?_
      refine R_aload_0 hC dX12_isNoted_9 ?_
      refine R_getIE hC dX12_isNoted_10 fl_12_281 (by decide) rfl (by decide) (by decide) (fi := 9) rfl ((hq2.1 57 9 (by decide) (by decide)).trans hn) ?_
      refine R_icmp_ge hC dX12_isNoted_13 (tgt := 34) (by decide) (fun hb13 => ?_) (fun hb13 => ?_)
      · skip
        refine R_iconst hC dX12_isNoted_34 ⟨by decide, by decide⟩ ?_
        exact R_zreturn hC dX12_isNoted_35 rfl (.inr rfl) (ret_P ⟨hq2.1, (bP_pos (fun j a b => hy j a (by omega))).symm⟩)
      · skip
        refine R_aload_0 hC dX12_isNoted_16 ?_
        have hG4 : GR Mc1 := (GR.fr hG hq2.1 (by decide +kernel))
        refine R_getR hC dX12_isNoted_17 fl_12_16 (by decide) rfl (by decide) (by decide) (fi := 2) rfl (r := 60) (gr_57_2 hG4) ?_
        refine R_iload_3 hC dX12_isNoted_20 ?_
        refine R_ialoadE hC dX12_isNoted_21 (by decide) rfl (by omega) (by omega) ((congrFun (hq2.1.row (by decide) (by decide)) i).trans (hno i hi0 (by omega))) ?_
        refine R_iload_2 hC dX12_isNoted_22 ?_
        refine R_icmp_eq hC dX12_isNoted_23 (tgt := 28) (by decide) (fun hb23 => ?_) (fun hb23 => ?_)
        · skip
          refine R_iinc_3 hC dX12_isNoted_28 rfl ⟨by omega, by omega⟩ ?_
          refine R_goto hC dX12_isNoted_31 (tgt := 8) (by decide) ?_
          exact ih8 _ (by omega) (by omega) (fun j a b => by
            by_cases e : j = i
            · rw [e, ← hq2.2]; exact hb23
            · exact hy j a (by omega)) (by omega)
        · skip
          refine R_iconst hC dX12_isNoted_26 ⟨by decide, by decide⟩ ?_
          exact R_zreturn hC dX12_isNoted_27 rfl (.inl rfl) (ret_P ⟨hq2.1, (bP_neg (fun z => hb23 ((z i hi0 (by omega)).trans hq2.2.symm))).symm⟩)
  exact L8 _ _ (by omega) (by omega) (fun j a b => by omega) (Nat.lt_succ_self _)
theorem dX12_laysFits_0 : decode cX12_laysFits 0 = .ok (.aload_n 0, 1) := by decide +kernel
theorem dX12_laysFits_1 : decode cX12_laysFits 1 = .ok (.iconst 0, 1) := by decide +kernel
theorem dX12_laysFits_2 : decode cX12_laysFits 2 = .ok (.putfield 430, 3) := by decide +kernel
theorem dX12_laysFits_5 : decode cX12_laysFits 5 = .ok (.iconst 0, 1) := by decide +kernel
theorem dX12_laysFits_6 : decode cX12_laysFits 6 = .ok (.istore_n 1, 1) := by decide +kernel
theorem dX12_laysFits_7 : decode cX12_laysFits 7 = .ok (.iload_n 1, 1) := by decide +kernel
theorem dX12_laysFits_8 : decode cX12_laysFits 8 = .ok (.aload_n 0, 1) := by decide +kernel
theorem dX12_laysFits_9 : decode cX12_laysFits 9 = .ok (.getfield 102, 3) := by decide +kernel
theorem dX12_laysFits_12 : decode cX12_laysFits 12 = .ok (.if_icmp .ge 91, 3) := by decide +kernel
theorem dX12_laysFits_15 : decode cX12_laysFits 15 = .ok (.iconst 0, 1) := by decide +kernel
theorem dX12_laysFits_16 : decode cX12_laysFits 16 = .ok (.istore_n 2, 1) := by decide +kernel
theorem dX12_laysFits_17 : decode cX12_laysFits 17 = .ok (.iload_n 2, 1) := by decide +kernel
theorem dX12_laysFits_18 : decode cX12_laysFits 18 = .ok (.bipush 15, 2) := by decide +kernel
theorem dX12_laysFits_20 : decode cX12_laysFits 20 = .ok (.if_icmp .gt 77, 3) := by decide +kernel
theorem dX12_laysFits_23 : decode cX12_laysFits 23 = .ok (.iload_n 2, 1) := by decide +kernel
theorem dX12_laysFits_24 : decode cX12_laysFits 24 = .ok (.aload_n 0, 1) := by decide +kernel
theorem dX12_laysFits_25 : decode cX12_laysFits 25 = .ok (.getfield 9, 3) := by decide +kernel
theorem dX12_laysFits_28 : decode cX12_laysFits 28 = .ok (.bipush 100, 2) := by decide +kernel
theorem dX12_laysFits_30 : decode cX12_laysFits 30 = .ok (.iload_n 1, 1) := by decide +kernel
theorem dX12_laysFits_31 : decode cX12_laysFits 31 = .ok (.iadd, 1) := by decide +kernel
theorem dX12_laysFits_32 : decode cX12_laysFits 32 = .ok (.iaload, 1) := by decide +kernel
theorem dX12_laysFits_33 : decode cX12_laysFits 33 = .ok (.if_icmp .ne 6, 3) := by decide +kernel
theorem dX12_laysFits_36 : decode cX12_laysFits 36 = .ok (.goto 55, 3) := by decide +kernel
theorem dX12_laysFits_39 : decode cX12_laysFits 39 = .ok (.aload_n 0, 1) := by decide +kernel
theorem dX12_laysFits_40 : decode cX12_laysFits 40 = .ok (.invokevirtual 293, 3) := by decide +kernel
theorem dX12_laysFits_43 : decode cX12_laysFits 43 = .ok (.aload_n 0, 1) := by decide +kernel
theorem dX12_laysFits_44 : decode cX12_laysFits 44 = .ok (.getfield 9, 3) := by decide +kernel
theorem dX12_laysFits_47 : decode cX12_laysFits 47 = .ok (.sipush 214, 3) := by decide +kernel
theorem dX12_laysFits_50 : decode cX12_laysFits 50 = .ok (.iload_n 1, 1) := by decide +kernel
theorem dX12_laysFits_51 : decode cX12_laysFits 51 = .ok (.iadd, 1) := by decide +kernel
theorem dX12_laysFits_52 : decode cX12_laysFits 52 = .ok (.iload_n 2, 1) := by decide +kernel
theorem dX12_laysFits_53 : decode cX12_laysFits 53 = .ok (.iastore, 1) := by decide +kernel
theorem dX12_laysFits_54 : decode cX12_laysFits 54 = .ok (.aload_n 0, 1) := by decide +kernel
theorem dX12_laysFits_55 : decode cX12_laysFits 55 = .ok (.bipush 114, 2) := by decide +kernel
theorem dX12_laysFits_57 : decode cX12_laysFits 57 = .ok (.invokevirtual 433, 3) := by decide +kernel
theorem dX12_laysFits_60 : decode cX12_laysFits 60 = .ok (.ifCond .ne 6, 3) := by decide +kernel
theorem dX12_laysFits_63 : decode cX12_laysFits 63 = .ok (.goto 28, 3) := by decide +kernel
theorem dX12_laysFits_66 : decode cX12_laysFits 66 = .ok (.aload_n 0, 1) := by decide +kernel
theorem dX12_laysFits_67 : decode cX12_laysFits 67 = .ok (.getfield 78, 3) := by decide +kernel
theorem dX12_laysFits_70 : decode cX12_laysFits 70 = .ok (.aload_n 0, 1) := by decide +kernel
theorem dX12_laysFits_71 : decode cX12_laysFits 71 = .ok (.getfield 430, 3) := by decide +kernel
theorem dX12_laysFits_74 : decode cX12_laysFits 74 = .ok (.bipush 100, 2) := by decide +kernel
theorem dX12_laysFits_76 : decode cX12_laysFits 76 = .ok (.iload_n 1, 1) := by decide +kernel
theorem dX12_laysFits_77 : decode cX12_laysFits 77 = .ok (.imul, 1) := by decide +kernel
theorem dX12_laysFits_78 : decode cX12_laysFits 78 = .ok (.iload_n 2, 1) := by decide +kernel
theorem dX12_laysFits_79 : decode cX12_laysFits 79 = .ok (.iadd, 1) := by decide +kernel
theorem dX12_laysFits_80 : decode cX12_laysFits 80 = .ok (.iastore, 1) := by decide +kernel
theorem dX12_laysFits_81 : decode cX12_laysFits 81 = .ok (.aload_n 0, 1) := by decide +kernel
theorem dX12_laysFits_82 : decode cX12_laysFits 82 = .ok (.dup, 1) := by decide +kernel
theorem dX12_laysFits_83 : decode cX12_laysFits 83 = .ok (.getfield 430, 3) := by decide +kernel
theorem dX12_laysFits_86 : decode cX12_laysFits 86 = .ok (.iconst 1, 1) := by decide +kernel
theorem dX12_laysFits_87 : decode cX12_laysFits 87 = .ok (.iadd, 1) := by decide +kernel
theorem dX12_laysFits_88 : decode cX12_laysFits 88 = .ok (.putfield 430, 3) := by decide +kernel
theorem dX12_laysFits_91 : decode cX12_laysFits 91 = .ok (.iinc 2 1, 3) := by decide +kernel
theorem dX12_laysFits_94 : decode cX12_laysFits 94 = .ok (.goto (-77), 3) := by decide +kernel
theorem dX12_laysFits_97 : decode cX12_laysFits 97 = .ok (.iinc 1 1, 3) := by decide +kernel
theorem dX12_laysFits_100 : decode cX12_laysFits 100 = .ok (.goto (-93), 3) := by decide +kernel
theorem dX12_laysFits_103 : decode cX12_laysFits 103 = .ok (.return_, 1) := by decide +kernel
set_option maxHeartbeats 2000000 in
theorem c12_laysFits {G : Gl} {l : Launch}  {M : Mem} {c : Int → Int} {n : Int} {no : Int → Int} (hG : GR M) (hK : RW M 0 c) (hS : SP c) (hn : M 57 9 = n) (hno : ∀ i, 0 ≤ i → i < n → M 60 i = no i) (hn0 : 0 ≤ n) (hn1 : n ≤ 6) : Ct G LY 82 l 8 m12_laysFits [vR 57] M (RV (fun M' => Fr [58, 63, 64, 65, 66, 67, 68, 69, 70, 71, 79] [(57, 22), (57, 23), (57, 52)] M M' ∧ TRo M M' ∧ M' 57 52 = cL (fitP c no n) (16 * c 122).toNat ∧ FLq (fitP c no n) (M' 79) (16 * c 122))) := by
  refine R_start (by decide +kernel) (Nat.le_of_ble_eq_true rfl) (fun C hC hRm hlau => ?_)
  show RZ G LY C (Zn G LY 82 C (RV (fun M' => Fr [58, 63, 64, 65, 66, 67, 68, 69, 70, 71, 79] [(57, 22), (57, 23), (57, 52)] M M' ∧ TRo M M' ∧ M' 57 52 = cL (fitP c no n) (16 * c 122).toNat ∧ FLq (fitP c no n) (M' 79) (16 * c 122)))) 0 0 82 0 [some (vR 57), none, none] [] M
  have hM := hS.m
  have hI := hM.I
  have hL := hM.1.1
  have hW := hM.1.2
  refine R_aload_0 hC dX12_laysFits_0 ?_
  refine R_iconst hC dX12_laysFits_1 ⟨by decide, by decide⟩ ?_
  refine R_putI hC dX12_laysFits_2 fl_12_430 (by decide) rfl (by decide) (by decide) (fi := 52) rfl ?_
  refine R_iconst hC dX12_laysFits_5 ⟨by decide, by decide⟩ ?_
  refine R_istore_1 hC dX12_laysFits_6 rfl ?_
  have L7 : ∀ (mq : Nat) (w : Int) (M1 : Mem), (0 ≤ w) → (w ≤ c 122) → (GR M1) → (RW M1 0 c) → (Fr [58, 63, 64, 65, 66, 67, 68, 69, 70, 71, 79] [(57, 22), (57, 23), (57, 52)] M M1) → (TRo M M1) → (M1 57 52 = cL (fitP c no n) (16 * w).toNat) → (FLq (fitP c no n) (M1 79) (16 * w)) → (c 122 - w).toNat < mq → RZ G LY C (Zn G LY 82 C (RV (fun M' => Fr [58, 63, 64, 65, 66, 67, 68, 69, 70, 71, 79] [(57, 22), (57, 23), (57, 52)] M M' ∧ TRo M M' ∧ M' 57 52 = cL (fitP c no n) (16 * c 122).toNat ∧ FLq (fitP c no n) (M' 79) (16 * c 122)))) 0 0 82 7 [some (vR 57), some (vI w), none] [] M1 := by
    intro mq
    induction mq with
    | zero =>
      intro w M1 hw0 hw1 hg hk1 hF hT h52 hFL hm
      exact absurd hm (Nat.not_lt_zero _)
    | succ mq ih7 =>
      intro w M1 hw0 hw1 hg hk1 hF hT h52 hFL hm7
      refine R_iload_1 hC dX12_laysFits_7 ?_
      refine R_aload_0 hC dX12_laysFits_8 ?_
      refine R_getIE hC dX12_laysFits_9 fl_12_102 (by decide) rfl (by decide) (by decide) (fi := 6) rfl hk1.w ?_
      refine R_icmp_ge hC dX12_laysFits_12 (tgt := 103) (by decide) (fun hb12 => ?_) (fun hb12 => ?_)
      · skip
        exact R_return hC dX12_laysFits_103 rfl (ret_V ⟨hF, hT, by (rw [h52, show w = c 122 by omega]), by (rw [show c 122 = w by omega]; exact hFL)⟩)
      · skip
        refine R_iconst hC dX12_laysFits_15 ⟨by decide, by decide⟩ ?_
        refine R_istore_2 hC dX12_laysFits_16 rfl ?_
        have L17 : ∀ (mq : Nat) (k : Int) (M2 : Mem), (0 ≤ k) → (k ≤ 16) → (GR M2) → (RW M2 0 c) → (Fr [58, 63, 64, 65, 66, 67, 68, 69, 70, 71, 79] [(57, 22), (57, 23), (57, 52)] M M2) → (TRo M M2) → (M2 57 52 = cL (fitP c no n) (16 * w + k).toNat) → (FLq (fitP c no n) (M2 79) (16 * w + k)) → (16 - k).toNat < mq → RZ G LY C (Zn G LY 82 C (RV (fun M' => Fr [58, 63, 64, 65, 66, 67, 68, 69, 70, 71, 79] [(57, 22), (57, 23), (57, 52)] M M' ∧ TRo M M' ∧ M' 57 52 = cL (fitP c no n) (16 * c 122).toNat ∧ FLq (fitP c no n) (M' 79) (16 * c 122)))) 0 0 82 17 [some (vR 57), some (vI w), some (vI k)] [] M2 := by
          intro mq
          induction mq with
          | zero =>
            intro k M2 hk0 hkx hg2 hk2 hF2 hT2 h522 hFL2 hm
            exact absurd hm (Nat.not_lt_zero _)
          | succ mq ih17 =>
            intro k M2 hk0 hkx hg2 hk2 hF2 hT2 h522 hFL2 hm17
            have bC := cL_b (P := (fitP c no n)) (16 * w + k).toNat
            refine R_iload_2 hC dX12_laysFits_17 ?_
            refine R_bipush hC dX12_laysFits_18 (by decide +kernel) ⟨by decide, by decide⟩ ?_
            refine R_icmp_gt hC dX12_laysFits_20 (tgt := 97) (by decide) (fun hb20 => ?_) (fun hb20 => ?_)
            · skip
              refine R_iinc_1 hC dX12_laysFits_97 rfl ⟨by omega, by omega⟩ ?_
              refine R_goto hC dX12_laysFits_100 (tgt := 7) (by decide) ?_
              refine R_weak (subL_c (subL_c (subL_d subL_n))) ?_
              exact ih7 _ _ (by omega) (by omega) hg2 hk2 hF2 hT2 (by (rw [h522]; exact congrArg _ (congrArg _ (by omega)))) (by (rw [show 16 * (w + 1) = 16 * w + k by omega]; exact hFL2)) (by omega)
            · skip
              refine R_iload_2 hC dX12_laysFits_23 ?_
              refine R_aload_0 hC dX12_laysFits_24 ?_
              refine R_getR hC dX12_laysFits_25 fl_12_9 (by decide) rfl (by decide) (by decide) (fi := 0) rfl (r := 58) (gr_57_0 hg2) ?_
              refine R_bipush hC dX12_laysFits_28 (by decide +kernel) ⟨by decide, by decide⟩ ?_
              refine R_iload_1 hC dX12_laysFits_30 ?_
              refine R_iadd hC dX12_laysFits_31 ⟨by omega, by omega⟩ ?_
              refine R_ialoadE hC dX12_laysFits_32 (by decide) rfl (by omega) (by omega) (hk2.r2 (k := 16 + w) (by omega) (by omega) (by omega)) ?_
              refine R_icmp_ne hC dX12_laysFits_33 (tgt := 39) (by decide) (fun hb33 => ?_) (fun hb33 => ?_)
              · skip
                refine R_aload_0 hC dX12_laysFits_39 ?_
                refine R_callVv (as := []) hC dX12_laysFits_40 mo_12_tries ml_12_293 (by decide) rfl rfl (c12_tries  hg2 hk2) rfl rfl hRm (by decide) (by decide) (Nat.le_of_ble_eq_true rfl) (fun Mc1 hq2 => ?_)
                have hF3 : Fr [58, 63, 64, 65, 66, 67, 68, 69, 70, 71, 79] [(57, 22), (57, 23), (57, 52)] M Mc1 := Fr.tt hF2 (hq2.1.mo (by simp) (by simp))
                have hT3 := TRo.tr hT2 hq2.2.1
                refine R_aload_0 hC dX12_laysFits_43 ?_
                have hG3 : GR Mc1 := (GR.fr hg2 hq2.1 (by decide +kernel))
                refine R_getR hC dX12_laysFits_44 fl_12_9 (by decide) rfl (by decide) (by decide) (fi := 0) rfl (r := 58) (gr_57_0 hG3) ?_
                refine R_sipush hC dX12_laysFits_47 (by decide +kernel) ⟨by decide, by decide⟩ ?_
                refine R_iload_1 hC dX12_laysFits_50 ?_
                refine R_iadd hC dX12_laysFits_51 ⟨by omega, by omega⟩ ?_
                refine R_iload_2 hC dX12_laysFits_52 ?_
                refine R_iastore hC dX12_laysFits_53 (by decide) rfl (by omega) (by omega) ?_
                have hF3a : Fr [58, 63, 64, 65, 66, 67, 68, 69, 70, 71, 79] [(57, 22), (57, 23), (57, 52)] M (uM Mc1 58 (214 + w) k) := Fr.uA hF3 (by decide)
                have hT3a : TRo M (uM Mc1 58 (214 + w) k) := hT3.u (by omega) (by omega)
                have hMy : SM (upd1 c (16 + w) k) := hM.up (.inr (.inl ⟨by omega, by omega, by omega, by omega⟩))
                refine R_aload_0 hC dX12_laysFits_54 ?_
                refine R_bipush hC dX12_laysFits_55 (by decide +kernel) ⟨by decide, by decide⟩ ?_
                have hG4 : GR (uM Mc1 58 (214 + w) k) := (GR.uA hG3 (by decide +kernel) (.inl (by decide)))
                have hk5 : RW (uM Mc1 58 (214 + w) k) 114 (upd1 c (16 + w) k) := ((hq2.2.2.2).w2 (k := 16 + w) (by omega) (by omega) (by omega))
                refine R_callVp (as := [vI _]) hC dX12_laysFits_57 mo_12_isNoted ml_12_433 (by decide) rfl rfl (c12_isNoted  hG4 hk5 (by omega) (by omega) hMy ((hF3a 57 9 (by decide) (by decide)).trans hn) (fun i a b => (congrFun (hF3a.row (by decide) (by decide)) i).trans (hno i a b)) (by omega) (by omega)) rfl rfl hRm (by decide) (by decide) (Nat.le_of_ble_eq_true rfl) (fun v8 Mc6 hq7 => ?_)
                have hFb : Fr [58, 63, 64, 65, 66, 67, 68, 69, 70, 71, 79] [(57, 22), (57, 23), (57, 52)] M Mc6 := Fr.tt hF3a (hq7.1.mo (by simp) (by simp))
                have hTb : TRo M Mc6 := TRo.tr hT3a (TRo.of hq7.1 (by decide) (by decide))
                have ek := spcK_k (k := k) hM hw0 (show w < c 122 by omega)
                have h52b : Mc6 57 52 = cL (fitP c no n) (16 * w + k).toNat := (hq7.1 57 52 (by decide) (by decide)).trans ((uM_h (by decide)).trans ((hq2.1 57 52 (by decide) (by decide)).trans h522))
                have hFLb : FLq (fitP c no n) (Mc6 79) (16 * w + k) := by
                  have e : Mc6 79 = M2 79 := funext fun a => (hq7.1 79 a (by decide) (by simp)).trans ((uM_h (by decide)).trans (hq2.1 79 a (by decide) (by simp)))
                  rw [e]
                  exact hFL2
                have hla := lin_at (P := (fitP c no n)) (w := w) (k := k) hk0 (by omega)
                refine R_if_ne hC dX12_laysFits_60 (tgt := 66) (by decide) (fun hb60 => ?_) (fun hb60 => ?_)
                · skip
                  have hp9 : lin (fitP c no n) (16 * w + k) := hla.mpr ⟨hb33, fun i a b => (bP_nz (fun z => hb60 (hq7.2.trans z)) i a b).trans ek⟩
                  refine R_aload_0 hC dX12_laysFits_66 ?_
                  have hG9 : GR Mc6 := (GR.fr hG4 hq7.1 (by decide +kernel))
                  refine R_getR hC dX12_laysFits_67 fl_12_78 (by decide) rfl (by decide) (by decide) (fi := 50) rfl (r := 79) (gr_57_50 hG9) ?_
                  refine R_aload_0 hC dX12_laysFits_70 ?_
                  refine R_getIE hC dX12_laysFits_71 fl_12_430 (by decide) rfl (by decide) (by decide) (fi := 52) rfl h52b ?_
                  refine R_bipush hC dX12_laysFits_74 (by decide +kernel) ⟨by decide, by decide⟩ ?_
                  refine R_iload_1 hC dX12_laysFits_76 ?_
                  refine R_imul hC dX12_laysFits_77 ⟨by omega, by omega⟩ ?_
                  refine R_iload_2 hC dX12_laysFits_78 ?_
                  refine R_iadd hC dX12_laysFits_79 ⟨by omega, by omega⟩ ?_
                  refine R_iastore hC dX12_laysFits_80 (by decide) rfl (by omega) (by omega) ?_
                  refine R_aload_0 hC dX12_laysFits_81 ?_
                  refine R_dup hC dX12_laysFits_82 rfl ?_
                  refine R_getIE hC dX12_laysFits_83 fl_12_430 (by decide) rfl (by decide) (by decide) (fi := 52) rfl ((uM_h (by decide)).trans h52b) ?_
                  refine R_iconst hC dX12_laysFits_86 ⟨by decide, by decide⟩ ?_
                  refine R_iadd hC dX12_laysFits_87 ⟨by omega, by omega⟩ ?_
                  refine R_putI hC dX12_laysFits_88 fl_12_430 (by decide) rfl (by decide) (by decide) (fi := 52) rfl ?_
                  have hF9 : Fr [58, 63, 64, 65, 66, 67, 68, 69, 70, 71, 79] [(57, 22), (57, 23), (57, 52)] M (uM (uM Mc6 79 (cL (fitP c no n) (16 * w + k).toNat) ((100 * w) + k)) 57 52 ((cL (fitP c no n) (16 * w + k).toNat) + 1)) := Fr.uB (Fr.uA hFb (by decide)) (by decide)
                  have hT9 : TRo M (uM (uM Mc6 79 (cL (fitP c no n) (16 * w + k).toNat) ((100 * w) + k)) 57 52 ((cL (fitP c no n) (16 * w + k).toNat) + 1)) := (hTb.h (by decide)).h (by decide)
                  have h529 : (uM (uM Mc6 79 (cL (fitP c no n) (16 * w + k).toNat) ((100 * w) + k)) 57 52 ((cL (fitP c no n) (16 * w + k).toNat) + 1)) 57 52 = cL (fitP c no n) (16 * w + k + 1).toNat := by (rw [cL_s (show 0 ≤ 16 * w + k by omega) rfl, bP_pos hp9]; exact uM_same)
                  have hFL9 : FLq (fitP c no n) ((uM (uM Mc6 79 (cL (fitP c no n) (16 * w + k).toNat) ((100 * w) + k)) 57 52 ((cL (fitP c no n) (16 * w + k).toNat) + 1)) 79) (16 * w + k + 1) := hFLb.add (by omega) hp9 (fun a => (uM_h (by decide)).trans (by
                      rw [uM_if, show 100 * w + k = cdL (16 * w + k) by (unfold cdL; omega)]))
                  refine R_iinc_2 hC dX12_laysFits_91 rfl ⟨by omega, by omega⟩ ?_
                  refine R_goto hC dX12_laysFits_94 (tgt := 17) (by decide) ?_
                  have hG10 : GR (uM (uM Mc6 79 (cL (fitP c no n) (16 * w + k).toNat) ((100 * w) + k)) 57 52 ((cL (fitP c no n) (16 * w + k).toNat) + 1)) := (GR.uF (GR.uA hG9 (by decide +kernel) (.inl (by decide))) (by decide +kernel) (by decide))
                  have hk11 : RW (uM (uM Mc6 79 (cL (fitP c no n) (16 * w + k).toNat) ((100 * w) + k)) 57 52 ((cL (fitP c no n) (16 * w + k).toNat) + 1)) 0 c := (RW.uf (RW.u (RW.fr ((RW.tro hk2 hq2.1 hq2.2.1 (by decide +kernel)).ot (by omega)) hq7.1 (by decide +kernel)) (by decide)) (by decide))
                  exact ih17 _ _ (by omega) (by omega) hG10 hk11 hF9 hT9 (by (rw [show 16 * w + (k + 1) = 16 * w + k + 1 by omega]; exact h529)) (by (rw [show 16 * w + (k + 1) = 16 * w + k + 1 by omega]; exact hFL9)) (by omega)
                · skip
                  have hnp : ¬ lin (fitP c no n) (16 * w + k) := fun z => bP_z (hq7.2.symm.trans hb60) (fun i a b => ((hla.mp z).2 i a b).trans ek.symm)
                  have hF9 := hFb
                  have hT9 := hTb
                  have h529 : Mc6 57 52 = cL (fitP c no n) (16 * w + k + 1).toNat := by (rw [cL_s (show 0 ≤ 16 * w + k by omega) rfl, bP_neg hnp, Int.add_zero]; exact h52b)
                  have hFL9 := hFLb.skip (by omega) hnp
                  refine R_goto hC dX12_laysFits_63 (tgt := 91) (by decide) ?_
                  refine R_iinc_2 hC dX12_laysFits_91 rfl ⟨by omega, by omega⟩ ?_
                  refine R_goto hC dX12_laysFits_94 (tgt := 17) (by decide) ?_
                  have hG12 : GR Mc6 := (GR.fr hG4 hq7.1 (by decide +kernel))
                  have hk13 : RW Mc6 0 c := (RW.fr ((RW.tro hk2 hq2.1 hq2.2.1 (by decide +kernel)).ot (by omega)) hq7.1 (by decide +kernel))
                  exact ih17 _ _ (by omega) (by omega) hG12 hk13 hF9 hT9 (by (rw [show 16 * w + (k + 1) = 16 * w + k + 1 by omega]; exact h529)) (by (rw [show 16 * w + (k + 1) = 16 * w + k + 1 by omega]; exact hFL9)) (by omega)
              · skip
                have hnp : ¬ lin (fitP c no n) (16 * w + k) := fun z => ((lin_at (P := (fitP c no n)) (w := w) (k := k) hk0 (by omega)).mp z).1 hb33
                have hF9 := hF2
                have hT9 := hT2
                have h529 : M2 57 52 = cL (fitP c no n) (16 * w + k + 1).toNat := by (rw [cL_s (show 0 ≤ 16 * w + k by omega) rfl, bP_neg hnp, Int.add_zero]; exact h522)
                have hFL9 := hFL2.skip (by omega) hnp
                refine R_goto hC dX12_laysFits_36 (tgt := 91) (by decide) ?_
                refine R_iinc_2 hC dX12_laysFits_91 rfl ⟨by omega, by omega⟩ ?_
                refine R_goto hC dX12_laysFits_94 (tgt := 17) (by decide) ?_
                exact ih17 _ _ (by omega) (by omega) hg2 hk2 hF9 hT9 (by (rw [show 16 * w + (k + 1) = 16 * w + k + 1 by omega]; exact h529)) (by (rw [show 16 * w + (k + 1) = 16 * w + k + 1 by omega]; exact hFL9)) (by omega)
        exact L17 _ _ _ (by omega) (by omega) hg hk1 hF hT (by (rw [h52]; exact congrArg _ (congrArg _ (by omega)))) (by (rw [Int.add_zero]; exact hFL)) (Nat.lt_succ_self _)
  have hG14 : GR (uM M 57 52 0) := (GR.uF hG (by decide +kernel) (by decide))
  have hk15 : RW (uM M 57 52 0) 0 c := (RW.uf hK (by decide))
  exact L7 _ _ _ (by omega) (by omega) hG14 hk15 (Fr.uB Fr.rf (by decide)) (TRo.rf.h (by decide)) uM_same FLq.z (Nat.lt_succ_self _)
theorem dX12_laysSpaces_0 : decode cX12_laysSpaces 0 = .ok (.iconst 0, 1) := by decide +kernel
theorem dX12_laysSpaces_1 : decode cX12_laysSpaces 1 = .ok (.istore_n 1, 1) := by decide +kernel
theorem dX12_laysSpaces_2 : decode cX12_laysSpaces 2 = .ok (.iload_n 1, 1) := by decide +kernel
theorem dX12_laysSpaces_3 : decode cX12_laysSpaces 3 = .ok (.aload_n 0, 1) := by decide +kernel
theorem dX12_laysSpaces_4 : decode cX12_laysSpaces 4 = .ok (.getfield 430, 3) := by decide +kernel
theorem dX12_laysSpaces_7 : decode cX12_laysSpaces 7 = .ok (.if_icmp .ge 96, 3) := by decide +kernel
theorem dX12_laysSpaces_10 : decode cX12_laysSpaces 10 = .ok (.iconst 0, 1) := by decide +kernel
theorem dX12_laysSpaces_11 : decode cX12_laysSpaces 11 = .ok (.istore_n 2, 1) := by decide +kernel
theorem dX12_laysSpaces_12 : decode cX12_laysSpaces 12 = .ok (.iload_n 2, 1) := by decide +kernel
theorem dX12_laysSpaces_13 : decode cX12_laysSpaces 13 = .ok (.aload_n 0, 1) := by decide +kernel
theorem dX12_laysSpaces_14 : decode cX12_laysSpaces 14 = .ok (.getfield 105, 3) := by decide +kernel
theorem dX12_laysSpaces_17 : decode cX12_laysSpaces 17 = .ok (.if_icmp .ge 80, 3) := by decide +kernel
theorem dX12_laysSpaces_20 : decode cX12_laysSpaces 20 = .ok (.aload_n 0, 1) := by decide +kernel
theorem dX12_laysSpaces_21 : decode cX12_laysSpaces 21 = .ok (.invokevirtual 293, 3) := by decide +kernel
theorem dX12_laysSpaces_24 : decode cX12_laysSpaces 24 = .ok (.aload_n 0, 1) := by decide +kernel
theorem dX12_laysSpaces_25 : decode cX12_laysSpaces 25 = .ok (.getfield 9, 3) := by decide +kernel
theorem dX12_laysSpaces_28 : decode cX12_laysSpaces 28 = .ok (.sipush 214, 3) := by decide +kernel
theorem dX12_laysSpaces_31 : decode cX12_laysSpaces 31 = .ok (.aload_n 0, 1) := by decide +kernel
theorem dX12_laysSpaces_32 : decode cX12_laysSpaces 32 = .ok (.getfield 78, 3) := by decide +kernel
theorem dX12_laysSpaces_35 : decode cX12_laysSpaces 35 = .ok (.iload_n 1, 1) := by decide +kernel
theorem dX12_laysSpaces_36 : decode cX12_laysSpaces 36 = .ok (.iaload, 1) := by decide +kernel
theorem dX12_laysSpaces_37 : decode cX12_laysSpaces 37 = .ok (.bipush 100, 2) := by decide +kernel
theorem dX12_laysSpaces_39 : decode cX12_laysSpaces 39 = .ok (.idiv, 1) := by decide +kernel
theorem dX12_laysSpaces_40 : decode cX12_laysSpaces 40 = .ok (.iadd, 1) := by decide +kernel
theorem dX12_laysSpaces_41 : decode cX12_laysSpaces 41 = .ok (.aload_n 0, 1) := by decide +kernel
theorem dX12_laysSpaces_42 : decode cX12_laysSpaces 42 = .ok (.getfield 78, 3) := by decide +kernel
theorem dX12_laysSpaces_45 : decode cX12_laysSpaces 45 = .ok (.iload_n 1, 1) := by decide +kernel
theorem dX12_laysSpaces_46 : decode cX12_laysSpaces 46 = .ok (.iaload, 1) := by decide +kernel
theorem dX12_laysSpaces_47 : decode cX12_laysSpaces 47 = .ok (.bipush 100, 2) := by decide +kernel
theorem dX12_laysSpaces_49 : decode cX12_laysSpaces 49 = .ok (.irem, 1) := by decide +kernel
theorem dX12_laysSpaces_50 : decode cX12_laysSpaces 50 = .ok (.iastore, 1) := by decide +kernel
theorem dX12_laysSpaces_51 : decode cX12_laysSpaces 51 = .ok (.aload_n 0, 1) := by decide +kernel
theorem dX12_laysSpaces_52 : decode cX12_laysSpaces 52 = .ok (.getfield 9, 3) := by decide +kernel
theorem dX12_laysSpaces_55 : decode cX12_laysSpaces 55 = .ok (.iconst 0, 1) := by decide +kernel
theorem dX12_laysSpaces_56 : decode cX12_laysSpaces 56 = .ok (.iload_n 2, 1) := by decide +kernel
theorem dX12_laysSpaces_57 : decode cX12_laysSpaces 57 = .ok (.iadd, 1) := by decide +kernel
theorem dX12_laysSpaces_58 : decode cX12_laysSpaces 58 = .ok (.iaload, 1) := by decide +kernel
theorem dX12_laysSpaces_59 : decode cX12_laysSpaces 59 = .ok (.ifCond .le 16, 3) := by decide +kernel
theorem dX12_laysSpaces_62 : decode cX12_laysSpaces 62 = .ok (.aload_n 0, 1) := by decide +kernel
theorem dX12_laysSpaces_63 : decode cX12_laysSpaces 63 = .ok (.getfield 9, 3) := by decide +kernel
theorem dX12_laysSpaces_66 : decode cX12_laysSpaces 66 = .ok (.bipush 114, 2) := by decide +kernel
theorem dX12_laysSpaces_68 : decode cX12_laysSpaces 68 = .ok (.iload_n 2, 1) := by decide +kernel
theorem dX12_laysSpaces_69 : decode cX12_laysSpaces 69 = .ok (.iadd, 1) := by decide +kernel
theorem dX12_laysSpaces_70 : decode cX12_laysSpaces 70 = .ok (.dup2, 1) := by decide +kernel
theorem dX12_laysSpaces_71 : decode cX12_laysSpaces 71 = .ok (.iaload, 1) := by decide +kernel
theorem dX12_laysSpaces_72 : decode cX12_laysSpaces 72 = .ok (.iconst 1, 1) := by decide +kernel
theorem dX12_laysSpaces_73 : decode cX12_laysSpaces 73 = .ok (.isub, 1) := by decide +kernel
theorem dX12_laysSpaces_74 : decode cX12_laysSpaces 74 = .ok (.iastore, 1) := by decide +kernel
theorem dX12_laysSpaces_75 : decode cX12_laysSpaces 75 = .ok (.aload_n 0, 1) := by decide +kernel
theorem dX12_laysSpaces_76 : decode cX12_laysSpaces 76 = .ok (.getfield 81, 3) := by decide +kernel
theorem dX12_laysSpaces_79 : decode cX12_laysSpaces 79 = .ok (.iconst 5, 1) := by decide +kernel
theorem dX12_laysSpaces_80 : decode cX12_laysSpaces 80 = .ok (.iload_n 1, 1) := by decide +kernel
theorem dX12_laysSpaces_81 : decode cX12_laysSpaces 81 = .ok (.imul, 1) := by decide +kernel
theorem dX12_laysSpaces_82 : decode cX12_laysSpaces 82 = .ok (.iload_n 2, 1) := by decide +kernel
theorem dX12_laysSpaces_83 : decode cX12_laysSpaces 83 = .ok (.iadd, 1) := by decide +kernel
theorem dX12_laysSpaces_84 : decode cX12_laysSpaces 84 = .ok (.aload_n 0, 1) := by decide +kernel
theorem dX12_laysSpaces_85 : decode cX12_laysSpaces 85 = .ok (.bipush 114, 2) := by decide +kernel
theorem dX12_laysSpaces_87 : decode cX12_laysSpaces 87 = .ok (.invokevirtual 172, 3) := by decide +kernel
theorem dX12_laysSpaces_90 : decode cX12_laysSpaces 90 = .ok (.iastore, 1) := by decide +kernel
theorem dX12_laysSpaces_91 : decode cX12_laysSpaces 91 = .ok (.iinc 2 1, 3) := by decide +kernel
theorem dX12_laysSpaces_94 : decode cX12_laysSpaces 94 = .ok (.goto (-82), 3) := by decide +kernel
theorem dX12_laysSpaces_97 : decode cX12_laysSpaces 97 = .ok (.iinc 1 1, 3) := by decide +kernel
theorem dX12_laysSpaces_100 : decode cX12_laysSpaces 100 = .ok (.goto (-98), 3) := by decide +kernel
theorem dX12_laysSpaces_103 : decode cX12_laysSpaces 103 = .ok (.return_, 1) := by decide +kernel
set_option maxHeartbeats 2000000 in
theorem c12_laysSpaces {G : Gl} {l : Launch}  {M : Mem} {c : Int → Int} {m : Int} {F : Int → Int} (hG : GR M) (hK : RW M 0 c) (hS : SP c) (hm : M 57 52 = m) (hf : ∀ a, 0 ≤ a → a < m → M 79 a = F a) (hFr : ∀ a, 0 ≤ a → a < m → (0 ≤ F a / 100 ∧ F a / 100 < c 122) ∧ 0 ≤ F a % 100 ∧ F a % 100 < 16) (hm0 : 0 ≤ m) (hm1 : m ≤ 96) : Ct G LY 82 l 7 m12_laysSpaces [vR 57] M (RV (fun M' => Fr [58, 63, 64, 65, 66, 67, 68, 69, 70, 71, 80] [(57, 22), (57, 23)] M M' ∧ TRo M M' ∧ ∀ a' x', 0 ≤ a' → a' < m → 0 ≤ x' → x' < c 121 → M' 80 (5 * a' + x') = spcK (UIx c x') c (F a' / 100) (F a' % 100))) := by
  refine R_start (by decide +kernel) (Nat.le_of_ble_eq_true rfl) (fun C hC hRm hlau => ?_)
  show RZ G LY C (Zn G LY 82 C (RV (fun M' => Fr [58, 63, 64, 65, 66, 67, 68, 69, 70, 71, 80] [(57, 22), (57, 23)] M M' ∧ TRo M M' ∧ ∀ a' x', 0 ≤ a' → a' < m → 0 ≤ x' → x' < c 121 → M' 80 (5 * a' + x') = spcK (UIx c x') c (F a' / 100) (F a' % 100)))) 0 0 82 0 [some (vR 57), none, none] [] M
  have hM := hS.m
  have hI := hM.I
  have hL := hM.1.1
  have hW := hM.1.2
  refine R_iconst hC dX12_laysSpaces_0 ⟨by decide, by decide⟩ ?_
  refine R_istore_1 hC dX12_laysSpaces_1 rfl ?_
  have L2 : ∀ (mq : Nat) (a : Int) (M1 : Mem), (0 ≤ a) → (a ≤ m) → (GR M1) → (RW M1 0 c) → (Fr [58, 63, 64, 65, 66, 67, 68, 69, 70, 71, 80] [(57, 22), (57, 23)] M M1) → (TRo M M1) → (∀ a' x', 0 ≤ a' → a' < a → 0 ≤ x' → x' < c 121 → M1 80 (5 * a' + x') = spcK (UIx c x') c (F a' / 100) (F a' % 100)) → (m - a).toNat < mq → RZ G LY C (Zn G LY 82 C (RV (fun M' => Fr [58, 63, 64, 65, 66, 67, 68, 69, 70, 71, 80] [(57, 22), (57, 23)] M M' ∧ TRo M M' ∧ ∀ a' x', 0 ≤ a' → a' < m → 0 ≤ x' → x' < c 121 → M' 80 (5 * a' + x') = spcK (UIx c x') c (F a' / 100) (F a' % 100)))) 0 0 82 2 [some (vR 57), some (vI a), none] [] M1 := by
    intro mq
    induction mq with
    | zero =>
      intro a M1 ha0 ha1 hg hk1 hF hT h80 hm
      exact absurd hm (Nat.not_lt_zero _)
    | succ mq ih2 =>
      intro a M1 ha0 ha1 hg hk1 hF hT h80 hm2
      refine R_iload_1 hC dX12_laysSpaces_2 ?_
      refine R_aload_0 hC dX12_laysSpaces_3 ?_
      refine R_getIE hC dX12_laysSpaces_4 fl_12_430 (by decide) rfl (by decide) (by decide) (fi := 52) rfl ((hF 57 52 (by decide) (by decide)).trans hm) ?_
      refine R_icmp_ge hC dX12_laysSpaces_7 (tgt := 103) (by decide) (fun hb7 => ?_) (fun hb7 => ?_)
      · skip
        exact R_return hC dX12_laysSpaces_103 rfl (ret_V ⟨hF, hT, fun a' x' p q r s => h80 a' x' p (by omega) r s⟩)
      · skip
        refine R_iconst hC dX12_laysSpaces_10 ⟨by decide, by decide⟩ ?_
        refine R_istore_2 hC dX12_laysSpaces_11 rfl ?_
        have L12 : ∀ (mq : Nat) (x : Int) (M2 : Mem), (0 ≤ x) → (x ≤ c 121) → (GR M2) → (RW M2 0 c) → (Fr [58, 63, 64, 65, 66, 67, 68, 69, 70, 71, 80] [(57, 22), (57, 23)] M M2) → (TRo M M2) → (∀ a' x', 0 ≤ a' → (a' < a ∨ a' = a ∧ x' < x) → 0 ≤ x' → x' < c 121 → M2 80 (5 * a' + x') = spcK (UIx c x') c (F a' / 100) (F a' % 100)) → (c 121 - x).toNat < mq → RZ G LY C (Zn G LY 82 C (RV (fun M' => Fr [58, 63, 64, 65, 66, 67, 68, 69, 70, 71, 80] [(57, 22), (57, 23)] M M' ∧ TRo M M' ∧ ∀ a' x', 0 ≤ a' → a' < m → 0 ≤ x' → x' < c 121 → M' 80 (5 * a' + x') = spcK (UIx c x') c (F a' / 100) (F a' % 100)))) 0 0 82 12 [some (vR 57), some (vI a), some (vI x)] [] M2 := by
          intro mq
          induction mq with
          | zero =>
            intro x M2 hx0 hx1 hg2 hk2 hF2 hT2 h802 hm
            exact absurd hm (Nat.not_lt_zero _)
          | succ mq ih12 =>
            intro x M2 hx0 hx1 hg2 hk2 hF2 hT2 h802 hm12
            have bf := hFr a ha0 (by omega)
            refine R_iload_2 hC dX12_laysSpaces_12 ?_
            refine R_aload_0 hC dX12_laysSpaces_13 ?_
            refine R_getIE hC dX12_laysSpaces_14 fl_12_105 (by decide) rfl (by decide) (by decide) (fi := 5) rfl hk2.l ?_
            refine R_icmp_ge hC dX12_laysSpaces_17 (tgt := 97) (by decide) (fun hb17 => ?_) (fun hb17 => ?_)
            · skip
              refine R_iinc_1 hC dX12_laysSpaces_97 rfl ⟨by omega, by omega⟩ ?_
              refine R_goto hC dX12_laysSpaces_100 (tgt := 2) (by decide) ?_
              refine R_weak (subL_c (subL_c (subL_d subL_n))) ?_
              exact ih2 _ _ (by omega) (by omega) hg2 hk2 hF2 hT2 (fun a' x' p q r s => h802 a' x' p (by omega) r s) (by omega)
            · skip
              refine R_aload_0 hC dX12_laysSpaces_20 ?_
              refine R_callVv (as := []) hC dX12_laysSpaces_21 mo_12_tries ml_12_293 (by decide) rfl rfl (c12_tries  hg2 hk2) rfl rfl hRm (by decide) (by decide) (Nat.le_of_ble_eq_true rfl) (fun Mc1 hq2 => ?_)
              have hF3 : Fr [58, 63, 64, 65, 66, 67, 68, 69, 70, 71, 80] [(57, 22), (57, 23)] M Mc1 := Fr.tt hF2 (hq2.1.mo (by simp) (by simp))
              have hT3 := TRo.tr hT2 hq2.2.1
              have h80t : ∀ j, Mc1 80 j = M2 80 j := fun j => hq2.1 80 j (by decide) (by simp)
              refine R_aload_0 hC dX12_laysSpaces_24 ?_
              have hG3 : GR Mc1 := (GR.fr hg2 hq2.1 (by decide +kernel))
              refine R_getR hC dX12_laysSpaces_25 fl_12_9 (by decide) rfl (by decide) (by decide) (fi := 0) rfl (r := 58) (gr_57_0 hG3) ?_
              refine R_sipush hC dX12_laysSpaces_28 (by decide +kernel) ⟨by decide, by decide⟩ ?_
              refine R_aload_0 hC dX12_laysSpaces_31 ?_
              refine R_getR hC dX12_laysSpaces_32 fl_12_78 (by decide) rfl (by decide) (by decide) (fi := 50) rfl (r := 79) (gr_57_50 hG3) ?_
              refine R_iload_1 hC dX12_laysSpaces_35 ?_
              refine R_ialoadE hC dX12_laysSpaces_36 (by decide) rfl (by omega) (by omega) ((congrFun (hF3.row (by decide) (by decide)) a).trans (hf a ha0 (by omega))) ?_
              refine R_bipush hC dX12_laysSpaces_37 (by decide +kernel) ⟨by decide, by decide⟩ ?_
              refine R_idiv hC dX12_laysSpaces_39 (by omega) (by omega) ?_
              refine R_iadd hC dX12_laysSpaces_40 ⟨by omega, by omega⟩ ?_
              refine R_aload_0 hC dX12_laysSpaces_41 ?_
              refine R_getR hC dX12_laysSpaces_42 fl_12_78 (by decide) rfl (by decide) (by decide) (fi := 50) rfl (r := 79) (gr_57_50 hG3) ?_
              refine R_iload_1 hC dX12_laysSpaces_45 ?_
              refine R_ialoadE hC dX12_laysSpaces_46 (by decide) rfl (by omega) (by omega) ((congrFun (hF3.row (by decide) (by decide)) a).trans (hf a ha0 (by omega))) ?_
              refine R_bipush hC dX12_laysSpaces_47 (by decide +kernel) ⟨by decide, by decide⟩ ?_
              refine R_irem hC dX12_laysSpaces_49 (by omega) (by omega) ?_
              refine R_iastore hC dX12_laysSpaces_50 (by decide) rfl (by omega) (by omega) ?_
              have hF3a : Fr [58, 63, 64, 65, 66, 67, 68, 69, 70, 71, 80] [(57, 22), (57, 23)] M (uM Mc1 58 (214 + (F a / 100)) (F a % 100)) := Fr.uA hF3 (by decide)
              have hT3a : TRo M (uM Mc1 58 (214 + (F a / 100)) (F a % 100)) := hT3.u (by omega) (by omega)
              have hMy : SM (upd1 c (16 + F a / 100) (F a % 100)) := hM.up (.inr (.inl ⟨by omega, by omega, by omega, by omega⟩))
              have h80u : ∀ j, (uM Mc1 58 (214 + (F a / 100)) (F a % 100)) 80 j = M2 80 j := fun j => (uM_h (by decide)).trans (h80t j)
              refine R_aload_0 hC dX12_laysSpaces_51 ?_
              have hG4 : GR (uM Mc1 58 (214 + (F a / 100)) (F a % 100)) := (GR.uA hG3 (by decide +kernel) (.inl (by decide)))
              refine R_getR hC dX12_laysSpaces_52 fl_12_9 (by decide) rfl (by decide) (by decide) (fi := 0) rfl (r := 58) (gr_57_0 hG4) ?_
              refine R_iconst hC dX12_laysSpaces_55 ⟨by decide, by decide⟩ ?_
              refine R_iload_2 hC dX12_laysSpaces_56 ?_
              refine R_iadd hC dX12_laysSpaces_57 ⟨by omega, by omega⟩ ?_
              have hk5 : RW (uM Mc1 58 (214 + (F a / 100)) (F a % 100)) 0 c := ((RW.tro hk2 hq2.1 hq2.2.1 (by decide +kernel)).ot (by omega))
              refine R_ialoadE hC dX12_laysSpaces_58 (by decide) rfl (by omega) (by omega) (hk5.r1 (k := x) (by omega) (by omega) (by omega)) ?_
              have bx0 := (hM.2.1 x hx0 (by omega)).1
              refine R_if_le hC dX12_laysSpaces_59 (tgt := 75) (by decide) (fun hb59 => ?_) (fun hb59 => ?_)
              · skip
                refine R_aload_0 hC dX12_laysSpaces_75 ?_
                refine R_getR hC dX12_laysSpaces_76 fl_12_81 (by decide) rfl (by decide) (by decide) (fi := 51) rfl (r := 80) (gr_57_51 hG4) ?_
                refine R_iconst hC dX12_laysSpaces_79 ⟨by decide, by decide⟩ ?_
                refine R_iload_1 hC dX12_laysSpaces_80 ?_
                refine R_imul hC dX12_laysSpaces_81 ⟨by omega, by omega⟩ ?_
                refine R_iload_2 hC dX12_laysSpaces_82 ?_
                refine R_iadd hC dX12_laysSpaces_83 ⟨by omega, by omega⟩ ?_
                refine R_aload_0 hC dX12_laysSpaces_84 ?_
                refine R_bipush hC dX12_laysSpaces_85 (by decide +kernel) ⟨by decide, by decide⟩ ?_
                have hk6 : RW (uM Mc1 58 (214 + (F a / 100)) (F a % 100)) 114 (upd1 c (16 + F a / 100) (F a % 100)) := ((hq2.2.2.2).w2 (k := 16 + F a / 100) (by omega) (by omega) (by omega))
                refine R_callVp (as := [vI _]) hC dX12_laysSpaces_87 mo_12_spaceOf ml_12_172 (by decide) rfl rfl (c12_spaceOf  hG4 hk6 (by omega) (by omega) hMy) rfl rfl hRm (by decide) (by decide) (Nat.le_of_ble_eq_true rfl) (fun v9 Mc7 hq8 => ?_)
                have hFb : Fr [58, 63, 64, 65, 66, 67, 68, 69, 70, 71, 80] [(57, 22), (57, 23)] M Mc7 := by first | exact Fr.tt hF3b (hq8.1.mo (by simp) (by simp)) | exact Fr.tt hF3a (hq8.1.mo (by simp) (by simp))
                have hTb : TRo M Mc7 := by first | exact TRo.tr hT3b (TRo.of hq8.1 (by decide) (by decide)) | exact TRo.tr hT3a (TRo.of hq8.1 (by decide) (by decide))
                have h80b : ∀ j, Mc7 80 j = M2 80 j := fun j => (hq8.1 80 j (by decide) (by simp)).trans (by first | exact h80v j | exact h80u j)
                have hv9 := hq8.2.trans (by first | exact spcK_x hM bf.1.1 bf.1.2 hx0 (show x < c 121 by omega) (.inl ⟨rfl, hb59⟩) | exact spcK_x hM bf.1.1 bf.1.2 hx0 (show x < c 121 by omega) (.inr ⟨rfl, by omega⟩))
                refine R_iastore hC dX12_laysSpaces_90 (by decide) rfl (by omega) (by omega) ?_
                refine R_iinc_2 hC dX12_laysSpaces_91 rfl ⟨by omega, by omega⟩ ?_
                refine R_goto hC dX12_laysSpaces_94 (tgt := 12) (by decide) ?_
                have hG10 : GR (uM Mc7 80 ((5 * a) + x) v9) := (GR.uA (GR.fr hG4 hq8.1 (by decide +kernel)) (by decide +kernel) (.inl (by decide)))
                have hk11 : RW (uM Mc7 80 ((5 * a) + x) v9) 0 c := (RW.u (RW.fr hk5 hq8.1 (by decide +kernel)) (by decide))
                exact ih12 _ _ (by omega) (by omega) hG10 hk11 (Fr.uA hFb (by decide)) (hTb.h (by decide)) (fun a' x' p q r s => by
                  by_cases z : a' = a ∧ x' = x
                  · rw [z.1, z.2]; exact uM_same.trans hv9
                  · exact (uM_k (by omega)).trans ((h80b _).trans (h802 a' x' p (by omega) r s))) (by omega)
              · skip
                refine R_aload_0 hC dX12_laysSpaces_62 ?_
                refine R_getR hC dX12_laysSpaces_63 fl_12_9 (by decide) rfl (by decide) (by decide) (fi := 0) rfl (r := 58) (gr_57_0 hG4) ?_
                refine R_bipush hC dX12_laysSpaces_66 (by decide +kernel) ⟨by decide, by decide⟩ ?_
                refine R_iload_2 hC dX12_laysSpaces_68 ?_
                refine R_iadd hC dX12_laysSpaces_69 ⟨by omega, by omega⟩ ?_
                refine R_dup2 hC dX12_laysSpaces_70 rfl rfl ?_
                have hk12 : RW (uM Mc1 58 (214 + (F a / 100)) (F a % 100)) 114 (upd1 c (16 + F a / 100) (F a % 100)) := ((hq2.2.2.2).w2 (k := 16 + F a / 100) (by omega) (by omega) (by omega))
                refine R_ialoadE hC dX12_laysSpaces_71 (by decide) rfl (by omega) (by omega) ((hk12.r1 (k := x) (by omega) (by omega) (by omega)).trans (upd1_o (by omega))) ?_
                refine R_iconst hC dX12_laysSpaces_72 ⟨by decide, by decide⟩ ?_
                refine R_isub hC dX12_laysSpaces_73 ⟨by omega, by omega⟩ ?_
                refine R_iastore hC dX12_laysSpaces_74 (by decide) rfl (by omega) (by omega) ?_
                have hF3b : Fr [58, 63, 64, 65, 66, 67, 68, 69, 70, 71, 80] [(57, 22), (57, 23)] M (uM (uM Mc1 58 (214 + (F a / 100)) (F a % 100)) 58 (114 + x) (c x - 1)) := Fr.uA hF3a (by decide)
                have hT3b : TRo M (uM (uM Mc1 58 (214 + (F a / 100)) (F a % 100)) 58 (114 + x) (c x - 1)) := hT3a.u (by omega) (by omega)
                have hMz : SM (upd1 (upd1 c (16 + F a / 100) (F a % 100)) x (c x - 1)) := hMy.up (.inl ⟨by omega, by omega, by omega, by omega⟩)
                have h80v : ∀ j, (uM (uM Mc1 58 (214 + (F a / 100)) (F a % 100)) 58 (114 + x) (c x - 1)) 80 j = M2 80 j := fun j => (uM_h (by decide)).trans (h80u j)
                refine R_aload_0 hC dX12_laysSpaces_75 ?_
                have hG13 : GR (uM (uM Mc1 58 (214 + (F a / 100)) (F a % 100)) 58 (114 + x) (c x - 1)) := (GR.uA hG4 (by decide +kernel) (.inl (by decide)))
                refine R_getR hC dX12_laysSpaces_76 fl_12_81 (by decide) rfl (by decide) (by decide) (fi := 51) rfl (r := 80) (gr_57_51 hG13) ?_
                refine R_iconst hC dX12_laysSpaces_79 ⟨by decide, by decide⟩ ?_
                refine R_iload_1 hC dX12_laysSpaces_80 ?_
                refine R_imul hC dX12_laysSpaces_81 ⟨by omega, by omega⟩ ?_
                refine R_iload_2 hC dX12_laysSpaces_82 ?_
                refine R_iadd hC dX12_laysSpaces_83 ⟨by omega, by omega⟩ ?_
                refine R_aload_0 hC dX12_laysSpaces_84 ?_
                refine R_bipush hC dX12_laysSpaces_85 (by decide +kernel) ⟨by decide, by decide⟩ ?_
                have hk14 : RW (uM (uM Mc1 58 (214 + (F a / 100)) (F a % 100)) 58 (114 + x) (c x - 1)) 114 (upd1 (upd1 c (16 + F a / 100) (F a % 100)) x (c x - 1)) := (hk12.w1 (k := x) (by omega) (by omega) (by omega))
                refine R_callVp (as := [vI _]) hC dX12_laysSpaces_87 mo_12_spaceOf ml_12_172 (by decide) rfl rfl (c12_spaceOf  hG13 hk14 (by omega) (by omega) hMz) rfl rfl hRm (by decide) (by decide) (Nat.le_of_ble_eq_true rfl) (fun v17 Mc15 hq16 => ?_)
                have hFb : Fr [58, 63, 64, 65, 66, 67, 68, 69, 70, 71, 80] [(57, 22), (57, 23)] M Mc15 := by first | exact Fr.tt hF3b (hq16.1.mo (by simp) (by simp)) | exact Fr.tt hF3a (hq16.1.mo (by simp) (by simp))
                have hTb : TRo M Mc15 := by first | exact TRo.tr hT3b (TRo.of hq16.1 (by decide) (by decide)) | exact TRo.tr hT3a (TRo.of hq16.1 (by decide) (by decide))
                have h80b : ∀ j, Mc15 80 j = M2 80 j := fun j => (hq16.1 80 j (by decide) (by simp)).trans (by first | exact h80v j | exact h80u j)
                have hv9 := hq16.2.trans (by first | exact spcK_x hM bf.1.1 bf.1.2 hx0 (show x < c 121 by omega) (.inl ⟨rfl, hb59⟩) | exact spcK_x hM bf.1.1 bf.1.2 hx0 (show x < c 121 by omega) (.inr ⟨rfl, by omega⟩))
                refine R_iastore hC dX12_laysSpaces_90 (by decide) rfl (by omega) (by omega) ?_
                refine R_iinc_2 hC dX12_laysSpaces_91 rfl ⟨by omega, by omega⟩ ?_
                refine R_goto hC dX12_laysSpaces_94 (tgt := 12) (by decide) ?_
                have hG18 : GR (uM Mc15 80 ((5 * a) + x) v17) := (GR.uA (GR.fr hG13 hq16.1 (by decide +kernel)) (by decide +kernel) (.inl (by decide)))
                have hk19 : RW (uM Mc15 80 ((5 * a) + x) v17) 0 c := (RW.u (RW.fr (hk5.ot (by omega)) hq16.1 (by decide +kernel)) (by decide))
                exact ih12 _ _ (by omega) (by omega) hG18 hk19 (Fr.uA hFb (by decide)) (hTb.h (by decide)) (fun a' x' p q r s => by
                  by_cases z : a' = a ∧ x' = x
                  · rw [z.1, z.2]; exact uM_same.trans hv9
                  · exact (uM_k (by omega)).trans ((h80b _).trans (h802 a' x' p (by omega) r s))) (by omega)
        exact L12 _ _ _ (by omega) (by omega) hg hk1 hF hT (fun a' x' p q r s => h80 a' x' p (by omega) r s) (Nat.lt_succ_self _)
  exact L2 _ _ _ (by omega) (by omega) hG hK Fr.rf TRo.rf (fun a' x' p q => by omega) (Nat.lt_succ_self _)
theorem dX12_unlike_0 : decode cX12_unlike 0 = .ok (.iconst 0, 1) := by decide +kernel
theorem dX12_unlike_1 : decode cX12_unlike 1 = .ok (.istore_n 2, 1) := by decide +kernel
theorem dX12_unlike_2 : decode cX12_unlike 2 = .ok (.iconst 0, 1) := by decide +kernel
theorem dX12_unlike_3 : decode cX12_unlike 3 = .ok (.istore_n 3, 1) := by decide +kernel
theorem dX12_unlike_4 : decode cX12_unlike 4 = .ok (.iload_n 3, 1) := by decide +kernel
theorem dX12_unlike_5 : decode cX12_unlike 5 = .ok (.aload_n 0, 1) := by decide +kernel
theorem dX12_unlike_6 : decode cX12_unlike 6 = .ok (.getfield 430, 3) := by decide +kernel
theorem dX12_unlike_9 : decode cX12_unlike 9 = .ok (.if_icmp .ge 76, 3) := by decide +kernel
theorem dX12_unlike_12 : decode cX12_unlike 12 = .ok (.iconst 1, 1) := by decide +kernel
theorem dX12_unlike_13 : decode cX12_unlike 13 = .ok (.istore 4, 2) := by decide +kernel
theorem dX12_unlike_15 : decode cX12_unlike 15 = .ok (.iconst 0, 1) := by decide +kernel
theorem dX12_unlike_16 : decode cX12_unlike 16 = .ok (.istore 5, 2) := by decide +kernel
theorem dX12_unlike_18 : decode cX12_unlike 18 = .ok (.iload 5, 2) := by decide +kernel
theorem dX12_unlike_20 : decode cX12_unlike 20 = .ok (.iload_n 3, 1) := by decide +kernel
theorem dX12_unlike_21 : decode cX12_unlike 21 = .ok (.if_icmp .ge 45, 3) := by decide +kernel
theorem dX12_unlike_24 : decode cX12_unlike 24 = .ok (.iload 4, 2) := by decide +kernel
theorem dX12_unlike_26 : decode cX12_unlike 26 = .ok (.ifCond .eq 40, 3) := by decide +kernel
theorem dX12_unlike_29 : decode cX12_unlike 29 = .ok (.aload_n 0, 1) := by decide +kernel
theorem dX12_unlike_30 : decode cX12_unlike 30 = .ok (.getfield 81, 3) := by decide +kernel
theorem dX12_unlike_33 : decode cX12_unlike 33 = .ok (.iconst 5, 1) := by decide +kernel
theorem dX12_unlike_34 : decode cX12_unlike 34 = .ok (.iload 5, 2) := by decide +kernel
theorem dX12_unlike_36 : decode cX12_unlike 36 = .ok (.imul, 1) := by decide +kernel
theorem dX12_unlike_37 : decode cX12_unlike 37 = .ok (.iload_n 1, 1) := by decide +kernel
theorem dX12_unlike_38 : decode cX12_unlike 38 = .ok (.iadd, 1) := by decide +kernel
theorem dX12_unlike_39 : decode cX12_unlike 39 = .ok (.iaload, 1) := by decide +kernel
theorem dX12_unlike_40 : decode cX12_unlike 40 = .ok (.aload_n 0, 1) := by decide +kernel
theorem dX12_unlike_41 : decode cX12_unlike 41 = .ok (.getfield 81, 3) := by decide +kernel
theorem dX12_unlike_44 : decode cX12_unlike 44 = .ok (.iconst 5, 1) := by decide +kernel
theorem dX12_unlike_45 : decode cX12_unlike 45 = .ok (.iload_n 3, 1) := by decide +kernel
theorem dX12_unlike_46 : decode cX12_unlike 46 = .ok (.imul, 1) := by decide +kernel
theorem dX12_unlike_47 : decode cX12_unlike 47 = .ok (.iload_n 1, 1) := by decide +kernel
theorem dX12_unlike_48 : decode cX12_unlike 48 = .ok (.iadd, 1) := by decide +kernel
theorem dX12_unlike_49 : decode cX12_unlike 49 = .ok (.iaload, 1) := by decide +kernel
theorem dX12_unlike_50 : decode cX12_unlike 50 = .ok (.if_icmp .eq 7, 3) := by decide +kernel
theorem dX12_unlike_53 : decode cX12_unlike 53 = .ok (.iconst 1, 1) := by decide +kernel
theorem dX12_unlike_54 : decode cX12_unlike 54 = .ok (.goto 4, 3) := by decide +kernel
theorem dX12_unlike_57 : decode cX12_unlike 57 = .ok (.iconst 0, 1) := by decide +kernel
theorem dX12_unlike_58 : decode cX12_unlike 58 = .ok (.istore 4, 2) := by decide +kernel
theorem dX12_unlike_60 : decode cX12_unlike 60 = .ok (.iinc 5 1, 3) := by decide +kernel
theorem dX12_unlike_63 : decode cX12_unlike 63 = .ok (.goto (-45), 3) := by decide +kernel
theorem dX12_unlike_66 : decode cX12_unlike 66 = .ok (.iload_n 2, 1) := by decide +kernel
theorem dX12_unlike_67 : decode cX12_unlike 67 = .ok (.iload 4, 2) := by decide +kernel
theorem dX12_unlike_69 : decode cX12_unlike 69 = .ok (.ifCond .eq 7, 3) := by decide +kernel
theorem dX12_unlike_72 : decode cX12_unlike 72 = .ok (.iconst 1, 1) := by decide +kernel
theorem dX12_unlike_73 : decode cX12_unlike 73 = .ok (.goto 4, 3) := by decide +kernel
theorem dX12_unlike_76 : decode cX12_unlike 76 = .ok (.iconst 0, 1) := by decide +kernel
theorem dX12_unlike_77 : decode cX12_unlike 77 = .ok (.iadd, 1) := by decide +kernel
theorem dX12_unlike_78 : decode cX12_unlike 78 = .ok (.istore_n 2, 1) := by decide +kernel
theorem dX12_unlike_79 : decode cX12_unlike 79 = .ok (.iinc 3 1, 3) := by decide +kernel
theorem dX12_unlike_82 : decode cX12_unlike 82 = .ok (.goto (-78), 3) := by decide +kernel
theorem dX12_unlike_85 : decode cX12_unlike 85 = .ok (.iload_n 2, 1) := by decide +kernel
theorem dX12_unlike_86 : decode cX12_unlike 86 = .ok (.ireturn, 1) := by decide +kernel
set_option maxHeartbeats 400000 in
theorem c12_unlike {G : Gl} {l : Launch}  {M : Mem} {c : Int → Int} {x : Int} {m : Int} {Gv : Int → Int} (hG : GR M) (hK : RW M 0 c) (hS : SP c) (hx0 : 0 ≤ x) (hx1 : x < c 121) (hm : M 57 52 = m) (hGv : ∀ a, 0 ≤ a → a < m → M 80 (5 * a + x) = Gv a) (hm0 : 0 ≤ m) (hm1 : m ≤ 96) : Ct G LY 82 l 0 m12_unlike [vR 57, vI x] M (Ret (vI (uL Gv m.toNat)) M) := by
  refine R_start (by decide +kernel) (Nat.le_of_ble_eq_true rfl) (fun C hC hRm hlau => ?_)
  show RZ G LY C (Zn G LY 82 C (Ret (vI (uL Gv m.toNat)) M)) 0 0 82 0 [some (vR 57), some (vI x), none, none, none, none] [] M
  have hM := hS.m
  have hI := hM.I
  have hL := hM.1.1
  have hW := hM.1.2
  refine R_iconst hC dX12_unlike_0 ⟨by decide, by decide⟩ ?_
  refine R_istore_2 hC dX12_unlike_1 rfl ?_
  refine R_iconst hC dX12_unlike_2 ⟨by decide, by decide⟩ ?_
  refine R_istore_3 hC dX12_unlike_3 rfl ?_
  have L4 : ∀ (mq : Nat) (u : Int) (a : Int), (0 ≤ a) → (a ≤ m) → (u = uL Gv a.toNat) → (0 ≤ u) → (u ≤ a) → (m - a).toNat < mq → RZ G LY C (Zn G LY 82 C (Ret (vI (uL Gv m.toNat)) M)) 0 0 82 4 [some (vR 57), some (vI x), some (vI u), some (vI a), none, none] [] M := by
    intro mq
    induction mq with
    | zero =>
      intro u a ha0 ha1 hu hu0 hu1 hm
      exact absurd hm (Nat.not_lt_zero _)
    | succ mq ih4 =>
      intro u a ha0 ha1 hu hu0 hu1 hm4
      refine R_iload_3 hC dX12_unlike_4 ?_
      refine R_aload_0 hC dX12_unlike_5 ?_
      refine R_getIE hC dX12_unlike_6 fl_12_430 (by decide) rfl (by decide) (by decide) (fi := 52) rfl hm ?_
      refine R_icmp_ge hC dX12_unlike_9 (tgt := 85) (by decide) (fun hb9 => ?_) (fun hb9 => ?_)
      · skip
        refine R_iload_2 hC dX12_unlike_85 ?_
        exact R_ireturn hC dX12_unlike_86 rfl (ret_I (by (rw [hu, show a = m by omega])))
      · skip
        refine R_iconst hC dX12_unlike_12 ⟨by decide, by decide⟩ ?_
        refine R_istore_4 hC dX12_unlike_13 rfl ?_
        refine R_iconst hC dX12_unlike_15 ⟨by decide, by decide⟩ ?_
        refine R_istore_5 hC dX12_unlike_16 rfl ?_
        have L18 : ∀ (mq : Nat) (f : Int) (b : Int), (0 ≤ b) → (b ≤ a) → (f = bP (∀ b', 0 ≤ b' → b' < b → Gv b' ≠ Gv a)) → (a - b).toNat < mq → RZ G LY C (Zn G LY 82 C (Ret (vI (uL Gv m.toNat)) M)) 0 0 82 18 [some (vR 57), some (vI x), some (vI u), some (vI a), some (vI f), some (vI b)] [] M := by
          intro mq
          induction mq with
          | zero =>
            intro f b hb0 hb1 hf hm
            exact absurd hm (Nat.not_lt_zero _)
          | succ mq ih18 =>
            intro f b hb0 hb1 hf hm18
            refine R_iload_5 hC dX12_unlike_18 ?_
            refine R_iload_3 hC dX12_unlike_20 ?_
            refine R_icmp_ge hC dX12_unlike_21 (tgt := 66) (by decide) (fun hb21 => ?_) (fun hb21 => ?_)
            · skip
              have hq9 : f = bP (∀ b', 0 ≤ b' → b' < a → Gv b' ≠ Gv a) := by
                first
                  | (rw [hf, show b = a by omega])
                  | exact hb26.trans (bP_neg (fun z => bP_z (hf.symm.trans hb26) (fun y p q => z y p (by omega)))).symm
              refine R_iload_2 hC dX12_unlike_66 ?_
              refine R_iload_4 hC dX12_unlike_67 ?_
              refine R_if_eq hC dX12_unlike_69 (tgt := 76) (by decide) (fun hb69 => ?_) (fun hb69 => ?_)
              · skip
                refine R_iconst hC dX12_unlike_76 ⟨by decide, by decide⟩ ?_
                refine R_iadd hC dX12_unlike_77 ⟨by omega, by omega⟩ ?_
                refine R_istore_2 hC dX12_unlike_78 rfl ?_
                refine R_iinc_3 hC dX12_unlike_79 rfl ⟨by omega, by omega⟩ ?_
                refine R_goto hC dX12_unlike_82 (tgt := 4) (by decide) ?_
                refine R_weak (subL_c (subL_c (subL_c (subL_c (subL_d (subL_d subL_n)))))) ?_
                exact ih4 _ _ (by omega) (by omega) (by (rw [uL_s ha0 rfl]; first | (rw [← hq9, hb69]; omega) | (rw [bP_pos hq8]; omega))) (by omega) (by omega) (by omega)
              · skip
                have hq8 : ∀ b', 0 ≤ b' → b' < a → Gv b' ≠ Gv a := bP_nz (fun z => hb69 (hq9.trans z))
                refine R_iconst hC dX12_unlike_72 ⟨by decide, by decide⟩ ?_
                refine R_goto hC dX12_unlike_73 (tgt := 77) (by decide) ?_
                refine R_iadd hC dX12_unlike_77 ⟨by omega, by omega⟩ ?_
                refine R_istore_2 hC dX12_unlike_78 rfl ?_
                refine R_iinc_3 hC dX12_unlike_79 rfl ⟨by omega, by omega⟩ ?_
                refine R_goto hC dX12_unlike_82 (tgt := 4) (by decide) ?_
                refine R_weak (subL_c (subL_c (subL_c (subL_c (subL_d (subL_d subL_n)))))) ?_
                exact ih4 _ _ (by omega) (by omega) (by (rw [uL_s ha0 rfl]; first | (rw [← hq9, hb69]; omega) | (rw [bP_pos hq8]; omega))) (by omega) (by omega) (by omega)
            · skip
              refine R_iload_4 hC dX12_unlike_24 ?_
              refine R_if_eq hC dX12_unlike_26 (tgt := 66) (by decide) (fun hb26 => ?_) (fun hb26 => ?_)
              · skip
                have hq9 : f = bP (∀ b', 0 ≤ b' → b' < a → Gv b' ≠ Gv a) := by
                  first
                    | (rw [hf, show b = a by omega])
                    | exact hb26.trans (bP_neg (fun z => bP_z (hf.symm.trans hb26) (fun y p q => z y p (by omega)))).symm
                refine R_iload_2 hC dX12_unlike_66 ?_
                refine R_iload_4 hC dX12_unlike_67 ?_
                refine R_if_eq hC dX12_unlike_69 (tgt := 76) (by decide) (fun hb69 => ?_) (fun hb69 => ?_)
                · skip
                  refine R_iconst hC dX12_unlike_76 ⟨by decide, by decide⟩ ?_
                  refine R_iadd hC dX12_unlike_77 ⟨by omega, by omega⟩ ?_
                  refine R_istore_2 hC dX12_unlike_78 rfl ?_
                  refine R_iinc_3 hC dX12_unlike_79 rfl ⟨by omega, by omega⟩ ?_
                  refine R_goto hC dX12_unlike_82 (tgt := 4) (by decide) ?_
                  refine R_weak (subL_c (subL_c (subL_c (subL_c (subL_d (subL_d subL_n)))))) ?_
                  exact ih4 _ _ (by omega) (by omega) (by (rw [uL_s ha0 rfl]; first | (rw [← hq9, hb69]; omega) | (rw [bP_pos hq8]; omega))) (by omega) (by omega) (by omega)
                · skip
                  have hq8 : ∀ b', 0 ≤ b' → b' < a → Gv b' ≠ Gv a := bP_nz (fun z => hb69 (hq9.trans z))
                  refine R_iconst hC dX12_unlike_72 ⟨by decide, by decide⟩ ?_
                  refine R_goto hC dX12_unlike_73 (tgt := 77) (by decide) ?_
                  refine R_iadd hC dX12_unlike_77 ⟨by omega, by omega⟩ ?_
                  refine R_istore_2 hC dX12_unlike_78 rfl ?_
                  refine R_iinc_3 hC dX12_unlike_79 rfl ⟨by omega, by omega⟩ ?_
                  refine R_goto hC dX12_unlike_82 (tgt := 4) (by decide) ?_
                  refine R_weak (subL_c (subL_c (subL_c (subL_c (subL_d (subL_d subL_n)))))) ?_
                  exact ih4 _ _ (by omega) (by omega) (by (rw [uL_s ha0 rfl]; first | (rw [← hq9, hb69]; omega) | (rw [bP_pos hq8]; omega))) (by omega) (by omega) (by omega)
              · skip
                refine R_aload_0 hC dX12_unlike_29 ?_
                refine R_getR hC dX12_unlike_30 fl_12_81 (by decide) rfl (by decide) (by decide) (fi := 51) rfl (r := 80) (gr_57_51 hG) ?_
                refine R_iconst hC dX12_unlike_33 ⟨by decide, by decide⟩ ?_
                refine R_iload_5 hC dX12_unlike_34 ?_
                refine R_imul hC dX12_unlike_36 ⟨by omega, by omega⟩ ?_
                refine R_iload_1 hC dX12_unlike_37 ?_
                refine R_iadd hC dX12_unlike_38 ⟨by omega, by omega⟩ ?_
                refine R_ialoadE hC dX12_unlike_39 (by decide) rfl (by omega) (by omega) (hGv b hb0 (by omega)) ?_
                refine R_aload_0 hC dX12_unlike_40 ?_
                refine R_getR hC dX12_unlike_41 fl_12_81 (by decide) rfl (by decide) (by decide) (fi := 51) rfl (r := 80) (gr_57_51 hG) ?_
                refine R_iconst hC dX12_unlike_44 ⟨by decide, by decide⟩ ?_
                refine R_iload_3 hC dX12_unlike_45 ?_
                refine R_imul hC dX12_unlike_46 ⟨by omega, by omega⟩ ?_
                refine R_iload_1 hC dX12_unlike_47 ?_
                refine R_iadd hC dX12_unlike_48 ⟨by omega, by omega⟩ ?_
                refine R_ialoadE hC dX12_unlike_49 (by decide) rfl (by omega) (by omega) (hGv a ha0 (by omega)) ?_
                refine R_icmp_eq hC dX12_unlike_50 (tgt := 57) (by decide) (fun hb50 => ?_) (fun hb50 => ?_)
                · skip
                  refine R_iconst hC dX12_unlike_57 ⟨by decide, by decide⟩ ?_
                  refine R_istore_4 hC dX12_unlike_58 rfl ?_
                  refine R_iinc_5 hC dX12_unlike_60 rfl ⟨by omega, by omega⟩ ?_
                  refine R_goto hC dX12_unlike_63 (tgt := 18) (by decide) ?_
                  exact ih18 _ _ (by omega) (by omega) (by first | exact (bP_pos (fun y p q => by
                      by_cases e : y = b
                      · rw [e]; exact hb50
                      · exact bP_nz (fun z => hb26 (hf.trans z)) y p (by omega))).symm | exact (bP_neg (fun z => z b hb0 (by omega) hb50)).symm) (by omega)
                · skip
                  refine R_iconst hC dX12_unlike_53 ⟨by decide, by decide⟩ ?_
                  refine R_goto hC dX12_unlike_54 (tgt := 58) (by decide) ?_
                  refine R_istore_4 hC dX12_unlike_58 rfl ?_
                  refine R_iinc_5 hC dX12_unlike_60 rfl ⟨by omega, by omega⟩ ?_
                  refine R_goto hC dX12_unlike_63 (tgt := 18) (by decide) ?_
                  exact ih18 _ _ (by omega) (by omega) (by first | exact (bP_pos (fun y p q => by
                      by_cases e : y = b
                      · rw [e]; exact hb50
                      · exact bP_nz (fun z => hb26 (hf.trans z)) y p (by omega))).symm | exact (bP_neg (fun z => z b hb0 (by omega) hb50)).symm) (by omega)
        exact L18 _ _ _ (by omega) (by omega) ((bP_pos (fun y p q => by omega)).symm) (Nat.lt_succ_self _)
  exact L4 _ _ _ (by omega) (by omega) rfl (by omega) (by omega) (Nat.lt_succ_self _)
