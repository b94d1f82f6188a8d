/-! what the search finds, without the machine; ways, and that one of most space meets each need -/
def EQ7 (M M' : Mem) : Prop := (∀ j, M' 67 j = M 67 j) ∧ ∀ j, M' 68 j = M 68 j
theorem EQ7.tr {M M1 M2 : Mem} (h : EQ7 M M1) (g : EQ7 M1 M2) : EQ7 M M2 := ⟨fun j => (g.1 j).trans (h.1 j), fun j => (g.2 j).trans (h.2 j)⟩
def SUC (I : Ins) (M : Mem) (a m : Int) : Prop := ∃ l, (0 ≤ l ∧ l < iL I) ∧ EBq I M a m ∧ M 69 l ≠ -1 ∧ M 68 l < iM I l
section PU
variable {I : Ins} {a : Int}
theorem BW.run {k l : Int} (k0 : 0 ≤ k) (l0 : 0 ≤ l) (l1 : l < iL I) : ∀ (d : Nat) (M : Mem) (m w : Int), BW I M a m k l w → FVF I M → 0 ≤ w → w ≤ iW I → (iW I - w).toNat = d → ∃ M' m', EQ7 M M' ∧ BL I M' a m' k (l + 1)
  | 0, M, m, w, h, _, w0, w1, e => by
    have z : w = iW I := by omega
    rw [z] at h
    exact ⟨M, m, ⟨fun _ => rfl, fun _ => rfl⟩, h.done⟩
  | d + 1, M, m, w, h, hF, w0, w1, e => by
    by_cases q : M 70 w = -1
    · by_cases r : M 67 (6 * l + w) = 0
      · exact BW.run k0 l0 l1 d M m (w + 1) (h.skip (.inr r)) hF (by omega) (by omega) (by omega)
      · have f := hF l w l0 l1 w0 (by omega)
        have n7 : ∀ j, uM (uM M 70 w l) 71 m w 67 j = M 67 j := fun j => (uM_h (by decide)).trans (uM_h (by decide))
        obtain ⟨M', m', g, i⟩ := BW.run k0 l0 l1 d _ _ (w + 1) (h.add k0 l0 l1 w0 (by omega) q (by omega)) (fun x u x0 x1 u0 u1 => by rw [n7]; exact hF x u x0 x1 u0 u1) (by omega) (by omega) (by omega)
        exact ⟨M', m', EQ7.tr ⟨n7, fun j => (uM_h (by decide)).trans (uM_h (by decide))⟩ g, i⟩
    · exact BW.run k0 l0 l1 d M m (w + 1) (h.skip (.inl q)) hF (by omega) (by omega) (by omega)
theorem BL.run {k : Int} (k0 : 0 ≤ k) : ∀ (d : Nat) (M : Mem) (m l : Int), BL I M a m k l → FV I M → 0 ≤ iW I → 0 ≤ l → l ≤ iL I → (iL I - l).toNat = d → ∃ M' m', EQ7 M M' ∧ ((BI I M' a m' (k + 1) ∧ k < m') ∨ SUC I M' a m')
  | 0, M, m, l, h, _, _, l0, l1, e => by
    have z : l = iL I := by omega
    rw [z] at h
    exact ⟨M, m, ⟨fun _ => rfl, fun _ => rfl⟩, .inl ⟨h.done, h.2.2⟩⟩
  | d + 1, M, m, l, h, hV, hW, l0, l1, e => by
    by_cases q : M 69 l = -1
    · by_cases r : M 67 (6 * l + M 71 k) = iO I l (M 71 k)
      · exact BL.run k0 d M m (l + 1) (h.skip (.inr r)) hV hW (by omega) (by omega) (by omega)
      · have x := h.x k0
        have f := hV.1 l _ l0 (by omega) x.1 x.2
        have n := fun (b : Nat) j (q : b ≠ 69) => (uM_h (M := M) (h := 69) (k := l) (x := M 71 k) (k' := j) q)
        by_cases s : M 68 l < iM I l
        · exact ⟨uM M 69 l (M 71 k), m, ⟨fun j => n 67 j (by decide), fun j => n 68 j (by decide)⟩, .inr ⟨l, ⟨l0, by omega⟩, h.1.1.lib l0 (by omega) q k0 h.2.2 (by omega), by rw [uM_same]; omega, by rw [n 68 l (by decide)]; exact s⟩⟩
        · have v := hV.2 l l0 (by omega)
          have b := h.lib l0 (by omega) k0 q (by omega) (by omega)
          have hV2 : FV I (uM M 69 l (M 71 k)) := hV.fr (fun j => n 67 j (by decide)) (fun j => n 68 j (by decide))
          obtain ⟨M', m', g, i⟩ := BW.run k0 l0 (by omega) _ _ _ 0 b hV2.1 (Int.le_refl _) hW rfl
          obtain ⟨M2, m2, g2, i2⟩ := BL.run k0 d M' m' (l + 1) i (hV2.fr g.1 g.2) hW (by omega) (by omega) (by omega)
          exact ⟨M2, m2, EQ7.tr (EQ7.tr ⟨fun j => n 67 j (by decide), fun j => n 68 j (by decide)⟩ g) g2, i2⟩
    · exact BL.run k0 d M m (l + 1) (h.skip (.inl q)) hV hW (by omega) (by omega) (by omega)
theorem BI.run (hI : IB I) : ∀ (d : Nat) (M : Mem) (m k : Int), BI I M a m k → FV I M → 0 ≤ k → k ≤ m → (6 - k).toNat ≤ d → ∃ M' m', EQ7 M M' ∧ (BI I M' a m' m' ∨ SUC I M' a m')
  | 0, M, m, k, h, _, k0, k1, e => by
    have := h.1.m hI
    have z : k = m := by omega
    rw [z] at h
    exact ⟨M, m, ⟨fun _ => rfl, fun _ => rfl⟩, .inl h⟩
  | d + 1, M, m, k, h, hV, k0, k1, e => by
    by_cases q : k = m
    · rw [q] at h
      exact ⟨M, m, ⟨fun _ => rfl, fun _ => rfl⟩, .inl h⟩
    · have bm := h.1.m hI
      obtain ⟨M', m', g, i⟩ := BL.run k0 _ M m 0 (h.enter (by omega)) hV hI.2.1.1 (Int.le_refl _) hI.1.1 rfl
      rcases i with i | i
      · obtain ⟨M2, m2, g2, i2⟩ := BI.run hI d M' m' (k + 1) i.1 (hV.fr g.1 g.2) (by omega) (by omega) (by omega)
        exact ⟨M2, m2, g.tr g2, i2⟩
      · exact ⟨M', m', g, .inr i⟩
theorem TV.run (hI : IB I) {M : Mem} {pos : Int → Int} {l work many : Int} (hB : Bq I M work many pos) : ∀ (d : Nat) (y : Int) (M2 : Mem), TV I M pos l work y M2 → (y = 5 ∨ ((0 ≤ y ∧ y < iL I) ∧ M 69 y ≠ -1)) → (if y = 5 then 0 else pos (M 69 y) + 1).toNat ≤ d → ∃ M', TVb I M l work 5 M' ∧ ∀ (h : Nat) j, h ≠ 67 → M' h j = M2 h j
  | d, y, M2, h, hy, e => by
    by_cases q : y = 5
    · exact ⟨M2, by rw [q] at h; exact h.1, fun _ _ _ => rfl⟩
    have hL := hI.1
    have z := hy.resolve_left q
    have b4 := hB.2.2.2 y z.1.1 z.1.2 z.2
    have b3 := hB.2.2.1 _ b4.1.1 b4.1.2 b4.2.1
    rw [if_neg q] at e
    by_cases r : M 70 (M 69 y) = 5
    · exact ⟨_, (h.step1 hI hB z.1.1 z.1.2 z.2 rfl r rfl).1, fun _ _ n => uM_h n⟩
    · have s := h.step2 hI hB z.1.1 z.1.2 z.2 rfl rfl r rfl rfl
      have b30 := b3.1.1
      have hp := s.1.2.2.2
      match d, e with
      | 0, e => omega
      | d + 1, e =>
        obtain ⟨M', g1, g2⟩ := TV.run hI hB d _ _ s.2 (.inr ⟨s.1.1, s.1.2.1⟩) (by rw [if_neg r]; omega)
        exact ⟨M', g1, fun b j n => (g2 b j n).trans ((uM_h n).trans (uM_h n))⟩
theorem goes_ex (hI : IB I) {M : Mem} (hV : FV I M) (a0 : 0 ≤ a) (a1 : a < iW I) : ∃ M', GO1 I M a M' ∨ GO0 I M a M' := by
  have hL := hI.1
  have hB := BI.start (M := fun h k => if h = 69 then -1 else if h = 70 then (if k = a then 5 else -1) else if h = 71 then a else M h k) hI a0 a1 (fun _ _ _ => rfl) (fun _ _ _ => rfl) rfl
  obtain ⟨M', m, g, i⟩ := hB.run hI 6 _ _ _ (hV.fr (fun _ => rfl) (fun _ => rfl)) (Int.le_refl _) (by decide) (by decide)
  have g : EQ7 M M' := g
  rcases i with i | ⟨l, hl, hE, h9, h8⟩
  · obtain ⟨WR, LR, p, q⟩ := i.clo
    exact ⟨M', .inr ⟨g.1, g.2, WR, LR, p, q.fr (fun j => (g.1 j).symm) (fun j => (g.2 j).symm)⟩⟩
  · obtain ⟨pos, hq⟩ := hE
    obtain ⟨M2, t1, t2⟩ := TV.run hI hq _ l M' (TV.rf (work := a) (fun x w x0 x1 w0 w1 => by rw [g.1]; exact hV.1 x w x0 x1 w0 w1) hl.1 (by omega)) (.inr ⟨hl, h9⟩) (Nat.le_refl _)
    refine ⟨fun h k => if h = 68 then (if k = l then M 68 l + 1 else M 68 k) else M2 h k, .inl ?_⟩
    exact GO1.of (M1 := M') hV hl.1 hl.2 hL.2 g.1 (by rw [← g.2]; exact h8) (fun x => rfl) ⟨t1.1, t1.2.1, t1.2.2.1, t1.2.2.2⟩
theorem LI.run (hI : IB I) {s u sp : Int} (hz : iZ I u = s) (u0 : 0 ≤ u) (u1 : u < iW I) : ∀ (d : Nat) (M : Mem) (n : Int), LI I M s u n sp → (iS I u - n).toNat = d → ∃ M' sp', LQ I M' s (u + 1) sp'
  | d, M, n, h, e => by
    by_cases q : n < iS I u
    · obtain ⟨M', g⟩ := goes_ex hI h.1.1 u0 u1
      rcases g with g | g
      · match d, e with
        | 0, e => omega
        | d + 1, e => exact LI.run hI hz u0 u1 d M' (n + 1) (h.more hI hz u0 u1 q g) (by omega)
      · exact ⟨_, _, h.fail hz u0 u1 g⟩
    · exact ⟨_, _, h.full hz q u0 u1⟩
theorem LQ.run1 (hI : IB I) {s : Int} : ∀ (d : Nat) (M : Mem) (u sp : Int), LQ I M s u sp → 0 ≤ u → u ≤ iW I → (iW I - u).toNat = d → ∃ M' sp', LQ I M' s (iW I) sp'
  | 0, M, u, sp, h, u0, u1, e => by
    have z : u = iW I := by omega
    rw [z] at h
    exact ⟨M, sp, h⟩
  | d + 1, M, u, sp, h, u0, u1, e => by
    by_cases q : iZ I u = s
    · obtain ⟨M', sp', g⟩ := LI.run hI q u0 (by omega) _ M 0 (h.in q u0 (by omega)) rfl
      exact LQ.run1 hI d M' (u + 1) sp' g (by omega) (by omega) (by omega)
    · exact LQ.run1 hI d M (u + 1) sp (h.skip q) (by omega) (by omega) (by omega)
theorem LQ.run (hI : IB I) : ∀ (s : Nat) (M : Mem) (sp : Int), LQ I M s 0 sp → ∃ M' sp', LQ I M' 0 0 sp'
  | 0, M, sp, h => ⟨M, sp, h⟩
  | s + 1, M, sp, h => by
    obtain ⟨M', sp', g⟩ := LQ.run1 hI _ M 0 sp h (Int.le_refl _) hI.2.1.1 rfl
    have g2 := g.next hI
    rw [show ((s + 1 : Nat) : Int) - 1 = (s : Int) by omega] at g2
    exact LQ.run hI s M' sp' g2
end PU
def CAP (I : Ins) (F : Int → Int → Int) : Prop := (∀ x w, 0 ≤ x → x < iL I → 0 ≤ w → w < iW I → 0 ≤ F x w ∧ F x w ≤ iO I x w) ∧ (∀ x, 0 ≤ x → x < iL I → sm (iW I).toNat (fun w => F x w) ≤ iM I x) ∧ ∀ w, 0 ≤ w → w < iW I → sm (iL I).toNat (fun x => F x w) ≤ iS I w
def spF (I : Ins) (F : Int → Int → Int) : Int := sm (iW I).toNat (fun w => iZ I w * sm (iL I).toNat (fun x => F x w))
theorem flow_ex {I : Ins} (hI : IB I) : ∃ F, CAP I F ∧ spF I F = sumMC I := by
  obtain ⟨M', sp', g⟩ := LQ.run hI 9 (fun _ _ => 0) 0 (LQ.start hI (fun _ _ _ => rfl) (fun _ _ _ => rfl))
  exact ⟨fun x w => M' 67 (6 * x + w), ⟨g.1.1.1, fun x x0 x1 => by have := g.1.1.2 x x0 x1; show sm _ (fun w => M' 67 (6 * x + w)) ≤ _; omega, g.1.2.1⟩, g.2.2.symm.trans (g.end hI)⟩
theorem sm_each {f g : Int → Int} : ∀ n : Nat, (∀ k : Int, 0 ≤ k → k < n → f k ≤ g k) → sm n g ≤ sm n f → ∀ k : Int, 0 ≤ k → k < n → f k = g k
  | 0, _, _, k, a, b => by omega
  | n + 1, h, e, k, a, b => by
    rw [sm, sm] at e
    have h1 := sm_le n (fun j p q => h j p (by omega))
    have h2 := h n (by omega) (by omega)
    by_cases q : k = n
    · rw [q]; omega
    · exact sm_each n (fun j p q => h j p (by omega)) (by omega) k a (by omega)
theorem sm_ge {f : Int → Int} {i : Int} {n : Nat} (h : ∀ k : Int, 0 ≤ k → k < n → 0 ≤ f k) (i0 : 0 ≤ i) (i1 : i < n) : f i ≤ sm n f := by
  have e := sm_one (f := fun k => if k = i then f i else 0) (i := i) n i0 i1 (fun k _ _ ne => if_neg ne)
  have l := sm_le (f := fun k => if k = i then f i else 0) (g := f) n (fun k a b => by
    show (if k = i then f i else 0) ≤ f k
    split
    · rename_i q; rw [q]; exact Int.le_refl _
    · exact h k a b)
  rw [e, if_pos rfl] at l
  exact l
theorem lev_sum {I : Ins} (h : IB I) (T : Int → Int) : sm (iW I).toNat (fun w => iZ I w * T w) = sm 9 (fun s => sm (iW I).toNat (fun w => if s + 1 ≤ iZ I w then T w else 0)) := by
  rw [sm_swap]
  refine sm_congr _ (fun w w0 w1 => ?_)
  have := (h.2.2.2.1 w w0 (by have := h.2.1; omega)).2
  exact (sm9 (by omega) this.2).symm
section WY
variable {I : Ins} {F G : Int → Int → Int}
theorem CAP.lev (hI : IB I) (h : CAP I F) (s : Int) : sm (iW I).toNat (fun w => if s ≤ iZ I w then sm (iL I).toNat (fun x => F x w) else 0) ≤ MC I s := by
  have hf := hI.fs
  obtain ⟨k, k0, k1, e⟩ := mnn_ex (cutS I s) (fullS I).toNat
  unfold MC
  rw [e]
  exact flow_up hI h.1 h.2.1 h.2.2 k0 (by omega)
theorem CAP.sp (hI : IB I) (h : CAP I F) : spF I F ≤ sumMC I := by
  unfold spF
  rw [lev_sum hI]
  exact sm_le 9 (fun s _ _ => h.lev hI (s + 1))
theorem CAP.eq (hI : IB I) (h : CAP I F) (e : spF I F = sumMC I) {s : Int} (s0 : 1 ≤ s) (s1 : s ≤ 9) : sm (iW I).toNat (fun w => if s ≤ iZ I w then sm (iL I).toNat (fun x => F x w) else 0) = MC I s := by
  unfold spF at e
  rw [lev_sum hI] at e
  have := sm_each (f := fun s => sm (iW I).toNat (fun w => if s + 1 ≤ iZ I w then sm (iL I).toNat (fun x => F x w) else 0)) (g := fun s => MC I (s + 1)) 9 (fun s _ _ => h.lev hI (s + 1)) (Int.le_of_eq e.symm) (s - 1) (by omega) (by omega)
  rw [show s - 1 + 1 = s by omega] at this
  exact this
theorem CAP.all (hI : IB I) (h : CAP I F) (e : spF I F = sumMC I) : sm (iW I).toNat (fun w => sm (iL I).toNat (fun x => F x w)) = MC I 1 := by
  rw [← h.eq hI e (Int.le_refl 1) (by decide)]
  exact sm_congr _ (fun w w0 w1 => (if_pos (hI.2.2.2.1 w w0 (by omega)).2.1).symm)
def NDS (I : Ins) (F : Int → Int → Int) : Prop := ∀ x, 0 ≤ x → x < iL I → iN I x ≤ sm (iW I).toNat (fun w => F x w)
theorem need_ex (hI : IB I) (hp : planI I) : ∃ F, CAP I F ∧ NDS I F := by
  have hL := hI.1
  have hW := hI.2.1
  have hJ : IB (I.1, iO I, iS I, iN I, iN I, iZ I) := ⟨hI.1, hI.2.1, hI.2.2.1, hI.2.2.2.1, fun x x0 x1 => by
    have := hI.2.2.2.2 x x0 x1
    show (0 ≤ iN I x ∧ iN I x ≤ iN I x) ∧ iN I x ≤ 100
    omega⟩
  obtain ⟨F, hF, e⟩ := flow_ex hJ
  have hm : sm (iL I).toNat (iN I) ≤ MC (I.1, iO I, iS I, iN I, iN I, iZ I) 1 := by
    obtain ⟨k, k0, k1, e⟩ := mnn_ex (cutS (I.1, iO I, iS I, iN I, iN I, iZ I) 1) (fullS (I.1, iO I, iS I, iN I, iN I, iZ I)).toNat
    unfold MC
    rw [e]
    have hf := hJ.fs
    have hf2 : fullS (I.1, iO I, iS I, iN I, iN I, iZ I) < 2 ^ (iL I).toNat := hf.2.1
    have hk := hp k k0 (by omega)
    have hls : lsum (I.1, iO I, iS I, iN I, iN I, iZ I) = sm (iL I).toNat (iN I) := hJ.ls
    have hc : sm (iW I).toNat (fun w => if 1 ≤ iZ I w then canw I w k else 0) = canI I k := sm_congr _ (fun w w0 w1 => if_pos (hI.2.2.2.1 w w0 (by omega)).2.1)
    show _ ≤ lsum (I.1, iO I, iS I, iN I, iN I, iZ I) - ss (iN I) k + sm (iW I).toNat (fun w => if 1 ≤ iZ I w then canw I w k else 0)
    unfold lackI at hk
    rw [hls, hc]
    omega
  have ha := hF.all hJ e
  have hs : sm (iL I).toNat (iN I) ≤ sm (iL I).toNat (fun x => sm (iW I).toNat (fun w => F x w)) := by
    rw [sm_swap]
    have ha : sm (iW I).toNat (fun w => sm (iL I).toNat (fun x => F x w)) = _ := ha
    omega
  have hr := sm_each (f := fun x => sm (iW I).toNat (fun w => F x w)) (g := iN I) (iL I).toNat (fun x x0 x1 => hF.2.1 x x0 (show x < iL I by omega)) hs
  refine ⟨F, ⟨hF.1, fun x x0 x1 => ?_, hF.2.2⟩, fun x x0 x1 => Int.le_of_eq (hr x x0 (by omega)).symm⟩
  have := hr x x0 (by omega)
  have := hI.2.2.2.2 x x0 x1
  omega
def upF (F : Int → Int → Int) (a b v : Int) : Int → Int → Int := fun x w => if x = a ∧ w = b then v else F x w
theorem upF_at {a b v : Int} : upF F a b v a b = v := if_pos ⟨rfl, rfl⟩
theorem upF_ne {a b v x w : Int} (h : ¬ (x = a ∧ w = b)) : upF F a b v x w = F x w := if_neg h
theorem row_up {a b v x : Int} {n : Nat} (b0 : 0 ≤ b) (b1 : b < n) : sm n (fun w => upF F a b v x w) = sm n (fun w => F x w) + if x = a then v - F a b else 0 := by
  by_cases e : x = a
  · subst e
    rw [if_pos rfl]
    exact sm_chg n b0 b1 (fun k _ _ ne => upF_ne (fun z => ne z.2)) (by rw [upF_at]; omega)
  · rw [if_neg e, Int.add_zero]
    exact sm_congr n (fun k _ _ => upF_ne (fun z => e z.1))
theorem col_up {a b v w : Int} {n : Nat} (a0 : 0 ≤ a) (a1 : a < n) : sm n (fun x => upF F a b v x w) = sm n (fun x => F x w) + if w = b then v - F a b else 0 := by
  by_cases e : w = b
  · subst e
    rw [if_pos rfl]
    exact sm_chg n a0 a1 (fun k _ _ ne => upF_ne (fun z => ne z.1)) (by rw [upF_at]; omega)
  · rw [if_neg e, Int.add_zero]
    exact sm_congr n (fun k _ _ => upF_ne (fun z => e z.2))
theorem spF_up {a b v : Int} (a0 : 0 ≤ a) (a1 : a < iL I) (b0 : 0 ≤ b) (b1 : b < iW I) : spF I (upF F a b v) = spF I F + iZ I b * (v - F a b) := by
  unfold spF
  refine sm_chg _ b0 (by omega) (fun k _ _ ne => ?_) ?_
  · rw [col_up a0 (by omega), if_neg ne, Int.add_zero]
  · rw [col_up a0 (by omega), if_pos rfl, Int.mul_add]
def dsF (I : Ins) (F G : Int → Int → Int) : Int := sm (iL I).toNat (fun x => sm (iW I).toNat (fun w => max (F x w - G x w) (G x w - F x w)))
theorem dsF_up {a b v : Int} (a0 : 0 ≤ a) (a1 : a < iL I) (b0 : 0 ≤ b) (b1 : b < iW I) (h : max (v - G a b) (G a b - v) = max (F a b - G a b) (G a b - F a b) - 1) : dsF I (upF F a b v) G = dsF I F G + -1 := by
  unfold dsF
  refine sm_chg _ a0 (by omega) (fun k _ _ ne => sm_congr _ (fun w _ _ => by rw [upF_ne (fun z => ne z.1)])) ?_
  refine sm_chg _ b0 (by omega) (fun k _ _ ne => by rw [upF_ne (fun z => ne z.2)]) ?_
  rw [upF_at]
  omega
theorem link (hI : IB I) (hG : CAP I G) (hN : NDS I G) : ∀ (d : Nat) (F : Int → Int → Int), CAP I F → spF I F = sumMC I → (dsF I F G).toNat ≤ d → ∃ F, (CAP I F ∧ NDS I F) ∧ spF I F = sumMC I
  | d, F, hF, e, hd => by
    have hL := hI.1
    have hW := hI.2.1
    by_cases q : NDS I F
    · exact ⟨F, ⟨hF, q⟩, e⟩
    obtain ⟨x, hx⟩ := Classical.not_forall.mp q
    have x0 : 0 ≤ x := Classical.byContradiction (fun z => hx (fun a => absurd a z))
    have x1 : x < iL I := Classical.byContradiction (fun z => hx (fun _ a => absurd a z))
    have hlt : sm (iW I).toNat (fun w => F x w) < iN I x := Int.not_le.mp (fun z => hx (fun _ _ => z))
    have hg := hN x x0 x1
    have ⟨w, w0, w1, hw⟩ : ∃ w, 0 ≤ w ∧ w < iW I ∧ F x w < G x w := by
      refine Classical.byContradiction (fun z => ?_)
      have := sm_le (f := fun w => G x w) (g := fun w => F x w) (iW I).toNat (fun w a b => Int.not_lt.mp (fun y => z ⟨w, a, by omega, y⟩))
      omega
    have hFw := hF.1 x w x0 x1 w0 w1
    have hGw := hG.1 x w x0 x1 w0 w1
    have hM := hI.2.2.2.2 x x0 x1
    have hZ := (hI.2.2.2.1 w w0 w1).2
    by_cases r : sm (iL I).toNat (fun x => F x w) < iS I w
    · have hC : CAP I (upF F x w (F x w + 1)) := by
        refine ⟨fun y u y0 y1 u0 u1 => ?_, fun y y0 y1 => ?_, fun u u0 u1 => ?_⟩
        · by_cases z : y = x ∧ u = w
          · rw [z.1, z.2, upF_at]; omega
          · rw [upF_ne z]; exact hF.1 y u y0 y1 u0 u1
        · rw [row_up w0 (by omega)]
          by_cases z : y = x
          · rw [if_pos z, z]; omega
          · rw [if_neg z, Int.add_zero]; exact hF.2.1 y y0 y1
        · rw [col_up x0 (by omega)]
          by_cases z : u = w
          · rw [if_pos z, z]; omega
          · rw [if_neg z, Int.add_zero]; exact hF.2.2 u u0 u1
      have := hC.sp hI
      rw [spF_up x0 x1 w0 w1, show F x w + 1 - F x w = 1 by omega, Int.mul_one] at this
      omega
    · have hGc := hG.2.2 w w0 w1
      have ⟨y, y0, y1, hy⟩ : ∃ y, 0 ≤ y ∧ y < iL I ∧ G y w < F y w := by
        refine Classical.byContradiction (fun z => ?_)
        have h1 := sm_le (f := fun y => F y w) (g := fun y => upF G x w (G x w - 1) y w) (iL I).toNat (fun y a b => by
          by_cases t : y = x
          · rw [t, upF_at]; omega
          · rw [upF_ne (fun v => t v.1)]
            exact Int.not_lt.mp (fun v => z ⟨y, a, by omega, v⟩))
        rw [col_up x0 (by omega), if_pos rfl] at h1
        omega
      have hne : y ≠ x := fun z => by rw [z] at hy; omega
      have hFy := hF.1 y w y0 y1 w0 w1
      have hGy := hG.1 y w y0 y1 w0 w1
      have e1 : upF F x w (F x w + 1) y w = F y w := upF_ne (fun z => hne z.1)
      have D1 := dsF_up (F := F) (G := G) (v := F x w + 1) x0 x1 w0 w1 (by omega)
      have D2 := dsF_up (F := upF F x w (F x w + 1)) (G := G) (v := F y w - 1) y0 y1 w0 w1 (by rw [e1]; omega)
      have D0 : 0 ≤ dsF I (upF (upF F x w (F x w + 1)) y w (F y w - 1)) G := by
        have := sm_le (f := fun _ => 0) (g := fun x' => sm (iW I).toNat (fun w' => max (upF (upF F x w (F x w + 1)) y w (F y w - 1) x' w' - G x' w') (G x' w' - upF (upF F x w (F x w + 1)) y w (F y w - 1) x' w'))) (iL I).toNat (fun k _ _ => by
          have := sm_le (f := fun _ => 0) (g := fun w' => max (upF (upF F x w (F x w + 1)) y w (F y w - 1) k w' - G k w') (G k w' - upF (upF F x w (F x w + 1)) y w (F y w - 1) k w')) (iW I).toNat (fun j _ _ => by omega)
          rw [sm_zero _ (fun _ _ _ => rfl)] at this
          exact this)
        rw [sm_zero _ (fun _ _ _ => rfl)] at this
        exact this
      match d, hd with
      | 0, hd => omega
      | d + 1, hd =>
        refine link hI hG hN d (upF (upF F x w (F x w + 1)) y w (F y w - 1)) ⟨fun z u z0 z1 u0 u1 => ?_, fun z z0 z1 => ?_, fun u u0 u1 => ?_⟩ ?_ (by omega)
        · by_cases t : z = y ∧ u = w
          · rw [t.1, t.2, upF_at]; omega
          rw [upF_ne t]
          by_cases t : z = x ∧ u = w
          · rw [t.1, t.2, upF_at]; omega
          rw [upF_ne t]
          exact hF.1 z u z0 z1 u0 u1
        · rw [row_up w0 (by omega), row_up w0 (by omega), e1]
          have := hF.2.1 z z0 z1
          by_cases t : z = y
          · rw [if_pos t, if_neg (by omega)]; omega
          · rw [if_neg t]
            by_cases t : z = x
            · rw [if_pos t, t]; omega
            · rw [if_neg t]; omega
        · rw [col_up y0 (by omega), col_up x0 (by omega), e1]
          have := hF.2.2 u u0 u1
          split <;> omega
        · rw [spF_up y0 y1 w0 w1, spF_up x0 x1 w0 w1, e1, show F x w + 1 - F x w = 1 by omega, show F y w - 1 - F y w = -1 by omega]
          omega
theorem way_ex (hI : IB I) (hp : planI I) : ∃ F, (CAP I F ∧ NDS I F) ∧ spF I F = sumMC I := by
  obtain ⟨G, g1, g2⟩ := need_ex hI hp
  obtain ⟨F, f1, f2⟩ := flow_ex hI
  exact link hI g1 g2 _ F f1 f2 (Nat.le_refl _)
theorem way_pl (hI : IB I) (h : CAP I F) (hN : NDS I F) : planI I := by
  intro t t0 t1
  have hL := hI.1
  have hW := hI.2.1
  have bt := fun x : Int => bt_01 t x.toNat
  unfold lackI canI
  rw [ss_L hL.1 hL.2 t0 t1]
  have a : sm (iL I).toNat (fun x => t / 2 ^ x.toNat % 2 * iN I x) ≤ sm (iL I).toNat (fun x => sm (iW I).toNat (fun w => t / 2 ^ x.toNat % 2 * F x w)) := by
    refine sm_le _ (fun x x0 x1 => ?_)
    rw [sm_mul]
    have : iN I x ≤ sm (iW I).toNat (F x) := hN x x0 (by omega)
    rcases bt x with z | z <;> rw [z] <;> omega
  rw [sm_swap] at a
  have b : sm (iW I).toNat (fun w => sm (iL I).toNat (fun x => t / 2 ^ x.toNat % 2 * F x w)) ≤ sm (iW I).toNat (fun w => canw I w t) := by
    refine sm_le _ (fun w w0 w1 => ?_)
    have w1 : w < iW I := by omega
    have h1 : sm (iL I).toNat (fun x => t / 2 ^ x.toNat % 2 * F x w) ≤ ss (fun x => iO I x w) t := by
      rw [ss_L hL.1 hL.2 t0 t1]
      refine sm_le _ (fun x x0 x1 => ?_)
      have b1 := h.1 x w x0 (by omega) w0 w1
      rcases bt x with z | z <;> rw [z] <;> omega
    have h2 : sm (iL I).toNat (fun x => t / 2 ^ x.toNat % 2 * F x w) ≤ sm (iL I).toNat (fun x => F x w) := by
      refine sm_le _ (fun x x0 x1 => ?_)
      have b1 := h.1 x w x0 (by omega) w0 w1
      rcases bt x with z | z <;> rw [z] <;> omega
    have h3 := h.2.2 w w0 w1
    show _ ≤ min (ss (fun x => iO I x w) t) (iS I w)
    omega
  omega
end WY
/-! a cell settled -/
section TKS
variable {I : Ins} {x w n : Int}
theorem TK_O {a b : Int} : iO (TK I x w n) a b = if a = x ∧ b = w then 0 else iO I a b := rfl
theorem TK_S {b : Int} : iS (TK I x w n) b = if b = w then iS I w - n else iS I b := rfl
theorem TK_N {a : Int} : iN (TK I x w n) a = if a = x then max 0 (iN I x - n) else iN I a := rfl
theorem TK_M {a : Int} : iM (TK I x w n) a = if a = x then iM I x - n else iM I a := rfl
theorem tk_up (hI : IB I) (x0 : 0 ≤ x) (x1 : x < iL I) (w0 : 0 ≤ w) (w1 : w < iW I) (n0 : 0 ≤ n) (n1 : n ≤ mxT I x w) : sumMC (TK I x w n) + n * iZ I w ≤ sumMC I := by
  have hL := hI.1
  have hW := hI.2.1
  have hm : n ≤ iO I x w ∧ n ≤ iS I w ∧ n ≤ iM I x := by unfold mxT at n1; omega
  have hJ := hI.TK x0 x1 w0 w1 n0 hm.2.1 hm.2.2
  obtain ⟨F, hF, e⟩ := flow_ex hJ
  have hF1 : ∀ a b, 0 ≤ a → a < iL I → 0 ≤ b → b < iW I → 0 ≤ F a b ∧ F a b ≤ iO (TK I x w n) a b := hF.1
  have hF2 : ∀ a, 0 ≤ a → a < iL I → sm (iW I).toNat (fun b => F a b) ≤ iM (TK I x w n) a := hF.2.1
  have hF3 : ∀ b, 0 ≤ b → b < iW I → sm (iL I).toNat (fun a => F a b) ≤ iS (TK I x w n) b := hF.2.2
  have z := hF1 x w x0 x1 w0 w1
  rw [TK_O, if_pos ⟨rfl, rfl⟩] at z
  have hC : CAP I (upF F x w n) := by
    refine ⟨fun a b a0 a1 b0 b1 => ?_, fun a a0 a1 => ?_, fun b b0 b1 => ?_⟩
    · by_cases q : a = x ∧ b = w
      · rw [q.1, q.2, upF_at]; omega
      · rw [upF_ne q]
        have := hF1 a b a0 a1 b0 b1
        rw [TK_O, if_neg q] at this
        exact this
    · rw [row_up w0 (by omega)]
      have := hF2 a a0 a1
      rw [TK_M] at this
      by_cases q : a = x
      · rw [if_pos q] at this ⊢; rw [q] at this ⊢; omega
      · rw [if_neg q] at this ⊢; omega
    · rw [col_up x0 (by omega)]
      have := hF3 b b0 b1
      rw [TK_S] at this
      by_cases q : b = w
      · rw [if_pos q] at this ⊢; rw [q] at this ⊢; omega
      · rw [if_neg q] at this ⊢; omega
  have h1 := hC.sp hI
  rw [spF_up x0 x1 w0 w1, show n - F x w = n by omega] at h1
  have h2 : spF I F = sumMC (TK I x w n) := e
  rw [Int.mul_comm n]
  omega
theorem step_ex (hI : IB I) (hp : planI I) (x0 : 0 ≤ x) (x1 : x < iL I) (w0 : 0 ≤ w) (w1 : w < iW I) : ∃ n, (0 ≤ n ∧ n ≤ mxT I x w) ∧ gdT I x w (SPC I) n := by
  have hL := hI.1
  have hW := hI.2.1
  obtain ⟨X, ⟨hX, hN⟩, e⟩ := way_ex hI hp
  have hxw := hX.1 x w x0 x1 w0 w1
  have hr := hX.2.1 x x0 x1
  have hc := hX.2.2 w w0 w1
  have hr2 := sm_ge (f := fun w => X x w) (i := w) (n := (iW I).toNat) (fun k a b => (hX.1 x k x0 x1 a (by omega)).1) w0 (by omega)
  have hc2 := sm_ge (f := fun x => X x w) (i := x) (n := (iL I).toNat) (fun k a b => (hX.1 k w a (by omega) w0 w1).1) x0 (by omega)
  have hm : X x w ≤ mxT I x w := by unfold mxT; omega
  have hJ := hI.TK (n := X x w) x0 x1 w0 w1 hxw.1 (by omega) (by omega)
  have hC : CAP (TK I x w (X x w)) (upF X x w 0) := by
    refine ⟨fun a b a0 a1 b0 b1 => ?_, fun a a0 a1 => ?_, fun b b0 b1 => ?_⟩
    · rw [TK_O]
      by_cases q : a = x ∧ b = w
      · rw [if_pos q, q.1, q.2, upF_at]; omega
      · rw [if_neg q, upF_ne q]; exact hX.1 a b a0 a1 b0 b1
    · rw [TK_M]
      show sm (iW I).toNat _ ≤ _
      rw [row_up w0 (by omega)]
      have := hX.2.1 a a0 a1
      by_cases q : a = x
      · rw [if_pos q, if_pos q]; rw [q] at this ⊢; omega
      · rw [if_neg q, if_neg q]; omega
    · rw [TK_S]
      show sm (iL I).toNat _ ≤ _
      rw [col_up x0 (by omega)]
      have := hX.2.2 b b0 b1
      by_cases q : b = w
      · rw [if_pos q, if_pos q]; rw [q] at this ⊢; omega
      · rw [if_neg q, if_neg q]; omega
  have hN2 : NDS (TK I x w (X x w)) (upF X x w 0) := fun a a0 a1 => by
    rw [TK_N]
    show _ ≤ sm (iW I).toNat _
    rw [row_up w0 (by omega)]
    have := hN a a0 a1
    by_cases q : a = x
    · rw [if_pos q, if_pos q]; rw [q] at this ⊢; omega
    · rw [if_neg q, if_neg q]; omega
  have hP := way_pl hJ hC hN2
  refine ⟨X x w, ⟨hxw.1, hm⟩, hP, ?_⟩
  have u := tk_up hI x0 x1 w0 w1 hxw.1 hm
  have v := hC.sp hJ
  have y : spF (TK I x w (X x w)) (upF X x w 0) = spF I X + iZ I w * (0 - X x w) := spF_up x0 x1 w0 w1
  rw [SPC_t hP, SPC_t hp]
  rw [show (0 : Int) - X x w = -(X x w) by omega, Int.mul_neg, Int.mul_comm] at y
  omega
/-- what is taken is good, also where it is none -/
theorem tk_gd (hI : IB I) (hp : planI I) (x0 : 0 ≤ x) (x1 : x < iL I) (w0 : 0 ≤ w) (w1 : w < iW I) : gdT I x w (SPC I) (tk I x w (SPC I)) := by
  obtain ⟨n, hn, g⟩ := step_ex hI hp x0 x1 w0 w1
  by_cases q : 0 < tk I x w (SPC I)
  · exact tk_good q
  · have b := tk_bd hI (SPC I) x0 x1 w0 w1
    by_cases r : n = 0
    · rw [show tk I x w (SPC I) = 0 by omega, ← r]; exact g
    · exfalso
      refine q ?_
      have key : ∀ m : Nat, n ≤ m → 0 < tkF I x w (SPC I) m := by
        intro m
        induction m with
        | zero => intro h; omega
        | succ m ih =>
          intro h
          by_cases s : gdT I x w (SPC I) ((m + 1 : Nat) : Int)
          · have := tkF_t (n := ((m + 1 : Nat) : Int)) (by omega) s
            rw [Int.toNat_natCast] at this
            omega
          · have := tkF_f (n := ((m + 1 : Nat) : Int)) (by omega) s
            rw [Int.toNat_natCast, show (((m + 1 : Nat) : Int) - 1).toNat = m by omega] at this
            rw [this]
            refine ih ?_
            by_cases t : n = ((m + 1 : Nat) : Int)
            · exact absurd (t ▸ g) s
            · omega
      exact key _ (by omega)
end TKS
