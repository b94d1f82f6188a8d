/-! flows: what the least cut tells -/
theorem bits_at (p : Int → Prop) : ∀ n m : Nat, m < n → bits n p / 2 ^ m % 2 = bP (p m)
  | 0, m, h => by omega
  | n + 1, m, h => by
    have hb := bits_bd p n
    have e : bits (n + 1) p = bits n p + bP (p n) * 2 ^ n := by show sm n _ + _ = _; simp [bits]
    have hp : (0 : Int) < 2 ^ m := Int.pow_pos (by decide)
    rw [e]
    by_cases q : m = n
    · subst q
      rw [Int.add_mul_ediv_right _ _ (Int.ne_of_gt hp), Int.ediv_eq_zero_of_lt hb.1 hb.2, Int.zero_add]
      rcases bP_01 (p m) with z | z <;> rw [z] <;> rfl
    · obtain ⟨k, rfl⟩ : ∃ k, n = k + 1 + m := ⟨n - m - 1, by omega⟩
      have e2 : bP (p ((k + 1 + m : Nat) : Int)) * 2 ^ (k + 1 + m) = bP (p ((k + 1 + m : Nat) : Int)) * 2 ^ k * 2 * 2 ^ m := by
        rw [Int.pow_add, Int.pow_succ, ← Int.mul_assoc, ← Int.mul_assoc]
      rw [e2, Int.add_mul_ediv_right _ _ (Int.ne_of_gt hp), Int.add_mul_emod_self_right]
      exact bits_at p (k + 1 + m) m (by omega)
theorem full_bit {L x : Int} (h0 : 0 ≤ L) (h1 : L ≤ 5) (x0 : 0 ≤ x) (x1 : x < L) : ((2 : Int) ^ L.toNat - 1) / 2 ^ x.toNat % 2 = 1 := by
  have ex : x = 0 ∨ x = 1 ∨ x = 2 ∨ x = 3 ∨ x = 4 := by omega
  rcases pw_cases h0 h1 with ⟨rfl, e⟩ | ⟨rfl, e⟩ | ⟨rfl, e⟩ | ⟨rfl, e⟩ | ⟨rfl, e⟩ | ⟨rfl, e⟩ <;> rw [e] <;> rcases ex with rfl | rfl | rfl | rfl | rfl <;> first | rfl | omega
theorem IB.ls {I : Ins} (h : IB I) : lsum I = sm (iL I).toNat (iM I) := by
  unfold lsum
  have f := h.fs
  rw [ss_L h.1.1 h.1.2 f.1 f.2.1]
  refine sm_congr _ (fun k a b => ?_)
  unfold fullS
  rw [full_bit h.1.1 h.1.2 a (by have := h.1.1; omega), Int.one_mul]
theorem sm_split (f g : Int → Int) (n : Nat) : sm n f = sm n (fun x => g x * f x) + sm n (fun x => (1 - g x) * f x) := by
  rw [← sm_add]
  refine sm_congr _ (fun k _ _ => ?_)
  rw [← Int.add_mul, show g k + (1 - g k) = 1 by omega, Int.one_mul]
theorem IB.rest {I : Ins} (h : IB I) {t : Int} (t0 : 0 ≤ t) (t1 : t < 2 ^ (iL I).toNat) : sm (iL I).toNat (fun x => (1 - t / 2 ^ x.toNat % 2) * iM I x) = lsum I - ss (iM I) t := by
  rw [h.ls, ss_L h.1.1 h.1.2 t0 t1]
  have := sm_split (iM I) (fun x => t / 2 ^ x.toNat % 2) (iL I).toNat
  omega
theorem T0_sum (F : Int → Int → Int) (g : Int → Int) (L W : Nat) : sm W (fun w => sm L (fun x => (1 - g x) * F x w)) = sm L (fun x => (1 - g x) * sm W (fun w => F x w)) := by
  rw [sm_swap]
  exact sm_congr _ (fun x _ _ => sm_mul _ _ _)
theorem flow_up {I : Ins} (h : IB I) {F : Int → Int → Int} {s t : Int} (hF : ∀ x w, 0 ≤ x → x < iL I → 0 ≤ w → w < iW I → 0 ≤ F x w ∧ F x w ≤ iO I x w) (hl : ∀ x, 0 ≤ x → x < iL I → sm (iW I).toNat (fun w => F x w) ≤ iM I x)
    (hT : ∀ w, 0 ≤ w → w < iW I → sm (iL I).toNat (fun x => F x w) ≤ iS I w) (t0 : 0 ≤ t) (t1 : t < 2 ^ (iL I).toNat) :
    sm (iW I).toNat (fun w => if s ≤ iZ I w then sm (iL I).toNat (fun x => F x w) else 0) ≤ cutS I s t := by
  have hL := h.1
  have hW := h.2.1
  have bt := fun x : Int => bt_01 t x.toNat
  have a : sm (iW I).toNat (fun w => if s ≤ iZ I w then sm (iL I).toNat (fun x => F x w) else 0) ≤ sm (iW I).toNat (fun w => (if s ≤ iZ I w then canw I w t else 0) + sm (iL I).toNat (fun x => (1 - t / 2 ^ x.toNat % 2) * F x w)) := by
    refine sm_le _ (fun w w0 w1 => ?_)
    have w1 : w < iW I := by omega
    have hs := sm_split (fun x => F x w) (fun x => t / 2 ^ x.toNat % 2) (iL I).toNat
    have hz : 0 ≤ sm (iL I).toNat (fun x => (1 - t / 2 ^ x.toNat % 2) * F x w) := by
      refine (sm_bd2 (q := 5) 3 hL.1 (fun x x0 x1 => ?_) (by decide) hL.2).1
      have b1 := hF x w x0 x1 w0 w1
      have b2 := h.2.2.1 x w x0 x1 w0 w1
      rcases bt x with z | z <;> rw [z] <;> omega
    have h1 : sm (iL I).toNat (fun x => t / 2 ^ x.toNat % 2 * F x w) ≤ ss (fun x => iO I x w) t := by
      rw [ss_L hL.1 hL.2 t0 t1]
      refine sm_le _ (fun x x0 x1 => ?_)
      have b1 := hF x w x0 (by omega) w0 w1
      rcases bt x with z | z <;> rw [z] <;> omega
    have h2 := hT w w0 w1
    by_cases q : s ≤ iZ I w
    · rw [if_pos q, if_pos q]
      show _ ≤ min (ss (fun x => iO I x w) t) (iS I w) + _
      omega
    · rw [if_neg q, if_neg q]
      omega
  rw [sm_add, T0_sum F (fun x => t / 2 ^ x.toNat % 2)] at a
  have b : sm (iL I).toNat (fun x => (1 - t / 2 ^ x.toNat % 2) * sm (iW I).toNat (fun w => F x w)) ≤ sm (iL I).toNat (fun x => (1 - t / 2 ^ x.toNat % 2) * iM I x) := by
    refine sm_le _ (fun x x0 x1 => ?_)
    have := hl x x0 (by omega)
    rcases bt x with z | z <;> rw [z] <;> omega
  rw [h.rest t0 t1] at b
  unfold cutS
  omega
theorem flow_lo {I : Ins} (h : IB I) {F : Int → Int → Int} {s : Int} (hF : ∀ x w, 0 ≤ x → x < iL I → 0 ≤ w → w < iW I → 0 ≤ F x w ∧ F x w ≤ iO I x w)
    (h0 : ∀ w, 0 ≤ w → w < iW I → iZ I w < s → sm (iL I).toNat (fun x => F x w) = 0) {WR LR : Int → Prop}
    (c1 : ∀ x w, 0 ≤ x → x < iL I → 0 ≤ w → w < iW I → WR w → LR x ∨ F x w = iO I x w) (c2 : ∀ x, 0 ≤ x → x < iL I → LR x → sm (iW I).toNat (fun w => F x w) = iM I x ∧ ∀ w, 0 ≤ w → w < iW I → 0 < F x w → WR w)
    (c3 : ∀ w, 0 ≤ w → w < iW I → s ≤ iZ I w → sm (iL I).toNat (fun x => F x w) = iS I w ∨ WR w) :
    ∃ t, (0 ≤ t ∧ t < 2 ^ (iL I).toNat) ∧ cutS I s t ≤ sm (iW I).toNat (fun w => if s ≤ iZ I w then sm (iL I).toNat (fun x => F x w) else 0) := by
  have hL := h.1
  have hW := h.2.1
  have hb := bits_bd (fun x => ¬ LR x) (iL I).toNat
  generalize ht : bits (iL I).toNat (fun x => ¬ LR x) = t at hb
  have bt : ∀ x : Int, 0 ≤ x → x < iL I → t / 2 ^ x.toNat % 2 = bP (¬ LR x) := by
    intro x x0 x1
    rw [← ht, bits_at _ _ _ (by omega), Int.toNat_of_nonneg x0]
  refine ⟨t, hb, ?_⟩
  have bt1 : ∀ x : Int, 0 ≤ x → x < iL I → (t / 2 ^ x.toNat % 2 = 0 ∧ LR x) ∨ (t / 2 ^ x.toNat % 2 = 1 ∧ ¬ LR x) := by
    intro x x0 x1
    by_cases q : LR x
    · exact .inl ⟨by rw [bt x x0 x1, bP_neg (fun z => z q)], q⟩
    · exact .inr ⟨by rw [bt x x0 x1, bP_pos q], q⟩
  have a : sm (iW I).toNat (fun w => (if s ≤ iZ I w then canw I w t else 0) + sm (iL I).toNat (fun x => (1 - t / 2 ^ x.toNat % 2) * F x w)) ≤ sm (iW I).toNat (fun w => if s ≤ iZ I w then sm (iL I).toNat (fun x => F x w) else 0) := by
    refine sm_le _ (fun w w0 w1 => ?_)
    have w1 : w < iW I := by omega
    have hs := sm_split (fun x => F x w) (fun x => t / 2 ^ x.toNat % 2) (iL I).toNat
    by_cases q : s ≤ iZ I w
    · rw [if_pos q, if_pos q]
      show min (ss (fun x => iO I x w) t) (iS I w) + _ ≤ _
      by_cases r : WR w
      · have e1 : sm (iL I).toNat (fun x => t / 2 ^ x.toNat % 2 * F x w) = ss (fun x => iO I x w) t := by
          rw [ss_L hL.1 hL.2 hb.1 hb.2]
          refine sm_congr _ (fun x x0 x1 => ?_)
          rcases bt1 x x0 (by omega) with z | z
          · rw [z.1, Int.zero_mul, Int.zero_mul]
          · rw [(c1 x w x0 (by omega) w0 w1 r).resolve_left z.2]
        omega
      · have e1 := (c3 w w0 w1 q).resolve_right r
        have e2 : sm (iL I).toNat (fun x => (1 - t / 2 ^ x.toNat % 2) * F x w) = 0 := by
          refine sm_zero _ (fun x x0 x1 => ?_)
          rcases bt1 x x0 (by omega) with z | z
          · have f1 := (hF x w x0 (by omega) w0 w1).1
            have f2 : ¬ 0 < F x w := fun g => r ((c2 x x0 (by omega) z.2).2 w w0 w1 g)
            rw [show F x w = 0 by omega, Int.mul_zero]
          · rw [z.1]; simp
        omega
    · rw [if_neg q, if_neg q]
      have e1 := h0 w w0 w1 (by omega)
      have e2 : sm (iL I).toNat (fun x => (1 - t / 2 ^ x.toNat % 2) * F x w) ≤ sm (iL I).toNat (fun x => F x w) := by
        refine sm_le _ (fun x x0 x1 => ?_)
        have f1 := (hF x w x0 (by omega) w0 w1).1
        rcases bt1 x x0 (by omega) with z | z <;> rw [z.1] <;> omega
      omega
  rw [sm_add, T0_sum F (fun x => t / 2 ^ x.toNat % 2)] at a
  have b : sm (iL I).toNat (fun x => (1 - t / 2 ^ x.toNat % 2) * sm (iW I).toNat (fun w => F x w)) = sm (iL I).toNat (fun x => (1 - t / 2 ^ x.toNat % 2) * iM I x) := by
    refine sm_congr _ (fun x x0 x1 => ?_)
    rcases bt1 x x0 (by omega) with z | z
    · rw [(c2 x x0 (by omega) z.2).1]
    · rw [z.1]; simp
  rw [b, h.rest hb.1 hb.2] at a
  unfold cutS
  omega
theorem flow_MC {I : Ins} (h : IB I) {F : Int → Int → Int} {s : Int} (hF : ∀ x w, 0 ≤ x → x < iL I → 0 ≤ w → w < iW I → 0 ≤ F x w ∧ F x w ≤ iO I x w) (hl : ∀ x, 0 ≤ x → x < iL I → sm (iW I).toNat (fun w => F x w) ≤ iM I x)
    (hT : ∀ w, 0 ≤ w → w < iW I → sm (iL I).toNat (fun x => F x w) ≤ iS I w) (h0 : ∀ w, 0 ≤ w → w < iW I → iZ I w < s → sm (iL I).toNat (fun x => F x w) = 0) {WR LR : Int → Prop}
    (c1 : ∀ x w, 0 ≤ x → x < iL I → 0 ≤ w → w < iW I → WR w → LR x ∨ F x w = iO I x w) (c2 : ∀ x, 0 ≤ x → x < iL I → LR x → sm (iW I).toNat (fun w => F x w) = iM I x ∧ ∀ w, 0 ≤ w → w < iW I → 0 < F x w → WR w)
    (c3 : ∀ w, 0 ≤ w → w < iW I → s ≤ iZ I w → sm (iL I).toNat (fun x => F x w) = iS I w ∨ WR w) :
    sm (iW I).toNat (fun w => if s ≤ iZ I w then sm (iL I).toNat (fun x => F x w) else 0) = MC I s := by
  have hf := h.fs
  obtain ⟨t, ht, hc⟩ := flow_lo h hF h0 c1 c2 c3
  refine mnn_eq (fun k k0 k1 => flow_up h hF hl hT k0 (by omega)) ⟨t, ht.1, ?_, Int.le_antisymm (flow_up h hF hl hT ht.1 ht.2) hc⟩
  have : t < 2 ^ (iL I).toNat := ht.2
  unfold fullS at hf ⊢
  omega
theorem space_sum {I : Ins} (h : IB I) {T : Int → Int} (hm : ∀ s, 1 ≤ s → s ≤ 9 → sm (iW I).toNat (fun w => if s ≤ iZ I w then T w else 0) = MC I s) : sm (iW I).toNat (fun w => iZ I w * T w) = sumMC I := by
  have e : sumMC I = sm 9 (fun s => sm (iW I).toNat (fun w => if s + 1 ≤ iZ I w then T w else 0)) := sm_congr 9 (fun s s0 s1 => (hm (s + 1) (by omega) (by omega)).symm)
  rw [e, sm_swap]
  refine sm_congr _ (fun w w0 w1 => ?_)
  have := (h.2.2.2.1 w w0 (by have := h.2.1; omega)).2
  exact (sm9 (by omega) this.2).symm
