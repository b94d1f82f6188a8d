/-! SAFE: the n-th most of a work; the class's way and the model's -/
noncomputable def cnS (d : Int → Int) (w s : Int) (n : Nat) : Int := sm n (fun x => bP (d (28 + x * 6 + w) = s))
noncomputable def kAS (d : Int → Int) (w s : Int) : Int := if 3 ≤ s then 0 else if s = 2 then cnS d w 3 (d 121).toNat else if s = 1 then cnS d w 3 (d 121).toNat + cnS d w 2 (d 121).toNat else cnS d w 3 (d 121).toNat + cnS d w 2 (d 121).toNat + cnS d w 1 (d 121).toNat
noncomputable def ntS (d : Int → Int) (w n : Int) : Int := if n < kAS d w 2 then 3 else if n < kAS d w 1 then 2 else if n < kAS d w 0 then 1 else 0
noncomputable def lfS (d : Int → Int) (w : Int) (n : Nat) : Int := allOf d w - sm n (fun i => ntS d w i)
theorem sm_mn {f : Int → Int} (h : ∀ k, 0 ≤ f k) {n : Nat} : ∀ m : Nat, n ≤ m → sm n f ≤ sm m f
  | 0, e => by rw [show n = 0 by omega]; exact Int.le_refl _
  | m + 1, e => by
    by_cases q : n = m + 1
    · rw [q]; exact Int.le_refl _
    · have r : sm n f ≤ sm m f := sm_mn h m (by omega)
      have := h m
      show sm n f ≤ sm m f + f m
      omega
theorem cnS_0 {d : Int → Int} {w s : Int} {n : Nat} : 0 ≤ cnS d w s n := (sm_bd n (fun _ _ _ => bP_b _)).1
theorem cnS_m {d : Int → Int} {w s : Int} {n m : Nat} (h : n ≤ m) : cnS d w s n ≤ cnS d w s m := sm_mn (fun _ => (bP_b _).1) m h
theorem cnS_s {d : Int → Int} {w s x j : Int} (h : 0 ≤ x) (hj : j = x + 1) : cnS d w s j.toNat = cnS d w s x.toNat + bP (d (28 + x * 6 + w) = s) := sm_to h hj
theorem kAS_s {d : Int → Int} {w s : Int} (h0 : 1 ≤ s) (h1 : s ≤ 3) : kAS d w (s - 1) = kAS d w s + cnS d w s (d 121).toNat := by
  rcases (by omega : s = 1 ∨ s = 2 ∨ s = 3) with e | e | e <;> subst e <;> unfold kAS <;> simp
theorem kAS_L {d : Int → Int} {w : Int} (hL : 0 ≤ d 121) : kAS d w 0 ≤ d 121 := by
  have h : kAS d w 0 = sm (d 121).toNat (fun x => (bP (d (28 + x * 6 + w) = 3) + bP (d (28 + x * 6 + w) = 2)) + bP (d (28 + x * 6 + w) = 1)) := by
    rw [sm_add, sm_add]; rfl
  have b := (sm_bd (b := 1) (f := fun x => (bP (d (28 + x * 6 + w) = 3) + bP (d (28 + x * 6 + w) = 2)) + bP (d (28 + x * 6 + w) = 1)) (d 121).toNat (fun x _ _ => by
    by_cases q : d (28 + x * 6 + w) = 3
    · rw [bP_pos q, bP_neg (by omega), bP_neg (by omega)]; decide
    · rw [bP_neg q]
      by_cases r : d (28 + x * 6 + w) = 2
      · rw [bP_pos r, bP_neg (by omega)]; decide
      · rw [bP_neg r]; have := bP_b (d (28 + x * 6 + w) = 1); omega)).2
  rw [h]
  omega
theorem kAS_0 {d : Int → Int} {w s : Int} (h : 0 ≤ s) (h3 : s ≤ 3) : 0 ≤ kAS d w s := by
  have a := @cnS_0 d w 3 (d 121).toNat
  have b := @cnS_0 d w 2 (d 121).toNat
  have e := @cnS_0 d w 1 (d 121).toNat
  unfold kAS
  split
  · exact Int.le_refl _
  · split
    · exact a
    · split <;> omega
theorem ntS_at {d : Int → Int} {w s n : Int} (h0 : 1 ≤ s) (h1 : s ≤ 3) (a : kAS d w s ≤ n) (b : n < kAS d w (s - 1)) : ntS d w n = s := by
  have k2 : kAS d w 1 = _ := kAS_s (d := d) (w := w) (s := 2) (by decide) (by decide)
  have k1 : kAS d w 0 = _ := kAS_s (d := d) (w := w) (s := 1) (by decide) (by decide)
  have c2 := @cnS_0 d w 2 (d 121).toNat
  have c1 := @cnS_0 d w 1 (d 121).toNat
  rcases (by omega : s = 1 ∨ s = 2 ∨ s = 3) with e | e | e <;> subst e <;> unfold ntS
  · have b : n < kAS d w 0 := b
    rw [if_neg (by omega), if_neg (by omega), if_pos b]
  · have b : n < kAS d w 1 := b
    rw [if_neg (by omega), if_pos b]
  · have b : n < kAS d w 2 := b
    rw [if_pos b]
theorem ntS_z {d : Int → Int} {w n : Int} (h : kAS d w 0 ≤ n) : ntS d w n = 0 := by
  have k2 : kAS d w 1 = _ := kAS_s (d := d) (w := w) (s := 2) (by decide) (by decide)
  have k1 : kAS d w 0 = _ := kAS_s (d := d) (w := w) (s := 1) (by decide) (by decide)
  have c2 := @cnS_0 d w 2 (d 121).toNat
  have c1 := @cnS_0 d w 1 (d 121).toNat
  unfold ntS
  rw [if_neg (by omega), if_neg (by omega), if_neg (by omega)]
theorem ntS_b (d : Int → Int) (w n : Int) : 0 ≤ ntS d w n ∧ ntS d w n ≤ 3 := by
  unfold ntS
  split
  · decide
  · split
    · decide
    · split <;> decide
theorem lfS_s {d : Int → Int} {w n j : Int} (h : 0 ≤ n) (hj : j = n + 1) : lfS d w j.toNat = lfS d w n.toNat - ntS d w n := by
  unfold lfS
  rw [sm_to h hj]
  omega
theorem lfS_st {d : Int → Int} {w : Int} {a : Nat} (h : kAS d w 0 ≤ a) : ∀ n : Nat, lfS d w (a + n) = lfS d w a
  | 0 => rfl
  | n + 1 => by
    have e := lfS_s (d := d) (w := w) (n := ((a + n : Nat) : Int)) (j := ((a + n : Nat) : Int) + 1) (by omega) rfl
    rw [show (((a + n : Nat) : Int) + 1).toNat = a + (n + 1) by omega, show ((a + n : Nat) : Int).toNat = a + n by omega, ntS_z (by omega), lfS_st h n] at e
    omega
/-- the class's state after `k` cells that hold some -/
def sfJ (d : Int → Int) (w k : Int) (p : Int × Int) : Prop := (0 ≤ p.2 ∧ p.2 ≤ k) ∧ p.1 = lfS d w p.2.toNat ∧ (∀ i : Int, 0 ≤ i → i < p.2 → d (16 + w) ≤ lfS d w i.toNat) ∧ (d (16 + w) ≤ p.1 → p.2 = k)
theorem sfJ_X {d : Int → Int} {w s : Int} {p : Int × Int} (h0 : 1 ≤ s) (h1 : s ≤ 3) (h : sfJ d w (kAS d w s) p) : ∀ n : Nat, n ≤ (d 121).toNat → sfJ d w (kAS d w s + cnS d w s n) (sfX d w s n p)
  | 0, _ => by rw [show kAS d w s + cnS d w s 0 = kAS d w s from Int.add_zero _]; exact h
  | n + 1, e => by
    have r := sfJ_X h0 h1 h n (by omega)
    have c := cnS_s (d := d) (w := w) (s := s) (x := (n : Int)) (j := (n : Int) + 1) (by omega) rfl
    rw [show ((n : Int) + 1).toNat = n + 1 by omega, show ((n : Int)).toNat = n by omega] at c
    have cb := bP_b (d (28 + (n : Int) * 6 + w) = s)
    rw [sfX]
    unfold sfS
    by_cases q : (sfX d w s n p).1 < d (16 + w)
    · rw [if_pos q]
      exact ⟨⟨r.1.1, by have := r.1.2; omega⟩, r.2.1, r.2.2.1, fun z => by omega⟩
    · rw [if_neg q]
      have ek := r.2.2.2 (by omega)
      by_cases g : d (28 + (n : Int) * 6 + w) = s
      · rw [if_pos g]
        rw [bP_pos g] at c
        have m := cnS_m (d := d) (w := w) (s := s) (n := n + 1) (m := (d 121).toNat) e
        have ks := kAS_s (d := d) (w := w) h0 h1
        have c0 := @cnS_0 d w s n
        have nt := ntS_at (d := d) (w := w) (n := (sfX d w s n p).2) h0 h1 (by omega) (by omega)
        have lf := lfS_s (d := d) (w := w) (n := (sfX d w s n p).2) (j := (sfX d w s n p).2 + 1) r.1.1 rfl
        have r1 := r.1.1
        refine ⟨⟨by dsimp only; omega, by dsimp only; omega⟩, ?_, fun i i0 i1 => ?_, fun _ => by dsimp only; omega⟩
        · have := r.2.1
          dsimp only
          omega
        · dsimp only at i1
          by_cases y : i = (sfX d w s n p).2
          · rw [y, ← r.2.1]; omega
          · exact r.2.2.1 i i0 (by omega)
      · rw [if_neg g]
        rw [bP_neg g] at c
        exact ⟨⟨r.1.1, by have := r.1.2; omega⟩, r.2.1, r.2.2.1, fun _ => by omega⟩
theorem sfJ_O {d : Int → Int} {w : Int} : ∀ n : Nat, n ≤ 3 → sfJ d w (kAS d w (3 - n)) (sfO d w n)
  | 0, _ => ⟨⟨Int.le_refl _, Int.le_refl _⟩, (Int.sub_zero _).symm, fun i i0 i1 => absurd i1 (by show ¬ i < 0; omega), fun _ => rfl⟩
  | n + 1, e => by
    have r := sfJ_X (d := d) (w := w) (s := 3 - (n : Int)) (by omega) (by omega) (sfJ_O (w := w) n (by omega)) (d 121).toNat (Nat.le_refl _)
    rw [← kAS_s (by omega) (by omega), show 3 - (n : Int) - 1 = 3 - ((n + 1 : Nat) : Int) by omega] at r
    exact r
theorem safV_yes {d : Int → Int} {w n : Int} (n0 : 0 ≤ n) (h : lfS d w n.toNat < d (16 + w)) (g : ∀ i : Int, 0 ≤ i → i < n → d (16 + w) ≤ lfS d w i.toNat) : safV d w = n := by
  have r := sfJ_O (d := d) (w := w) 3 (Nat.le_refl _)
  have k0 : 0 ≤ kAS d w 0 := kAS_0 (by decide) (by decide)
  rw [show (3 : Int) - ((3 : Nat) : Int) = 0 from rfl] at r
  by_cases q : (sfO d w 3).1 < d (16 + w)
  · unfold safV
    rw [if_pos q]
    rcases Int.lt_trichotomy (sfO d w 3).2 n with z | z | z
    · have := g _ r.1.1 z; have := r.2.1; omega
    · exact z
    · have := r.2.2.1 n n0 z; omega
  · have e := r.2.2.2 (by omega)
    rcases Int.lt_or_le (sfO d w 3).2 n with z | z
    · have s := lfS_st (d := d) (w := w) (a := (sfO d w 3).2.toNat) (by omega) (n.toNat - (sfO d w 3).2.toNat)
      rw [show (sfO d w 3).2.toNat + (n.toNat - (sfO d w 3).2.toNat) = n.toNat by omega, ← r.2.1] at s
      omega
    · by_cases y : n = (sfO d w 3).2
      · have := r.2.1
        rw [← y] at this
        omega
      · have := r.2.2.1 n n0 (by omega); omega
theorem safV_no {d : Int → Int} {w : Int} (hL : 0 ≤ d 121) (g : ∀ i : Int, 0 ≤ i → i ≤ d 121 → d (16 + w) ≤ lfS d w i.toNat) : safV d w = -1 := by
  have r := sfJ_O (d := d) (w := w) 3 (Nat.le_refl _)
  rw [show (3 : Int) - ((3 : Nat) : Int) = 0 from rfl] at r
  have := g _ r.1.1 (Int.le_trans r.1.2 (kAS_L hL))
  have := r.2.1
  unfold safV
  rw [if_neg (by omega)]
theorem lfS_bd (d : Int → Int) (w : Int) (n : Nat) : allOf d w - 3 * n ≤ lfS d w n ∧ lfS d w n ≤ allOf d w := by
  have := sm_bd (b := 3) (f := fun i => ntS d w i) n (fun i _ _ => ntS_b d w i)
  unfold lfS
  omega

theorem dX12_nthHeld_0 : decode cX12_nthHeld 0 = .ok (.iload_n 2, 1) := by decide +kernel
theorem dX12_nthHeld_1 : decode cX12_nthHeld 1 = .ok (.istore_n 3, 1) := by decide +kernel
theorem dX12_nthHeld_2 : decode cX12_nthHeld 2 = .ok (.iconst 3, 1) := by decide +kernel
theorem dX12_nthHeld_3 : decode cX12_nthHeld 3 = .ok (.istore 4, 2) := by decide +kernel
theorem dX12_nthHeld_5 : decode cX12_nthHeld 5 = .ok (.iload 4, 2) := by decide +kernel
theorem dX12_nthHeld_7 : decode cX12_nthHeld 7 = .ok (.ifCond .le 53, 3) := by decide +kernel
theorem dX12_nthHeld_10 : decode cX12_nthHeld 10 = .ok (.iconst 0, 1) := by decide +kernel
theorem dX12_nthHeld_11 : decode cX12_nthHeld 11 = .ok (.istore 5, 2) := by decide +kernel
theorem dX12_nthHeld_13 : decode cX12_nthHeld 13 = .ok (.iload 5, 2) := by decide +kernel
theorem dX12_nthHeld_15 : decode cX12_nthHeld 15 = .ok (.aload_n 0, 1) := by decide +kernel
theorem dX12_nthHeld_16 : decode cX12_nthHeld 16 = .ok (.getfield 105, 3) := by decide +kernel
theorem dX12_nthHeld_19 : decode cX12_nthHeld 19 = .ok (.if_icmp .ge 35, 3) := by decide +kernel
theorem dX12_nthHeld_22 : decode cX12_nthHeld 22 = .ok (.aload_n 0, 1) := by decide +kernel
theorem dX12_nthHeld_23 : decode cX12_nthHeld 23 = .ok (.iconst 0, 1) := by decide +kernel
theorem dX12_nthHeld_24 : decode cX12_nthHeld 24 = .ok (.iload 5, 2) := by decide +kernel
theorem dX12_nthHeld_26 : decode cX12_nthHeld 26 = .ok (.iload_n 1, 1) := by decide +kernel
theorem dX12_nthHeld_27 : decode cX12_nthHeld 27 = .ok (.invokevirtual 95, 3) := by decide +kernel
theorem dX12_nthHeld_30 : decode cX12_nthHeld 30 = .ok (.iload 4, 2) := by decide +kernel
theorem dX12_nthHeld_32 : decode cX12_nthHeld 32 = .ok (.if_icmp .eq 6, 3) := by decide +kernel
theorem dX12_nthHeld_35 : decode cX12_nthHeld 35 = .ok (.goto 13, 3) := by decide +kernel
theorem dX12_nthHeld_38 : decode cX12_nthHeld 38 = .ok (.iload_n 3, 1) := by decide +kernel
theorem dX12_nthHeld_39 : decode cX12_nthHeld 39 = .ok (.ifCond .ne 6, 3) := by decide +kernel
theorem dX12_nthHeld_42 : decode cX12_nthHeld 42 = .ok (.iload 4, 2) := by decide +kernel
theorem dX12_nthHeld_44 : decode cX12_nthHeld 44 = .ok (.ireturn, 1) := by decide +kernel
theorem dX12_nthHeld_45 : decode cX12_nthHeld 45 = .ok (.iinc 3 (-1), 3) := by decide +kernel
theorem dX12_nthHeld_48 : decode cX12_nthHeld 48 = .ok (.iinc 5 1, 3) := by decide +kernel
theorem dX12_nthHeld_51 : decode cX12_nthHeld 51 = .ok (.goto (-38), 3) := by decide +kernel
theorem dX12_nthHeld_54 : decode cX12_nthHeld 54 = .ok (.iinc 4 (-1), 3) := by decide +kernel
theorem dX12_nthHeld_57 : decode cX12_nthHeld 57 = .ok (.goto (-52), 3) := by decide +kernel
theorem dX12_nthHeld_60 : decode cX12_nthHeld 60 = .ok (.iconst 0, 1) := by decide +kernel
theorem dX12_nthHeld_61 : decode cX12_nthHeld 61 = .ok (.ireturn, 1) := by decide +kernel
set_option maxHeartbeats 400000 in
theorem c12_nthHeld {G : Gl} {l : Launch}  {M : Mem} {c : Int → Int} {w n : Int} (hG : GR M) (hK : RW M 0 c) (hS : SP c) (hw0 : 0 ≤ w) (hw1 : w < c 122) (hn0 : 0 ≤ n) (hn1 : n ≤ 6) : Ct G LY 82 l 2 m12_nthHeld [vR 57, vI w, vI n] M (Ret (vI (ntS c w n)) M) := by
  refine R_start (by decide +kernel) (Nat.le_of_ble_eq_true rfl) (fun C hC hRm hlau => ?_)
  show RZ G LY C (Zn G LY 82 C (Ret (vI (ntS c w n)) M)) 0 0 82 0 [some (vR 57), some (vI w), some (vI n), none, none, none] [] M
  have hM := hS.m
  have hI := hM.I
  have hL := hM.1.1
  have hW := hM.1.2
  refine R_iload_2 hC dX12_nthHeld_0 ?_
  refine R_istore_3 hC dX12_nthHeld_1 rfl ?_
  refine R_iconst hC dX12_nthHeld_2 ⟨by decide, by decide⟩ ?_
  refine R_istore_4 hC dX12_nthHeld_3 rfl ?_
  have L5 : ∀ (mq : Nat) (m : Int) (s : Int), (0 ≤ s) → (s ≤ 3) → (m = n - kAS c w s) → (0 ≤ m) → (m ≤ 6) → (s).toNat < mq → RZ G LY C (Zn G LY 82 C (Ret (vI (ntS c w n)) M)) 0 0 82 5 [some (vR 57), some (vI w), some (vI n), some (vI m), some (vI s), none] [] M := by
    intro mq
    induction mq with
    | zero =>
      intro m s hs0 hs1 hm hm0 hm1 hm
      exact absurd hm (Nat.not_lt_zero _)
    | succ mq ih5 =>
      intro m s hs0 hs1 hm hm0 hm1 hm5
      refine R_iload_4 hC dX12_nthHeld_5 ?_
      refine R_if_le hC dX12_nthHeld_7 (tgt := 60) (by decide) (fun hb7 => ?_) (fun hb7 => ?_)
      · skip
        refine R_iconst hC dX12_nthHeld_60 ⟨by decide, by decide⟩ ?_
        exact R_ireturn hC dX12_nthHeld_61 rfl (ret_I (ntS_z (by (rw [show s = 0 by omega] at hm; omega))).symm)
      · skip
        refine R_iconst hC dX12_nthHeld_10 ⟨by decide, by decide⟩ ?_
        refine R_istore_5 hC dX12_nthHeld_11 rfl ?_
        have L13 : ∀ (mq : Nat) (q : Int) (x : Int), (0 ≤ x) → (x ≤ c 121) → (q = n - kAS c w s - cnS c w s x.toNat) → (0 ≤ q) → (q ≤ 6) → (c 121 - x).toNat < mq → RZ G LY C (Zn G LY 82 C (Ret (vI (ntS c w n)) M)) 0 0 82 13 [some (vR 57), some (vI w), some (vI n), some (vI q), some (vI s), some (vI x)] [] M := by
          intro mq
          induction mq with
          | zero =>
            intro q x hx0 hx1 hq hq0 hq1 hm
            exact absurd hm (Nat.not_lt_zero _)
          | succ mq ih13 =>
            intro q x hx0 hx1 hq hq0 hq1 hm13
            refine R_iload_5 hC dX12_nthHeld_13 ?_
            refine R_aload_0 hC dX12_nthHeld_15 ?_
            refine R_getIE hC dX12_nthHeld_16 fl_12_105 (by decide) rfl (by decide) (by decide) (fi := 5) rfl hK.l ?_
            refine R_icmp_ge hC dX12_nthHeld_19 (tgt := 54) (by decide) (fun hb19 => ?_) (fun hb19 => ?_)
            · skip
              refine R_iinc_4 hC dX12_nthHeld_54 rfl ⟨by omega, by omega⟩ ?_
              refine R_goto hC dX12_nthHeld_57 (tgt := 5) (by decide) ?_
              refine R_weak (subL_c (subL_c (subL_c (subL_c (subL_c (subL_d subL_n)))))) ?_
              exact ih5 _ _ (by omega) (by omega) (by (rw [show s + -1 = s - 1 by omega, kAS_s (by omega) hs1]; rw [show x = c 121 by omega] at hq; omega)) (by omega) (by omega) (by omega)
            · skip
              refine R_aload_0 hC dX12_nthHeld_22 ?_
              refine R_iconst hC dX12_nthHeld_23 ⟨by decide, by decide⟩ ?_
              refine R_iload_5 hC dX12_nthHeld_24 ?_
              refine R_iload_1 hC dX12_nthHeld_26 ?_
              refine R_callVq (as := [vI _, vI _, vI _]) hC dX12_nthHeld_27 mo_12_holds ml_12_95 (by decide) rfl rfl (c12_holds  hG hK (by omega) (by omega) (by omega) (by omega) (by omega) (by omega)) rfl rfl hRm (by decide) (by decide) (Nat.le_of_ble_eq_true rfl) ?_
              refine R_iload_4 hC dX12_nthHeld_30 ?_
              refine R_icmp_eq hC dX12_nthHeld_32 (tgt := 38) (by decide) (fun hb32 => ?_) (fun hb32 => ?_)
              · skip
                refine R_iload_3 hC dX12_nthHeld_38 ?_
                refine R_if_ne hC dX12_nthHeld_39 (tgt := 45) (by decide) (fun hb39 => ?_) (fun hb39 => ?_)
                · skip
                  refine R_iinc_3 hC dX12_nthHeld_45 rfl ⟨by omega, by omega⟩ ?_
                  refine R_iinc_5 hC dX12_nthHeld_48 rfl ⟨by omega, by omega⟩ ?_
                  refine R_goto hC dX12_nthHeld_51 (tgt := 13) (by decide) ?_
                  exact ih13 _ _ (by omega) (by omega) (by (rw [cnS_s hx0 rfl]; first | (rw [bP_pos hb32]; omega) | (rw [bP_neg hb32]; omega))) (by omega) (by omega) (by omega)
                · skip
                  refine R_iload_4 hC dX12_nthHeld_42 ?_
                  exact R_ireturn hC dX12_nthHeld_44 rfl (ret_I (ntS_at (by omega) hs1 (by (have := @cnS_0 c w s x.toNat; omega)) (by (rw [kAS_s (by omega) hs1]; have z := cnS_m (d := c) (w := w) (s := s) (n := (x + 1).toNat) (m := (c 121).toNat) (by omega); rw [cnS_s hx0 rfl, bP_pos hb32] at z; omega))).symm)
              · skip
                refine R_goto hC dX12_nthHeld_35 (tgt := 48) (by decide) ?_
                refine R_iinc_5 hC dX12_nthHeld_48 rfl ⟨by omega, by omega⟩ ?_
                refine R_goto hC dX12_nthHeld_51 (tgt := 13) (by decide) ?_
                exact ih13 _ _ (by omega) (by omega) (by (rw [cnS_s hx0 rfl]; first | (rw [bP_pos hb32]; omega) | (rw [bP_neg hb32]; omega))) (by omega) (by omega) (by omega)
        exact L13 _ _ _ (by omega) (by omega) (by (rw [show cnS c w s (0 : Int).toNat = 0 from rfl]; omega)) (by omega) (by omega) (Nat.lt_succ_self _)
  exact L5 _ _ _ (by omega) (by omega) (by (rw [show kAS c w 3 = 0 from rfl]; omega)) (by omega) (by omega) (Nat.lt_succ_self _)
theorem dX12_safe_0 : decode cX12_safe 0 = .ok (.aload_n 0, 1) := by decide +kernel
theorem dX12_safe_1 : decode cX12_safe 1 = .ok (.iconst 0, 1) := by decide +kernel
theorem dX12_safe_2 : decode cX12_safe 2 = .ok (.iload_n 1, 1) := by decide +kernel
theorem dX12_safe_3 : decode cX12_safe 3 = .ok (.invokevirtual 108, 3) := by decide +kernel
theorem dX12_safe_6 : decode cX12_safe 6 = .ok (.istore_n 2, 1) := by decide +kernel
theorem dX12_safe_7 : decode cX12_safe 7 = .ok (.iconst 0, 1) := by decide +kernel
theorem dX12_safe_8 : decode cX12_safe 8 = .ok (.istore_n 3, 1) := by decide +kernel
theorem dX12_safe_9 : decode cX12_safe 9 = .ok (.iload_n 3, 1) := by decide +kernel
theorem dX12_safe_10 : decode cX12_safe 10 = .ok (.aload_n 0, 1) := by decide +kernel
theorem dX12_safe_11 : decode cX12_safe 11 = .ok (.getfield 105, 3) := by decide +kernel
theorem dX12_safe_14 : decode cX12_safe 14 = .ok (.if_icmp .gt 48, 3) := by decide +kernel
theorem dX12_safe_17 : decode cX12_safe 17 = .ok (.iload_n 2, 1) := by decide +kernel
theorem dX12_safe_18 : decode cX12_safe 18 = .ok (.aload_n 0, 1) := by decide +kernel
theorem dX12_safe_19 : decode cX12_safe 19 = .ok (.getfield 9, 3) := by decide +kernel
theorem dX12_safe_22 : decode cX12_safe 22 = .ok (.bipush 100, 2) := by decide +kernel
theorem dX12_safe_24 : decode cX12_safe 24 = .ok (.iload_n 1, 1) := by decide +kernel
theorem dX12_safe_25 : decode cX12_safe 25 = .ok (.iadd, 1) := by decide +kernel
theorem dX12_safe_26 : decode cX12_safe 26 = .ok (.iaload, 1) := by decide +kernel
theorem dX12_safe_27 : decode cX12_safe 27 = .ok (.if_icmp .ge 5, 3) := by decide +kernel
theorem dX12_safe_30 : decode cX12_safe 30 = .ok (.iload_n 3, 1) := by decide +kernel
theorem dX12_safe_31 : decode cX12_safe 31 = .ok (.ireturn, 1) := by decide +kernel
theorem dX12_safe_32 : decode cX12_safe 32 = .ok (.iconst 0, 1) := by decide +kernel
theorem dX12_safe_33 : decode cX12_safe 33 = .ok (.istore 4, 2) := by decide +kernel
theorem dX12_safe_35 : decode cX12_safe 35 = .ok (.iload_n 3, 1) := by decide +kernel
theorem dX12_safe_36 : decode cX12_safe 36 = .ok (.aload_n 0, 1) := by decide +kernel
theorem dX12_safe_37 : decode cX12_safe 37 = .ok (.getfield 105, 3) := by decide +kernel
theorem dX12_safe_40 : decode cX12_safe 40 = .ok (.if_icmp .ge 11, 3) := by decide +kernel
theorem dX12_safe_43 : decode cX12_safe 43 = .ok (.aload_n 0, 1) := by decide +kernel
theorem dX12_safe_44 : decode cX12_safe 44 = .ok (.iload_n 1, 1) := by decide +kernel
theorem dX12_safe_45 : decode cX12_safe 45 = .ok (.iload_n 3, 1) := by decide +kernel
theorem dX12_safe_46 : decode cX12_safe 46 = .ok (.invokevirtual 332, 3) := by decide +kernel
theorem dX12_safe_49 : decode cX12_safe 49 = .ok (.istore 4, 2) := by decide +kernel
theorem dX12_safe_51 : decode cX12_safe 51 = .ok (.iload_n 2, 1) := by decide +kernel
theorem dX12_safe_52 : decode cX12_safe 52 = .ok (.iload 4, 2) := by decide +kernel
theorem dX12_safe_54 : decode cX12_safe 54 = .ok (.isub, 1) := by decide +kernel
theorem dX12_safe_55 : decode cX12_safe 55 = .ok (.istore_n 2, 1) := by decide +kernel
theorem dX12_safe_56 : decode cX12_safe 56 = .ok (.iinc 3 1, 3) := by decide +kernel
theorem dX12_safe_59 : decode cX12_safe 59 = .ok (.goto (-50), 3) := by decide +kernel
theorem dX12_safe_62 : decode cX12_safe 62 = .ok (.iconst (-1), 1) := by decide +kernel
theorem dX12_safe_63 : decode cX12_safe 63 = .ok (.ireturn, 1) := by decide +kernel
set_option maxHeartbeats 400000 in
theorem c12_safe {G : Gl} {l : Launch}  {M : Mem} {c : Int → Int} {w : Int} (hG : GR M) (hK : RW M 0 c) (hS : SP c) (hw0 : 0 ≤ w) (hw1 : w < c 122) : Ct G LY 82 l 3 m12_safe [vR 57, vI w] M (Ret (vI (safV c w)) M) := by
  refine R_start (by decide +kernel) (Nat.le_of_ble_eq_true rfl) (fun C hC hRm hlau => ?_)
  show RZ G LY C (Zn G LY 82 C (Ret (vI (safV c w)) M)) 0 0 82 0 [some (vR 57), some (vI w), none, none, none] [] M
  have hM := hS.m
  have hI := hM.I
  have hL := hM.1.1
  have hW := hM.1.2
  have hkw := (hS.2.2.1 w hw0 (by omega)).2.1
  have bal := hS.all hw0 (show w < 6 by omega)
  refine R_aload_0 hC dX12_safe_0 ?_
  refine R_iconst hC dX12_safe_1 ⟨by decide, by decide⟩ ?_
  refine R_iload_1 hC dX12_safe_2 ?_
  refine R_callVq (as := [vI _, vI _]) hC dX12_safe_3 mo_12_allOf ml_12_108 (by decide) rfl rfl (c12_allOf  hG hK (by omega) (by omega) (by omega) (by omega) hM) rfl rfl hRm (by decide) (by decide) (Nat.le_of_ble_eq_true rfl) ?_
  refine R_istore_2 hC dX12_safe_6 rfl ?_
  refine R_iconst hC dX12_safe_7 ⟨by decide, by decide⟩ ?_
  refine R_istore_3 hC dX12_safe_8 rfl ?_
  have L9 : ∀ (mq : Nat) (m : Int) (n : Int), (0 ≤ n) → (n ≤ c 121 + 1) → (m = lfS c w n.toNat) → (∀ i : Int, 0 ≤ i → i < n → c (16 + w) ≤ lfS c w i.toNat) → (c 121 + 1 - n).toNat < mq → RZ G LY C (Zn G LY 82 C (Ret (vI (safV c w)) M)) 0 0 82 9 [some (vR 57), some (vI w), some (vI m), some (vI n), none] [] M := by
    intro mq
    induction mq with
    | zero =>
      intro m n hn0 hn1 hm hno hm
      exact absurd hm (Nat.not_lt_zero _)
    | succ mq ih9 =>
      intro m n hn0 hn1 hm hno hm9
      have blf := lfS_bd c w n.toNat
      have bnt := ntS_b c w n
      refine R_iload_3 hC dX12_safe_9 ?_
      refine R_aload_0 hC dX12_safe_10 ?_
      refine R_getIE hC dX12_safe_11 fl_12_105 (by decide) rfl (by decide) (by decide) (fi := 5) rfl hK.l ?_
      refine R_icmp_gt hC dX12_safe_14 (tgt := 62) (by decide) (fun hb14 => ?_) (fun hb14 => ?_)
      · skip
        refine R_iconst hC dX12_safe_62 ⟨by decide, by decide⟩ ?_
        exact R_ireturn hC dX12_safe_63 rfl (ret_I (safV_no (by omega) (fun i a b => hno i a (by omega))).symm)
      · skip
        refine R_iload_2 hC dX12_safe_17 ?_
        refine R_aload_0 hC dX12_safe_18 ?_
        refine R_getR hC dX12_safe_19 fl_12_9 (by decide) rfl (by decide) (by decide) (fi := 0) rfl (r := 58) (gr_57_0 hG) ?_
        refine R_bipush hC dX12_safe_22 (by decide +kernel) ⟨by decide, by decide⟩ ?_
        refine R_iload_1 hC dX12_safe_24 ?_
        refine R_iadd hC dX12_safe_25 ⟨by omega, by omega⟩ ?_
        refine R_ialoadE hC dX12_safe_26 (by decide) rfl (by omega) (by omega) (hK.r2 (k := 16 + w) (by omega) (by omega) (by omega)) ?_
        refine R_icmp_ge hC dX12_safe_27 (tgt := 32) (by decide) (fun hb27 => ?_) (fun hb27 => ?_)
        · skip
          refine R_iconst hC dX12_safe_32 ⟨by decide, by decide⟩ ?_
          refine R_istore_4 hC dX12_safe_33 rfl ?_
          refine R_iload_3 hC dX12_safe_35 ?_
          refine R_aload_0 hC dX12_safe_36 ?_
          refine R_getIE hC dX12_safe_37 fl_12_105 (by decide) rfl (by decide) (by decide) (fi := 5) rfl hK.l ?_
          refine R_icmp_ge hC dX12_safe_40 (tgt := 51) (by decide) (fun hb40 => ?_) (fun hb40 => ?_)
          · skip
            refine R_iload_2 hC dX12_safe_51 ?_
            refine R_iload_4 hC dX12_safe_52 ?_
            refine R_isub hC dX12_safe_54 ⟨by omega, by omega⟩ ?_
            refine R_istore_2 hC dX12_safe_55 rfl ?_
            refine R_iinc_3 hC dX12_safe_56 rfl ⟨by omega, by omega⟩ ?_
            refine R_goto hC dX12_safe_59 (tgt := 9) (by decide) ?_
            refine R_weak (subL_c (subL_c (subL_c (subL_c (subL_d subL_n))))) ?_
            exact ih9 _ _ (by omega) (by omega) (by (rw [lfS_s hn0 rfl]; first | (rw [ntS_z (show kAS c w 0 ≤ n by (have := kAS_L (d := c) (w := w) (by omega); omega))]; omega) | omega)) (fun i a b => by
              by_cases e : i = n
              · rw [e, ← hm]; omega
              · exact hno i a (by omega)) (by omega)
          · skip
            refine R_aload_0 hC dX12_safe_43 ?_
            refine R_iload_1 hC dX12_safe_44 ?_
            refine R_iload_3 hC dX12_safe_45 ?_
            refine R_callVq (as := [vI _, vI _]) hC dX12_safe_46 mo_12_nthHeld ml_12_332 (by decide) rfl rfl (c12_nthHeld  hG hK hS (by omega) (by omega) (by omega) (by omega)) rfl rfl hRm (by decide) (by decide) (Nat.le_of_ble_eq_true rfl) ?_
            refine R_istore_4 hC dX12_safe_49 rfl ?_
            refine R_iload_2 hC dX12_safe_51 ?_
            refine R_iload_4 hC dX12_safe_52 ?_
            refine R_isub hC dX12_safe_54 ⟨by omega, by omega⟩ ?_
            refine R_istore_2 hC dX12_safe_55 rfl ?_
            refine R_iinc_3 hC dX12_safe_56 rfl ⟨by omega, by omega⟩ ?_
            refine R_goto hC dX12_safe_59 (tgt := 9) (by decide) ?_
            refine R_weak (subL_c (subL_c (subL_c (subL_c (subL_d subL_n))))) ?_
            exact ih9 _ _ (by omega) (by omega) (by (rw [lfS_s hn0 rfl]; first | (rw [ntS_z (show kAS c w 0 ≤ n by (have := kAS_L (d := c) (w := w) (by omega); omega))]; omega) | omega)) (fun i a b => by
              by_cases e : i = n
              · rw [e, ← hm]; omega
              · exact hno i a (by omega)) (by omega)
        · skip
          refine R_iload_3 hC dX12_safe_30 ?_
          exact R_ireturn hC dX12_safe_31 rfl (ret_I (safV_yes hn0 (by omega) hno).symm)
  exact L9 _ _ _ (by omega) (by omega) ((Int.sub_zero _).symm) (fun i a b => by omega) (Nat.lt_succ_self _)
