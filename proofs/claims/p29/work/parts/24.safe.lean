/-! Stock: how many libraries may lose all their copies -/
def sfS (d : Int → Int) (w s x : Int) (p : Int × Int) : Int × Int := if p.1 < d (16 + w) then p else if d (28 + x * 6 + w) = s then (p.1 - s, p.2 + 1) else p
def sfX (d : Int → Int) (w s : Int) : Nat → Int × Int → Int × Int
  | 0, p => p
  | x + 1, p => sfS d w s x (sfX d w s x p)
def sfO (d : Int → Int) (w : Int) : Nat → Int × Int
  | 0 => (allOf d w, 0)
  | j + 1 => sfX d w (3 - j) (d 121).toNat (sfO d w j)
def safV (d : Int → Int) (w : Int) : Int := if (sfO d w 3).1 < d (16 + w) then (sfO d w 3).2 else -1
theorem sfX_s {d : Int → Int} {w s k j : Int} {p : Int × Int} (h : 0 ≤ k) (hj : j = k + 1) : sfX d w s j.toNat p = sfS d w s k (sfX d w s k.toNat p) := by
  subst hj
  rw [show (k + 1).toNat = k.toNat + 1 by omega, sfX, Int.toNat_of_nonneg h]
theorem sfX_st {d : Int → Int} {w s : Int} {p : Int × Int} (h : p.1 < d (16 + w)) : ∀ n, sfX d w s n p = p
  | 0 => rfl
  | n + 1 => by rw [sfX, sfX_st h n, sfS, if_pos h]
theorem sfX_le {d : Int → Int} {w s : Int} {p : Int × Int} {a : Nat} (h : (sfX d w s a p).1 < d (16 + w)) : ∀ n, sfX d w s (a + n) p = sfX d w s a p
  | 0 => rfl
  | n + 1 => by rw [← Nat.add_assoc, sfX, sfX_le h n, sfS, if_pos h]
theorem sfO_st {d : Int → Int} {w : Int} {j : Nat} (h : (sfO d w j).1 < d (16 + w)) : ∀ n, sfO d w (j + n) = sfO d w j
  | 0 => rfl
  | n + 1 => by rw [← Nat.add_assoc, sfO, sfO_st h n, sfX_st h]
theorem sfO_s {d : Int → Int} {w s : Int} (h0 : 1 ≤ s) (h1 : s ≤ 3) : sfO d w (3 - (s - 1)).toNat = sfX d w s (d 121).toNat (sfO d w (3 - s).toNat) := by
  rw [show (3 - (s - 1)).toNat = (3 - s).toNat + 1 by omega, sfO, show (3 : Int) - ((3 - s).toNat : Int) = s by omega]
theorem sfO_stop {d : Int → Int} {w s x : Int} (h0 : 1 ≤ s) (h1 : s ≤ 3) (x0 : 0 ≤ x) (x1 : x ≤ d 121) (h : (sfX d w s x.toNat (sfO d w (3 - s).toNat)).1 < d (16 + w)) : sfO d w 3 = sfX d w s x.toNat (sfO d w (3 - s).toNat) := by
  have e := sfX_le h ((d 121).toNat - x.toNat)
  rw [show x.toNat + ((d 121).toNat - x.toNat) = (d 121).toNat by omega] at e
  have e2 := sfO_s (d := d) (w := w) h0 h1
  rw [e] at e2
  have e3 := sfO_st (j := (3 - (s - 1)).toNat) (by rw [e2]; exact h) (s - 1).toNat
  rw [show (3 - (s - 1)).toNat + (s - 1).toNat = 3 by omega] at e3
  rw [e3, e2]

theorem dX8_safe_0 : decode cX8_safe 0 = .ok (.aload_n 0, 1) := by decide +kernel
theorem dX8_safe_1 : decode cX8_safe 1 = .ok (.iload_n 1, 1) := by decide +kernel
theorem dX8_safe_2 : decode cX8_safe 2 = .ok (.invokevirtual 46, 3) := by decide +kernel
theorem dX8_safe_5 : decode cX8_safe 5 = .ok (.istore_n 2, 1) := by decide +kernel
theorem dX8_safe_6 : decode cX8_safe 6 = .ok (.iconst 0, 1) := by decide +kernel
theorem dX8_safe_7 : decode cX8_safe 7 = .ok (.istore_n 3, 1) := by decide +kernel
theorem dX8_safe_8 : decode cX8_safe 8 = .ok (.iconst 3, 1) := by decide +kernel
theorem dX8_safe_9 : decode cX8_safe 9 = .ok (.istore 4, 2) := by decide +kernel
theorem dX8_safe_11 : decode cX8_safe 11 = .ok (.iload 4, 2) := by decide +kernel
theorem dX8_safe_13 : decode cX8_safe 13 = .ok (.ifCond .le 61, 3) := by decide +kernel
theorem dX8_safe_16 : decode cX8_safe 16 = .ok (.iconst 0, 1) := by decide +kernel
theorem dX8_safe_17 : decode cX8_safe 17 = .ok (.istore 5, 2) := by decide +kernel
theorem dX8_safe_19 : decode cX8_safe 19 = .ok (.iload 5, 2) := by decide +kernel
theorem dX8_safe_21 : decode cX8_safe 21 = .ok (.aload_n 0, 1) := by decide +kernel
theorem dX8_safe_22 : decode cX8_safe 22 = .ok (.getfield 9, 3) := by decide +kernel
theorem dX8_safe_25 : decode cX8_safe 25 = .ok (.bipush 121, 2) := by decide +kernel
theorem dX8_safe_27 : decode cX8_safe 27 = .ok (.iaload, 1) := by decide +kernel
theorem dX8_safe_28 : decode cX8_safe 28 = .ok (.if_icmp .ge 40, 3) := by decide +kernel
theorem dX8_safe_31 : decode cX8_safe 31 = .ok (.iload_n 2, 1) := by decide +kernel
theorem dX8_safe_32 : decode cX8_safe 32 = .ok (.aload_n 0, 1) := by decide +kernel
theorem dX8_safe_33 : decode cX8_safe 33 = .ok (.iload_n 1, 1) := by decide +kernel
theorem dX8_safe_34 : decode cX8_safe 34 = .ok (.invokevirtual 49, 3) := by decide +kernel
theorem dX8_safe_37 : decode cX8_safe 37 = .ok (.if_icmp .ge 5, 3) := by decide +kernel
theorem dX8_safe_40 : decode cX8_safe 40 = .ok (.iload_n 3, 1) := by decide +kernel
theorem dX8_safe_41 : decode cX8_safe 41 = .ok (.ireturn, 1) := by decide +kernel
theorem dX8_safe_42 : decode cX8_safe 42 = .ok (.aload_n 0, 1) := by decide +kernel
theorem dX8_safe_43 : decode cX8_safe 43 = .ok (.iload 5, 2) := by decide +kernel
theorem dX8_safe_45 : decode cX8_safe 45 = .ok (.iload_n 1, 1) := by decide +kernel
theorem dX8_safe_46 : decode cX8_safe 46 = .ok (.invokevirtual 28, 3) := by decide +kernel
theorem dX8_safe_49 : decode cX8_safe 49 = .ok (.iload 4, 2) := by decide +kernel
theorem dX8_safe_51 : decode cX8_safe 51 = .ok (.if_icmp .ne 11, 3) := by decide +kernel
theorem dX8_safe_54 : decode cX8_safe 54 = .ok (.iload_n 2, 1) := by decide +kernel
theorem dX8_safe_55 : decode cX8_safe 55 = .ok (.iload 4, 2) := by decide +kernel
theorem dX8_safe_57 : decode cX8_safe 57 = .ok (.isub, 1) := by decide +kernel
theorem dX8_safe_58 : decode cX8_safe 58 = .ok (.istore_n 2, 1) := by decide +kernel
theorem dX8_safe_59 : decode cX8_safe 59 = .ok (.iinc 3 1, 3) := by decide +kernel
theorem dX8_safe_62 : decode cX8_safe 62 = .ok (.iinc 5 1, 3) := by decide +kernel
theorem dX8_safe_65 : decode cX8_safe 65 = .ok (.goto (-46), 3) := by decide +kernel
theorem dX8_safe_68 : decode cX8_safe 68 = .ok (.iinc 4 (-1), 3) := by decide +kernel
theorem dX8_safe_71 : decode cX8_safe 71 = .ok (.goto (-60), 3) := by decide +kernel
theorem dX8_safe_74 : decode cX8_safe 74 = .ok (.iload_n 2, 1) := by decide +kernel
theorem dX8_safe_75 : decode cX8_safe 75 = .ok (.aload_n 0, 1) := by decide +kernel
theorem dX8_safe_76 : decode cX8_safe 76 = .ok (.iload_n 1, 1) := by decide +kernel
theorem dX8_safe_77 : decode cX8_safe 77 = .ok (.invokevirtual 49, 3) := by decide +kernel
theorem dX8_safe_80 : decode cX8_safe 80 = .ok (.if_icmp .ge 7, 3) := by decide +kernel
theorem dX8_safe_83 : decode cX8_safe 83 = .ok (.iload_n 3, 1) := by decide +kernel
theorem dX8_safe_84 : decode cX8_safe 84 = .ok (.goto 4, 3) := by decide +kernel
theorem dX8_safe_87 : decode cX8_safe 87 = .ok (.iconst (-1), 1) := by decide +kernel
theorem dX8_safe_88 : decode cX8_safe 88 = .ok (.ireturn, 1) := by decide +kernel
set_option maxHeartbeats 400000 in
theorem c8_safe {G : Gl} {l : Launch}  {M : Mem} {h c : Nat} {w : Int} {d : Int → Int} (hG : GR M) (hS : SH h c) (hD : M c = d) (hB : SB d) (hw0 : 0 ≤ w) (hw1 : w < 6) : Ct G LY 57 l 1 m8_safe [vR h, vI w] M (Ret (vI (safV d w)) M) := by
  refine R_start (by decide +kernel) (Nat.le_of_ble_eq_true rfl) (fun C hC hRm hlau => ?_)
  show RZ G LY C (Zn G LY 57 C (Ret (vI (safV d w)) M)) 0 0 57 0 [some (vR h), some (vI w), none, none, none, none] [] M
  have hL := hB.L
  have hkp := hB.1 (16 + w) (by omega) (by omega)
  refine R_aload_0 hC dX8_safe_0 ?_
  refine R_iload_1 hC dX8_safe_1 ?_
  refine R_callVq (as := [vI _]) hC dX8_safe_2 mo_8_copiesOf ml_8_46 hS.l hS.k rfl (c8_copiesOf_d  hD hG hS hB (by omega) (by omega)) rfl rfl hRm (by decide) (by decide) (Nat.le_of_ble_eq_true rfl) ?_
  have e2_1 := allOf_bd (w := w) hB (by omega) (by omega)
  refine R_istore_2 hC dX8_safe_5 rfl ?_
  refine R_iconst hC dX8_safe_6 ⟨by decide, by decide⟩ ?_
  refine R_istore_3 hC dX8_safe_7 rfl ?_
  refine R_iconst hC dX8_safe_8 ⟨by decide, by decide⟩ ?_
  refine R_istore_4 hC dX8_safe_9 rfl ?_
  have L11 : ∀ (mq : Nat) (cp : Int) (n : Int) (s : Int), (0 ≤ s) → (s ≤ 3) → (cp = (sfO d w (3 - s).toNat).1) → (n = (sfO d w (3 - s).toNat).2) → (-3 ≤ cp) → (cp ≤ 600000) → (0 ≤ n) → (n ≤ 5 * (3 - s)) → (s).toNat < mq → RZ G LY C (Zn G LY 57 C (Ret (vI (safV d w)) M)) 0 0 57 11 [some (vR h), some (vI w), some (vI cp), some (vI n), some (vI s), none] [] M := by
    intro mq
    induction mq with
    | zero =>
      intro cp n s hs0 hs1 hc hn hcb hcb1 hn0 hn1 hm
      exact absurd hm (Nat.not_lt_zero _)
    | succ mq ih11 =>
      intro cp n s hs0 hs1 hc hn hcb hcb1 hn0 hn1 hm11
      refine R_iload_4 hC dX8_safe_11 ?_
      refine R_if_le hC dX8_safe_13 (tgt := 74) (by decide) (fun hb13 => ?_) (fun hb13 => ?_)
      · skip
        refine R_iload_2 hC dX8_safe_74 ?_
        refine R_aload_0 hC dX8_safe_75 ?_
        refine R_iload_1 hC dX8_safe_76 ?_
        refine R_callVq (as := [vI _]) hC dX8_safe_77 mo_8_keepOf ml_8_49 hS.l hS.k rfl (c8_keepOf_d  hD hG hS (by omega) (by omega)) rfl rfl hRm (by decide) (by decide) (Nat.le_of_ble_eq_true rfl) ?_
        refine R_icmp_ge hC dX8_safe_80 (tgt := 87) (by decide) (fun hb80 => ?_) (fun hb80 => ?_)
        · skip
          refine R_iconst hC dX8_safe_87 ⟨by decide, by decide⟩ ?_
          exact R_ireturn hC dX8_safe_88 rfl (ret_I (by (have e0 : s = 0 := by omega); subst e0; unfold safV; rw [show (3 : Nat) = (3 - (0 : Int)).toNat from rfl, ← hc]; first | (rw [if_neg (show ¬ cp < d (16 + w) by omega)]) | (rw [if_pos (show cp < d (16 + w) by omega)]; exact hn)))
        · skip
          refine R_iload_3 hC dX8_safe_83 ?_
          refine R_goto hC dX8_safe_84 (tgt := 88) (by decide) ?_
          exact R_ireturn hC dX8_safe_88 rfl (ret_I (by (have e0 : s = 0 := by omega); subst e0; unfold safV; rw [show (3 : Nat) = (3 - (0 : Int)).toNat from rfl, ← hc]; first | (rw [if_neg (show ¬ cp < d (16 + w) by omega)]) | (rw [if_pos (show cp < d (16 + w) by omega)]; exact hn)))
      · skip
        refine R_iconst hC dX8_safe_16 ⟨by decide, by decide⟩ ?_
        refine R_istore_5 hC dX8_safe_17 rfl ?_
        have L19 : ∀ (mq : Nat) (cq : Int) (m : Int) (x : Int), (0 ≤ x) → (x ≤ d 121) → (cq = (sfX d w s x.toNat (sfO d w (3 - s).toNat)).1) → (m = (sfX d w s x.toNat (sfO d w (3 - s).toNat)).2) → (-3 ≤ cq) → (cq ≤ 600000) → (0 ≤ m) → (m ≤ 5 * (3 - s) + x) → (d 121 - x).toNat < mq → RZ G LY C (Zn G LY 57 C (Ret (vI (safV d w)) M)) 0 0 57 19 [some (vR h), some (vI w), some (vI cq), some (vI m), some (vI s), some (vI x)] [] M := by
          intro mq
          induction mq with
          | zero =>
            intro cq m x hx0 hx1 gc gn gcb gcb1 gn0 gn1 hm
            exact absurd hm (Nat.not_lt_zero _)
          | succ mq ih19 =>
            intro cq m x hx0 hx1 gc gn gcb gcb1 gn0 gn1 hm19
            refine R_iload_5 hC dX8_safe_19 ?_
            refine R_aload_0 hC dX8_safe_21 ?_
            refine R_getR hC dX8_safe_22 fl_8_9 hS.l hS.k (by decide) (by decide) (fi := 0) rfl (r := c) (hS.r hG) ?_
            refine R_bipush hC dX8_safe_25 (by decide +kernel) ⟨by decide, by decide⟩ ?_
            refine R_ialoadE hC dX8_safe_27 hS.m hS.a (by omega) (by omega) (congrFun hD _) ?_
            refine R_icmp_ge hC dX8_safe_28 (tgt := 68) (by decide) (fun hb28 => ?_) (fun hb28 => ?_)
            · skip
              refine R_iinc_4 hC dX8_safe_68 rfl ⟨by omega, by omega⟩ ?_
              refine R_goto hC dX8_safe_71 (tgt := 11) (by decide) ?_
              refine R_weak (subL_c (subL_c (subL_c (subL_c (subL_c (subL_d subL_n)))))) ?_
              exact ih11 _ _ _ (by omega) (by omega) (by (rw [show s + -1 = s - 1 by omega, sfO_s (by omega) hs1, ← show x = d 121 by omega]; exact gc)) (by (rw [show s + -1 = s - 1 by omega, sfO_s (by omega) hs1, ← show x = d 121 by omega]; exact gn)) (by omega) (by omega) (by omega) (by omega) (by omega)
            · skip
              refine R_iload_2 hC dX8_safe_31 ?_
              refine R_aload_0 hC dX8_safe_32 ?_
              refine R_iload_1 hC dX8_safe_33 ?_
              refine R_callVq (as := [vI _]) hC dX8_safe_34 mo_8_keepOf ml_8_49 hS.l hS.k rfl (c8_keepOf_d  hD hG hS (by omega) (by omega)) rfl rfl hRm (by decide) (by decide) (Nat.le_of_ble_eq_true rfl) ?_
              refine R_icmp_ge hC dX8_safe_37 (tgt := 42) (by decide) (fun hb37 => ?_) (fun hb37 => ?_)
              · skip
                refine R_aload_0 hC dX8_safe_42 ?_
                refine R_iload_5 hC dX8_safe_43 ?_
                refine R_iload_1 hC dX8_safe_45 ?_
                refine R_callVq (as := [vI _, vI _]) hC dX8_safe_46 mo_8_heldIn ml_8_28 hS.l hS.k rfl (c8_heldIn_d  hD hG hS (by omega) (by omega) (by omega) (by omega)) rfl rfl hRm (by decide) (by decide) (Nat.le_of_ble_eq_true rfl) ?_
                refine R_iload_4 hC dX8_safe_49 ?_
                refine R_icmp_ne hC dX8_safe_51 (tgt := 62) (by decide) (fun hb51 => ?_) (fun hb51 => ?_)
                · skip
                  refine R_iinc_5 hC dX8_safe_62 rfl ⟨by omega, by omega⟩ ?_
                  refine R_goto hC dX8_safe_65 (tgt := 19) (by decide) ?_
                  exact ih19 _ _ _ (by omega) (by omega) (by (rw [sfX_s hx0 rfl]; unfold sfS; rw [← gc, if_neg (by omega)]; first | (rw [if_neg hb51]; exact gc) | (rw [if_pos hb51]))) (by (rw [sfX_s hx0 rfl]; unfold sfS; rw [← gc, if_neg (by omega)]; first | (rw [if_neg hb51]; exact gn) | (rw [if_pos hb51, ← gn]))) (by omega) (by omega) (by omega) (by omega) (by omega)
                · skip
                  refine R_iload_2 hC dX8_safe_54 ?_
                  refine R_iload_4 hC dX8_safe_55 ?_
                  refine R_isub hC dX8_safe_57 ⟨by omega, by omega⟩ ?_
                  refine R_istore_2 hC dX8_safe_58 rfl ?_
                  refine R_iinc_3 hC dX8_safe_59 rfl ⟨by omega, by omega⟩ ?_
                  refine R_iinc_5 hC dX8_safe_62 rfl ⟨by omega, by omega⟩ ?_
                  refine R_goto hC dX8_safe_65 (tgt := 19) (by decide) ?_
                  exact ih19 _ _ _ (by omega) (by omega) (by (rw [sfX_s hx0 rfl]; unfold sfS; rw [← gc, if_neg (by omega)]; first | (rw [if_neg hb51]; exact gc) | (rw [if_pos hb51]))) (by (rw [sfX_s hx0 rfl]; unfold sfS; rw [← gc, if_neg (by omega)]; first | (rw [if_neg hb51]; exact gn) | (rw [if_pos hb51, ← gn]))) (by omega) (by omega) (by omega) (by omega) (by omega)
              · skip
                refine R_iload_3 hC dX8_safe_40 ?_
                exact R_ireturn hC dX8_safe_41 rfl (ret_I (by unfold safV; rw [sfO_stop (by omega) hs1 hx0 hx1 (by rw [← gc]; omega), ← gc, if_pos hb37]; exact gn))
        exact L19 _ _ _ _ (by omega) (by omega) hc hn (by omega) (by omega) (by omega) (by omega) (Nat.lt_succ_self _)
  exact L11 _ _ _ _ (by omega) (by omega) rfl rfl (by (have := allOf_bd hB hw0 hw1; omega)) (by (have := allOf_bd hB hw0 hw1; omega)) (by omega) (by omega) (Nat.lt_succ_self _)
