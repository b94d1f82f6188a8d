/-! TextReader: words, clauses, the whole text -/
theorem lnS_bd {i : Nat} (h : i < 13) : (lnS i : Int) ≤ 8 := (by decide : ∀ i, i < 13 → (lnS i : Int) ≤ 8) i h
def wdP (r : Int → Int) (n : Int) (S : RT) (i : Nat) : Prop := S.1 = 1 ∧ S.2.2.1 - S.2.1 = lnS i ∧ ∀ j : Int, 0 ≤ j → j < lnS i → byA r n (S.2.1 + j) = bS i j % 2 ^ 8
abbrev RX : Type := (Int → Int) × Int × RT
noncomputable def stR (r : Int → Int) (n : Int) (X : RX) : RX :=
  ((if X.2.1 = 0 then upd1 X.1 120 (rnR r n 0 20 (nxR r n X.2.2)).1 else X.1), (if X.2.1 = 0 then 1 else X.2.1), if X.2.1 = 0 then sgR r n (rnR r n 0 20 (nxR r n X.2.2)).2 else refR 4 X.2.2)
noncomputable def clR (r : Int → Int) (n : Int) (X : RX) : RX :=
  itc (wdP r n X.2.2 0) ((lbR r n X.1 X.2.2).1, X.2.1, (lbR r n X.1 X.2.2).2) (itc (wdP r n X.2.2 1) ((wkR r n X.1 X.2.2).1, X.2.1, (wkR r n X.1 X.2.2).2) (itc (wdP r n X.2.2 2) ((hdR r n X.1 X.2.2).1, X.2.1, (hdR r n X.1 X.2.2).2)
    (itc (wdP r n X.2.2 3) ((pmR r n X.1 X.2.2).1, X.2.1, (pmR r n X.1 X.2.2).2) (itc (wdP r n X.2.2 4) (stR r n X) (X.1, X.2.1, refR 1 X.2.2)))))
section CL
variable {r d : Int → Int} {n s : Int} {S : RT}
theorem clc_0 (h : wdP r n S 0) : clR r n (d, s, S) = ((lbR r n d S).1, s, (lbR r n d S).2) := itc_t h
theorem clc_1 (h : ¬ wdP r n S 0) (h1 : wdP r n S 1) : clR r n (d, s, S) = ((wkR r n d S).1, s, (wkR r n d S).2) := (itc_f h).trans (itc_t h1)
theorem clc_2 (h : ¬ wdP r n S 0) (h1 : ¬ wdP r n S 1) (h2 : wdP r n S 2) : clR r n (d, s, S) = ((hdR r n d S).1, s, (hdR r n d S).2) := (itc_f h).trans ((itc_f h1).trans (itc_t h2))
theorem clc_3 (h : ¬ wdP r n S 0) (h1 : ¬ wdP r n S 1) (h2 : ¬ wdP r n S 2) (h3 : wdP r n S 3) : clR r n (d, s, S) = ((pmR r n d S).1, s, (pmR r n d S).2) := (itc_f h).trans ((itc_f h1).trans ((itc_f h2).trans (itc_t h3)))
theorem clc_4 (h : ¬ wdP r n S 0) (h1 : ¬ wdP r n S 1) (h2 : ¬ wdP r n S 2) (h3 : ¬ wdP r n S 3) (h4 : wdP r n S 4) : clR r n (d, s, S) = stR r n (d, s, S) := (itc_f h).trans ((itc_f h1).trans ((itc_f h2).trans ((itc_f h3).trans (itc_t h4))))
theorem clc_5 (h : ¬ wdP r n S 0) (h1 : ¬ wdP r n S 1) (h2 : ¬ wdP r n S 2) (h3 : ¬ wdP r n S 3) (h4 : ¬ wdP r n S 4) : clR r n (d, s, S) = (d, s, refR 1 S) := (itc_f h).trans ((itc_f h1).trans ((itc_f h2).trans ((itc_f h3).trans (itc_f h4))))
end CL
/-- LIBRARIES and WORKS are so many at most -/
def dB (d : Int → Int) : Prop := 0 ≤ d 121 ∧ d 121 ≤ 5 ∧ 0 ≤ d 122 ∧ d 122 ≤ 6
theorem upd1_o {f : Int → Int} {k v j : Int} (h : j ≠ k) : upd1 f k v j = f j := if_neg h
theorem upd1_e {f : Int → Int} {k v : Int} : upd1 f k v k = v := if_pos rfl
theorem dB.u {d : Int → Int} {k v : Int} (h : dB d) (k1 : k ≠ 121) (k2 : k ≠ 122) : dB (upd1 d k v) := by
  unfold dB
  rw [upd1_o (Ne.symm k1), upd1_o (Ne.symm k2)]
  exact h
theorem clR_ok {r : Int → Int} {n : Int} {X : RX} (hR : RG n X.2.2) (hd : dB X.1) : RG n (clR r n X).2.2 ∧ dB (clR r n X).1 := by
  obtain ⟨d, s, S⟩ := X
  have hR' : RG n S := hR
  have hd' : dB d := hd
  by_cases h0 : wdP r n S 0
  · rw [clc_0 h0]
    show RG n (lbR r n d S).2 ∧ dB (lbR r n d S).1
    unfold lbR
    by_cases q : d 121 < 5
    · rw [if_pos q]
      refine ⟨RG.sg (RG.lb (RG.rn hR'.nx)), ?_⟩
      show dB (upd1 _ _ _)
      unfold dB
      have := hd'.1
      rw [upd1_e, upd1_o (by decide), upd1_o (by omega), upd1_o (by omega)]
      exact ⟨by omega, by omega, hd'.2.2.1, hd'.2.2.2⟩
    · rw [if_neg q]
      exact ⟨hR'.rf, hd'⟩
  by_cases h1 : wdP r n S 1
  · rw [clc_1 h0 h1]
    show RG n (wkR r n d S).2 ∧ dB (wkR r n d S).1
    unfold wkR
    by_cases q : d 122 < 6
    · rw [if_pos q]
      refine ⟨RG.sg (RG.rn (RG.rn hR'.nx)), ?_⟩
      show dB (upd1 _ _ _)
      unfold dB
      have := hd'.2.2.1
      rw [upd1_e, upd1_o (by decide), upd1_o (by omega), upd1_o (by omega)]
      exact ⟨hd'.1, hd'.2.1, by omega, by omega⟩
    · rw [if_neg q]
      exact ⟨hR'.rf, hd'⟩
  have b1 := noR_bd (r := r) (n := n) (d := d) (o := 5) (q := d 121) (p := -1) (S := nxR r n S) (by decide)
  by_cases h2 : wdP r n S 2
  · rw [clc_2 h0 h1 h2]
    have b2 := noR_bd (r := r) (n := n) (d := d) (o := 6) (q := d 122) (p := 28 + (hdL r n d S).1 * 6) (S := (hdL r n d S).2) (by decide)
    have b1' : 0 ≤ (hdL r n d S).1 ∧ (hdL r n d S).1 ≤ 5 - 1 := b1
    have b2' : 0 ≤ (hdW r n d 28 S).1 ∧ (hdW r n d 28 S).1 ≤ 6 - 1 := b2
    refine ⟨RG.sg (RG.rn (RG.no (RG.no hR'.nx))), ?_⟩
    show dB (if _ then upd1 d _ _ else d)
    split
    · exact hd'.u (by omega) (by omega)
    · exact hd'
  by_cases h3 : wdP r n S 3
  · rw [clc_3 h0 h1 h2 h3]
    have b2 := noR_bd (r := r) (n := n) (d := d) (o := 6) (q := d 122) (p := 58 + (hdL r n d S).1 * 6) (S := (hdL r n d S).2) (by decide)
    have b1' : 0 ≤ (hdL r n d S).1 ∧ (hdL r n d S).1 ≤ 5 - 1 := b1
    have b2' : 0 ≤ (hdW r n d 58 S).1 ∧ (hdW r n d 58 S).1 ≤ 6 - 1 := b2
    refine ⟨RG.sg (RG.rn (RG.rn (RG.no (RG.no hR'.nx)))), ?_⟩
    show dB (if _ then upd1 (upd1 d _ _) _ _ else d)
    split
    · exact (hd'.u (by omega) (by omega)).u (by omega) (by omega)
    · exact hd'
  by_cases h4 : wdP r n S 4
  · rw [clc_4 h0 h1 h2 h3 h4]
    show RG n (if s = 0 then _ else _) ∧ dB (if s = 0 then _ else _)
    by_cases q : s = 0
    · rw [if_pos q, if_pos q]
      exact ⟨RG.sg (RG.rn hR'.nx), hd'.u (by decide) (by decide)⟩
    · rw [if_neg q, if_neg q]
      exact ⟨hR'.rf, hd'⟩
  rw [clc_5 h0 h1 h2 h3 h4]
  exact ⟨hR'.rf, hd'⟩
/-- behind so many clauses -/
noncomputable def rdI (r : Int → Int) (n : Int) : Nat → RX
  | 0 => (fun _ => 0, 0, nxR r n (0, 0, 0, 0, -1))
  | k + 1 => clR r n (rdI r n k)
/-- after just so many clauses the reading ends -/
def rdZ (r : Int → Int) (n : Int) (k : Nat) : Prop := (∀ j : Nat, j < k → (rdI r n j).2.2.2.2.2.1 = 0 ∧ (rdI r n j).2.2.1 ≠ 0) ∧ ((rdI r n k).2.2.2.2.2.1 ≠ 0 ∨ (rdI r n k).2.2.1 = 0 ∨ n < k)
theorem rdI_s {r : Int → Int} {n i j : Int} (h : 0 ≤ i) (hj : j = i + 1) : rdI r n j.toNat = clR r n ((rdI r n i.toNat).1, (rdI r n i.toNat).2.1, (rdI r n i.toNat).2.2) := by
  subst hj
  rw [show (i + 1).toNat = i.toNat + 1 by omega]
  rfl
theorem rdI_ok {r : Int → Int} {n : Int} (hn : 0 ≤ n) : ∀ k : Nat, RG n (rdI r n k).2.2 ∧ dB (rdI r n k).1
  | 0 => ⟨RG.nx ⟨Int.le_refl _, Int.le_refl _, hn⟩, ⟨Int.le_refl 0, (by decide : (0 : Int) ≤ 5), Int.le_refl 0, (by decide : (0 : Int) ≤ 6)⟩⟩
  | k + 1 => clR_ok (rdI_ok hn k).1 (rdI_ok hn k).2

theorem dX9_wordIs_0 : decode cX9_wordIs 0 = .ok (.aload_n 0, 1) := by decide +kernel
theorem dX9_wordIs_1 : decode cX9_wordIs 1 = .ok (.getfield 50, 3) := by decide +kernel
theorem dX9_wordIs_4 : decode cX9_wordIs 4 = .ok (.iconst 1, 1) := by decide +kernel
theorem dX9_wordIs_5 : decode cX9_wordIs 5 = .ok (.if_icmp .ne 19, 3) := by decide +kernel
theorem dX9_wordIs_8 : decode cX9_wordIs 8 = .ok (.aload_n 0, 1) := by decide +kernel
theorem dX9_wordIs_9 : decode cX9_wordIs 9 = .ok (.getfield 44, 3) := by decide +kernel
theorem dX9_wordIs_12 : decode cX9_wordIs 12 = .ok (.aload_n 0, 1) := by decide +kernel
theorem dX9_wordIs_13 : decode cX9_wordIs 13 = .ok (.getfield 56, 3) := by decide +kernel
theorem dX9_wordIs_16 : decode cX9_wordIs 16 = .ok (.isub, 1) := by decide +kernel
theorem dX9_wordIs_17 : decode cX9_wordIs 17 = .ok (.aload_n 1, 1) := by decide +kernel
theorem dX9_wordIs_18 : decode cX9_wordIs 18 = .ok (.invokevirtual 70, 3) := by decide +kernel
theorem dX9_wordIs_21 : decode cX9_wordIs 21 = .ok (.if_icmp .eq 5, 3) := by decide +kernel
theorem dX9_wordIs_24 : decode cX9_wordIs 24 = .ok (.iconst 0, 1) := by decide +kernel
theorem dX9_wordIs_25 : decode cX9_wordIs 25 = .ok (.ireturn, 1) := by decide +kernel
theorem dX9_wordIs_26 : decode cX9_wordIs 26 = .ok (.iconst 0, 1) := by decide +kernel
theorem dX9_wordIs_27 : decode cX9_wordIs 27 = .ok (.istore_n 2, 1) := by decide +kernel
theorem dX9_wordIs_28 : decode cX9_wordIs 28 = .ok (.iload_n 2, 1) := by decide +kernel
theorem dX9_wordIs_29 : decode cX9_wordIs 29 = .ok (.aload_n 1, 1) := by decide +kernel
theorem dX9_wordIs_30 : decode cX9_wordIs 30 = .ok (.invokevirtual 70, 3) := by decide +kernel
theorem dX9_wordIs_33 : decode cX9_wordIs 33 = .ok (.if_icmp .ge 29, 3) := by decide +kernel
theorem dX9_wordIs_36 : decode cX9_wordIs 36 = .ok (.aload_n 0, 1) := by decide +kernel
theorem dX9_wordIs_37 : decode cX9_wordIs 37 = .ok (.aload_n 0, 1) := by decide +kernel
theorem dX9_wordIs_38 : decode cX9_wordIs 38 = .ok (.getfield 56, 3) := by decide +kernel
theorem dX9_wordIs_41 : decode cX9_wordIs 41 = .ok (.iload_n 2, 1) := by decide +kernel
theorem dX9_wordIs_42 : decode cX9_wordIs 42 = .ok (.iadd, 1) := by decide +kernel
theorem dX9_wordIs_43 : decode cX9_wordIs 43 = .ok (.invokevirtual 59, 3) := by decide +kernel
theorem dX9_wordIs_46 : decode cX9_wordIs 46 = .ok (.aload_n 1, 1) := by decide +kernel
theorem dX9_wordIs_47 : decode cX9_wordIs 47 = .ok (.iload_n 2, 1) := by decide +kernel
theorem dX9_wordIs_48 : decode cX9_wordIs 48 = .ok (.invokevirtual 75, 3) := by decide +kernel
theorem dX9_wordIs_51 : decode cX9_wordIs 51 = .ok (.if_icmp .eq 5, 3) := by decide +kernel
theorem dX9_wordIs_54 : decode cX9_wordIs 54 = .ok (.iconst 0, 1) := by decide +kernel
theorem dX9_wordIs_55 : decode cX9_wordIs 55 = .ok (.ireturn, 1) := by decide +kernel
theorem dX9_wordIs_56 : decode cX9_wordIs 56 = .ok (.iinc 2 1, 3) := by decide +kernel
theorem dX9_wordIs_59 : decode cX9_wordIs 59 = .ok (.goto (-31), 3) := by decide +kernel
theorem dX9_wordIs_62 : decode cX9_wordIs 62 = .ok (.iconst 1, 1) := by decide +kernel
theorem dX9_wordIs_63 : decode cX9_wordIs 63 = .ok (.ireturn, 1) := by decide +kernel
set_option maxHeartbeats 400000 in
theorem c9_wordIs {G : Gl} {l : Launch}  {M : Mem} {n : Int} {r : Int → Int} {i : Nat} (hG : GR M) (hTx : M 22 0 = 1) (hN : M 22 1 = n) (hn0 : 0 ≤ n) (hn1 : n ≤ 700) (hr : M 1 = r) (hRg : RG n (RD M)) (hi : i < 13) : Ct G LY 57 l 4 m9_wordIs [vR 22, vR (1000 + i)] M (Ret (vI (bP (wdP r n (RD M) i))) M) := by
  refine R_start (by decide +kernel) (Nat.le_of_ble_eq_true rfl) (fun C hC hRm hlau => ?_)
  show RZ G LY C (Zn G LY 57 C (Ret (vI (bP (wdP r n (RD M) i))) M)) 0 0 57 0 [some (vR 22), some (vR (1000 + i)), none] [] M
  have hse : 0 ≤ M 22 5 ∧ M 22 5 ≤ M 22 6 ∧ M 22 6 ≤ n := hRg
  have hln := lnS_bd hi
  refine R_aload_0 hC dX9_wordIs_0 ?_
  refine R_getI hC dX9_wordIs_1 fl_9_50 (by decide) rfl (by decide) (by decide) (fi := 4) rfl ?_
  refine R_iconst hC dX9_wordIs_4 ⟨by decide, by decide⟩ ?_
  refine R_icmp_ne hC dX9_wordIs_5 (tgt := 24) (by decide) (fun hb5 => ?_) (fun hb5 => ?_)
  · skip
    refine R_iconst hC dX9_wordIs_24 ⟨by decide, by decide⟩ ?_
    exact R_zreturn hC dX9_wordIs_25 rfl (.inl rfl) (ret_f (fun z => by
      have z1 : M 22 4 = 1 := z.1
      have z2 : M 22 6 - M 22 5 = lnS i := z.2.1
      omega))
  · skip
    refine R_aload_0 hC dX9_wordIs_8 ?_
    refine R_getI hC dX9_wordIs_9 fl_9_44 (by decide) rfl (by decide) (by decide) (fi := 6) rfl ?_
    refine R_aload_0 hC dX9_wordIs_12 ?_
    refine R_getI hC dX9_wordIs_13 fl_9_56 (by decide) rfl (by decide) (by decide) (fi := 5) rfl ?_
    refine R_isub hC dX9_wordIs_16 ⟨by omega, by omega⟩ ?_
    refine R_aload_1 hC dX9_wordIs_17 ?_
    refine R_callVS (as := []) hC dX9_wordIs_18 mo_107_length jm_len hi rfl (c107_length hi) rfl rfl hRm (by decide) (by decide) (Nat.le_of_ble_eq_true rfl) ?_
    refine R_icmp_eq hC dX9_wordIs_21 (tgt := 26) (by decide) (fun hb21 => ?_) (fun hb21 => ?_)
    · skip
      refine R_iconst hC dX9_wordIs_26 ⟨by decide, by decide⟩ ?_
      refine R_istore_2 hC dX9_wordIs_27 rfl ?_
      have L28 : ∀ (mq : Nat) (k : Int), (0 ≤ k) → (k ≤ lnS i) → (∀ j : Int, 0 ≤ j → j < k → byA r n (M 22 5 + j) = bS i j % 2 ^ 8) → (((lnS i : Nat) : Int) - k).toNat < mq → RZ G LY C (Zn G LY 57 C (Ret (vI (bP (wdP r n (RD M) i))) M)) 0 0 57 28 [some (vR 22), some (vR (1000 + i)), some (vI k)] [] M := by
        intro mq
        induction mq with
        | zero =>
          intro k hk0 hk1 hA hm
          exact absurd hm (Nat.not_lt_zero _)
        | succ mq ih28 =>
          intro k hk0 hk1 hA hm28
          refine R_iload_2 hC dX9_wordIs_28 ?_
          refine R_aload_1 hC dX9_wordIs_29 ?_
          refine R_callVS (as := []) hC dX9_wordIs_30 mo_107_length jm_len hi rfl (c107_length hi) rfl rfl hRm (by decide) (by decide) (Nat.le_of_ble_eq_true rfl) ?_
          refine R_icmp_ge hC dX9_wordIs_33 (tgt := 62) (by decide) (fun hb33 => ?_) (fun hb33 => ?_)
          · skip
            refine R_iconst hC dX9_wordIs_62 ⟨by decide, by decide⟩ ?_
            exact R_zreturn hC dX9_wordIs_63 rfl (.inr rfl) (ret_t ⟨show M 22 4 = 1 by omega, show M 22 6 - M 22 5 = lnS i by omega, fun j a b => hA j a (by omega)⟩)
          · skip
            refine R_aload_0 hC dX9_wordIs_36 ?_
            refine R_aload_0 hC dX9_wordIs_37 ?_
            refine R_getI hC dX9_wordIs_38 fl_9_56 (by decide) rfl (by decide) (by decide) (fi := 5) rfl ?_
            refine R_iload_2 hC dX9_wordIs_41 ?_
            refine R_iadd hC dX9_wordIs_42 ⟨by omega, by omega⟩ ?_
            refine R_callVq (as := [vI _]) hC dX9_wordIs_43 mo_9_byteAt ml_9_59 (by decide) rfl rfl (c9_byteAt  hG hTx hN (by omega) (by omega) hr) rfl rfl hRm (by decide) (by decide) (Nat.le_of_ble_eq_true rfl) ?_
            refine R_aload_1 hC dX9_wordIs_46 ?_
            refine R_iload_2 hC dX9_wordIs_47 ?_
            refine R_callVS (as := [vI _]) hC dX9_wordIs_48 mo_107_charAt jm_chr hi rfl (c107_charAt hi (by omega) (by omega)) rfl rfl hRm (by decide) (by decide) (Nat.le_of_ble_eq_true rfl) ?_
            refine R_icmp_eq hC dX9_wordIs_51 (tgt := 56) (by decide) (fun hb51 => ?_) (fun hb51 => ?_)
            · skip
              refine R_iinc_2 hC dX9_wordIs_56 rfl ⟨by omega, by omega⟩ ?_
              refine R_goto hC dX9_wordIs_59 (tgt := 28) (by decide) ?_
              exact ih28 _ (by omega) (by omega) (fun j a b => by
                by_cases e : j = k
                · rw [e]; exact hb51
                · exact hA j a (by omega)) (by omega)
            · skip
              refine R_iconst hC dX9_wordIs_54 ⟨by decide, by decide⟩ ?_
              exact R_zreturn hC dX9_wordIs_55 rfl (.inl rfl) (ret_f (fun z => hb51 (z.2.2 k hk0 (by omega))))
      exact L28 _ _ (by omega) (by omega) (fun j a b => by omega) (Nat.lt_succ_self _)
    · skip
      refine R_iconst hC dX9_wordIs_24 ⟨by decide, by decide⟩ ?_
      exact R_zreturn hC dX9_wordIs_25 rfl (.inl rfl) (ret_f (fun z => by
        have z1 : M 22 4 = 1 := z.1
        have z2 : M 22 6 - M 22 5 = lnS i := z.2.1
        omega))
theorem dX9_readClause_0 : decode cX9_readClause 0 = .ok (.aload_n 0, 1) := by decide +kernel
theorem dX9_readClause_1 : decode cX9_readClause 1 = .ok (.ldc 79, 2) := by decide +kernel
theorem dX9_readClause_3 : decode cX9_readClause 3 = .ok (.invokevirtual 81, 3) := by decide +kernel
theorem dX9_readClause_6 : decode cX9_readClause 6 = .ok (.ifCond .eq 10, 3) := by decide +kernel
theorem dX9_readClause_9 : decode cX9_readClause 9 = .ok (.aload_n 0, 1) := by decide +kernel
theorem dX9_readClause_10 : decode cX9_readClause 10 = .ok (.invokevirtual 85, 3) := by decide +kernel
theorem dX9_readClause_13 : decode cX9_readClause 13 = .ok (.goto 72, 3) := by decide +kernel
theorem dX9_readClause_16 : decode cX9_readClause 16 = .ok (.aload_n 0, 1) := by decide +kernel
theorem dX9_readClause_17 : decode cX9_readClause 17 = .ok (.ldc 88, 2) := by decide +kernel
theorem dX9_readClause_19 : decode cX9_readClause 19 = .ok (.invokevirtual 81, 3) := by decide +kernel
theorem dX9_readClause_22 : decode cX9_readClause 22 = .ok (.ifCond .eq 10, 3) := by decide +kernel
theorem dX9_readClause_25 : decode cX9_readClause 25 = .ok (.aload_n 0, 1) := by decide +kernel
theorem dX9_readClause_26 : decode cX9_readClause 26 = .ok (.invokevirtual 90, 3) := by decide +kernel
theorem dX9_readClause_29 : decode cX9_readClause 29 = .ok (.goto 56, 3) := by decide +kernel
theorem dX9_readClause_32 : decode cX9_readClause 32 = .ok (.aload_n 0, 1) := by decide +kernel
theorem dX9_readClause_33 : decode cX9_readClause 33 = .ok (.ldc 93, 2) := by decide +kernel
theorem dX9_readClause_35 : decode cX9_readClause 35 = .ok (.invokevirtual 81, 3) := by decide +kernel
theorem dX9_readClause_38 : decode cX9_readClause 38 = .ok (.ifCond .eq 10, 3) := by decide +kernel
theorem dX9_readClause_41 : decode cX9_readClause 41 = .ok (.aload_n 0, 1) := by decide +kernel
theorem dX9_readClause_42 : decode cX9_readClause 42 = .ok (.invokevirtual 95, 3) := by decide +kernel
theorem dX9_readClause_45 : decode cX9_readClause 45 = .ok (.goto 40, 3) := by decide +kernel
theorem dX9_readClause_48 : decode cX9_readClause 48 = .ok (.aload_n 0, 1) := by decide +kernel
theorem dX9_readClause_49 : decode cX9_readClause 49 = .ok (.ldc 98, 2) := by decide +kernel
theorem dX9_readClause_51 : decode cX9_readClause 51 = .ok (.invokevirtual 81, 3) := by decide +kernel
theorem dX9_readClause_54 : decode cX9_readClause 54 = .ok (.ifCond .eq 10, 3) := by decide +kernel
theorem dX9_readClause_57 : decode cX9_readClause 57 = .ok (.aload_n 0, 1) := by decide +kernel
theorem dX9_readClause_58 : decode cX9_readClause 58 = .ok (.invokevirtual 100, 3) := by decide +kernel
theorem dX9_readClause_61 : decode cX9_readClause 61 = .ok (.goto 24, 3) := by decide +kernel
theorem dX9_readClause_64 : decode cX9_readClause 64 = .ok (.aload_n 0, 1) := by decide +kernel
theorem dX9_readClause_65 : decode cX9_readClause 65 = .ok (.ldc 103, 2) := by decide +kernel
theorem dX9_readClause_67 : decode cX9_readClause 67 = .ok (.invokevirtual 81, 3) := by decide +kernel
theorem dX9_readClause_70 : decode cX9_readClause 70 = .ok (.ifCond .eq 10, 3) := by decide +kernel
theorem dX9_readClause_73 : decode cX9_readClause 73 = .ok (.aload_n 0, 1) := by decide +kernel
theorem dX9_readClause_74 : decode cX9_readClause 74 = .ok (.invokevirtual 105, 3) := by decide +kernel
theorem dX9_readClause_77 : decode cX9_readClause 77 = .ok (.goto 8, 3) := by decide +kernel
theorem dX9_readClause_80 : decode cX9_readClause 80 = .ok (.aload_n 0, 1) := by decide +kernel
theorem dX9_readClause_81 : decode cX9_readClause 81 = .ok (.iconst 1, 1) := by decide +kernel
theorem dX9_readClause_82 : decode cX9_readClause 82 = .ok (.invokevirtual 108, 3) := by decide +kernel
theorem dX9_readClause_85 : decode cX9_readClause 85 = .ok (.return_, 1) := by decide +kernel
set_option maxHeartbeats 400000 in
theorem c9_readClause {G : Gl} {l : Launch}  {M : Mem} {n : Int} {r d : Int → Int} (hG : GR M) (hTx : M 22 0 = 1) (hN : M 22 1 = n) (hn0 : 0 ≤ n) (hn1 : n ≤ 700) (hr : M 1 = r) (hRg : RG n (RD M)) (hSk : M 22 2 = 20) (hD : M 21 = d) (hL0 : 0 ≤ d 121) (hL1 : d 121 ≤ 5) (hW0 : 0 ≤ d 122) (hW1 : d 122 ≤ 6) : Ct G LY 57 l 5 m9_readClause [vR 22] M (RV (fun M' => Fr [21] [(22, 3), (22, 4), (22, 5), (22, 6), (22, 7), (22, 8)] M M' ∧ GR M' ∧ M' 21 = (clR r n (d, M 22 3, RD M)).1 ∧ M' 22 3 = (clR r n (d, M 22 3, RD M)).2.1 ∧ RD M' = (clR r n (d, M 22 3, RD M)).2.2)) := by
  refine R_start (by decide +kernel) (Nat.le_of_ble_eq_true rfl) (fun C hC hRm hlau => ?_)
  show RZ G LY C (Zn G LY 57 C (RV (fun M' => Fr [21] [(22, 3), (22, 4), (22, 5), (22, 6), (22, 7), (22, 8)] M M' ∧ GR M' ∧ M' 21 = (clR r n (d, M 22 3, RD M)).1 ∧ M' 22 3 = (clR r n (d, M 22 3, RD M)).2.1 ∧ RD M' = (clR r n (d, M 22 3, RD M)).2.2))) 0 0 57 0 [some (vR 22)] [] M
  refine R_aload_0 hC dX9_readClause_0 ?_
  refine R_ldcS hC dX9_readClause_1 (List.mem_of_getElem? (i := 0) rfl) ?_
  refine R_callVq (as := [vR _]) hC dX9_readClause_3 mo_9_wordIs ml_9_81 (by decide) rfl rfl (c9_wordIs (i := 0) hG hTx hN (by omega) (by omega) hr hRg (by decide)) rfl rfl hRm (by decide) (by decide) (Nat.le_of_ble_eq_true rfl) ?_
  refine R_if_eq hC dX9_readClause_6 (tgt := 16) (by decide) (fun hb6 => ?_) (fun hb6 => ?_)
  · skip
    replace hb6 := bP_z hb6
    refine R_aload_0 hC dX9_readClause_16 ?_
    refine R_ldcS hC dX9_readClause_17 (List.mem_of_getElem? (i := 1) rfl) ?_
    refine R_callVq (as := [vR _]) hC dX9_readClause_19 mo_9_wordIs ml_9_81 (by decide) rfl rfl (c9_wordIs (i := 1) hG hTx hN (by omega) (by omega) hr hRg (by decide)) rfl rfl hRm (by decide) (by decide) (Nat.le_of_ble_eq_true rfl) ?_
    refine R_if_eq hC dX9_readClause_22 (tgt := 32) (by decide) (fun hb22 => ?_) (fun hb22 => ?_)
    · skip
      replace hb22 := bP_z hb22
      refine R_aload_0 hC dX9_readClause_32 ?_
      refine R_ldcS hC dX9_readClause_33 (List.mem_of_getElem? (i := 2) rfl) ?_
      refine R_callVq (as := [vR _]) hC dX9_readClause_35 mo_9_wordIs ml_9_81 (by decide) rfl rfl (c9_wordIs (i := 2) hG hTx hN (by omega) (by omega) hr hRg (by decide)) rfl rfl hRm (by decide) (by decide) (Nat.le_of_ble_eq_true rfl) ?_
      refine R_if_eq hC dX9_readClause_38 (tgt := 48) (by decide) (fun hb38 => ?_) (fun hb38 => ?_)
      · skip
        replace hb38 := bP_z hb38
        refine R_aload_0 hC dX9_readClause_48 ?_
        refine R_ldcS hC dX9_readClause_49 (List.mem_of_getElem? (i := 3) rfl) ?_
        refine R_callVq (as := [vR _]) hC dX9_readClause_51 mo_9_wordIs ml_9_81 (by decide) rfl rfl (c9_wordIs (i := 3) hG hTx hN (by omega) (by omega) hr hRg (by decide)) rfl rfl hRm (by decide) (by decide) (Nat.le_of_ble_eq_true rfl) ?_
        refine R_if_eq hC dX9_readClause_54 (tgt := 64) (by decide) (fun hb54 => ?_) (fun hb54 => ?_)
        · skip
          replace hb54 := bP_z hb54
          refine R_aload_0 hC dX9_readClause_64 ?_
          refine R_ldcS hC dX9_readClause_65 (List.mem_of_getElem? (i := 4) rfl) ?_
          refine R_callVq (as := [vR _]) hC dX9_readClause_67 mo_9_wordIs ml_9_81 (by decide) rfl rfl (c9_wordIs (i := 4) hG hTx hN (by omega) (by omega) hr hRg (by decide)) rfl rfl hRm (by decide) (by decide) (Nat.le_of_ble_eq_true rfl) ?_
          refine R_if_eq hC dX9_readClause_70 (tgt := 80) (by decide) (fun hb70 => ?_) (fun hb70 => ?_)
          · skip
            replace hb70 := bP_z hb70
            refine R_aload_0 hC dX9_readClause_80 ?_
            refine R_iconst hC dX9_readClause_81 ⟨by decide, by decide⟩ ?_
            refine R_callVv (as := [vI _]) hC dX9_readClause_82 mo_9_refuse ml_9_108 (by decide) rfl rfl (c9_refuse  hG) rfl rfl hRm (by decide) (by decide) (Nat.le_of_ble_eq_true rfl) (fun Mc1 hq2 => ?_)
            have hG3 : GR Mc1 := (GR.fr hG hq2.1 (by decide +kernel))
            have hr4 : Mc1 21 = d := ((hq2.1.row (by decide) (by decide)).trans hD)
            have hz : Fr [21] [(22, 3), (22, 4), (22, 5), (22, 6), (22, 7), (22, 8)] M Mc1 ∧ GR Mc1 ∧ Mc1 21 = (clR r n (d, M 22 3, RD M)).1 ∧ Mc1 22 3 = (clR r n (d, M 22 3, RD M)).2.1 ∧ RD Mc1 = (clR r n (d, M 22 3, RD M)).2.2 := by
              rw [clc_5 hb6 hb22 hb38 hb54 hb70]
              exact ⟨hq2.1.mo (by decide) (by decide), hG3, hr4, hq2.1 22 3 (by decide) (by decide), RD_rf hq2⟩
            exact R_return hC dX9_readClause_85 rfl (ret_V hz)
          · skip
            replace hb70 := bP_nz hb70
            refine R_aload_0 hC dX9_readClause_73 ?_
            refine R_callVv (as := []) hC dX9_readClause_74 mo_9_readStoreClause ml_9_105 (by decide) rfl rfl (c9_readStoreClause  hG hTx hN (by omega) (by omega) hr hRg hSk hD) rfl rfl hRm (by decide) (by decide) (Nat.le_of_ble_eq_true rfl) (fun Mc5 hq6 => ?_)
            have hG7 := hq6.2.1
            have hz : Fr [21] [(22, 3), (22, 4), (22, 5), (22, 6), (22, 7), (22, 8)] M Mc5 ∧ GR Mc5 ∧ Mc5 21 = (clR r n (d, M 22 3, RD M)).1 ∧ Mc5 22 3 = (clR r n (d, M 22 3, RD M)).2.1 ∧ RD Mc5 = (clR r n (d, M 22 3, RD M)).2.2 := by
              rw [clc_4 hb6 hb22 hb38 hb54 hb70]
              exact ⟨hq6.1, hq6.2.1, hq6.2.2.1, hq6.2.2.2.2, hq6.2.2.2.1⟩
            refine R_goto hC dX9_readClause_77 (tgt := 85) (by decide) ?_
            exact R_return hC dX9_readClause_85 rfl (ret_V hz)
        · skip
          replace hb54 := bP_nz hb54
          refine R_aload_0 hC dX9_readClause_57 ?_
          refine R_callVv (as := []) hC dX9_readClause_58 mo_9_readPromiseClause ml_9_100 (by decide) rfl rfl (c9_readPromiseClause  hG hTx hN (by omega) (by omega) hr hRg hSk hD) rfl rfl hRm (by decide) (by decide) (Nat.le_of_ble_eq_true rfl) (fun Mc8 hq9 => ?_)
          have hG10 := hq9.2.1
          have hz : Fr [21] [(22, 3), (22, 4), (22, 5), (22, 6), (22, 7), (22, 8)] M Mc8 ∧ GR Mc8 ∧ Mc8 21 = (clR r n (d, M 22 3, RD M)).1 ∧ Mc8 22 3 = (clR r n (d, M 22 3, RD M)).2.1 ∧ RD Mc8 = (clR r n (d, M 22 3, RD M)).2.2 := by
            rw [clc_3 hb6 hb22 hb38 hb54]
            exact ⟨hq9.1.mo (by decide) (by decide), hq9.2.1, hq9.2.2.1, hq9.1 22 3 (by decide) (by decide), hq9.2.2.2⟩
          refine R_goto hC dX9_readClause_61 (tgt := 85) (by decide) ?_
          exact R_return hC dX9_readClause_85 rfl (ret_V hz)
      · skip
        replace hb38 := bP_nz hb38
        refine R_aload_0 hC dX9_readClause_41 ?_
        refine R_callVv (as := []) hC dX9_readClause_42 mo_9_readHoldsClause ml_9_95 (by decide) rfl rfl (c9_readHoldsClause  hG hTx hN (by omega) (by omega) hr hRg hSk hD) rfl rfl hRm (by decide) (by decide) (Nat.le_of_ble_eq_true rfl) (fun Mc11 hq12 => ?_)
        have hG13 := hq12.2.1
        have hz : Fr [21] [(22, 3), (22, 4), (22, 5), (22, 6), (22, 7), (22, 8)] M Mc11 ∧ GR Mc11 ∧ Mc11 21 = (clR r n (d, M 22 3, RD M)).1 ∧ Mc11 22 3 = (clR r n (d, M 22 3, RD M)).2.1 ∧ RD Mc11 = (clR r n (d, M 22 3, RD M)).2.2 := by
          rw [clc_2 hb6 hb22 hb38]
          exact ⟨hq12.1.mo (by decide) (by decide), hq12.2.1, hq12.2.2.1, hq12.1 22 3 (by decide) (by decide), hq12.2.2.2⟩
        refine R_goto hC dX9_readClause_45 (tgt := 85) (by decide) ?_
        exact R_return hC dX9_readClause_85 rfl (ret_V hz)
    · skip
      replace hb22 := bP_nz hb22
      refine R_aload_0 hC dX9_readClause_25 ?_
      refine R_callVv (as := []) hC dX9_readClause_26 mo_9_readWorkClause ml_9_90 (by decide) rfl rfl (c9_readWorkClause  hG hTx hN (by omega) (by omega) hr hRg hSk hD (by omega) (by omega)) rfl rfl hRm (by decide) (by decide) (Nat.le_of_ble_eq_true rfl) (fun Mc14 hq15 => ?_)
      have hG16 := hq15.2.1
      have hz : Fr [21] [(22, 3), (22, 4), (22, 5), (22, 6), (22, 7), (22, 8)] M Mc14 ∧ GR Mc14 ∧ Mc14 21 = (clR r n (d, M 22 3, RD M)).1 ∧ Mc14 22 3 = (clR r n (d, M 22 3, RD M)).2.1 ∧ RD Mc14 = (clR r n (d, M 22 3, RD M)).2.2 := by
        rw [clc_1 hb6 hb22]
        exact ⟨hq15.1.mo (by decide) (by decide), hq15.2.1, hq15.2.2.1, hq15.1 22 3 (by decide) (by decide), hq15.2.2.2⟩
      refine R_goto hC dX9_readClause_29 (tgt := 85) (by decide) ?_
      exact R_return hC dX9_readClause_85 rfl (ret_V hz)
  · skip
    replace hb6 := bP_nz hb6
    refine R_aload_0 hC dX9_readClause_9 ?_
    refine R_callVv (as := []) hC dX9_readClause_10 mo_9_readLibraryClause ml_9_85 (by decide) rfl rfl (c9_readLibraryClause  hG hTx hN (by omega) (by omega) hr hRg hSk hD (by omega) (by omega)) rfl rfl hRm (by decide) (by decide) (Nat.le_of_ble_eq_true rfl) (fun Mc17 hq18 => ?_)
    have hG19 := hq18.2.1
    have hz : Fr [21] [(22, 3), (22, 4), (22, 5), (22, 6), (22, 7), (22, 8)] M Mc17 ∧ GR Mc17 ∧ Mc17 21 = (clR r n (d, M 22 3, RD M)).1 ∧ Mc17 22 3 = (clR r n (d, M 22 3, RD M)).2.1 ∧ RD Mc17 = (clR r n (d, M 22 3, RD M)).2.2 := by
      rw [clc_0 hb6]
      exact ⟨hq18.1.mo (by decide) (by decide), hq18.2.1, hq18.2.2.1, hq18.1 22 3 (by decide) (by decide), hq18.2.2.2⟩
    refine R_goto hC dX9_readClause_13 (tgt := 85) (by decide) ?_
    exact R_return hC dX9_readClause_85 rfl (ret_V hz)
theorem dX9_read_0 : decode cX9_read 0 = .ok (.aload_n 0, 1) := by decide +kernel
theorem dX9_read_1 : decode cX9_read 1 = .ok (.aload_n 1, 1) := by decide +kernel
theorem dX9_read_2 : decode cX9_read 2 = .ok (.putfield 9, 3) := by decide +kernel
theorem dX9_read_5 : decode cX9_read 5 = .ok (.aload_n 0, 1) := by decide +kernel
theorem dX9_read_6 : decode cX9_read 6 = .ok (.iload_n 2, 1) := by decide +kernel
theorem dX9_read_7 : decode cX9_read 7 = .ok (.aload_n 1, 1) := by decide +kernel
theorem dX9_read_8 : decode cX9_read 8 = .ok (.arraylength, 1) := by decide +kernel
theorem dX9_read_9 : decode cX9_read 9 = .ok (.invokestatic 19, 3) := by decide +kernel
theorem dX9_read_12 : decode cX9_read 12 = .ok (.putfield 25, 3) := by decide +kernel
theorem dX9_read_15 : decode cX9_read 15 = .ok (.aload_n 0, 1) := by decide +kernel
theorem dX9_read_16 : decode cX9_read 16 = .ok (.aload_n 3, 1) := by decide +kernel
theorem dX9_read_17 : decode cX9_read 17 = .ok (.putfield 28, 3) := by decide +kernel
theorem dX9_read_20 : decode cX9_read 20 = .ok (.aload_n 0, 1) := by decide +kernel
theorem dX9_read_21 : decode cX9_read 21 = .ok (.getfield 28, 3) := by decide +kernel
theorem dX9_read_24 : decode cX9_read 24 = .ok (.invokevirtual 32, 3) := by decide +kernel
theorem dX9_read_27 : decode cX9_read 27 = .ok (.aload_n 0, 1) := by decide +kernel
theorem dX9_read_28 : decode cX9_read 28 = .ok (.iconst 0, 1) := by decide +kernel
theorem dX9_read_29 : decode cX9_read 29 = .ok (.putfield 37, 3) := by decide +kernel
theorem dX9_read_32 : decode cX9_read 32 = .ok (.aload_n 0, 1) := by decide +kernel
theorem dX9_read_33 : decode cX9_read 33 = .ok (.iconst 0, 1) := by decide +kernel
theorem dX9_read_34 : decode cX9_read 34 = .ok (.putfield 41, 3) := by decide +kernel
theorem dX9_read_37 : decode cX9_read 37 = .ok (.aload_n 0, 1) := by decide +kernel
theorem dX9_read_38 : decode cX9_read 38 = .ok (.iconst (-1), 1) := by decide +kernel
theorem dX9_read_39 : decode cX9_read 39 = .ok (.putfield 15, 3) := by decide +kernel
theorem dX9_read_42 : decode cX9_read 42 = .ok (.aload_n 0, 1) := by decide +kernel
theorem dX9_read_43 : decode cX9_read 43 = .ok (.iconst 0, 1) := by decide +kernel
theorem dX9_read_44 : decode cX9_read 44 = .ok (.putfield 44, 3) := by decide +kernel
theorem dX9_read_47 : decode cX9_read 47 = .ok (.aload_n 0, 1) := by decide +kernel
theorem dX9_read_48 : decode cX9_read 48 = .ok (.invokevirtual 47, 3) := by decide +kernel
theorem dX9_read_51 : decode cX9_read 51 = .ok (.iconst 0, 1) := by decide +kernel
theorem dX9_read_52 : decode cX9_read 52 = .ok (.istore 4, 2) := by decide +kernel
theorem dX9_read_54 : decode cX9_read 54 = .ok (.iload 4, 2) := by decide +kernel
theorem dX9_read_56 : decode cX9_read 56 = .ok (.aload_n 0, 1) := by decide +kernel
theorem dX9_read_57 : decode cX9_read 57 = .ok (.getfield 25, 3) := by decide +kernel
theorem dX9_read_60 : decode cX9_read 60 = .ok (.if_icmp .gt 27, 3) := by decide +kernel
theorem dX9_read_63 : decode cX9_read 63 = .ok (.aload_n 0, 1) := by decide +kernel
theorem dX9_read_64 : decode cX9_read 64 = .ok (.getfield 41, 3) := by decide +kernel
theorem dX9_read_67 : decode cX9_read 67 = .ok (.ifCond .ne 20, 3) := by decide +kernel
theorem dX9_read_70 : decode cX9_read 70 = .ok (.aload_n 0, 1) := by decide +kernel
theorem dX9_read_71 : decode cX9_read 71 = .ok (.getfield 50, 3) := by decide +kernel
theorem dX9_read_74 : decode cX9_read 74 = .ok (.ifCond .eq 13, 3) := by decide +kernel
theorem dX9_read_77 : decode cX9_read 77 = .ok (.aload_n 0, 1) := by decide +kernel
theorem dX9_read_78 : decode cX9_read 78 = .ok (.invokevirtual 53, 3) := by decide +kernel
theorem dX9_read_81 : decode cX9_read 81 = .ok (.iinc 4 1, 3) := by decide +kernel
theorem dX9_read_84 : decode cX9_read 84 = .ok (.goto (-30), 3) := by decide +kernel
theorem dX9_read_87 : decode cX9_read 87 = .ok (.aload_n 0, 1) := by decide +kernel
theorem dX9_read_88 : decode cX9_read 88 = .ok (.getfield 41, 3) := by decide +kernel
theorem dX9_read_91 : decode cX9_read 91 = .ok (.ireturn, 1) := by decide +kernel
set_option maxHeartbeats 400000 in
theorem c9_read {G : Gl} {l : Launch}  {M : Mem} {n : Int} {r : Int → Int} (hG : GR M) (hn0 : 0 ≤ n) (hn1 : n ≤ 700) (hr : M 1 = r) : Ct G LY 57 l 6 m9_read [vR 22, vR 1, vI n, vR 20] M (RP (fun v M' => Fr [21] [(22, 0), (22, 1), (22, 2), (22, 3), (22, 4), (22, 5), (22, 6), (22, 7), (22, 8)] M M' ∧ GR M' ∧ ∃ k : Nat, rdZ r n k ∧ M' 21 = (rdI r n k).1 ∧ RD M' = (rdI r n k).2.2 ∧ v = (rdI r n k).2.2.2.2.2.1 ∧ M' 22 0 = 1 ∧ M' 22 2 = 20)) := by
  refine R_start (by decide +kernel) (Nat.le_of_ble_eq_true rfl) (fun C hC hRm hlau => ?_)
  show RZ G LY C (Zn G LY 57 C (RP (fun v M' => Fr [21] [(22, 0), (22, 1), (22, 2), (22, 3), (22, 4), (22, 5), (22, 6), (22, 7), (22, 8)] M M' ∧ GR M' ∧ ∃ k : Nat, rdZ r n k ∧ M' 21 = (rdI r n k).1 ∧ RD M' = (rdI r n k).2.2 ∧ v = (rdI r n k).2.2.2.2.2.1 ∧ M' 22 0 = 1 ∧ M' 22 2 = 20))) 0 0 57 0 [some (vR 22), some (vR 1), some (vI n), some (vR 20), none] [] M
  refine R_aload_0 hC dX9_read_0 ?_
  refine R_aload_1 hC dX9_read_1 ?_
  refine R_putR hC dX9_read_2 fl_9_9 (by decide) rfl (by decide) (by decide) (by decide) (fi := 0) rfl ?_
  refine R_aload_0 hC dX9_read_5 ?_
  refine R_iload_2 hC dX9_read_6 ?_
  refine R_aload_1 hC dX9_read_7 ?_
  refine R_alen hC dX9_read_8 (by decide) rfl (by decide) (by decide) (by decide) ?_
  refine R_min hC dX9_read_9 jl_9_19 hRm (by decide) (Nat.le_of_ble_eq_true rfl) ?_
  rw [show min n ((700 : Nat) : Int) = n by omega]
  refine R_putI hC dX9_read_12 fl_9_25 (by decide) rfl (by decide) (by decide) (fi := 1) rfl ?_
  refine R_aload_0 hC dX9_read_15 ?_
  refine R_aload_3 hC dX9_read_16 ?_
  refine R_putR hC dX9_read_17 fl_9_28 (by decide) rfl (by decide) (by decide) (by decide) (fi := 2) rfl ?_
  refine R_aload_0 hC dX9_read_20 ?_
  refine R_getR hC dX9_read_21 fl_9_28 (by decide) rfl (by decide) (by decide) (fi := 2) rfl (r := 20) uM_same ?_
  have hG1 : GR (uM (uM (uM M 22 0 1) 22 1 n) 22 2 20) := (GR.uF (GR.uF (GR.uF hG (by decide +kernel) (by decide)) (by decide +kernel) (by decide)) (by decide +kernel) (by decide))
  refine R_callVv (as := []) hC dX9_read_24 mo_8_clear ml_9_32 (by decide) rfl rfl (c8_clear  hG1 sh_20 rfl) rfl rfl hRm (by decide) (by decide) (Nat.le_of_ble_eq_true rfl) (fun Mc2 hq3 => ?_)
  have hG4 := hq3.2.1
  have hr5 := hq3.2.2
  refine R_aload_0 hC dX9_read_27 ?_
  refine R_iconst hC dX9_read_28 ⟨by decide, by decide⟩ ?_
  refine R_putZ hC dX9_read_29 fl_9_37 (by decide) rfl (by decide) (by decide) (.inl rfl) (fi := 3) rfl ?_
  refine R_aload_0 hC dX9_read_32 ?_
  refine R_iconst hC dX9_read_33 ⟨by decide, by decide⟩ ?_
  refine R_putI hC dX9_read_34 fl_9_41 (by decide) rfl (by decide) (by decide) (fi := 7) rfl ?_
  refine R_aload_0 hC dX9_read_37 ?_
  refine R_iconst hC dX9_read_38 ⟨by decide, by decide⟩ ?_
  refine R_putI hC dX9_read_39 fl_9_15 (by decide) rfl (by decide) (by decide) (fi := 8) rfl ?_
  refine R_aload_0 hC dX9_read_42 ?_
  refine R_iconst hC dX9_read_43 ⟨by decide, by decide⟩ ?_
  refine R_putI hC dX9_read_44 fl_9_44 (by decide) rfl (by decide) (by decide) (fi := 6) rfl ?_
  refine R_aload_0 hC dX9_read_47 ?_
  have hT0 : (uM (uM (uM (uM Mc2 22 3 0) 22 7 0) 22 8 (-1)) 22 6 0) 22 0 = ((1 : Nat) : Int) := by
    repeat (first | exact uM_same | rw [uM_k (by decide)] | rw [hq3.1.at (by decide)])
  have hT1 : (uM (uM (uM (uM Mc2 22 3 0) 22 7 0) 22 8 (-1)) 22 6 0) 22 1 = n := by
    repeat (first | exact uM_same | rw [uM_k (by decide)] | rw [hq3.1.at (by decide)])
  have hT2 : (uM (uM (uM (uM Mc2 22 3 0) 22 7 0) 22 8 (-1)) 22 6 0) 22 2 = ((20 : Nat) : Int) := by
    repeat (first | exact uM_same | rw [uM_k (by decide)] | rw [hq3.1.at (by decide)])
  have hT3 : (uM (uM (uM (uM Mc2 22 3 0) 22 7 0) 22 8 (-1)) 22 6 0) 22 3 = 0 := by
    repeat (first | exact uM_same | rw [uM_k (by decide)])
  have hT6 : (uM (uM (uM (uM Mc2 22 3 0) 22 7 0) 22 8 (-1)) 22 6 0) 22 6 = 0 := uM_same
  have hT7 : (uM (uM (uM (uM Mc2 22 3 0) 22 7 0) 22 8 (-1)) 22 6 0) 22 7 = 0 := by
    repeat (first | exact uM_same | rw [uM_k (by decide)])
  have hT8 : (uM (uM (uM (uM Mc2 22 3 0) 22 7 0) 22 8 (-1)) 22 6 0) 22 8 = -1 := by
    repeat (first | exact uM_same | rw [uM_k (by decide)])
  have hFz : Fr [21] [(22, 0), (22, 1), (22, 2), (22, 3), (22, 4), (22, 5), (22, 6), (22, 7), (22, 8)] M (uM (uM (uM (uM Mc2 22 3 0) 22 7 0) 22 8 (-1)) 22 6 0) := Fr.uB (Fr.uB (Fr.uB (Fr.uB (Fr.tt (Fr.uB (Fr.uB (Fr.uB Fr.rf (by decide)) (by decide)) (by decide)) (hq3.1.mo (by decide) (by decide))) (by decide)) (by decide)) (by decide)) (by decide)
  have hG6 : GR (uM (uM (uM (uM Mc2 22 3 0) 22 7 0) 22 8 (-1)) 22 6 0) := (GR.uF (GR.uF (GR.uF (GR.uF hG4 (by decide +kernel) (by decide)) (by decide +kernel) (by decide)) (by decide +kernel) (by decide)) (by decide +kernel) (by decide))
  have hr7 : (uM (uM (uM (uM Mc2 22 3 0) 22 7 0) 22 8 (-1)) 22 6 0) 1 = r := ((uM_ne (by decide)).trans ((uM_ne (by decide)).trans ((uM_ne (by decide)).trans ((uM_ne (by decide)).trans ((hq3.1.row (by decide) (by decide)).trans ((uM_ne (by decide)).trans ((uM_ne (by decide)).trans ((uM_ne (by decide)).trans hr))))))))
  refine R_callVv (as := []) hC dX9_read_48 mo_9_next ml_9_47 (by decide) rfl rfl (c9_next  hG6 hT0 hT1 (by omega) (by omega) hr7 (by omega) (by omega)) rfl rfl hRm (by decide) (by decide) (Nat.le_of_ble_eq_true rfl) (fun Mc8 hq9 => ?_)
  have hS0 : RD Mc8 = (rdI r n 0).2.2 := by
    rw [RD_nx hq9]
    unfold RD
    rw [hT6, hT7, hT8]
    rfl
  refine R_iconst hC dX9_read_51 ⟨by decide, by decide⟩ ?_
  refine R_istore_4 hC dX9_read_52 rfl ?_
  have L54 : ∀ (mq : Nat) (i : Int) (M2 : Mem), (0 ≤ i) → (i ≤ n + 1) → (GR M2) → (M2 21 = (rdI r n i.toNat).1) → (M2 1 = r) → (Fr [21] [(22, 0), (22, 1), (22, 2), (22, 3), (22, 4), (22, 5), (22, 6), (22, 7), (22, 8)] M M2) → (M2 22 0 = 1) → (M2 22 1 = n) → (M2 22 2 = 20) → (M2 22 3 = (rdI r n i.toNat).2.1) → (RD M2 = (rdI r n i.toNat).2.2) → (∀ j : Nat, j < i.toNat → (rdI r n j).2.2.2.2.2.1 = 0 ∧ (rdI r n j).2.2.1 ≠ 0) → (n + 1 - i).toNat < mq → RZ G LY C (Zn G LY 57 C (RP (fun v M' => Fr [21] [(22, 0), (22, 1), (22, 2), (22, 3), (22, 4), (22, 5), (22, 6), (22, 7), (22, 8)] M M' ∧ GR M' ∧ ∃ k : Nat, rdZ r n k ∧ M' 21 = (rdI r n k).1 ∧ RD M' = (rdI r n k).2.2 ∧ v = (rdI r n k).2.2.2.2.2.1 ∧ M' 22 0 = 1 ∧ M' 22 2 = 20))) 0 0 57 54 [some (vR 22), some (vR 1), some (vI n), some (vR 20), some (vI i)] [] M2 := by
    intro mq
    induction mq with
    | zero =>
      intro i M2 hi0 hi1 hg gra grb hF k0 k1 k2 k3 kS hZ hm
      exact absurd hm (Nat.not_lt_zero _)
    | succ mq ih54 =>
      intro i M2 hi0 hi1 hg gra grb hF k0 k1 k2 k3 kS hZ hm54
      have hRg : RG n (RD M2) := by
        rw [kS]
        exact (rdI_ok hn0 i.toNat).1
      have hDb := (rdI_ok (r := r) hn0 i.toNat).2
      have h7 : M2 22 7 = (rdI r n i.toNat).2.2.2.2.2.1 := congrArg (fun z : RT => z.2.2.2.1) kS
      have h4 : M2 22 4 = (rdI r n i.toNat).2.2.1 := congrArg (fun z : RT => z.1) kS
      refine R_iload_4 hC dX9_read_54 ?_
      refine R_aload_0 hC dX9_read_56 ?_
      refine R_getI hC dX9_read_57 fl_9_25 (by decide) rfl (by decide) (by decide) (fi := 1) rfl ?_
      refine R_icmp_gt hC dX9_read_60 (tgt := 87) (by decide) (fun hb60 => ?_) (fun hb60 => ?_)
      · skip
        refine R_aload_0 hC dX9_read_87 ?_
        refine R_getI hC dX9_read_88 fl_9_41 (by decide) rfl (by decide) (by decide) (fi := 7) rfl ?_
        exact R_ireturn hC dX9_read_91 rfl (ret_P ⟨hF, hg, i.toNat, ⟨hZ, by
          rw [← h7, ← h4]
          first
            | exact .inl hb67
            | exact .inr (.inl hb74)
            | exact .inr (.inr (by omega))⟩, gra, kS, h7, k0, k2⟩)
      · skip
        refine R_aload_0 hC dX9_read_63 ?_
        refine R_getI hC dX9_read_64 fl_9_41 (by decide) rfl (by decide) (by decide) (fi := 7) rfl ?_
        refine R_if_ne hC dX9_read_67 (tgt := 87) (by decide) (fun hb67 => ?_) (fun hb67 => ?_)
        · skip
          refine R_aload_0 hC dX9_read_87 ?_
          refine R_getI hC dX9_read_88 fl_9_41 (by decide) rfl (by decide) (by decide) (fi := 7) rfl ?_
          exact R_ireturn hC dX9_read_91 rfl (ret_P ⟨hF, hg, i.toNat, ⟨hZ, by
            rw [← h7, ← h4]
            first
              | exact .inl hb67
              | exact .inr (.inl hb74)
              | exact .inr (.inr (by omega))⟩, gra, kS, h7, k0, k2⟩)
        · skip
          refine R_aload_0 hC dX9_read_70 ?_
          refine R_getI hC dX9_read_71 fl_9_50 (by decide) rfl (by decide) (by decide) (fi := 4) rfl ?_
          refine R_if_eq hC dX9_read_74 (tgt := 87) (by decide) (fun hb74 => ?_) (fun hb74 => ?_)
          · skip
            refine R_aload_0 hC dX9_read_87 ?_
            refine R_getI hC dX9_read_88 fl_9_41 (by decide) rfl (by decide) (by decide) (fi := 7) rfl ?_
            exact R_ireturn hC dX9_read_91 rfl (ret_P ⟨hF, hg, i.toNat, ⟨hZ, by
              rw [← h7, ← h4]
              first
                | exact .inl hb67
                | exact .inr (.inl hb74)
                | exact .inr (.inr (by omega))⟩, gra, kS, h7, k0, k2⟩)
          · skip
            refine R_aload_0 hC dX9_read_77 ?_
            refine R_callVv (as := []) hC dX9_read_78 mo_9_readClause ml_9_53 (by decide) rfl rfl (c9_readClause  hg k0 k1 (by omega) (by omega) grb hRg k2 gra hDb.1 hDb.2.1 hDb.2.2.1 hDb.2.2.2) rfl rfl hRm (by decide) (by decide) (Nat.le_of_ble_eq_true rfl) (fun Mc10 hq11 => ?_)
            have hG12 := hq11.2.1
            refine R_iinc_4 hC dX9_read_81 rfl ⟨by omega, by omega⟩ ?_
            refine R_goto hC dX9_read_84 (tgt := 54) (by decide) ?_
            have hr13 : Mc10 1 = r := ((hq11.1.row (by decide) (by decide)).trans grb)
            exact ih54 _ _ (by omega) (by omega) hG12 (by (rw [hq11.2.2.1, k3, kS, rdI_s hi0 rfl])) hr13 (Fr.tt hF (hq11.1.mo (by decide) (by decide))) ((hq11.1 22 0 (by decide) (by decide)).trans k0) ((hq11.1 22 1 (by decide) (by decide)).trans k1) ((hq11.1 22 2 (by decide) (by decide)).trans k2) (by (rw [hq11.2.2.2.1, k3, kS, rdI_s hi0 rfl])) (by (rw [hq11.2.2.2.2, k3, kS, rdI_s hi0 rfl])) (fun j a => by
              by_cases e : j = i.toNat
              · subst e
                exact ⟨by rw [← h7]; exact hb67, by rw [← h4]; exact hb74⟩
              · exact hZ j (by omega)) (by omega)
  have hG14 : GR Mc8 := (GR.fr hG6 hq9.1 (by decide +kernel))
  have hr15 : Mc8 21 = (fun _ => 0) := ((hq9.1.row (by decide) (by decide)).trans ((uM_ne (by decide)).trans ((uM_ne (by decide)).trans ((uM_ne (by decide)).trans ((uM_ne (by decide)).trans hr5)))))
  have hr16 : Mc8 1 = r := ((hq9.1.row (by decide) (by decide)).trans hr7)
  exact L54 _ _ _ (by omega) (by omega) hG14 hr15 hr16 (Fr.tt hFz (hq9.1.mo (by decide) (by decide))) ((hq9.1 22 0 (by decide) (by decide)).trans hT0) ((hq9.1 22 1 (by decide) (by decide)).trans hT1) ((hq9.1 22 2 (by decide) (by decide)).trans hT2) ((hq9.1 22 3 (by decide) (by decide)).trans hT3) hS0 (fun j a => absurd a (Nat.not_lt_zero j)) (Nat.lt_succ_self _)
