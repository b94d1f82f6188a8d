/-! TextReader: bytes and words -/
def byA (r : Int → Int) (n a : Int) : Int := if 0 ≤ a ∧ a < n then r a % 2 ^ 8 else -1
def ltP (c : Int) : Prop := 97 ≤ c ∧ c ≤ 122
def dgP (c : Int) : Prop := 48 ≤ c ∧ c ≤ 57
def blP (c : Int) : Prop := c = 32 ∨ c = 10
/-- the first place from a on that is not so -/
noncomputable def scnF (P : Int → Prop) (n : Int) : Nat → Int → Int
  | 0, a => a
  | k + 1, a => @ite Int (P a) (Classical.propDecidable _) (scnF P n k (a + 1)) a
noncomputable def scn (P : Int → Prop) (n a : Int) : Int := scnF P n (n - a).toNat a
theorem scn_t {P : Int → Prop} {n a : Int} (h : a < n) (p : P a) : scn P n a = scn P n (a + 1) := by
  unfold scn
  rw [show (n - a).toNat = (n - (a + 1)).toNat + 1 by omega, scnF, if_pos p]
theorem scn_f {P : Int → Prop} {n a : Int} (p : ¬ P a) : scn P n a = a := by
  unfold scn
  cases (n - a).toNat with
  | zero => rfl
  | succ k => rw [scnF, if_neg p]
theorem scn_e {P : Int → Prop} {n a : Int} (h : n ≤ a) : scn P n a = a := by
  unfold scn
  rw [show (n - a).toNat = 0 by omega]
  rfl
noncomputable def itc {α : Type} (p : Prop) (a b : α) : α := @ite α p (Classical.propDecidable p) a b
theorem itc_t {α : Type} {p : Prop} {a b : α} (h : p) : itc p a b = a := if_pos h
theorem itc_f {α : Type} {p : Prop} {a b : α} (h : ¬ p) : itc p a b = b := if_neg h
/-- kind, start and end of the word that begins at or after e -/
noncomputable def nxW (r : Int → Int) (n s : Int) : Int × Int × Int :=
  itc (n ≤ s) (0, s, s) (itc (ltP (byA r n s)) (1, s, scn (fun j => ltP (byA r n j)) n (s + 1)) (itc (dgP (byA r n s)) (2, s, scn (fun j => dgP (byA r n j)) n (s + 1)) (itc (byA r n s = 59) (3, s, s + 1) (4, s, s + 1))))
noncomputable def nxT (r : Int → Int) (n e : Int) : Int × Int × Int := nxW r n (scn (fun j => blP (byA r n j)) n e)
theorem nx_0 {r : Int → Int} {n s : Int} (h : n ≤ s) : nxW r n s = (0, s, s) := itc_t h
theorem nx_1 {r : Int → Int} {n s : Int} (h : s < n) (p : ltP (byA r n s)) : nxW r n s = (1, s, scn (fun j => ltP (byA r n j)) n (s + 1)) := (itc_f (Int.not_le.mpr h)).trans (itc_t p)
theorem nx_2 {r : Int → Int} {n s : Int} (h : s < n) (p : ¬ ltP (byA r n s)) (q : dgP (byA r n s)) : nxW r n s = (2, s, scn (fun j => dgP (byA r n j)) n (s + 1)) := (itc_f (Int.not_le.mpr h)).trans ((itc_f p).trans (itc_t q))
theorem nx_3 {r : Int → Int} {n s : Int} (h : s < n) (p : ¬ ltP (byA r n s)) (q : ¬ dgP (byA r n s)) (e : byA r n s = 59) : nxW r n s = (3, s, s + 1) := (itc_f (Int.not_le.mpr h)).trans ((itc_f p).trans ((itc_f q).trans (itc_t e)))
theorem nx_4 {r : Int → Int} {n s : Int} (h : s < n) (p : ¬ ltP (byA r n s)) (q : ¬ dgP (byA r n s)) (e : byA r n s ≠ 59) : nxW r n s = (4, s, s + 1) := (itc_f (Int.not_le.mpr h)).trans ((itc_f p).trans ((itc_f q).trans (itc_f e)))

theorem dX9_isLetter_0 : decode cX9_isLetter 0 = .ok (.iload_n 0, 1) := by decide +kernel
theorem dX9_isLetter_1 : decode cX9_isLetter 1 = .ok (.bipush 97, 2) := by decide +kernel
theorem dX9_isLetter_3 : decode cX9_isLetter 3 = .ok (.if_icmp .lt 13, 3) := by decide +kernel
theorem dX9_isLetter_6 : decode cX9_isLetter 6 = .ok (.iload_n 0, 1) := by decide +kernel
theorem dX9_isLetter_7 : decode cX9_isLetter 7 = .ok (.bipush 122, 2) := by decide +kernel
theorem dX9_isLetter_9 : decode cX9_isLetter 9 = .ok (.if_icmp .gt 7, 3) := by decide +kernel
theorem dX9_isLetter_12 : decode cX9_isLetter 12 = .ok (.iconst 1, 1) := by decide +kernel
theorem dX9_isLetter_13 : decode cX9_isLetter 13 = .ok (.goto 4, 3) := by decide +kernel
theorem dX9_isLetter_16 : decode cX9_isLetter 16 = .ok (.iconst 0, 1) := by decide +kernel
theorem dX9_isLetter_17 : decode cX9_isLetter 17 = .ok (.ireturn, 1) := by decide +kernel
set_option maxHeartbeats 400000 in
theorem c9_isLetter {G : Gl} {l : Launch}  {M : Mem} {c : Int}  : Ct G LY 57 l 0 m9_isLetter [vI c] M (Ret (vI (bP (ltP c))) M) := by
  refine R_start (by decide +kernel) (Nat.le_of_ble_eq_true rfl) (fun C hC hRm hlau => ?_)
  show RZ G LY C (Zn G LY 57 C (Ret (vI (bP (ltP c))) M)) 0 0 57 0 [some (vI c)] [] M
  refine R_iload_0 hC dX9_isLetter_0 ?_
  refine R_bipush hC dX9_isLetter_1 (by decide +kernel) ⟨by decide, by decide⟩ ?_
  refine R_icmp_lt hC dX9_isLetter_3 (tgt := 16) (by decide) (fun hb3 => ?_) (fun hb3 => ?_)
  · skip
    refine R_iconst hC dX9_isLetter_16 ⟨by decide, by decide⟩ ?_
    exact R_zreturn hC dX9_isLetter_17 rfl (.inl rfl) (ret_f (by unfold ltP; omega))
  · skip
    refine R_iload_0 hC dX9_isLetter_6 ?_
    refine R_bipush hC dX9_isLetter_7 (by decide +kernel) ⟨by decide, by decide⟩ ?_
    refine R_icmp_gt hC dX9_isLetter_9 (tgt := 16) (by decide) (fun hb9 => ?_) (fun hb9 => ?_)
    · skip
      refine R_iconst hC dX9_isLetter_16 ⟨by decide, by decide⟩ ?_
      exact R_zreturn hC dX9_isLetter_17 rfl (.inl rfl) (ret_f (by unfold ltP; omega))
    · skip
      refine R_iconst hC dX9_isLetter_12 ⟨by decide, by decide⟩ ?_
      refine R_goto hC dX9_isLetter_13 (tgt := 17) (by decide) ?_
      exact R_zreturn hC dX9_isLetter_17 rfl (.inr rfl) (ret_t (by unfold ltP; omega))
theorem dX9_isDigit_0 : decode cX9_isDigit 0 = .ok (.iload_n 0, 1) := by decide +kernel
theorem dX9_isDigit_1 : decode cX9_isDigit 1 = .ok (.bipush 48, 2) := by decide +kernel
theorem dX9_isDigit_3 : decode cX9_isDigit 3 = .ok (.if_icmp .lt 13, 3) := by decide +kernel
theorem dX9_isDigit_6 : decode cX9_isDigit 6 = .ok (.iload_n 0, 1) := by decide +kernel
theorem dX9_isDigit_7 : decode cX9_isDigit 7 = .ok (.bipush 57, 2) := by decide +kernel
theorem dX9_isDigit_9 : decode cX9_isDigit 9 = .ok (.if_icmp .gt 7, 3) := by decide +kernel
theorem dX9_isDigit_12 : decode cX9_isDigit 12 = .ok (.iconst 1, 1) := by decide +kernel
theorem dX9_isDigit_13 : decode cX9_isDigit 13 = .ok (.goto 4, 3) := by decide +kernel
theorem dX9_isDigit_16 : decode cX9_isDigit 16 = .ok (.iconst 0, 1) := by decide +kernel
theorem dX9_isDigit_17 : decode cX9_isDigit 17 = .ok (.ireturn, 1) := by decide +kernel
set_option maxHeartbeats 400000 in
theorem c9_isDigit {G : Gl} {l : Launch}  {M : Mem} {c : Int}  : Ct G LY 57 l 0 m9_isDigit [vI c] M (Ret (vI (bP (dgP c))) M) := by
  refine R_start (by decide +kernel) (Nat.le_of_ble_eq_true rfl) (fun C hC hRm hlau => ?_)
  show RZ G LY C (Zn G LY 57 C (Ret (vI (bP (dgP c))) M)) 0 0 57 0 [some (vI c)] [] M
  refine R_iload_0 hC dX9_isDigit_0 ?_
  refine R_bipush hC dX9_isDigit_1 (by decide +kernel) ⟨by decide, by decide⟩ ?_
  refine R_icmp_lt hC dX9_isDigit_3 (tgt := 16) (by decide) (fun hb3 => ?_) (fun hb3 => ?_)
  · skip
    refine R_iconst hC dX9_isDigit_16 ⟨by decide, by decide⟩ ?_
    exact R_zreturn hC dX9_isDigit_17 rfl (.inl rfl) (ret_f (by unfold dgP; omega))
  · skip
    refine R_iload_0 hC dX9_isDigit_6 ?_
    refine R_bipush hC dX9_isDigit_7 (by decide +kernel) ⟨by decide, by decide⟩ ?_
    refine R_icmp_gt hC dX9_isDigit_9 (tgt := 16) (by decide) (fun hb9 => ?_) (fun hb9 => ?_)
    · skip
      refine R_iconst hC dX9_isDigit_16 ⟨by decide, by decide⟩ ?_
      exact R_zreturn hC dX9_isDigit_17 rfl (.inl rfl) (ret_f (by unfold dgP; omega))
    · skip
      refine R_iconst hC dX9_isDigit_12 ⟨by decide, by decide⟩ ?_
      refine R_goto hC dX9_isDigit_13 (tgt := 17) (by decide) ?_
      exact R_zreturn hC dX9_isDigit_17 rfl (.inr rfl) (ret_t (by unfold dgP; omega))
theorem dX9_byteAt_0 : decode cX9_byteAt 0 = .ok (.iload_n 1, 1) := by decide +kernel
theorem dX9_byteAt_1 : decode cX9_byteAt 1 = .ok (.ifCond .lt 24, 3) := by decide +kernel
theorem dX9_byteAt_4 : decode cX9_byteAt 4 = .ok (.iload_n 1, 1) := by decide +kernel
theorem dX9_byteAt_5 : decode cX9_byteAt 5 = .ok (.aload_n 0, 1) := by decide +kernel
theorem dX9_byteAt_6 : decode cX9_byteAt 6 = .ok (.getfield 25, 3) := by decide +kernel
theorem dX9_byteAt_9 : decode cX9_byteAt 9 = .ok (.if_icmp .ge 16, 3) := by decide +kernel
theorem dX9_byteAt_12 : decode cX9_byteAt 12 = .ok (.aload_n 0, 1) := by decide +kernel
theorem dX9_byteAt_13 : decode cX9_byteAt 13 = .ok (.getfield 9, 3) := by decide +kernel
theorem dX9_byteAt_16 : decode cX9_byteAt 16 = .ok (.iload_n 1, 1) := by decide +kernel
theorem dX9_byteAt_17 : decode cX9_byteAt 17 = .ok (.baload, 1) := by decide +kernel
theorem dX9_byteAt_18 : decode cX9_byteAt 18 = .ok (.sipush 255, 3) := by decide +kernel
theorem dX9_byteAt_21 : decode cX9_byteAt 21 = .ok (.iand, 1) := by decide +kernel
theorem dX9_byteAt_22 : decode cX9_byteAt 22 = .ok (.goto 4, 3) := by decide +kernel
theorem dX9_byteAt_25 : decode cX9_byteAt 25 = .ok (.iconst (-1), 1) := by decide +kernel
theorem dX9_byteAt_26 : decode cX9_byteAt 26 = .ok (.ireturn, 1) := by decide +kernel
set_option maxHeartbeats 400000 in
theorem c9_byteAt {G : Gl} {l : Launch}  {M : Mem} {a n : Int} {r : Int → Int} (hG : GR M) (hTx : M 22 0 = 1) (hN : M 22 1 = n) (hn0 : 0 ≤ n) (hn1 : n ≤ 700) (hr : M 1 = r) : Ct G LY 57 l 0 m9_byteAt [vR 22, vI a] M (Ret (vI (byA r n a)) M) := by
  refine R_start (by decide +kernel) (Nat.le_of_ble_eq_true rfl) (fun C hC hRm hlau => ?_)
  show RZ G LY C (Zn G LY 57 C (Ret (vI (byA r n a)) M)) 0 0 57 0 [some (vR 22), some (vI a)] [] M
  refine R_iload_1 hC dX9_byteAt_0 ?_
  refine R_if_lt hC dX9_byteAt_1 (tgt := 25) (by decide) (fun hb1 => ?_) (fun hb1 => ?_)
  · skip
    refine R_iconst hC dX9_byteAt_25 ⟨by decide, by decide⟩ ?_
    exact R_ireturn hC dX9_byteAt_26 rfl (ret_I (by unfold byA; first | (rw [if_neg (by omega)]) | (rw [if_pos (by omega)])))
  · skip
    refine R_iload_1 hC dX9_byteAt_4 ?_
    refine R_aload_0 hC dX9_byteAt_5 ?_
    refine R_getI hC dX9_byteAt_6 fl_9_25 (by decide) rfl (by decide) (by decide) (fi := 1) rfl ?_
    refine R_icmp_ge hC dX9_byteAt_9 (tgt := 25) (by decide) (fun hb9 => ?_) (fun hb9 => ?_)
    · skip
      refine R_iconst hC dX9_byteAt_25 ⟨by decide, by decide⟩ ?_
      exact R_ireturn hC dX9_byteAt_26 rfl (ret_I (by unfold byA; first | (rw [if_neg (by omega)]) | (rw [if_pos (by omega)])))
    · skip
      refine R_aload_0 hC dX9_byteAt_12 ?_
      refine R_getR hC dX9_byteAt_13 fl_9_9 (by decide) rfl (by decide) (by decide) (fi := 0) rfl (r := 1) hTx ?_
      refine R_iload_1 hC dX9_byteAt_16 ?_
      refine R_baloadE hC dX9_byteAt_17 (by decide) rfl (by omega) (by omega) (congrFun hr _) ?_
      refine R_sipush hC dX9_byteAt_18 (by decide +kernel) ⟨by decide, by decide⟩ ?_
      refine R_iandm hC dX9_byteAt_21 (m := 8) (by decide) (by decide) ?_
      refine R_goto hC dX9_byteAt_22 (tgt := 26) (by decide) ?_
      exact R_ireturn hC dX9_byteAt_26 rfl (ret_I (by unfold byA; first | (rw [if_neg (by omega)]) | (rw [if_pos (by omega)])))
theorem dX9_refuse_0 : decode cX9_refuse 0 = .ok (.aload_n 0, 1) := by decide +kernel
theorem dX9_refuse_1 : decode cX9_refuse 1 = .ok (.getfield 41, 3) := by decide +kernel
theorem dX9_refuse_4 : decode cX9_refuse 4 = .ok (.ifCond .ne 16, 3) := by decide +kernel
theorem dX9_refuse_7 : decode cX9_refuse 7 = .ok (.aload_n 0, 1) := by decide +kernel
theorem dX9_refuse_8 : decode cX9_refuse 8 = .ok (.iload_n 1, 1) := by decide +kernel
theorem dX9_refuse_9 : decode cX9_refuse 9 = .ok (.putfield 41, 3) := by decide +kernel
theorem dX9_refuse_12 : decode cX9_refuse 12 = .ok (.aload_n 0, 1) := by decide +kernel
theorem dX9_refuse_13 : decode cX9_refuse 13 = .ok (.aload_n 0, 1) := by decide +kernel
theorem dX9_refuse_14 : decode cX9_refuse 14 = .ok (.getfield 56, 3) := by decide +kernel
theorem dX9_refuse_17 : decode cX9_refuse 17 = .ok (.putfield 15, 3) := by decide +kernel
theorem dX9_refuse_20 : decode cX9_refuse 20 = .ok (.return_, 1) := by decide +kernel
set_option maxHeartbeats 400000 in
theorem c9_refuse {G : Gl} {l : Launch}  {M : Mem} {v : Int} (hG : GR M) : Ct G LY 57 l 0 m9_refuse [vR 22, vI v] M (RV (fun M' => Fr [] [(22, 7), (22, 8)] M M' ∧ M' 22 7 = (if M 22 7 = 0 then v else M 22 7) ∧ M' 22 8 = (if M 22 7 = 0 then M 22 5 else M 22 8))) := by
  refine R_start (by decide +kernel) (Nat.le_of_ble_eq_true rfl) (fun C hC hRm hlau => ?_)
  show RZ G LY C (Zn G LY 57 C (RV (fun M' => Fr [] [(22, 7), (22, 8)] M M' ∧ M' 22 7 = (if M 22 7 = 0 then v else M 22 7) ∧ M' 22 8 = (if M 22 7 = 0 then M 22 5 else M 22 8)))) 0 0 57 0 [some (vR 22), some (vI v)] [] M
  refine R_aload_0 hC dX9_refuse_0 ?_
  refine R_getI hC dX9_refuse_1 fl_9_41 (by decide) rfl (by decide) (by decide) (fi := 7) rfl ?_
  refine R_if_ne hC dX9_refuse_4 (tgt := 20) (by decide) (fun hb4 => ?_) (fun hb4 => ?_)
  · skip
    exact R_return hC dX9_refuse_20 rfl (ret_V ⟨by first | exact Fr.rf | exact Fr.uB (Fr.uB Fr.rf (by decide)) (by decide), by first | (rw [if_neg hb4]) | (rw [if_pos hb4]; exact (uM_k (by decide)).trans uM_same), by first | (rw [if_neg hb4]) | (rw [if_pos hb4]; exact uM_same)⟩)
  · skip
    refine R_aload_0 hC dX9_refuse_7 ?_
    refine R_iload_1 hC dX9_refuse_8 ?_
    refine R_putI hC dX9_refuse_9 fl_9_41 (by decide) rfl (by decide) (by decide) (fi := 7) rfl ?_
    refine R_aload_0 hC dX9_refuse_12 ?_
    refine R_aload_0 hC dX9_refuse_13 ?_
    refine R_getIE hC dX9_refuse_14 fl_9_56 (by decide) rfl (by decide) (by decide) (fi := 5) rfl (uM_k (by decide)) ?_
    refine R_putI hC dX9_refuse_17 fl_9_15 (by decide) rfl (by decide) (by decide) (fi := 8) rfl ?_
    exact R_return hC dX9_refuse_20 rfl (ret_V ⟨by first | exact Fr.rf | exact Fr.uB (Fr.uB Fr.rf (by decide)) (by decide), by first | (rw [if_neg hb4]) | (rw [if_pos hb4]; exact (uM_k (by decide)).trans uM_same), by first | (rw [if_neg hb4]) | (rw [if_pos hb4]; exact uM_same)⟩)
theorem dX9_next_0 : decode cX9_next 0 = .ok (.aload_n 0, 1) := by decide +kernel
theorem dX9_next_1 : decode cX9_next 1 = .ok (.aload_n 0, 1) := by decide +kernel
theorem dX9_next_2 : decode cX9_next 2 = .ok (.getfield 44, 3) := by decide +kernel
theorem dX9_next_5 : decode cX9_next 5 = .ok (.putfield 56, 3) := by decide +kernel
theorem dX9_next_8 : decode cX9_next 8 = .ok (.aload_n 0, 1) := by decide +kernel
theorem dX9_next_9 : decode cX9_next 9 = .ok (.getfield 56, 3) := by decide +kernel
theorem dX9_next_12 : decode cX9_next 12 = .ok (.aload_n 0, 1) := by decide +kernel
theorem dX9_next_13 : decode cX9_next 13 = .ok (.getfield 25, 3) := by decide +kernel
theorem dX9_next_16 : decode cX9_next 16 = .ok (.if_icmp .ge 42, 3) := by decide +kernel
theorem dX9_next_19 : decode cX9_next 19 = .ok (.aload_n 0, 1) := by decide +kernel
theorem dX9_next_20 : decode cX9_next 20 = .ok (.aload_n 0, 1) := by decide +kernel
theorem dX9_next_21 : decode cX9_next 21 = .ok (.getfield 56, 3) := by decide +kernel
theorem dX9_next_24 : decode cX9_next 24 = .ok (.invokevirtual 59, 3) := by decide +kernel
theorem dX9_next_27 : decode cX9_next 27 = .ok (.bipush 32, 2) := by decide +kernel
theorem dX9_next_29 : decode cX9_next 29 = .ok (.if_icmp .eq 16, 3) := by decide +kernel
theorem dX9_next_32 : decode cX9_next 32 = .ok (.aload_n 0, 1) := by decide +kernel
theorem dX9_next_33 : decode cX9_next 33 = .ok (.aload_n 0, 1) := by decide +kernel
theorem dX9_next_34 : decode cX9_next 34 = .ok (.getfield 56, 3) := by decide +kernel
theorem dX9_next_37 : decode cX9_next 37 = .ok (.invokevirtual 59, 3) := by decide +kernel
theorem dX9_next_40 : decode cX9_next 40 = .ok (.bipush 10, 2) := by decide +kernel
theorem dX9_next_42 : decode cX9_next 42 = .ok (.if_icmp .ne 16, 3) := by decide +kernel
theorem dX9_next_45 : decode cX9_next 45 = .ok (.aload_n 0, 1) := by decide +kernel
theorem dX9_next_46 : decode cX9_next 46 = .ok (.dup, 1) := by decide +kernel
theorem dX9_next_47 : decode cX9_next 47 = .ok (.getfield 56, 3) := by decide +kernel
theorem dX9_next_50 : decode cX9_next 50 = .ok (.iconst 1, 1) := by decide +kernel
theorem dX9_next_51 : decode cX9_next 51 = .ok (.iadd, 1) := by decide +kernel
theorem dX9_next_52 : decode cX9_next 52 = .ok (.putfield 56, 3) := by decide +kernel
theorem dX9_next_55 : decode cX9_next 55 = .ok (.goto (-47), 3) := by decide +kernel
theorem dX9_next_58 : decode cX9_next 58 = .ok (.aload_n 0, 1) := by decide +kernel
theorem dX9_next_59 : decode cX9_next 59 = .ok (.aload_n 0, 1) := by decide +kernel
theorem dX9_next_60 : decode cX9_next 60 = .ok (.getfield 56, 3) := by decide +kernel
theorem dX9_next_63 : decode cX9_next 63 = .ok (.iconst 1, 1) := by decide +kernel
theorem dX9_next_64 : decode cX9_next 64 = .ok (.iadd, 1) := by decide +kernel
theorem dX9_next_65 : decode cX9_next 65 = .ok (.putfield 44, 3) := by decide +kernel
theorem dX9_next_68 : decode cX9_next 68 = .ok (.aload_n 0, 1) := by decide +kernel
theorem dX9_next_69 : decode cX9_next 69 = .ok (.aload_n 0, 1) := by decide +kernel
theorem dX9_next_70 : decode cX9_next 70 = .ok (.getfield 56, 3) := by decide +kernel
theorem dX9_next_73 : decode cX9_next 73 = .ok (.invokevirtual 59, 3) := by decide +kernel
theorem dX9_next_76 : decode cX9_next 76 = .ok (.istore_n 1, 1) := by decide +kernel
theorem dX9_next_77 : decode cX9_next 77 = .ok (.aload_n 0, 1) := by decide +kernel
theorem dX9_next_78 : decode cX9_next 78 = .ok (.getfield 56, 3) := by decide +kernel
theorem dX9_next_81 : decode cX9_next 81 = .ok (.aload_n 0, 1) := by decide +kernel
theorem dX9_next_82 : decode cX9_next 82 = .ok (.getfield 25, 3) := by decide +kernel
theorem dX9_next_85 : decode cX9_next 85 = .ok (.if_icmp .lt 19, 3) := by decide +kernel
theorem dX9_next_88 : decode cX9_next 88 = .ok (.aload_n 0, 1) := by decide +kernel
theorem dX9_next_89 : decode cX9_next 89 = .ok (.aload_n 0, 1) := by decide +kernel
theorem dX9_next_90 : decode cX9_next 90 = .ok (.getfield 56, 3) := by decide +kernel
theorem dX9_next_93 : decode cX9_next 93 = .ok (.putfield 44, 3) := by decide +kernel
theorem dX9_next_96 : decode cX9_next 96 = .ok (.aload_n 0, 1) := by decide +kernel
theorem dX9_next_97 : decode cX9_next 97 = .ok (.iconst 0, 1) := by decide +kernel
theorem dX9_next_98 : decode cX9_next 98 = .ok (.putfield 50, 3) := by decide +kernel
theorem dX9_next_101 : decode cX9_next 101 = .ok (.goto 118, 3) := by decide +kernel
theorem dX9_next_104 : decode cX9_next 104 = .ok (.iload_n 1, 1) := by decide +kernel
theorem dX9_next_105 : decode cX9_next 105 = .ok (.invokestatic 63, 3) := by decide +kernel
theorem dX9_next_108 : decode cX9_next 108 = .ok (.ifCond .eq 46, 3) := by decide +kernel
theorem dX9_next_111 : decode cX9_next 111 = .ok (.aload_n 0, 1) := by decide +kernel
theorem dX9_next_112 : decode cX9_next 112 = .ok (.iconst 1, 1) := by decide +kernel
theorem dX9_next_113 : decode cX9_next 113 = .ok (.putfield 50, 3) := by decide +kernel
theorem dX9_next_116 : decode cX9_next 116 = .ok (.aload_n 0, 1) := by decide +kernel
theorem dX9_next_117 : decode cX9_next 117 = .ok (.getfield 44, 3) := by decide +kernel
theorem dX9_next_120 : decode cX9_next 120 = .ok (.aload_n 0, 1) := by decide +kernel
theorem dX9_next_121 : decode cX9_next 121 = .ok (.getfield 25, 3) := by decide +kernel
theorem dX9_next_124 : decode cX9_next 124 = .ok (.if_icmp .ge 95, 3) := by decide +kernel
theorem dX9_next_127 : decode cX9_next 127 = .ok (.aload_n 0, 1) := by decide +kernel
theorem dX9_next_128 : decode cX9_next 128 = .ok (.aload_n 0, 1) := by decide +kernel
theorem dX9_next_129 : decode cX9_next 129 = .ok (.getfield 44, 3) := by decide +kernel
theorem dX9_next_132 : decode cX9_next 132 = .ok (.invokevirtual 59, 3) := by decide +kernel
theorem dX9_next_135 : decode cX9_next 135 = .ok (.invokestatic 63, 3) := by decide +kernel
theorem dX9_next_138 : decode cX9_next 138 = .ok (.ifCond .eq 81, 3) := by decide +kernel
theorem dX9_next_141 : decode cX9_next 141 = .ok (.aload_n 0, 1) := by decide +kernel
theorem dX9_next_142 : decode cX9_next 142 = .ok (.dup, 1) := by decide +kernel
theorem dX9_next_143 : decode cX9_next 143 = .ok (.getfield 44, 3) := by decide +kernel
theorem dX9_next_146 : decode cX9_next 146 = .ok (.iconst 1, 1) := by decide +kernel
theorem dX9_next_147 : decode cX9_next 147 = .ok (.iadd, 1) := by decide +kernel
theorem dX9_next_148 : decode cX9_next 148 = .ok (.putfield 44, 3) := by decide +kernel
theorem dX9_next_151 : decode cX9_next 151 = .ok (.goto (-35), 3) := by decide +kernel
theorem dX9_next_154 : decode cX9_next 154 = .ok (.iload_n 1, 1) := by decide +kernel
theorem dX9_next_155 : decode cX9_next 155 = .ok (.invokestatic 67, 3) := by decide +kernel
theorem dX9_next_158 : decode cX9_next 158 = .ok (.ifCond .eq 46, 3) := by decide +kernel
theorem dX9_next_161 : decode cX9_next 161 = .ok (.aload_n 0, 1) := by decide +kernel
theorem dX9_next_162 : decode cX9_next 162 = .ok (.iconst 2, 1) := by decide +kernel
theorem dX9_next_163 : decode cX9_next 163 = .ok (.putfield 50, 3) := by decide +kernel
theorem dX9_next_166 : decode cX9_next 166 = .ok (.aload_n 0, 1) := by decide +kernel
theorem dX9_next_167 : decode cX9_next 167 = .ok (.getfield 44, 3) := by decide +kernel
theorem dX9_next_170 : decode cX9_next 170 = .ok (.aload_n 0, 1) := by decide +kernel
theorem dX9_next_171 : decode cX9_next 171 = .ok (.getfield 25, 3) := by decide +kernel
theorem dX9_next_174 : decode cX9_next 174 = .ok (.if_icmp .ge 45, 3) := by decide +kernel
theorem dX9_next_177 : decode cX9_next 177 = .ok (.aload_n 0, 1) := by decide +kernel
theorem dX9_next_178 : decode cX9_next 178 = .ok (.aload_n 0, 1) := by decide +kernel
theorem dX9_next_179 : decode cX9_next 179 = .ok (.getfield 44, 3) := by decide +kernel
theorem dX9_next_182 : decode cX9_next 182 = .ok (.invokevirtual 59, 3) := by decide +kernel
theorem dX9_next_185 : decode cX9_next 185 = .ok (.invokestatic 67, 3) := by decide +kernel
theorem dX9_next_188 : decode cX9_next 188 = .ok (.ifCond .eq 31, 3) := by decide +kernel
theorem dX9_next_191 : decode cX9_next 191 = .ok (.aload_n 0, 1) := by decide +kernel
theorem dX9_next_192 : decode cX9_next 192 = .ok (.dup, 1) := by decide +kernel
theorem dX9_next_193 : decode cX9_next 193 = .ok (.getfield 44, 3) := by decide +kernel
theorem dX9_next_196 : decode cX9_next 196 = .ok (.iconst 1, 1) := by decide +kernel
theorem dX9_next_197 : decode cX9_next 197 = .ok (.iadd, 1) := by decide +kernel
theorem dX9_next_198 : decode cX9_next 198 = .ok (.putfield 44, 3) := by decide +kernel
theorem dX9_next_201 : decode cX9_next 201 = .ok (.goto (-35), 3) := by decide +kernel
theorem dX9_next_204 : decode cX9_next 204 = .ok (.aload_n 0, 1) := by decide +kernel
theorem dX9_next_205 : decode cX9_next 205 = .ok (.iload_n 1, 1) := by decide +kernel
theorem dX9_next_206 : decode cX9_next 206 = .ok (.bipush 59, 2) := by decide +kernel
theorem dX9_next_208 : decode cX9_next 208 = .ok (.if_icmp .ne 7, 3) := by decide +kernel
theorem dX9_next_211 : decode cX9_next 211 = .ok (.iconst 3, 1) := by decide +kernel
theorem dX9_next_212 : decode cX9_next 212 = .ok (.goto 4, 3) := by decide +kernel
theorem dX9_next_215 : decode cX9_next 215 = .ok (.iconst 4, 1) := by decide +kernel
theorem dX9_next_216 : decode cX9_next 216 = .ok (.putfield 50, 3) := by decide +kernel
theorem dX9_next_219 : decode cX9_next 219 = .ok (.return_, 1) := by decide +kernel
set_option maxHeartbeats 1000000 in
theorem c9_next {G : Gl} {l : Launch}  {M : Mem} {n : Int} {r : Int → Int} (hG : GR M) (hTx : M 22 0 = 1) (hN : M 22 1 = n) (hn0 : 0 ≤ n) (hn1 : n ≤ 700) (hr : M 1 = r) (he0 : 0 ≤ M 22 6) (he1 : M 22 6 ≤ n) : Ct G LY 57 l 1 m9_next [vR 22] M (RV (fun M' => Fr [] [(22, 4), (22, 5), (22, 6)] M M' ∧ M' 22 4 = (nxT r n (M 22 6)).1 ∧ M' 22 5 = (nxT r n (M 22 6)).2.1 ∧ M' 22 6 = (nxT r n (M 22 6)).2.2)) := by
  refine R_start (by decide +kernel) (Nat.le_of_ble_eq_true rfl) (fun C hC hRm hlau => ?_)
  show RZ G LY C (Zn G LY 57 C (RV (fun M' => Fr [] [(22, 4), (22, 5), (22, 6)] M M' ∧ M' 22 4 = (nxT r n (M 22 6)).1 ∧ M' 22 5 = (nxT r n (M 22 6)).2.1 ∧ M' 22 6 = (nxT r n (M 22 6)).2.2))) 0 0 57 0 [some (vR 22), none] [] M
  refine R_aload_0 hC dX9_next_0 ?_
  refine R_aload_0 hC dX9_next_1 ?_
  refine R_getI hC dX9_next_2 fl_9_44 (by decide) rfl (by decide) (by decide) (fi := 6) rfl ?_
  refine R_putI hC dX9_next_5 fl_9_56 (by decide) rfl (by decide) (by decide) (fi := 5) rfl ?_
  have L8 : ∀ (mq : Nat) (s : Int) (M1 : Mem), (M 22 6 ≤ s) → (s ≤ n) → (GR M1) → (M1 1 = r) → (Fr [] [(22, 4), (22, 5), (22, 6)] M M1) → (M1 22 5 = s) → (scn (fun j => blP (byA r n j)) n (M 22 6) = scn (fun j => blP (byA r n j)) n s) → (n - s).toNat < mq → RZ G LY C (Zn G LY 57 C (RV (fun M' => Fr [] [(22, 4), (22, 5), (22, 6)] M M' ∧ M' 22 4 = (nxT r n (M 22 6)).1 ∧ M' 22 5 = (nxT r n (M 22 6)).2.1 ∧ M' 22 6 = (nxT r n (M 22 6)).2.2))) 0 0 57 8 [some (vR 22), none] [] M1 := by
    intro mq
    induction mq with
    | zero =>
      intro s M1 hs0 hs1 hg gr1 hF h5 hS hm
      exact absurd hm (Nat.not_lt_zero _)
    | succ mq ih8 =>
      intro s M1 hs0 hs1 hg gr1 hF h5 hS hm8
      have x1 : M1 22 1 = n := (hF 22 1 (by decide) (by decide)).trans hN
      refine R_aload_0 hC dX9_next_8 ?_
      refine R_getI hC dX9_next_9 fl_9_56 (by decide) rfl (by decide) (by decide) (fi := 5) rfl ?_
      refine R_aload_0 hC dX9_next_12 ?_
      refine R_getI hC dX9_next_13 fl_9_25 (by decide) rfl (by decide) (by decide) (fi := 1) rfl ?_
      have L58 : (scn (fun j => blP (byA r n j)) n (M 22 6) = s) → RZ G LY C (Zn G LY 57 C (RV (fun M' => Fr [] [(22, 4), (22, 5), (22, 6)] M M' ∧ M' 22 4 = (nxT r n (M 22 6)).1 ∧ M' 22 5 = (nxT r n (M 22 6)).2.1 ∧ M' 22 6 = (nxT r n (M 22 6)).2.2))) 0 0 57 58 [some (vR 22), none] [] M1 := by
        intro  hSc
        refine R_aload_0 hC dX9_next_58 ?_
        refine R_aload_0 hC dX9_next_59 ?_
        refine R_getI hC dX9_next_60 fl_9_56 (by decide) rfl (by decide) (by decide) (fi := 5) rfl ?_
        rw [h5]
        refine R_iconst hC dX9_next_63 ⟨by decide, by decide⟩ ?_
        refine R_iadd hC dX9_next_64 ⟨by omega, by omega⟩ ?_
        refine R_putI hC dX9_next_65 fl_9_44 (by decide) rfl (by decide) (by decide) (fi := 6) rfl ?_
        refine R_aload_0 hC dX9_next_68 ?_
        refine R_aload_0 hC dX9_next_69 ?_
        refine R_getIE hC dX9_next_70 fl_9_56 (by decide) rfl (by decide) (by decide) (fi := 5) rfl (uM_k (by decide)) ?_
        rw [h5]
        have hG1 : GR (uM M1 22 6 (s + 1)) := (GR.uF hg (by decide +kernel) (by decide))
        have hr2 : (uM M1 22 6 (s + 1)) 1 = r := ((uM_ne (by decide)).trans gr1)
        refine R_callVq (as := [vI _]) hC dX9_next_73 mo_9_byteAt ml_9_59 (by decide) rfl rfl (c9_byteAt  hG1 ((uM_k (by decide)).trans ((hF 22 0 (by decide) (by decide)).trans hTx)) ((uM_k (by decide)).trans ((hF 22 1 (by decide) (by decide)).trans hN)) (by omega) (by omega) hr2) rfl rfl hRm (by decide) (by decide) (Nat.le_of_ble_eq_true rfl) ?_
        refine R_istore_1 hC dX9_next_76 rfl ?_
        refine R_aload_0 hC dX9_next_77 ?_
        refine R_getIE hC dX9_next_78 fl_9_56 (by decide) rfl (by decide) (by decide) (fi := 5) rfl (uM_k (by decide)) ?_
        refine R_aload_0 hC dX9_next_81 ?_
        refine R_getIE hC dX9_next_82 fl_9_25 (by decide) rfl (by decide) (by decide) (fi := 1) rfl (uM_k (by decide)) ?_
        refine R_icmp_lt hC dX9_next_85 (tgt := 104) (by decide) (fun hb85 => ?_) (fun hb85 => ?_)
        · skip
          refine R_iload_1 hC dX9_next_104 ?_
          refine R_callSq (as := [vI _]) hC dX9_next_105 mo_9_isLetter ml_9_63 (c9_isLetter  ) rfl rfl hRm (by decide) (by decide) (Nat.le_of_ble_eq_true rfl) ?_
          refine R_if_eq hC dX9_next_108 (tgt := 154) (by decide) (fun hb108 => ?_) (fun hb108 => ?_)
          · skip
            replace hb108 := bP_z hb108
            refine R_iload_1 hC dX9_next_154 ?_
            refine R_callSq (as := [vI _]) hC dX9_next_155 mo_9_isDigit ml_9_67 (c9_isDigit  ) rfl rfl hRm (by decide) (by decide) (Nat.le_of_ble_eq_true rfl) ?_
            refine R_if_eq hC dX9_next_158 (tgt := 204) (by decide) (fun hb158 => ?_) (fun hb158 => ?_)
            · skip
              replace hb158 := bP_z hb158
              refine R_aload_0 hC dX9_next_204 ?_
              refine R_iload_1 hC dX9_next_205 ?_
              refine R_bipush hC dX9_next_206 (by decide +kernel) ⟨by decide, by decide⟩ ?_
              refine R_icmp_ne hC dX9_next_208 (tgt := 215) (by decide) (fun hb208 => ?_) (fun hb208 => ?_)
              · skip
                refine R_iconst hC dX9_next_215 ⟨by decide, by decide⟩ ?_
                refine R_putI hC dX9_next_216 fl_9_50 (by decide) rfl (by decide) (by decide) (fi := 4) rfl ?_
                have hT : nxT r n (M 22 6) = nxW r n s := by (unfold nxT; rw [hSc])
                exact R_return hC dX9_next_219 rfl (ret_V ⟨by
                      first
                        | exact hFq
                        | exact hFu
                        | exact Fr.uB (Fr.uB (Fr.uB hF (by decide)) (by decide)) (by decide)
                        | exact Fr.uB (Fr.uB hF (by decide)) (by decide), by
                      rw [hT]
                      first
                        | (rw [nx_0 (show n ≤ s by omega)]; exact uM_same)
                        | (rw [nx_1 (show s < n by omega) hb108]; exact h4q)
                        | (rw [nx_2 (show s < n by omega) hb108 hb158]; exact h4u)
                        | (rw [nx_3 (show s < n by omega) hb108 hb158 hb208]; exact uM_same)
                        | (rw [nx_4 (show s < n by omega) hb108 hb158 hb208]; exact uM_same), by
                      rw [hT]
                      first
                        | (rw [nx_0 (show n ≤ s by omega)]; exact (uM_k (by decide)).trans ((uM_k (by decide)).trans ((uM_k (by decide)).trans h5)))
                        | (rw [nx_1 (show s < n by omega) hb108]; exact h5q)
                        | (rw [nx_2 (show s < n by omega) hb108 hb158]; exact h5u)
                        | (rw [nx_3 (show s < n by omega) hb108 hb158 hb208]; exact (uM_k (by decide)).trans ((uM_k (by decide)).trans h5))
                        | (rw [nx_4 (show s < n by omega) hb108 hb158 hb208]; exact (uM_k (by decide)).trans ((uM_k (by decide)).trans h5)), by
                      rw [hT]
                      first
                        | (rw [nx_0 (show n ≤ s by omega)]; exact (uM_k (by decide)).trans (uM_same.trans h5))
                        | (rw [nx_1 (show s < n by omega) hb108]; exact h6q.trans (hSq.trans (scn_e (by omega))).symm)
                        | (rw [nx_1 (show s < n by omega) hb108]; exact h6q.trans (hSq.trans (scn_f (P := fun j => ltP (byA r n j)) hb138)).symm)
                        | (rw [nx_2 (show s < n by omega) hb108 hb158]; exact h6u.trans (hSu.trans (scn_e (by omega))).symm)
                        | (rw [nx_2 (show s < n by omega) hb108 hb158]; exact h6u.trans (hSu.trans (scn_f (P := fun j => dgP (byA r n j)) hb188)).symm)
                        | (rw [nx_3 (show s < n by omega) hb108 hb158 hb208]; exact (uM_k (by decide)).trans uM_same)
                        | (rw [nx_4 (show s < n by omega) hb108 hb158 hb208]; exact (uM_k (by decide)).trans uM_same)⟩)
              · skip
                refine R_iconst hC dX9_next_211 ⟨by decide, by decide⟩ ?_
                refine R_goto hC dX9_next_212 (tgt := 216) (by decide) ?_
                refine R_putI hC dX9_next_216 fl_9_50 (by decide) rfl (by decide) (by decide) (fi := 4) rfl ?_
                have hT : nxT r n (M 22 6) = nxW r n s := by (unfold nxT; rw [hSc])
                exact R_return hC dX9_next_219 rfl (ret_V ⟨by
                      first
                        | exact hFq
                        | exact hFu
                        | exact Fr.uB (Fr.uB (Fr.uB hF (by decide)) (by decide)) (by decide)
                        | exact Fr.uB (Fr.uB hF (by decide)) (by decide), by
                      rw [hT]
                      first
                        | (rw [nx_0 (show n ≤ s by omega)]; exact uM_same)
                        | (rw [nx_1 (show s < n by omega) hb108]; exact h4q)
                        | (rw [nx_2 (show s < n by omega) hb108 hb158]; exact h4u)
                        | (rw [nx_3 (show s < n by omega) hb108 hb158 hb208]; exact uM_same)
                        | (rw [nx_4 (show s < n by omega) hb108 hb158 hb208]; exact uM_same), by
                      rw [hT]
                      first
                        | (rw [nx_0 (show n ≤ s by omega)]; exact (uM_k (by decide)).trans ((uM_k (by decide)).trans ((uM_k (by decide)).trans h5)))
                        | (rw [nx_1 (show s < n by omega) hb108]; exact h5q)
                        | (rw [nx_2 (show s < n by omega) hb108 hb158]; exact h5u)
                        | (rw [nx_3 (show s < n by omega) hb108 hb158 hb208]; exact (uM_k (by decide)).trans ((uM_k (by decide)).trans h5))
                        | (rw [nx_4 (show s < n by omega) hb108 hb158 hb208]; exact (uM_k (by decide)).trans ((uM_k (by decide)).trans h5)), by
                      rw [hT]
                      first
                        | (rw [nx_0 (show n ≤ s by omega)]; exact (uM_k (by decide)).trans (uM_same.trans h5))
                        | (rw [nx_1 (show s < n by omega) hb108]; exact h6q.trans (hSq.trans (scn_e (by omega))).symm)
                        | (rw [nx_1 (show s < n by omega) hb108]; exact h6q.trans (hSq.trans (scn_f (P := fun j => ltP (byA r n j)) hb138)).symm)
                        | (rw [nx_2 (show s < n by omega) hb108 hb158]; exact h6u.trans (hSu.trans (scn_e (by omega))).symm)
                        | (rw [nx_2 (show s < n by omega) hb108 hb158]; exact h6u.trans (hSu.trans (scn_f (P := fun j => dgP (byA r n j)) hb188)).symm)
                        | (rw [nx_3 (show s < n by omega) hb108 hb158 hb208]; exact (uM_k (by decide)).trans uM_same)
                        | (rw [nx_4 (show s < n by omega) hb108 hb158 hb208]; exact (uM_k (by decide)).trans uM_same)⟩)
            · skip
              replace hb158 := bP_nz hb158
              refine R_aload_0 hC dX9_next_161 ?_
              refine R_iconst hC dX9_next_162 ⟨by decide, by decide⟩ ?_
              refine R_putI hC dX9_next_163 fl_9_50 (by decide) rfl (by decide) (by decide) (fi := 4) rfl ?_
              have L166 : ∀ (mq : Nat) (u : Int) (M4 : Mem), (s + 1 ≤ u) → (u ≤ n) → (GR M4) → (M4 1 = r) → (Fr [] [(22, 4), (22, 5), (22, 6)] M M4) → (M4 22 4 = 2) → (M4 22 5 = s) → (M4 22 6 = u) → (scn (fun j => dgP (byA r n j)) n (s + 1) = scn (fun j => dgP (byA r n j)) n u) → (n - u).toNat < mq → RZ G LY C (Zn G LY 57 C (RV (fun M' => Fr [] [(22, 4), (22, 5), (22, 6)] M M' ∧ M' 22 4 = (nxT r n (M 22 6)).1 ∧ M' 22 5 = (nxT r n (M 22 6)).2.1 ∧ M' 22 6 = (nxT r n (M 22 6)).2.2))) 0 0 57 166 [some (vR 22), some (vI (byA r n s))] [] M4 := by
                intro mq
                induction mq with
                | zero =>
                  intro u M4 au bu hgu gru hFu h4u h5u h6u hSu hm
                  exact absurd hm (Nat.not_lt_zero _)
                | succ mq ih166 =>
                  intro u M4 au bu hgu gru hFu h4u h5u h6u hSu hm166
                  have y1 : M4 22 1 = n := (hFu 22 1 (by decide) (by decide)).trans hN
                  refine R_aload_0 hC dX9_next_166 ?_
                  refine R_getI hC dX9_next_167 fl_9_44 (by decide) rfl (by decide) (by decide) (fi := 6) rfl ?_
                  refine R_aload_0 hC dX9_next_170 ?_
                  refine R_getI hC dX9_next_171 fl_9_25 (by decide) rfl (by decide) (by decide) (fi := 1) rfl ?_
                  refine R_icmp_ge hC dX9_next_174 (tgt := 219) (by decide) (fun hb174 => ?_) (fun hb174 => ?_)
                  · skip
                    have hT : nxT r n (M 22 6) = nxW r n s := by (unfold nxT; rw [hSc])
                    exact R_return hC dX9_next_219 rfl (ret_V ⟨by
                          first
                            | exact hFq
                            | exact hFu
                            | exact Fr.uB (Fr.uB (Fr.uB hF (by decide)) (by decide)) (by decide)
                            | exact Fr.uB (Fr.uB hF (by decide)) (by decide), by
                          rw [hT]
                          first
                            | (rw [nx_0 (show n ≤ s by omega)]; exact uM_same)
                            | (rw [nx_1 (show s < n by omega) hb108]; exact h4q)
                            | (rw [nx_2 (show s < n by omega) hb108 hb158]; exact h4u)
                            | (rw [nx_3 (show s < n by omega) hb108 hb158 hb208]; exact uM_same)
                            | (rw [nx_4 (show s < n by omega) hb108 hb158 hb208]; exact uM_same), by
                          rw [hT]
                          first
                            | (rw [nx_0 (show n ≤ s by omega)]; exact (uM_k (by decide)).trans ((uM_k (by decide)).trans ((uM_k (by decide)).trans h5)))
                            | (rw [nx_1 (show s < n by omega) hb108]; exact h5q)
                            | (rw [nx_2 (show s < n by omega) hb108 hb158]; exact h5u)
                            | (rw [nx_3 (show s < n by omega) hb108 hb158 hb208]; exact (uM_k (by decide)).trans ((uM_k (by decide)).trans h5))
                            | (rw [nx_4 (show s < n by omega) hb108 hb158 hb208]; exact (uM_k (by decide)).trans ((uM_k (by decide)).trans h5)), by
                          rw [hT]
                          first
                            | (rw [nx_0 (show n ≤ s by omega)]; exact (uM_k (by decide)).trans (uM_same.trans h5))
                            | (rw [nx_1 (show s < n by omega) hb108]; exact h6q.trans (hSq.trans (scn_e (by omega))).symm)
                            | (rw [nx_1 (show s < n by omega) hb108]; exact h6q.trans (hSq.trans (scn_f (P := fun j => ltP (byA r n j)) hb138)).symm)
                            | (rw [nx_2 (show s < n by omega) hb108 hb158]; exact h6u.trans (hSu.trans (scn_e (by omega))).symm)
                            | (rw [nx_2 (show s < n by omega) hb108 hb158]; exact h6u.trans (hSu.trans (scn_f (P := fun j => dgP (byA r n j)) hb188)).symm)
                            | (rw [nx_3 (show s < n by omega) hb108 hb158 hb208]; exact (uM_k (by decide)).trans uM_same)
                            | (rw [nx_4 (show s < n by omega) hb108 hb158 hb208]; exact (uM_k (by decide)).trans uM_same)⟩)
                  · skip
                    refine R_aload_0 hC dX9_next_177 ?_
                    refine R_aload_0 hC dX9_next_178 ?_
                    refine R_getI hC dX9_next_179 fl_9_44 (by decide) rfl (by decide) (by decide) (fi := 6) rfl ?_
                    rw [h6u]
                    refine R_callVq (as := [vI _]) hC dX9_next_182 mo_9_byteAt ml_9_59 (by decide) rfl rfl (c9_byteAt  hgu ((hFu 22 0 (by decide) (by decide)).trans hTx) ((hFu 22 1 (by decide) (by decide)).trans hN) (by omega) (by omega) gru) rfl rfl hRm (by decide) (by decide) (Nat.le_of_ble_eq_true rfl) ?_
                    refine R_callSq (as := [vI _]) hC dX9_next_185 mo_9_isDigit ml_9_67 (c9_isDigit  ) rfl rfl hRm (by decide) (by decide) (Nat.le_of_ble_eq_true rfl) ?_
                    refine R_if_eq hC dX9_next_188 (tgt := 219) (by decide) (fun hb188 => ?_) (fun hb188 => ?_)
                    · skip
                      replace hb188 := bP_z hb188
                      have hT : nxT r n (M 22 6) = nxW r n s := by (unfold nxT; rw [hSc])
                      exact R_return hC dX9_next_219 rfl (ret_V ⟨by
                            first
                              | exact hFq
                              | exact hFu
                              | exact Fr.uB (Fr.uB (Fr.uB hF (by decide)) (by decide)) (by decide)
                              | exact Fr.uB (Fr.uB hF (by decide)) (by decide), by
                            rw [hT]
                            first
                              | (rw [nx_0 (show n ≤ s by omega)]; exact uM_same)
                              | (rw [nx_1 (show s < n by omega) hb108]; exact h4q)
                              | (rw [nx_2 (show s < n by omega) hb108 hb158]; exact h4u)
                              | (rw [nx_3 (show s < n by omega) hb108 hb158 hb208]; exact uM_same)
                              | (rw [nx_4 (show s < n by omega) hb108 hb158 hb208]; exact uM_same), by
                            rw [hT]
                            first
                              | (rw [nx_0 (show n ≤ s by omega)]; exact (uM_k (by decide)).trans ((uM_k (by decide)).trans ((uM_k (by decide)).trans h5)))
                              | (rw [nx_1 (show s < n by omega) hb108]; exact h5q)
                              | (rw [nx_2 (show s < n by omega) hb108 hb158]; exact h5u)
                              | (rw [nx_3 (show s < n by omega) hb108 hb158 hb208]; exact (uM_k (by decide)).trans ((uM_k (by decide)).trans h5))
                              | (rw [nx_4 (show s < n by omega) hb108 hb158 hb208]; exact (uM_k (by decide)).trans ((uM_k (by decide)).trans h5)), by
                            rw [hT]
                            first
                              | (rw [nx_0 (show n ≤ s by omega)]; exact (uM_k (by decide)).trans (uM_same.trans h5))
                              | (rw [nx_1 (show s < n by omega) hb108]; exact h6q.trans (hSq.trans (scn_e (by omega))).symm)
                              | (rw [nx_1 (show s < n by omega) hb108]; exact h6q.trans (hSq.trans (scn_f (P := fun j => ltP (byA r n j)) hb138)).symm)
                              | (rw [nx_2 (show s < n by omega) hb108 hb158]; exact h6u.trans (hSu.trans (scn_e (by omega))).symm)
                              | (rw [nx_2 (show s < n by omega) hb108 hb158]; exact h6u.trans (hSu.trans (scn_f (P := fun j => dgP (byA r n j)) hb188)).symm)
                              | (rw [nx_3 (show s < n by omega) hb108 hb158 hb208]; exact (uM_k (by decide)).trans uM_same)
                              | (rw [nx_4 (show s < n by omega) hb108 hb158 hb208]; exact (uM_k (by decide)).trans uM_same)⟩)
                    · skip
                      replace hb188 := bP_nz hb188
                      refine R_aload_0 hC dX9_next_191 ?_
                      refine R_dup hC dX9_next_192 rfl ?_
                      refine R_getI hC dX9_next_193 fl_9_44 (by decide) rfl (by decide) (by decide) (fi := 6) rfl ?_
                      refine R_iconst hC dX9_next_196 ⟨by decide, by decide⟩ ?_
                      refine R_iadd hC dX9_next_197 ⟨by omega, by omega⟩ ?_
                      refine R_putI hC dX9_next_198 fl_9_44 (by decide) rfl (by decide) (by decide) (fi := 6) rfl ?_
                      refine R_goto hC dX9_next_201 (tgt := 166) (by decide) ?_
                      have hG3 : GR (uM M4 22 6 ((M4 22 6) + 1)) := (GR.uF hgu (by decide +kernel) (by decide))
                      have hr4 : (uM M4 22 6 ((M4 22 6) + 1)) 1 = r := ((uM_ne (by decide)).trans gru)
                      exact ih166 _ _ (by omega) (by omega) hG3 hr4 (Fr.uB hFu (by decide)) ((uM_k (by decide)).trans h4u) ((uM_k (by decide)).trans h5u) (uM_same.trans (by rw [h6u])) (hSu.trans (scn_t (by omega) hb188)) (by omega)
              have hG5 : GR (uM (uM M1 22 6 (s + 1)) 22 4 2) := (GR.uF hG1 (by decide +kernel) (by decide))
              have hr6 : (uM (uM M1 22 6 (s + 1)) 22 4 2) 1 = r := ((uM_ne (by decide)).trans hr2)
              exact L166 _ _ _ (by omega) (by omega) hG5 hr6 (Fr.uB (Fr.uB hF (by decide)) (by decide)) uM_same ((uM_k (by decide)).trans ((uM_k (by decide)).trans h5)) ((uM_k (by decide)).trans uM_same) rfl (Nat.lt_succ_self _)
          · skip
            replace hb108 := bP_nz hb108
            refine R_aload_0 hC dX9_next_111 ?_
            refine R_iconst hC dX9_next_112 ⟨by decide, by decide⟩ ?_
            refine R_putI hC dX9_next_113 fl_9_50 (by decide) rfl (by decide) (by decide) (fi := 4) rfl ?_
            have L116 : ∀ (mq : Nat) (q : Int) (M3 : Mem), (s + 1 ≤ q) → (q ≤ n) → (GR M3) → (M3 1 = r) → (Fr [] [(22, 4), (22, 5), (22, 6)] M M3) → (M3 22 4 = 1) → (M3 22 5 = s) → (M3 22 6 = q) → (scn (fun j => ltP (byA r n j)) n (s + 1) = scn (fun j => ltP (byA r n j)) n q) → (n - q).toNat < mq → RZ G LY C (Zn G LY 57 C (RV (fun M' => Fr [] [(22, 4), (22, 5), (22, 6)] M M' ∧ M' 22 4 = (nxT r n (M 22 6)).1 ∧ M' 22 5 = (nxT r n (M 22 6)).2.1 ∧ M' 22 6 = (nxT r n (M 22 6)).2.2))) 0 0 57 116 [some (vR 22), some (vI (byA r n s))] [] M3 := by
              intro mq
              induction mq with
              | zero =>
                intro q M3 aq bq hgq grq hFq h4q h5q h6q hSq hm
                exact absurd hm (Nat.not_lt_zero _)
              | succ mq ih116 =>
                intro q M3 aq bq hgq grq hFq h4q h5q h6q hSq hm116
                have y1 : M3 22 1 = n := (hFq 22 1 (by decide) (by decide)).trans hN
                refine R_aload_0 hC dX9_next_116 ?_
                refine R_getI hC dX9_next_117 fl_9_44 (by decide) rfl (by decide) (by decide) (fi := 6) rfl ?_
                refine R_aload_0 hC dX9_next_120 ?_
                refine R_getI hC dX9_next_121 fl_9_25 (by decide) rfl (by decide) (by decide) (fi := 1) rfl ?_
                refine R_icmp_ge hC dX9_next_124 (tgt := 219) (by decide) (fun hb124 => ?_) (fun hb124 => ?_)
                · skip
                  have hT : nxT r n (M 22 6) = nxW r n s := by (unfold nxT; rw [hSc])
                  exact R_return hC dX9_next_219 rfl (ret_V ⟨by
                        first
                          | exact hFq
                          | exact hFu
                          | exact Fr.uB (Fr.uB (Fr.uB hF (by decide)) (by decide)) (by decide)
                          | exact Fr.uB (Fr.uB hF (by decide)) (by decide), by
                        rw [hT]
                        first
                          | (rw [nx_0 (show n ≤ s by omega)]; exact uM_same)
                          | (rw [nx_1 (show s < n by omega) hb108]; exact h4q)
                          | (rw [nx_2 (show s < n by omega) hb108 hb158]; exact h4u)
                          | (rw [nx_3 (show s < n by omega) hb108 hb158 hb208]; exact uM_same)
                          | (rw [nx_4 (show s < n by omega) hb108 hb158 hb208]; exact uM_same), by
                        rw [hT]
                        first
                          | (rw [nx_0 (show n ≤ s by omega)]; exact (uM_k (by decide)).trans ((uM_k (by decide)).trans ((uM_k (by decide)).trans h5)))
                          | (rw [nx_1 (show s < n by omega) hb108]; exact h5q)
                          | (rw [nx_2 (show s < n by omega) hb108 hb158]; exact h5u)
                          | (rw [nx_3 (show s < n by omega) hb108 hb158 hb208]; exact (uM_k (by decide)).trans ((uM_k (by decide)).trans h5))
                          | (rw [nx_4 (show s < n by omega) hb108 hb158 hb208]; exact (uM_k (by decide)).trans ((uM_k (by decide)).trans h5)), by
                        rw [hT]
                        first
                          | (rw [nx_0 (show n ≤ s by omega)]; exact (uM_k (by decide)).trans (uM_same.trans h5))
                          | (rw [nx_1 (show s < n by omega) hb108]; exact h6q.trans (hSq.trans (scn_e (by omega))).symm)
                          | (rw [nx_1 (show s < n by omega) hb108]; exact h6q.trans (hSq.trans (scn_f (P := fun j => ltP (byA r n j)) hb138)).symm)
                          | (rw [nx_2 (show s < n by omega) hb108 hb158]; exact h6u.trans (hSu.trans (scn_e (by omega))).symm)
                          | (rw [nx_2 (show s < n by omega) hb108 hb158]; exact h6u.trans (hSu.trans (scn_f (P := fun j => dgP (byA r n j)) hb188)).symm)
                          | (rw [nx_3 (show s < n by omega) hb108 hb158 hb208]; exact (uM_k (by decide)).trans uM_same)
                          | (rw [nx_4 (show s < n by omega) hb108 hb158 hb208]; exact (uM_k (by decide)).trans uM_same)⟩)
                · skip
                  refine R_aload_0 hC dX9_next_127 ?_
                  refine R_aload_0 hC dX9_next_128 ?_
                  refine R_getI hC dX9_next_129 fl_9_44 (by decide) rfl (by decide) (by decide) (fi := 6) rfl ?_
                  rw [h6q]
                  refine R_callVq (as := [vI _]) hC dX9_next_132 mo_9_byteAt ml_9_59 (by decide) rfl rfl (c9_byteAt  hgq ((hFq 22 0 (by decide) (by decide)).trans hTx) ((hFq 22 1 (by decide) (by decide)).trans hN) (by omega) (by omega) grq) rfl rfl hRm (by decide) (by decide) (Nat.le_of_ble_eq_true rfl) ?_
                  refine R_callSq (as := [vI _]) hC dX9_next_135 mo_9_isLetter ml_9_63 (c9_isLetter  ) rfl rfl hRm (by decide) (by decide) (Nat.le_of_ble_eq_true rfl) ?_
                  refine R_if_eq hC dX9_next_138 (tgt := 219) (by decide) (fun hb138 => ?_) (fun hb138 => ?_)
                  · skip
                    replace hb138 := bP_z hb138
                    have hT : nxT r n (M 22 6) = nxW r n s := by (unfold nxT; rw [hSc])
                    exact R_return hC dX9_next_219 rfl (ret_V ⟨by
                          first
                            | exact hFq
                            | exact hFu
                            | exact Fr.uB (Fr.uB (Fr.uB hF (by decide)) (by decide)) (by decide)
                            | exact Fr.uB (Fr.uB hF (by decide)) (by decide), by
                          rw [hT]
                          first
                            | (rw [nx_0 (show n ≤ s by omega)]; exact uM_same)
                            | (rw [nx_1 (show s < n by omega) hb108]; exact h4q)
                            | (rw [nx_2 (show s < n by omega) hb108 hb158]; exact h4u)
                            | (rw [nx_3 (show s < n by omega) hb108 hb158 hb208]; exact uM_same)
                            | (rw [nx_4 (show s < n by omega) hb108 hb158 hb208]; exact uM_same), by
                          rw [hT]
                          first
                            | (rw [nx_0 (show n ≤ s by omega)]; exact (uM_k (by decide)).trans ((uM_k (by decide)).trans ((uM_k (by decide)).trans h5)))
                            | (rw [nx_1 (show s < n by omega) hb108]; exact h5q)
                            | (rw [nx_2 (show s < n by omega) hb108 hb158]; exact h5u)
                            | (rw [nx_3 (show s < n by omega) hb108 hb158 hb208]; exact (uM_k (by decide)).trans ((uM_k (by decide)).trans h5))
                            | (rw [nx_4 (show s < n by omega) hb108 hb158 hb208]; exact (uM_k (by decide)).trans ((uM_k (by decide)).trans h5)), by
                          rw [hT]
                          first
                            | (rw [nx_0 (show n ≤ s by omega)]; exact (uM_k (by decide)).trans (uM_same.trans h5))
                            | (rw [nx_1 (show s < n by omega) hb108]; exact h6q.trans (hSq.trans (scn_e (by omega))).symm)
                            | (rw [nx_1 (show s < n by omega) hb108]; exact h6q.trans (hSq.trans (scn_f (P := fun j => ltP (byA r n j)) hb138)).symm)
                            | (rw [nx_2 (show s < n by omega) hb108 hb158]; exact h6u.trans (hSu.trans (scn_e (by omega))).symm)
                            | (rw [nx_2 (show s < n by omega) hb108 hb158]; exact h6u.trans (hSu.trans (scn_f (P := fun j => dgP (byA r n j)) hb188)).symm)
                            | (rw [nx_3 (show s < n by omega) hb108 hb158 hb208]; exact (uM_k (by decide)).trans uM_same)
                            | (rw [nx_4 (show s < n by omega) hb108 hb158 hb208]; exact (uM_k (by decide)).trans uM_same)⟩)
                  · skip
                    replace hb138 := bP_nz hb138
                    refine R_aload_0 hC dX9_next_141 ?_
                    refine R_dup hC dX9_next_142 rfl ?_
                    refine R_getI hC dX9_next_143 fl_9_44 (by decide) rfl (by decide) (by decide) (fi := 6) rfl ?_
                    refine R_iconst hC dX9_next_146 ⟨by decide, by decide⟩ ?_
                    refine R_iadd hC dX9_next_147 ⟨by omega, by omega⟩ ?_
                    refine R_putI hC dX9_next_148 fl_9_44 (by decide) rfl (by decide) (by decide) (fi := 6) rfl ?_
                    refine R_goto hC dX9_next_151 (tgt := 116) (by decide) ?_
                    have hG7 : GR (uM M3 22 6 ((M3 22 6) + 1)) := (GR.uF hgq (by decide +kernel) (by decide))
                    have hr8 : (uM M3 22 6 ((M3 22 6) + 1)) 1 = r := ((uM_ne (by decide)).trans grq)
                    exact ih116 _ _ (by omega) (by omega) hG7 hr8 (Fr.uB hFq (by decide)) ((uM_k (by decide)).trans h4q) ((uM_k (by decide)).trans h5q) (uM_same.trans (by rw [h6q])) (hSq.trans (scn_t (by omega) hb138)) (by omega)
            have hG9 : GR (uM (uM M1 22 6 (s + 1)) 22 4 1) := (GR.uF hG1 (by decide +kernel) (by decide))
            have hr10 : (uM (uM M1 22 6 (s + 1)) 22 4 1) 1 = r := ((uM_ne (by decide)).trans hr2)
            exact L116 _ _ _ (by omega) (by omega) hG9 hr10 (Fr.uB (Fr.uB hF (by decide)) (by decide)) uM_same ((uM_k (by decide)).trans ((uM_k (by decide)).trans h5)) ((uM_k (by decide)).trans uM_same) rfl (Nat.lt_succ_self _)
        · skip
          refine R_aload_0 hC dX9_next_88 ?_
          refine R_aload_0 hC dX9_next_89 ?_
          refine R_getIE hC dX9_next_90 fl_9_56 (by decide) rfl (by decide) (by decide) (fi := 5) rfl (uM_k (by decide)) ?_
          refine R_putI hC dX9_next_93 fl_9_44 (by decide) rfl (by decide) (by decide) (fi := 6) rfl ?_
          refine R_aload_0 hC dX9_next_96 ?_
          refine R_iconst hC dX9_next_97 ⟨by decide, by decide⟩ ?_
          refine R_putI hC dX9_next_98 fl_9_50 (by decide) rfl (by decide) (by decide) (fi := 4) rfl ?_
          refine R_goto hC dX9_next_101 (tgt := 219) (by decide) ?_
          have hT : nxT r n (M 22 6) = nxW r n s := by (unfold nxT; rw [hSc])
          exact R_return hC dX9_next_219 rfl (ret_V ⟨by
                first
                  | exact hFq
                  | exact hFu
                  | exact Fr.uB (Fr.uB (Fr.uB hF (by decide)) (by decide)) (by decide)
                  | exact Fr.uB (Fr.uB hF (by decide)) (by decide), by
                rw [hT]
                first
                  | (rw [nx_0 (show n ≤ s by omega)]; exact uM_same)
                  | (rw [nx_1 (show s < n by omega) hb108]; exact h4q)
                  | (rw [nx_2 (show s < n by omega) hb108 hb158]; exact h4u)
                  | (rw [nx_3 (show s < n by omega) hb108 hb158 hb208]; exact uM_same)
                  | (rw [nx_4 (show s < n by omega) hb108 hb158 hb208]; exact uM_same), by
                rw [hT]
                first
                  | (rw [nx_0 (show n ≤ s by omega)]; exact (uM_k (by decide)).trans ((uM_k (by decide)).trans ((uM_k (by decide)).trans h5)))
                  | (rw [nx_1 (show s < n by omega) hb108]; exact h5q)
                  | (rw [nx_2 (show s < n by omega) hb108 hb158]; exact h5u)
                  | (rw [nx_3 (show s < n by omega) hb108 hb158 hb208]; exact (uM_k (by decide)).trans ((uM_k (by decide)).trans h5))
                  | (rw [nx_4 (show s < n by omega) hb108 hb158 hb208]; exact (uM_k (by decide)).trans ((uM_k (by decide)).trans h5)), by
                rw [hT]
                first
                  | (rw [nx_0 (show n ≤ s by omega)]; exact (uM_k (by decide)).trans (uM_same.trans h5))
                  | (rw [nx_1 (show s < n by omega) hb108]; exact h6q.trans (hSq.trans (scn_e (by omega))).symm)
                  | (rw [nx_1 (show s < n by omega) hb108]; exact h6q.trans (hSq.trans (scn_f (P := fun j => ltP (byA r n j)) hb138)).symm)
                  | (rw [nx_2 (show s < n by omega) hb108 hb158]; exact h6u.trans (hSu.trans (scn_e (by omega))).symm)
                  | (rw [nx_2 (show s < n by omega) hb108 hb158]; exact h6u.trans (hSu.trans (scn_f (P := fun j => dgP (byA r n j)) hb188)).symm)
                  | (rw [nx_3 (show s < n by omega) hb108 hb158 hb208]; exact (uM_k (by decide)).trans uM_same)
                  | (rw [nx_4 (show s < n by omega) hb108 hb158 hb208]; exact (uM_k (by decide)).trans uM_same)⟩)
      refine R_icmp_ge hC dX9_next_16 (tgt := 58) (by decide) (fun hb16 => ?_) (fun hb16 => ?_)
      · skip
        exact L58  (by first | exact hS.trans (scn_e (by omega)) | exact hS.trans (scn_f (fun z => z.elim (fun e => hb29 e) (fun e => hb42 e))))
      · skip
        refine R_aload_0 hC dX9_next_19 ?_
        refine R_aload_0 hC dX9_next_20 ?_
        refine R_getI hC dX9_next_21 fl_9_56 (by decide) rfl (by decide) (by decide) (fi := 5) rfl ?_
        rw [h5]
        refine R_callVq (as := [vI _]) hC dX9_next_24 mo_9_byteAt ml_9_59 (by decide) rfl rfl (c9_byteAt  hg ((hF 22 0 (by decide) (by decide)).trans hTx) ((hF 22 1 (by decide) (by decide)).trans hN) (by omega) (by omega) gr1) rfl rfl hRm (by decide) (by decide) (Nat.le_of_ble_eq_true rfl) ?_
        refine R_bipush hC dX9_next_27 (by decide +kernel) ⟨by decide, by decide⟩ ?_
        refine R_icmp_eq hC dX9_next_29 (tgt := 45) (by decide) (fun hb29 => ?_) (fun hb29 => ?_)
        · skip
          refine R_aload_0 hC dX9_next_45 ?_
          refine R_dup hC dX9_next_46 rfl ?_
          refine R_getI hC dX9_next_47 fl_9_56 (by decide) rfl (by decide) (by decide) (fi := 5) rfl ?_
          rw [h5]
          refine R_iconst hC dX9_next_50 ⟨by decide, by decide⟩ ?_
          refine R_iadd hC dX9_next_51 ⟨by omega, by omega⟩ ?_
          refine R_putI hC dX9_next_52 fl_9_56 (by decide) rfl (by decide) (by decide) (fi := 5) rfl ?_
          refine R_goto hC dX9_next_55 (tgt := 8) (by decide) ?_
          have hG11 : GR (uM M1 22 5 (s + 1)) := (GR.uF hg (by decide +kernel) (by decide))
          have hr12 : (uM M1 22 5 (s + 1)) 1 = r := ((uM_ne (by decide)).trans gr1)
          exact ih8 _ _ (by omega) (by omega) hG11 hr12 (Fr.uB hF (by decide)) uM_same (hS.trans (scn_t (by omega) (by first | exact .inl hb29 | exact .inr hb42))) (by omega)
        · skip
          refine R_aload_0 hC dX9_next_32 ?_
          refine R_aload_0 hC dX9_next_33 ?_
          refine R_getI hC dX9_next_34 fl_9_56 (by decide) rfl (by decide) (by decide) (fi := 5) rfl ?_
          rw [h5]
          refine R_callVq (as := [vI _]) hC dX9_next_37 mo_9_byteAt ml_9_59 (by decide) rfl rfl (c9_byteAt  hg ((hF 22 0 (by decide) (by decide)).trans hTx) ((hF 22 1 (by decide) (by decide)).trans hN) (by omega) (by omega) gr1) rfl rfl hRm (by decide) (by decide) (Nat.le_of_ble_eq_true rfl) ?_
          refine R_bipush hC dX9_next_40 (by decide +kernel) ⟨by decide, by decide⟩ ?_
          refine R_icmp_ne hC dX9_next_42 (tgt := 58) (by decide) (fun hb42 => ?_) (fun hb42 => ?_)
          · skip
            exact L58  (by first | exact hS.trans (scn_e (by omega)) | exact hS.trans (scn_f (fun z => z.elim (fun e => hb29 e) (fun e => hb42 e))))
          · skip
            refine R_aload_0 hC dX9_next_45 ?_
            refine R_dup hC dX9_next_46 rfl ?_
            refine R_getI hC dX9_next_47 fl_9_56 (by decide) rfl (by decide) (by decide) (fi := 5) rfl ?_
            rw [h5]
            refine R_iconst hC dX9_next_50 ⟨by decide, by decide⟩ ?_
            refine R_iadd hC dX9_next_51 ⟨by omega, by omega⟩ ?_
            refine R_putI hC dX9_next_52 fl_9_56 (by decide) rfl (by decide) (by decide) (fi := 5) rfl ?_
            refine R_goto hC dX9_next_55 (tgt := 8) (by decide) ?_
            have hG13 : GR (uM M1 22 5 (s + 1)) := (GR.uF hg (by decide +kernel) (by decide))
            have hr14 : (uM M1 22 5 (s + 1)) 1 = r := ((uM_ne (by decide)).trans gr1)
            exact ih8 _ _ (by omega) (by omega) hG13 hr14 (Fr.uB hF (by decide)) uM_same (hS.trans (scn_t (by omega) (by first | exact .inl hb29 | exact .inr hb42))) (by omega)
  have hG15 : GR (uM M 22 5 (M 22 6)) := (GR.uF hG (by decide +kernel) (by decide))
  have hr16 : (uM M 22 5 (M 22 6)) 1 = r := ((uM_ne (by decide)).trans hr)
  exact L8 _ _ _ (by omega) (by omega) hG15 hr16 (Fr.uB Fr.rf (by decide)) uM_same rfl (Nat.lt_succ_self _)
