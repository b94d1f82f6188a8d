/-! TextReader: bytes and words -/
def byA (r : Int → Int) (n a : Int) : Int := if 0 ≤ a ∧ a < n then r a % 2 ^ 8 else -1
def ltP (c : Int) : Prop := 97 ≤ c ∧ c ≤ 122
def dgP (c : Int) : Prop := 48 ≤ c ∧ c ≤ 57
def blP (c : Int) : Prop := c = 32 ∨ c = 10
/-- the first place from a on that is not so -/
noncomputable def scnF (P : Int → Prop) (n : Int) : Nat → Int → Int
  | 0, a => a
  | k + 1, a => @ite Int (P a) (Classical.propDecidable _) (scnF P n k (a + 1)) a
noncomputable def scn (P : Int → Prop) (n a : Int) : Int := scnF P n (n - a).toNat a
theorem scn_t {P : Int → Prop} {n a : Int} (h : a < n) (p : P a) : scn P n a = scn P n (a + 1) := by
  unfold scn
  rw [show (n - a).toNat = (n - (a + 1)).toNat + 1 by omega, scnF, if_pos p]
theorem scn_f {P : Int → Prop} {n a : Int} (p : ¬ P a) : scn P n a = a := by
  unfold scn
  cases (n - a).toNat with
  | zero => rfl
  | succ k => rw [scnF, if_neg p]
theorem scn_e {P : Int → Prop} {n a : Int} (h : n ≤ a) : scn P n a = a := by
  unfold scn
  rw [show (n - a).toNat = 0 by omega]
  rfl
noncomputable def itc {α : Type} (p : Prop) (a b : α) : α := @ite α p (Classical.propDecidable p) a b
theorem itc_t {α : Type} {p : Prop} {a b : α} (h : p) : itc p a b = a := if_pos h
theorem itc_f {α : Type} {p : Prop} {a b : α} (h : ¬ p) : itc p a b = b := if_neg h
/-- kind, start and end of the word that begins at or after e -/
noncomputable def nxW (r : Int → Int) (n s : Int) : Int × Int × Int :=
  itc (n ≤ s) (0, s, s) (itc (ltP (byA r n s)) (1, s, scn (fun j => ltP (byA r n j)) n (s + 1)) (itc (dgP (byA r n s)) (2, s, scn (fun j => dgP (byA r n j)) n (s + 1)) (itc (byA r n s = 59) (3, s, s + 1) (4, s, s + 1))))
noncomputable def nxT (r : Int → Int) (n e : Int) : Int × Int × Int := nxW r n (scn (fun j => blP (byA r n j)) n e)
theorem nx_0 {r : Int → Int} {n s : Int} (h : n ≤ s) : nxW r n s = (0, s, s) := itc_t h
theorem nx_1 {r : Int → Int} {n s : Int} (h : s < n) (p : ltP (byA r n s)) : nxW r n s = (1, s, scn (fun j => ltP (byA r n j)) n (s + 1)) := (itc_f (Int.not_le.mpr h)).trans (itc_t p)
theorem nx_2 {r : Int → Int} {n s : Int} (h : s < n) (p : ¬ ltP (byA r n s)) (q : dgP (byA r n s)) : nxW r n s = (2, s, scn (fun j => dgP (byA r n j)) n (s + 1)) := (itc_f (Int.not_le.mpr h)).trans ((itc_f p).trans (itc_t q))
theorem nx_3 {r : Int → Int} {n s : Int} (h : s < n) (p : ¬ ltP (byA r n s)) (q : ¬ dgP (byA r n s)) (e : byA r n s = 59) : nxW r n s = (3, s, s + 1) := (itc_f (Int.not_le.mpr h)).trans ((itc_f p).trans ((itc_f q).trans (itc_t e)))
theorem nx_4 {r : Int → Int} {n s : Int} (h : s < n) (p : ¬ ltP (byA r n s)) (q : ¬ dgP (byA r n s)) (e : byA r n s ≠ 59) : nxW r n s = (4, s, s + 1) := (itc_f (Int.not_le.mpr h)).trans ((itc_f p).trans ((itc_f q).trans (itc_f e)))

theorem dX9_isLetter_0 : decode cX9_isLetter 0 = .ok (.iload_n 0, 1) := by decide +kernel
theorem dX9_isLetter_1 : decode cX9_isLetter 1 = .ok (.bipush 97, 2) := by decide +kernel
theorem dX9_isLetter_3 : decode cX9_isLetter 3 = .ok (.if_icmp .lt 13, 3) := by decide +kernel
theorem dX9_isLetter_6 : decode cX9_isLetter 6 = .ok (.iload_n 0, 1) := by decide +kernel
theorem dX9_isLetter_7 : decode cX9_isLetter 7 = .ok (.bipush 122, 2) := by decide +kernel
theorem dX9_isLetter_9 : decode cX9_isLetter 9 = .ok (.if_icmp .gt 7, 3) := by decide +kernel
theorem dX9_isLetter_12 : decode cX9_isLetter 12 = .ok (.iconst 1, 1) := by decide +kernel
theorem dX9_isLetter_13 : decode cX9_isLetter 13 = .ok (.goto 4, 3) := by decide +kernel
theorem dX9_isLetter_16 : decode cX9_isLetter 16 = .ok (.iconst 0, 1) := by decide +kernel
theorem dX9_isLetter_17 : decode cX9_isLetter 17 = .ok (.ireturn, 1) := by decide +kernel
set_option maxHeartbeats 400000 in
theorem c9_isLetter {G : Gl} {l : Launch}  {M : Mem} {c : Int}  : Ct G LY 82 l 0 m9_isLetter [vI c] M (Ret (vI (bP (ltP c))) M) := by
  refine R_start (by decide +kernel) (Nat.le_of_ble_eq_true rfl) (fun C hC hRm hlau => ?_)
  show RZ G LY C (Zn G LY 82 C (Ret (vI (bP (ltP c))) M)) 0 0 82 0 [some (vI c)] [] M
  refine R_iload_0 hC dX9_isLetter_0 ?_
  refine R_bipush hC dX9_isLetter_1 (by decide +kernel) ⟨by decide, by decide⟩ ?_
  refine R_icmp_lt hC dX9_isLetter_3 (tgt := 16) (by decide) (fun hb3 => ?_) (fun hb3 => ?_)
  · skip
    refine R_iconst hC dX9_isLetter_16 ⟨by decide, by decide⟩ ?_
    exact R_zreturn hC dX9_isLetter_17 rfl (.inl rfl) (ret_f (by unfold ltP; omega))
  · skip
    refine R_iload_0 hC dX9_isLetter_6 ?_
    refine R_bipush hC dX9_isLetter_7 (by decide +kernel) ⟨by decide, by decide⟩ ?_
    refine R_icmp_gt hC dX9_isLetter_9 (tgt := 16) (by decide) (fun hb9 => ?_) (fun hb9 => ?_)
    · skip
      refine R_iconst hC dX9_isLetter_16 ⟨by decide, by decide⟩ ?_
      exact R_zreturn hC dX9_isLetter_17 rfl (.inl rfl) (ret_f (by unfold ltP; omega))
    · skip
      refine R_iconst hC dX9_isLetter_12 ⟨by decide, by decide⟩ ?_
      refine R_goto hC dX9_isLetter_13 (tgt := 17) (by decide) ?_
      exact R_zreturn hC dX9_isLetter_17 rfl (.inr rfl) (ret_t (by unfold ltP; omega))
theorem dX9_isDigit_0 : decode cX9_isDigit 0 = .ok (.iload_n 0, 1) := by decide +kernel
theorem dX9_isDigit_1 : decode cX9_isDigit 1 = .ok (.bipush 48, 2) := by decide +kernel
theorem dX9_isDigit_3 : decode cX9_isDigit 3 = .ok (.if_icmp .lt 13, 3) := by decide +kernel
theorem dX9_isDigit_6 : decode cX9_isDigit 6 = .ok (.iload_n 0, 1) := by decide +kernel
theorem dX9_isDigit_7 : decode cX9_isDigit 7 = .ok (.bipush 57, 2) := by decide +kernel
theorem dX9_isDigit_9 : decode cX9_isDigit 9 = .ok (.if_icmp .gt 7, 3) := by decide +kernel
theorem dX9_isDigit_12 : decode cX9_isDigit 12 = .ok (.iconst 1, 1) := by decide +kernel
theorem dX9_isDigit_13 : decode cX9_isDigit 13 = .ok (.goto 4, 3) := by decide +kernel
theorem dX9_isDigit_16 : decode cX9_isDigit 16 = .ok (.iconst 0, 1) := by decide +kernel
theorem dX9_isDigit_17 : decode cX9_isDigit 17 = .ok (.ireturn, 1) := by decide +kernel
set_option maxHeartbeats 400000 in
theorem c9_isDigit {G : Gl} {l : Launch}  {M : Mem} {c : Int}  : Ct G LY 82 l 0 m9_isDigit [vI c] M (Ret (vI (bP (dgP c))) M) := by
  refine R_start (by decide +kernel) (Nat.le_of_ble_eq_true rfl) (fun C hC hRm hlau => ?_)
  show RZ G LY C (Zn G LY 82 C (Ret (vI (bP (dgP c))) M)) 0 0 82 0 [some (vI c)] [] M
  refine R_iload_0 hC dX9_isDigit_0 ?_
  refine R_bipush hC dX9_isDigit_1 (by decide +kernel) ⟨by decide, by decide⟩ ?_
  refine R_icmp_lt hC dX9_isDigit_3 (tgt := 16) (by decide) (fun hb3 => ?_) (fun hb3 => ?_)
  · skip
    refine R_iconst hC dX9_isDigit_16 ⟨by decide, by decide⟩ ?_
    exact R_zreturn hC dX9_isDigit_17 rfl (.inl rfl) (ret_f (by unfold dgP; omega))
  · skip
    refine R_iload_0 hC dX9_isDigit_6 ?_
    refine R_bipush hC dX9_isDigit_7 (by decide +kernel) ⟨by decide, by decide⟩ ?_
    refine R_icmp_gt hC dX9_isDigit_9 (tgt := 16) (by decide) (fun hb9 => ?_) (fun hb9 => ?_)
    · skip
      refine R_iconst hC dX9_isDigit_16 ⟨by decide, by decide⟩ ?_
      exact R_zreturn hC dX9_isDigit_17 rfl (.inl rfl) (ret_f (by unfold dgP; omega))
    · skip
      refine R_iconst hC dX9_isDigit_12 ⟨by decide, by decide⟩ ?_
      refine R_goto hC dX9_isDigit_13 (tgt := 17) (by decide) ?_
      exact R_zreturn hC dX9_isDigit_17 rfl (.inr rfl) (ret_t (by unfold dgP; omega))
theorem dX9_byteAt_0 : decode cX9_byteAt 0 = .ok (.iload_n 1, 1) := by decide +kernel
theorem dX9_byteAt_1 : decode cX9_byteAt 1 = .ok (.ifCond .lt 24, 3) := by decide +kernel
theorem dX9_byteAt_4 : decode cX9_byteAt 4 = .ok (.iload_n 1, 1) := by decide +kernel
theorem dX9_byteAt_5 : decode cX9_byteAt 5 = .ok (.aload_n 0, 1) := by decide +kernel
theorem dX9_byteAt_6 : decode cX9_byteAt 6 = .ok (.getfield 25, 3) := by decide +kernel
theorem dX9_byteAt_9 : decode cX9_byteAt 9 = .ok (.if_icmp .ge 16, 3) := by decide +kernel
theorem dX9_byteAt_12 : decode cX9_byteAt 12 = .ok (.aload_n 0, 1) := by decide +kernel
theorem dX9_byteAt_13 : decode cX9_byteAt 13 = .ok (.getfield 9, 3) := by decide +kernel
theorem dX9_byteAt_16 : decode cX9_byteAt 16 = .ok (.iload_n 1, 1) := by decide +kernel
theorem dX9_byteAt_17 : decode cX9_byteAt 17 = .ok (.baload, 1) := by decide +kernel
theorem dX9_byteAt_18 : decode cX9_byteAt 18 = .ok (.sipush 255, 3) := by decide +kernel
theorem dX9_byteAt_21 : decode cX9_byteAt 21 = .ok (.iand, 1) := by decide +kernel
theorem dX9_byteAt_22 : decode cX9_byteAt 22 = .ok (.goto 4, 3) := by decide +kernel
theorem dX9_byteAt_25 : decode cX9_byteAt 25 = .ok (.iconst (-1), 1) := by decide +kernel
theorem dX9_byteAt_26 : decode cX9_byteAt 26 = .ok (.ireturn, 1) := by decide +kernel
set_option maxHeartbeats 400000 in
theorem c9_byteAt {G : Gl} {l : Launch}  {M : Mem} {a n : Int} {r : Int → Int} (hG : GR M) (hTx : M 22 0 = 1) (hN : M 22 1 = n) (hn0 : 0 ≤ n) (hn1 : n ≤ 700) (hr : M 1 = r) : Ct G LY 82 l 0 m9_byteAt [vR 22, vI a] M (Ret (vI (byA r n a)) M) := by
  refine R_start (by decide +kernel) (Nat.le_of_ble_eq_true rfl) (fun C hC hRm hlau => ?_)
  show RZ G LY C (Zn G LY 82 C (Ret (vI (byA r n a)) M)) 0 0 82 0 [some (vR 22), some (vI a)] [] M
  refine R_iload_1 hC dX9_byteAt_0 ?_
  refine R_if_lt hC dX9_byteAt_1 (tgt := 25) (by decide) (fun hb1 => ?_) (fun hb1 => ?_)
  · skip
    refine R_iconst hC dX9_byteAt_25 ⟨by decide, by decide⟩ ?_
    exact R_ireturn hC dX9_byteAt_26 rfl (ret_I (by unfold byA; first | (rw [if_neg (by omega)]) | (rw [if_pos (by omega)])))
  · skip
    refine R_iload_1 hC dX9_byteAt_4 ?_
    refine R_aload_0 hC dX9_byteAt_5 ?_
    refine R_getI hC dX9_byteAt_6 fl_9_25 (by decide) rfl (by decide) (by decide) (fi := 1) rfl ?_
    refine R_icmp_ge hC dX9_byteAt_9 (tgt := 25) (by decide) (fun hb9 => ?_) (fun hb9 => ?_)
    · skip
      refine R_iconst hC dX9_byteAt_25 ⟨by decide, by decide⟩ ?_
      exact R_ireturn hC dX9_byteAt_26 rfl (ret_I (by unfold byA; first | (rw [if_neg (by omega)]) | (rw [if_pos (by omega)])))
    · skip
      refine R_aload_0 hC dX9_byteAt_12 ?_
      refine R_getR hC dX9_byteAt_13 fl_9_9 (by decide) rfl (by decide) (by decide) (fi := 0) rfl (r := 1) hTx ?_
      refine R_iload_1 hC dX9_byteAt_16 ?_
      refine R_baloadE hC dX9_byteAt_17 (by decide) rfl (by omega) (by omega) (congrFun hr _) ?_
      refine R_sipush hC dX9_byteAt_18 (by decide +kernel) ⟨by decide, by decide⟩ ?_
      refine R_iandm hC dX9_byteAt_21 (m := 8) (by decide) (by decide) ?_
      refine R_goto hC dX9_byteAt_22 (tgt := 26) (by decide) ?_
      exact R_ireturn hC dX9_byteAt_26 rfl (ret_I (by unfold byA; first | (rw [if_neg (by omega)]) | (rw [if_pos (by omega)])))
theorem dX9_refuse_0 : decode cX9_refuse 0 = .ok (.aload_n 0, 1) := by decide +kernel
theorem dX9_refuse_1 : decode cX9_refuse 1 = .ok (.getfield 41, 3) := by decide +kernel
theorem dX9_refuse_4 : decode cX9_refuse 4 = .ok (.ifCond .ne 16, 3) := by decide +kernel
theorem dX9_refuse_7 : decode cX9_refuse 7 = .ok (.aload_n 0, 1) := by decide +kernel
theorem dX9_refuse_8 : decode cX9_refuse 8 = .ok (.iload_n 1, 1) := by decide +kernel
theorem dX9_refuse_9 : decode cX9_refuse 9 = .ok (.putfield 41, 3) := by decide +kernel
theorem dX9_refuse_12 : decode cX9_refuse 12 = .ok (.aload_n 0, 1) := by decide +kernel
theorem dX9_refuse_13 : decode cX9_refuse 13 = .ok (.aload_n 0, 1) := by decide +kernel
theorem dX9_refuse_14 : decode cX9_refuse 14 = .ok (.getfield 56, 3) := by decide +kernel
theorem dX9_refuse_17 : decode cX9_refuse 17 = .ok (.putfield 15, 3) := by decide +kernel
theorem dX9_refuse_20 : decode cX9_refuse 20 = .ok (.return_, 1) := by decide +kernel
set_option maxHeartbeats 400000 in
theorem c9_refuse {G : Gl} {l : Launch}  {M : Mem} {v : Int} (hG : GR M) : Ct G LY 82 l 0 m9_refuse [vR 22, vI v] M (RV (fun M' => Fr [] [(22, 7), (22, 8)] M M' ∧ M' 22 7 = (if M 22 7 = 0 then v else M 22 7) ∧ M' 22 8 = (if M 22 7 = 0 then M 22 5 else M 22 8))) := by
  refine R_start (by decide +kernel) (Nat.le_of_ble_eq_true rfl) (fun C hC hRm hlau => ?_)
  show RZ G LY C (Zn G LY 82 C (RV (fun M' => Fr [] [(22, 7), (22, 8)] M M' ∧ M' 22 7 = (if M 22 7 = 0 then v else M 22 7) ∧ M' 22 8 = (if M 22 7 = 0 then M 22 5 else M 22 8)))) 0 0 82 0 [some (vR 22), some (vI v)] [] M
  refine R_aload_0 hC dX9_refuse_0 ?_
  refine R_getI hC dX9_refuse_1 fl_9_41 (by decide) rfl (by decide) (by decide) (fi := 7) rfl ?_
  refine R_if_ne hC dX9_refuse_4 (tgt := 20) (by decide) (fun hb4 => ?_) (fun hb4 => ?_)
  · skip
    exact R_return hC dX9_refuse_20 rfl (ret_V ⟨by first | exact Fr.rf | exact Fr.uB (Fr.uB Fr.rf (by decide)) (by decide), by first | (rw [if_neg hb4]) | (rw [if_pos hb4]; exact (uM_k (by decide)).trans uM_same), by first | (rw [if_neg hb4]) | (rw [if_pos hb4]; exact uM_same)⟩)
  · skip
    refine R_aload_0 hC dX9_refuse_7 ?_
    refine R_iload_1 hC dX9_refuse_8 ?_
    refine R_putI hC dX9_refuse_9 fl_9_41 (by decide) rfl (by decide) (by decide) (fi := 7) rfl ?_
    refine R_aload_0 hC dX9_refuse_12 ?_
    refine R_aload_0 hC dX9_refuse_13 ?_
    refine R_getIE hC dX9_refuse_14 fl_9_56 (by decide) rfl (by decide) (by decide) (fi := 5) rfl (uM_k (by decide)) ?_
    refine R_putI hC dX9_refuse_17 fl_9_15 (by decide) rfl (by decide) (by decide) (fi := 8) rfl ?_
    exact R_return hC dX9_refuse_20 rfl (ret_V ⟨by first | exact Fr.rf | exact Fr.uB (Fr.uB Fr.rf (by decide)) (by decide), by first | (rw [if_neg hb4]) | (rw [if_pos hb4]; exact (uM_k (by decide)).trans uM_same), by first | (rw [if_neg hb4]) | (rw [if_pos hb4]; exact uM_same)⟩)
