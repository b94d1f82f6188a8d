theorem jf_known : Cond.fieldLink RX12 200 "CopyKeeperModel" "KNOWN" "[B" ∈ Ts := Ts_in (in_t7 _ (List.mem_of_getElem? (i := 90) rfl)) rfl
/-! the model's reader: bytes, words, numbers -/
def b0 (r : Int → Int) (n k : Int) : Int := if k < n then byA r n k else 0
theorem b0_in {r : Int → Int} {n k : Int} (h : k < n) : b0 r n k = byA r n k := if_pos h
theorem b0_v {r : Int → Int} {n k : Int} (h0 : 0 ≤ k) (h : k < n) : b0 r n k = r k % 2 ^ 8 := (if_pos h).trans (if_pos ⟨h0, h⟩)
theorem b0_out {r : Int → Int} {n k : Int} (h : n ≤ k) : b0 r n k = 0 ∧ byA r n k = -1 := ⟨if_neg (Int.not_lt.mpr h), if_neg (fun z => by omega)⟩
theorem b0_bd {r : Int → Int} {n k : Int} (h0 : 0 ≤ k) : 0 ≤ b0 r n k ∧ b0 r n k ≤ 255 := by
  by_cases q : k < n
  · rw [b0_v h0 q]; omega
  · rw [(b0_out (by omega)).1]; decide
theorem b0_lt {r : Int → Int} {n k : Int} : ltP (b0 r n k) ↔ k < n ∧ ltP (byA r n k) := by
  by_cases q : k < n
  · rw [b0_in q]; exact ⟨fun z => ⟨q, z⟩, fun z => z.2⟩
  · rw [(b0_out (by omega)).1]
    unfold ltP
    omega
theorem b0_dg {r : Int → Int} {n k : Int} : dgP (b0 r n k) ↔ k < n ∧ dgP (byA r n k) := by
  by_cases q : k < n
  · rw [b0_in q]; exact ⟨fun z => ⟨q, z⟩, fun z => z.2⟩
  · rw [(b0_out (by omega)).1]
    unfold dgP
    omega
/-- the word that the model finds: which, place, whether so far so, found -/
abbrev WT : Type := Int × Int × Int × Int
def wfS (r : Int → Int) (n a z c : Int) (S : WT) : WT :=
  if S.2.2.2 ≠ -2 then S else if c = 32 then (if S.2.2.1 ≠ 0 ∧ S.2.1 = z then (S.1, S.2.1, S.2.2.1, S.1) else (S.1 + 1, a, 1, -2)) else (S.1, S.2.1 + 1, (if S.2.2.1 ≠ 0 ∧ S.2.1 < z ∧ b0 r n S.2.1 = c then 1 else 0), -2)
def vlV (r : Int → Int) (n : Int) (K : Int × Int × Int) : Int := if K.1 = 2 then (if K.2.2 - K.2.1 ≤ 2 then nmF r n K.2.1 (K.2.2 - K.2.1).toNat else 999) else 0
section KNS
variable {G : Gl} {S : Sh} {C : Cx} {Z : State → Prop} {k w n : Nat} {pc : Nat} {ls : List (Option V)} {st : List V} {M : Mem} {y : Mt}
def knV (i : Int) : Int := (knB.getD i.toNat 0).toInt
theorem R_knG (hC : CxOK G y C) (hd : decode y.2.1 pc = .ok (.getstatic 200, 3)) (hy : y.1.cls = "CopyKeeperModel") (kk : RZ G S C Z k w n (pc + 3) ls (vR 1020 :: st) M) : RZ G S C Z k w n pc ls st M := by
  intro H locs ar hp hs hm hl hv ha
  exact va_gets hC.1 hC.2.1 (XW_of hC).2.2.2.2.1 hs hC.2.2.2.1 (hC.2.2.2.2.1 _ (by rw [hy]; exact jf_known)) (fun _ q => q) hd (kk H locs ar hp hs hm hl ⟨trivial, hv⟩ ha)
theorem R_knL (hC : CxOK G y C) (hd : decode y.2.1 pc = .ok (.arraylength, 1)) (kk : RZ G S C Z k w n (pc + 1) ls (vI 33 :: st) M) : RZ G S C Z k w n pc ls (vR 1020 :: st) M := by
  intro H locs ar hp hs hm hl hv ha
  exact va_tlen hC.1 hC.2.1 (XW_of hC).2.2.2.2.2.1 hs (nI_ofInt 33) hd (kk H locs ar hp hs hm hl ⟨show inI _ from ⟨by decide, by decide⟩, hv.2⟩ ha)
theorem R_knB (hC : CxOK G y C) {a : Int} (hd : decode y.2.1 pc = .ok (.baload, 1)) (h0 : 0 ≤ a) (h1 : a < 33) (kk : RZ G S C Z k w n (pc + 1) ls (vI (knV a) :: st) M) : RZ G S C Z k w n pc ls (vI a :: vR 1020 :: st) M := by
  intro H locs ar hp hs hm hl hv ha
  refine va_tb hC.1 hC.2.1 (XW_of hC).2.2.2.2.2.1 hs (i_in hv.1 h0 h1) (v := .int (Int32.ofInt (knV a))) ?_ hd (kk H locs ar hp hs hm hl ⟨inI_of _, hv.2.2⟩ ha)
  show Value.int _ = Value.int _
  rw [i_cl hv.1]
  exact congrArg Value.int (Int32.ofInt_toInt _).symm
end KNS
def kwF (r : Int → Int) (n a z : Int) : Nat → WT
  | 0 => (0, a, 1, -2)
  | m + 1 => wfS r n a z (knV m) (kwF r n a z m)
def kwV (r : Int → Int) (n a z : Int) : Int := if (kwF r n a z 33).2.2.2 = -2 then -1 else (kwF r n a z 33).2.2.2
theorem kwF_s {r : Int → Int} {n a z i j : Int} (h : 0 ≤ i) (hj : j = i + 1) : kwF r n a z j.toNat = wfS r n a z (knV i) (kwF r n a z i.toNat) := by
  subst hj
  rw [show (i + 1).toNat = i.toNat + 1 by omega, kwF, Int.toNat_of_nonneg h]
theorem kwF_st {r : Int → Int} {n a z : Int} {m : Nat} (h : (kwF r n a z m).2.2.2 ≠ -2) : ∀ k : Nat, kwF r n a z (m + k) = kwF r n a z m
  | 0 => rfl
  | k + 1 => by
    have r := kwF_st h k
    rw [← Nat.add_assoc, kwF, r, wfS, if_pos h]
theorem kwV_f {r : Int → Int} {n a z i v : Int} (i0 : 0 ≤ i) (i1 : i < 33) (h : (kwF r n a z (i + 1).toNat).2.2.2 = v) (hv : v ≠ -2) : kwV r n a z = v := by
  have e := kwF_st (r := r) (n := n) (a := a) (z := z) (m := (i + 1).toNat) (by rw [h]; exact hv) (33 - (i + 1).toNat)
  rw [show (i + 1).toNat + (33 - (i + 1).toNat) = 33 by omega] at e
  unfold kwV
  rw [e, h, if_neg hv]
section WFS
variable {r : Int → Int} {n a z c w k s : Int}
theorem wf_1 (h : c = 32) (g : s ≠ 0 ∧ k = z) : wfS r n a z c (w, k, s, -2) = (w, k, s, w) := (if_neg (fun q => q rfl)).trans ((if_pos h).trans (if_pos g))
theorem wf_2 (h : c = 32) (g : ¬ (s ≠ 0 ∧ k = z)) : wfS r n a z c (w, k, s, -2) = (w + 1, a, 1, -2) := (if_neg (fun q => q rfl)).trans ((if_pos h).trans (if_neg g))
theorem wf_3 (h : c ≠ 32) : wfS r n a z c (w, k, s, -2) = (w, k + 1, (if s ≠ 0 ∧ k < z ∧ b0 r n k = c then 1 else 0), -2) := (if_neg (fun q => q rfl)).trans (if_neg h)
end WFS
def wdV (r : Int → Int) (n : Int) (K : Int × Int × Int) : Int := if K.1 = 1 then kwV r n K.2.1 K.2.2 else -1

theorem dX12_isLetter_0 : decode cX12_isLetter 0 = .ok (.iload_n 0, 1) := by decide +kernel
theorem dX12_isLetter_1 : decode cX12_isLetter 1 = .ok (.bipush 97, 2) := by decide +kernel
theorem dX12_isLetter_3 : decode cX12_isLetter 3 = .ok (.if_icmp .lt 13, 3) := by decide +kernel
theorem dX12_isLetter_6 : decode cX12_isLetter 6 = .ok (.iload_n 0, 1) := by decide +kernel
theorem dX12_isLetter_7 : decode cX12_isLetter 7 = .ok (.bipush 122, 2) := by decide +kernel
theorem dX12_isLetter_9 : decode cX12_isLetter 9 = .ok (.if_icmp .gt 7, 3) := by decide +kernel
theorem dX12_isLetter_12 : decode cX12_isLetter 12 = .ok (.iconst 1, 1) := by decide +kernel
theorem dX12_isLetter_13 : decode cX12_isLetter 13 = .ok (.goto 4, 3) := by decide +kernel
theorem dX12_isLetter_16 : decode cX12_isLetter 16 = .ok (.iconst 0, 1) := by decide +kernel
theorem dX12_isLetter_17 : decode cX12_isLetter 17 = .ok (.ireturn, 1) := by decide +kernel
set_option maxHeartbeats 400000 in
theorem c12_isLetter {G : Gl} {l : Launch}  {M : Mem} {v : Int}  : Ct G LY 82 l 0 m12_isLetter [vI v] M (Ret (vI (bP (ltP v))) M) := by
  refine R_start (by decide +kernel) (Nat.le_of_ble_eq_true rfl) (fun C hC hRm hlau => ?_)
  show RZ G LY C (Zn G LY 82 C (Ret (vI (bP (ltP v))) M)) 0 0 82 0 [some (vI v)] [] M
  refine R_iload_0 hC dX12_isLetter_0 ?_
  refine R_bipush hC dX12_isLetter_1 (by decide +kernel) ⟨by decide, by decide⟩ ?_
  refine R_icmp_lt hC dX12_isLetter_3 (tgt := 16) (by decide) (fun hb3 => ?_) (fun hb3 => ?_)
  · skip
    refine R_iconst hC dX12_isLetter_16 ⟨by decide, by decide⟩ ?_
    exact R_zreturn hC dX12_isLetter_17 rfl (.inl rfl) (ret_f (by unfold ltP; omega))
  · skip
    refine R_iload_0 hC dX12_isLetter_6 ?_
    refine R_bipush hC dX12_isLetter_7 (by decide +kernel) ⟨by decide, by decide⟩ ?_
    refine R_icmp_gt hC dX12_isLetter_9 (tgt := 16) (by decide) (fun hb9 => ?_) (fun hb9 => ?_)
    · skip
      refine R_iconst hC dX12_isLetter_16 ⟨by decide, by decide⟩ ?_
      exact R_zreturn hC dX12_isLetter_17 rfl (.inl rfl) (ret_f (by unfold ltP; omega))
    · skip
      refine R_iconst hC dX12_isLetter_12 ⟨by decide, by decide⟩ ?_
      refine R_goto hC dX12_isLetter_13 (tgt := 17) (by decide) ?_
      exact R_zreturn hC dX12_isLetter_17 rfl (.inr rfl) (ret_t (by unfold ltP; omega))
theorem dX12_byteAt_0 : decode cX12_byteAt 0 = .ok (.iload_n 1, 1) := by decide +kernel
theorem dX12_byteAt_1 : decode cX12_byteAt 1 = .ok (.aload_n 0, 1) := by decide +kernel
theorem dX12_byteAt_2 : decode cX12_byteAt 2 = .ok (.getfield 197, 3) := by decide +kernel
theorem dX12_byteAt_5 : decode cX12_byteAt 5 = .ok (.if_icmp .ge 12, 3) := by decide +kernel
theorem dX12_byteAt_8 : decode cX12_byteAt 8 = .ok (.aload_n 0, 1) := by decide +kernel
theorem dX12_byteAt_9 : decode cX12_byteAt 9 = .ok (.getfield 22, 3) := by decide +kernel
theorem dX12_byteAt_12 : decode cX12_byteAt 12 = .ok (.iload_n 1, 1) := by decide +kernel
theorem dX12_byteAt_13 : decode cX12_byteAt 13 = .ok (.iaload, 1) := by decide +kernel
theorem dX12_byteAt_14 : decode cX12_byteAt 14 = .ok (.goto 4, 3) := by decide +kernel
theorem dX12_byteAt_17 : decode cX12_byteAt 17 = .ok (.iconst 0, 1) := by decide +kernel
theorem dX12_byteAt_18 : decode cX12_byteAt 18 = .ok (.ireturn, 1) := by decide +kernel
set_option maxHeartbeats 400000 in
theorem c12_byteAt {G : Gl} {l : Launch}  {M : Mem} {k : Int} {n : Int} {r : Int → Int} (hG : GR M) (hn : M 57 33 = n) (htp : ∀ k, 0 ≤ k → k < n → M 62 k = r k % 2 ^ 8) (hn0 : 0 ≤ n) (hn1 : n ≤ 700) (hk0 : 0 ≤ k) : Ct G LY 82 l 0 m12_byteAt [vR 57, vI k] M (Ret (vI (b0 r n k)) M) := by
  refine R_start (by decide +kernel) (Nat.le_of_ble_eq_true rfl) (fun C hC hRm hlau => ?_)
  show RZ G LY C (Zn G LY 82 C (Ret (vI (b0 r n k)) M)) 0 0 82 0 [some (vR 57), some (vI k)] [] M
  refine R_iload_1 hC dX12_byteAt_0 ?_
  refine R_aload_0 hC dX12_byteAt_1 ?_
  refine R_getIE hC dX12_byteAt_2 fl_12_197 (by decide) rfl (by decide) (by decide) (fi := 33) rfl hn ?_
  refine R_icmp_ge hC dX12_byteAt_5 (tgt := 17) (by decide) (fun hb5 => ?_) (fun hb5 => ?_)
  · skip
    refine R_iconst hC dX12_byteAt_17 ⟨by decide, by decide⟩ ?_
    exact R_ireturn hC dX12_byteAt_18 rfl (ret_I (by first | rfl | (rw [(b0_out (by omega)).1])))
  · skip
    refine R_aload_0 hC dX12_byteAt_8 ?_
    refine R_getR hC dX12_byteAt_9 fl_12_22 (by decide) rfl (by decide) (by decide) (fi := 15) rfl (r := 62) (gr_57_15 hG) ?_
    refine R_iload_1 hC dX12_byteAt_12 ?_
    refine R_ialoadE hC dX12_byteAt_13 (by decide) rfl (by omega) (by omega) ((htp k hk0 (by omega)).trans (b0_v hk0 (by omega)).symm) ?_
    refine R_goto hC dX12_byteAt_14 (tgt := 18) (by decide) ?_
    exact R_ireturn hC dX12_byteAt_18 rfl (ret_I (by first | rfl | (rw [(b0_out (by omega)).1])))
theorem dX12_wordFrom_0 : decode cX12_wordFrom 0 = .ok (.iconst 0, 1) := by decide +kernel
theorem dX12_wordFrom_1 : decode cX12_wordFrom 1 = .ok (.istore_n 3, 1) := by decide +kernel
theorem dX12_wordFrom_2 : decode cX12_wordFrom 2 = .ok (.iload_n 1, 1) := by decide +kernel
theorem dX12_wordFrom_3 : decode cX12_wordFrom 3 = .ok (.istore 4, 2) := by decide +kernel
theorem dX12_wordFrom_5 : decode cX12_wordFrom 5 = .ok (.iconst 1, 1) := by decide +kernel
theorem dX12_wordFrom_6 : decode cX12_wordFrom 6 = .ok (.istore 5, 2) := by decide +kernel
theorem dX12_wordFrom_8 : decode cX12_wordFrom 8 = .ok (.iconst 0, 1) := by decide +kernel
theorem dX12_wordFrom_9 : decode cX12_wordFrom 9 = .ok (.istore 6, 2) := by decide +kernel
theorem dX12_wordFrom_11 : decode cX12_wordFrom 11 = .ok (.iload 6, 2) := by decide +kernel
theorem dX12_wordFrom_13 : decode cX12_wordFrom 13 = .ok (.getstatic 200, 3) := by decide +kernel
theorem dX12_wordFrom_16 : decode cX12_wordFrom 16 = .ok (.arraylength, 1) := by decide +kernel
theorem dX12_wordFrom_17 : decode cX12_wordFrom 17 = .ok (.if_icmp .ge 81, 3) := by decide +kernel
theorem dX12_wordFrom_20 : decode cX12_wordFrom 20 = .ok (.getstatic 200, 3) := by decide +kernel
theorem dX12_wordFrom_23 : decode cX12_wordFrom 23 = .ok (.iload 6, 2) := by decide +kernel
theorem dX12_wordFrom_25 : decode cX12_wordFrom 25 = .ok (.baload, 1) := by decide +kernel
theorem dX12_wordFrom_26 : decode cX12_wordFrom 26 = .ok (.bipush 32, 2) := by decide +kernel
theorem dX12_wordFrom_28 : decode cX12_wordFrom 28 = .ok (.if_icmp .ne 28, 3) := by decide +kernel
theorem dX12_wordFrom_31 : decode cX12_wordFrom 31 = .ok (.iload 5, 2) := by decide +kernel
theorem dX12_wordFrom_33 : decode cX12_wordFrom 33 = .ok (.ifCond .eq 11, 3) := by decide +kernel
theorem dX12_wordFrom_36 : decode cX12_wordFrom 36 = .ok (.iload 4, 2) := by decide +kernel
theorem dX12_wordFrom_38 : decode cX12_wordFrom 38 = .ok (.iload_n 2, 1) := by decide +kernel
theorem dX12_wordFrom_39 : decode cX12_wordFrom 39 = .ok (.if_icmp .ne 5, 3) := by decide +kernel
theorem dX12_wordFrom_42 : decode cX12_wordFrom 42 = .ok (.iload_n 3, 1) := by decide +kernel
theorem dX12_wordFrom_43 : decode cX12_wordFrom 43 = .ok (.ireturn, 1) := by decide +kernel
theorem dX12_wordFrom_44 : decode cX12_wordFrom 44 = .ok (.iinc 3 1, 3) := by decide +kernel
theorem dX12_wordFrom_47 : decode cX12_wordFrom 47 = .ok (.iload_n 1, 1) := by decide +kernel
theorem dX12_wordFrom_48 : decode cX12_wordFrom 48 = .ok (.istore 4, 2) := by decide +kernel
theorem dX12_wordFrom_50 : decode cX12_wordFrom 50 = .ok (.iconst 1, 1) := by decide +kernel
theorem dX12_wordFrom_51 : decode cX12_wordFrom 51 = .ok (.istore 5, 2) := by decide +kernel
theorem dX12_wordFrom_53 : decode cX12_wordFrom 53 = .ok (.goto 39, 3) := by decide +kernel
theorem dX12_wordFrom_56 : decode cX12_wordFrom 56 = .ok (.iload 5, 2) := by decide +kernel
theorem dX12_wordFrom_58 : decode cX12_wordFrom 58 = .ok (.ifCond .eq 28, 3) := by decide +kernel
theorem dX12_wordFrom_61 : decode cX12_wordFrom 61 = .ok (.iload 4, 2) := by decide +kernel
theorem dX12_wordFrom_63 : decode cX12_wordFrom 63 = .ok (.iload_n 2, 1) := by decide +kernel
theorem dX12_wordFrom_64 : decode cX12_wordFrom 64 = .ok (.if_icmp .ge 22, 3) := by decide +kernel
theorem dX12_wordFrom_67 : decode cX12_wordFrom 67 = .ok (.aload_n 0, 1) := by decide +kernel
theorem dX12_wordFrom_68 : decode cX12_wordFrom 68 = .ok (.iload 4, 2) := by decide +kernel
theorem dX12_wordFrom_70 : decode cX12_wordFrom 70 = .ok (.invokevirtual 204, 3) := by decide +kernel
theorem dX12_wordFrom_73 : decode cX12_wordFrom 73 = .ok (.getstatic 200, 3) := by decide +kernel
theorem dX12_wordFrom_76 : decode cX12_wordFrom 76 = .ok (.iload 6, 2) := by decide +kernel
theorem dX12_wordFrom_78 : decode cX12_wordFrom 78 = .ok (.baload, 1) := by decide +kernel
theorem dX12_wordFrom_79 : decode cX12_wordFrom 79 = .ok (.if_icmp .ne 7, 3) := by decide +kernel
theorem dX12_wordFrom_82 : decode cX12_wordFrom 82 = .ok (.iconst 1, 1) := by decide +kernel
theorem dX12_wordFrom_83 : decode cX12_wordFrom 83 = .ok (.goto 4, 3) := by decide +kernel
theorem dX12_wordFrom_86 : decode cX12_wordFrom 86 = .ok (.iconst 0, 1) := by decide +kernel
theorem dX12_wordFrom_87 : decode cX12_wordFrom 87 = .ok (.istore 5, 2) := by decide +kernel
theorem dX12_wordFrom_89 : decode cX12_wordFrom 89 = .ok (.iinc 4 1, 3) := by decide +kernel
theorem dX12_wordFrom_92 : decode cX12_wordFrom 92 = .ok (.iinc 6 1, 3) := by decide +kernel
theorem dX12_wordFrom_95 : decode cX12_wordFrom 95 = .ok (.goto (-84), 3) := by decide +kernel
theorem dX12_wordFrom_98 : decode cX12_wordFrom 98 = .ok (.iconst (-1), 1) := by decide +kernel
theorem dX12_wordFrom_99 : decode cX12_wordFrom 99 = .ok (.ireturn, 1) := by decide +kernel
set_option maxHeartbeats 400000 in
theorem c12_wordFrom {G : Gl} {l : Launch}  {M : Mem} {a z : Int} {n : Int} {r : Int → Int} (hG : GR M) (hn : M 57 33 = n) (htp : ∀ k, 0 ≤ k → k < n → M 62 k = r k % 2 ^ 8) (hn0 : 0 ≤ n) (hn1 : n ≤ 700) (ha0 : 0 ≤ a) (ha1 : a ≤ 1000) (hz1 : z ≤ 1000) : Ct G LY 82 l 1 m12_wordFrom [vR 57, vI a, vI z] M (Ret (vI (kwV r n a z)) M) := by
  refine R_start (by decide +kernel) (Nat.le_of_ble_eq_true rfl) (fun C hC hRm hlau => ?_)
  show RZ G LY C (Zn G LY 82 C (Ret (vI (kwV r n a z)) M)) 0 0 82 0 [some (vR 57), some (vI a), some (vI z), none, none, none, none] [] M
  refine R_iconst hC dX12_wordFrom_0 ⟨by decide, by decide⟩ ?_
  refine R_istore_3 hC dX12_wordFrom_1 rfl ?_
  refine R_iload_1 hC dX12_wordFrom_2 ?_
  refine R_istore_4 hC dX12_wordFrom_3 rfl ?_
  refine R_iconst hC dX12_wordFrom_5 ⟨by decide, by decide⟩ ?_
  refine R_istore_5 hC dX12_wordFrom_6 rfl ?_
  refine R_iconst hC dX12_wordFrom_8 ⟨by decide, by decide⟩ ?_
  refine R_istore_6 hC dX12_wordFrom_9 rfl ?_
  have L11 : ∀ (mq : Nat) (w : Int) (k : Int) (s : Int) (i : Int), (0 ≤ i) → (i ≤ 33) → (0 ≤ w) → (w ≤ i) → (a ≤ k) → (k ≤ a + i) → (kwF r n a z i.toNat = (w, k, s, -2)) → (33 - i).toNat < mq → RZ G LY C (Zn G LY 82 C (Ret (vI (kwV r n a z)) M)) 0 0 82 11 [some (vR 57), some (vI a), some (vI z), some (vI w), some (vI k), some (vI s), some (vI i)] [] M := by
    intro mq
    induction mq with
    | zero =>
      intro w k s i hi0 hi1 hw0 hw1 hk0 hk1 hE hm
      exact absurd hm (Nat.not_lt_zero _)
    | succ mq ih11 =>
      intro w k s i hi0 hi1 hw0 hw1 hk0 hk1 hE hm11
      refine R_iload_6 hC dX12_wordFrom_11 ?_
      refine R_knG hC dX12_wordFrom_13 rfl ?_
      refine R_knL hC dX12_wordFrom_16 ?_
      refine R_icmp_ge hC dX12_wordFrom_17 (tgt := 98) (by decide) (fun hb17 => ?_) (fun hb17 => ?_)
      · skip
        refine R_iconst hC dX12_wordFrom_98 ⟨by decide, by decide⟩ ?_
        exact R_ireturn hC dX12_wordFrom_99 rfl (ret_I (by (unfold kwV; rw [show (33 : Nat) = i.toNat by omega, hE]; rfl)))
      · skip
        refine R_knG hC dX12_wordFrom_20 rfl ?_
        refine R_iload_6 hC dX12_wordFrom_23 ?_
        refine R_knB hC dX12_wordFrom_25 (by omega) (by omega) ?_
        refine R_bipush hC dX12_wordFrom_26 (by decide +kernel) ⟨by decide, by decide⟩ ?_
        refine R_icmp_ne hC dX12_wordFrom_28 (tgt := 56) (by decide) (fun hb28 => ?_) (fun hb28 => ?_)
        · skip
          refine R_iload_5 hC dX12_wordFrom_56 ?_
          refine R_if_eq hC dX12_wordFrom_58 (tgt := 86) (by decide) (fun hb58 => ?_) (fun hb58 => ?_)
          · skip
            have hnx : (if s ≠ 0 ∧ k < z ∧ b0 r n k = knV i then (1 : Int) else 0) = 0 := if_neg (fun q => q.1 hb58)
            refine R_iconst hC dX12_wordFrom_86 ⟨by decide, by decide⟩ ?_
            refine R_istore_5 hC dX12_wordFrom_87 rfl ?_
            refine R_iinc_4 hC dX12_wordFrom_89 rfl ⟨by omega, by omega⟩ ?_
            refine R_iinc_6 hC dX12_wordFrom_92 rfl ⟨by omega, by omega⟩ ?_
            refine R_goto hC dX12_wordFrom_95 (tgt := 11) (by decide) ?_
            exact ih11 _ _ _ _ (by omega) (by omega) (by omega) (by omega) (by omega) (by omega) (by (rw [kwF_s hi0 rfl, hE]; first | exact wf_2 hb28 hng | exact (wf_3 hb28).trans (by rw [hnx]))) (by omega)
          · skip
            refine R_iload_4 hC dX12_wordFrom_61 ?_
            refine R_iload_2 hC dX12_wordFrom_63 ?_
            refine R_icmp_ge hC dX12_wordFrom_64 (tgt := 86) (by decide) (fun hb64 => ?_) (fun hb64 => ?_)
            · skip
              have hnx : (if s ≠ 0 ∧ k < z ∧ b0 r n k = knV i then (1 : Int) else 0) = 0 := if_neg (fun q => by omega)
              refine R_iconst hC dX12_wordFrom_86 ⟨by decide, by decide⟩ ?_
              refine R_istore_5 hC dX12_wordFrom_87 rfl ?_
              refine R_iinc_4 hC dX12_wordFrom_89 rfl ⟨by omega, by omega⟩ ?_
              refine R_iinc_6 hC dX12_wordFrom_92 rfl ⟨by omega, by omega⟩ ?_
              refine R_goto hC dX12_wordFrom_95 (tgt := 11) (by decide) ?_
              exact ih11 _ _ _ _ (by omega) (by omega) (by omega) (by omega) (by omega) (by omega) (by (rw [kwF_s hi0 rfl, hE]; first | exact wf_2 hb28 hng | exact (wf_3 hb28).trans (by rw [hnx]))) (by omega)
            · skip
              refine R_aload_0 hC dX12_wordFrom_67 ?_
              refine R_iload_4 hC dX12_wordFrom_68 ?_
              refine R_callVq (as := [vI _]) hC dX12_wordFrom_70 mo_12_byteAt ml_12_204 (by decide) rfl rfl (c12_byteAt  hG hn htp (by omega) (by omega) (by omega)) rfl rfl hRm (by decide) (by decide) (Nat.le_of_ble_eq_true rfl) ?_
              refine R_knG hC dX12_wordFrom_73 rfl ?_
              refine R_iload_6 hC dX12_wordFrom_76 ?_
              refine R_knB hC dX12_wordFrom_78 (by omega) (by omega) ?_
              refine R_icmp_ne hC dX12_wordFrom_79 (tgt := 86) (by decide) (fun hb79 => ?_) (fun hb79 => ?_)
              · skip
                have hnx : (if s ≠ 0 ∧ k < z ∧ b0 r n k = knV i then (1 : Int) else 0) = 0 := if_neg (fun q => hb79 q.2.2)
                refine R_iconst hC dX12_wordFrom_86 ⟨by decide, by decide⟩ ?_
                refine R_istore_5 hC dX12_wordFrom_87 rfl ?_
                refine R_iinc_4 hC dX12_wordFrom_89 rfl ⟨by omega, by omega⟩ ?_
                refine R_iinc_6 hC dX12_wordFrom_92 rfl ⟨by omega, by omega⟩ ?_
                refine R_goto hC dX12_wordFrom_95 (tgt := 11) (by decide) ?_
                exact ih11 _ _ _ _ (by omega) (by omega) (by omega) (by omega) (by omega) (by omega) (by (rw [kwF_s hi0 rfl, hE]; first | exact wf_2 hb28 hng | exact (wf_3 hb28).trans (by rw [hnx]))) (by omega)
              · skip
                have hnx : (if s ≠ 0 ∧ k < z ∧ b0 r n k = knV i then (1 : Int) else 0) = 1 := if_pos ⟨hb58, by omega, hb79⟩
                refine R_iconst hC dX12_wordFrom_82 ⟨by decide, by decide⟩ ?_
                refine R_goto hC dX12_wordFrom_83 (tgt := 87) (by decide) ?_
                refine R_istore_5 hC dX12_wordFrom_87 rfl ?_
                refine R_iinc_4 hC dX12_wordFrom_89 rfl ⟨by omega, by omega⟩ ?_
                refine R_iinc_6 hC dX12_wordFrom_92 rfl ⟨by omega, by omega⟩ ?_
                refine R_goto hC dX12_wordFrom_95 (tgt := 11) (by decide) ?_
                exact ih11 _ _ _ _ (by omega) (by omega) (by omega) (by omega) (by omega) (by omega) (by (rw [kwF_s hi0 rfl, hE]; first | exact wf_2 hb28 hng | exact (wf_3 hb28).trans (by rw [hnx]))) (by omega)
        · skip
          refine R_iload_5 hC dX12_wordFrom_31 ?_
          refine R_if_eq hC dX12_wordFrom_33 (tgt := 44) (by decide) (fun hb33 => ?_) (fun hb33 => ?_)
          · skip
            have hng : ¬ (s ≠ 0 ∧ k = z) := fun q => q.1 hb33
            refine R_iinc_3 hC dX12_wordFrom_44 rfl ⟨by omega, by omega⟩ ?_
            refine R_iload_1 hC dX12_wordFrom_47 ?_
            refine R_istore_4 hC dX12_wordFrom_48 rfl ?_
            refine R_iconst hC dX12_wordFrom_50 ⟨by decide, by decide⟩ ?_
            refine R_istore_5 hC dX12_wordFrom_51 rfl ?_
            refine R_goto hC dX12_wordFrom_53 (tgt := 92) (by decide) ?_
            refine R_iinc_6 hC dX12_wordFrom_92 rfl ⟨by omega, by omega⟩ ?_
            refine R_goto hC dX12_wordFrom_95 (tgt := 11) (by decide) ?_
            exact ih11 _ _ _ _ (by omega) (by omega) (by omega) (by omega) (by omega) (by omega) (by (rw [kwF_s hi0 rfl, hE]; first | exact wf_2 hb28 hng | exact (wf_3 hb28).trans (by rw [hnx]))) (by omega)
          · skip
            refine R_iload_4 hC dX12_wordFrom_36 ?_
            refine R_iload_2 hC dX12_wordFrom_38 ?_
            refine R_icmp_ne hC dX12_wordFrom_39 (tgt := 44) (by decide) (fun hb39 => ?_) (fun hb39 => ?_)
            · skip
              have hng : ¬ (s ≠ 0 ∧ k = z) := fun q => hb39 q.2
              refine R_iinc_3 hC dX12_wordFrom_44 rfl ⟨by omega, by omega⟩ ?_
              refine R_iload_1 hC dX12_wordFrom_47 ?_
              refine R_istore_4 hC dX12_wordFrom_48 rfl ?_
              refine R_iconst hC dX12_wordFrom_50 ⟨by decide, by decide⟩ ?_
              refine R_istore_5 hC dX12_wordFrom_51 rfl ?_
              refine R_goto hC dX12_wordFrom_53 (tgt := 92) (by decide) ?_
              refine R_iinc_6 hC dX12_wordFrom_92 rfl ⟨by omega, by omega⟩ ?_
              refine R_goto hC dX12_wordFrom_95 (tgt := 11) (by decide) ?_
              exact ih11 _ _ _ _ (by omega) (by omega) (by omega) (by omega) (by omega) (by omega) (by (rw [kwF_s hi0 rfl, hE]; first | exact wf_2 hb28 hng | exact (wf_3 hb28).trans (by rw [hnx]))) (by omega)
            · skip
              refine R_iload_3 hC dX12_wordFrom_42 ?_
              exact R_ireturn hC dX12_wordFrom_43 rfl (ret_I (kwV_f hi0 (by omega) (by rw [kwF_s hi0 rfl, hE, wf_1 hb28 ⟨hb33, hb39⟩]) (by omega)).symm)
  exact L11 _ _ _ _ _ (by omega) (by omega) (by omega) (by omega) (by omega) (by omega) rfl (Nat.lt_succ_self _)
