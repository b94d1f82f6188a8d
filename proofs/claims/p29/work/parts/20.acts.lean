/-! ACTS and all that an IMAGE keeps -/
def slt (f a : Int) : Int := if f + a < 40 then f + a else f + a - 40
theorem slt_bd {f a : Int} (f0 : 0 ≤ f) (f1 : f < 40) (a0 : 0 ≤ a) (a1 : a < 40) : 0 ≤ slt f a ∧ slt f a < 40 := by
  unfold slt
  split <;> omega
def nfF (f n : Int) : Int := if 40 ≤ n then (if f + 1 < 40 then f + 1 else 0) else f
def nnF (n : Int) : Int := if 40 ≤ n then 39 else n
/-- one cell put back -/
def pbR (P B : Int → Int) (d : Int → Int) (e : Int) : Int → Int := if 0 ≤ P e ∧ P e < 123 then upd1 d (P e) (B e) else d
/-- an act undone -/
def unR (P B T : Int → Int) (s : Int) (d : Int → Int) : Int → Int := wdR (pbR P B (pbR P B d (2 * s)) (2 * s + 1)) (T s) 1
theorem cp_at {M : Mem} {hd hs : Nat} {n k : Int} (k0 : 0 ≤ k) (k1 : k < n) : cpM M hd 0 hs 0 n hd k = M hs k := by
  unfold cpM
  rw [if_pos ⟨rfl, k0, by omega⟩]
  congr 1
  omega
theorem Fr.at2 {A : List Nat} {B : List (Nat × Int)} {M M1 : Mem} (h1 : Fr A B M M1) {h : Nat} {k : Int} (ha : h ∉ A) (hb : ∀ q ∈ B, q.1 ≠ h) : M1 h k = M h k := congrFun (h1.row ha hb) k

theorem dX0_clear_0 : decode cX0_clear 0 = .ok (.aload_n 0, 1) := by decide +kernel
theorem dX0_clear_1 : decode cX0_clear 1 = .ok (.iconst 0, 1) := by decide +kernel
theorem dX0_clear_2 : decode cX0_clear 2 = .ok (.putfield 22, 3) := by decide +kernel
theorem dX0_clear_5 : decode cX0_clear 5 = .ok (.aload_n 0, 1) := by decide +kernel
theorem dX0_clear_6 : decode cX0_clear 6 = .ok (.iconst 0, 1) := by decide +kernel
theorem dX0_clear_7 : decode cX0_clear 7 = .ok (.putfield 26, 3) := by decide +kernel
theorem dX0_clear_10 : decode cX0_clear 10 = .ok (.return_, 1) := by decide +kernel
set_option maxHeartbeats 400000 in
theorem c0_clear {G : Gl} {l : Launch}  {M : Mem}  (hG : GR M) : Ct G LY 57 l 0 m0_clear [vR 5] M (RV (fun M' => Fr [] [(5, 3), (5, 4)] M M' ∧ M' 5 3 = 0 ∧ M' 5 4 = 0)) := by
  refine R_start (by decide +kernel) (Nat.le_of_ble_eq_true rfl) (fun C hC hRm hlau => ?_)
  show RZ G LY C (Zn G LY 57 C (RV (fun M' => Fr [] [(5, 3), (5, 4)] M M' ∧ M' 5 3 = 0 ∧ M' 5 4 = 0))) 0 0 57 0 [some (vR 5)] [] M
  refine R_aload_0 hC dX0_clear_0 ?_
  refine R_iconst hC dX0_clear_1 ⟨by decide, by decide⟩ ?_
  refine R_putI hC dX0_clear_2 fl_0_22 (by decide) rfl (by decide) (by decide) (fi := 3) rfl ?_
  refine R_aload_0 hC dX0_clear_5 ?_
  refine R_iconst hC dX0_clear_6 ⟨by decide, by decide⟩ ?_
  refine R_putI hC dX0_clear_7 fl_0_26 (by decide) rfl (by decide) (by decide) (fi := 4) rfl ?_
  exact R_return hC dX0_clear_10 rfl (ret_V ⟨Fr.uB (Fr.uB Fr.rf (by decide)) (by decide), (uM_k (by decide)).trans uM_same, uM_same⟩)
theorem dX0_slot_0 : decode cX0_slot 0 = .ok (.aload_n 0, 1) := by decide +kernel
theorem dX0_slot_1 : decode cX0_slot 1 = .ok (.getfield 22, 3) := by decide +kernel
theorem dX0_slot_4 : decode cX0_slot 4 = .ok (.iload_n 1, 1) := by decide +kernel
theorem dX0_slot_5 : decode cX0_slot 5 = .ok (.iadd, 1) := by decide +kernel
theorem dX0_slot_6 : decode cX0_slot 6 = .ok (.istore_n 2, 1) := by decide +kernel
theorem dX0_slot_7 : decode cX0_slot 7 = .ok (.iload_n 2, 1) := by decide +kernel
theorem dX0_slot_8 : decode cX0_slot 8 = .ok (.bipush 40, 2) := by decide +kernel
theorem dX0_slot_10 : decode cX0_slot 10 = .ok (.if_icmp .ge 7, 3) := by decide +kernel
theorem dX0_slot_13 : decode cX0_slot 13 = .ok (.iload_n 2, 1) := by decide +kernel
theorem dX0_slot_14 : decode cX0_slot 14 = .ok (.goto 7, 3) := by decide +kernel
theorem dX0_slot_17 : decode cX0_slot 17 = .ok (.iload_n 2, 1) := by decide +kernel
theorem dX0_slot_18 : decode cX0_slot 18 = .ok (.bipush 40, 2) := by decide +kernel
theorem dX0_slot_20 : decode cX0_slot 20 = .ok (.isub, 1) := by decide +kernel
theorem dX0_slot_21 : decode cX0_slot 21 = .ok (.ireturn, 1) := by decide +kernel
set_option maxHeartbeats 400000 in
theorem c0_slot {G : Gl} {l : Launch}  {M : Mem} {f a : Int} (hG : GR M) (hf : M 5 3 = f) (hf0 : 0 ≤ f) (hf1 : f < 40) (ha0 : 0 ≤ a) (ha1 : a < 40) : Ct G LY 57 l 0 m0_slot [vR 5, vI a] M (Ret (vI (slt f a)) M) := by
  refine R_start (by decide +kernel) (Nat.le_of_ble_eq_true rfl) (fun C hC hRm hlau => ?_)
  show RZ G LY C (Zn G LY 57 C (Ret (vI (slt f a)) M)) 0 0 57 0 [some (vR 5), some (vI a), none] [] M
  refine R_aload_0 hC dX0_slot_0 ?_
  refine R_getI hC dX0_slot_1 fl_0_22 (by decide) rfl (by decide) (by decide) (fi := 3) rfl ?_
  refine R_iload_1 hC dX0_slot_4 ?_
  refine R_iadd hC dX0_slot_5 ⟨by omega, by omega⟩ ?_
  refine R_istore_2 hC dX0_slot_6 rfl ?_
  refine R_iload_2 hC dX0_slot_7 ?_
  refine R_bipush hC dX0_slot_8 (by decide +kernel) ⟨by decide, by decide⟩ ?_
  refine R_icmp_ge hC dX0_slot_10 (tgt := 17) (by decide) (fun hb10 => ?_) (fun hb10 => ?_)
  · skip
    refine R_iload_2 hC dX0_slot_17 ?_
    refine R_bipush hC dX0_slot_18 (by decide +kernel) ⟨by decide, by decide⟩ ?_
    refine R_isub hC dX0_slot_20 ⟨by omega, by omega⟩ ?_
    exact R_ireturn hC dX0_slot_21 rfl (ret_I (by unfold slt; first | (rw [if_pos (by omega)]; omega) | (rw [if_neg (by omega)]; omega)))
  · skip
    refine R_iload_2 hC dX0_slot_13 ?_
    refine R_goto hC dX0_slot_14 (tgt := 21) (by decide) ?_
    exact R_ireturn hC dX0_slot_21 rfl (ret_I (by unfold slt; first | (rw [if_pos (by omega)]; omega) | (rw [if_neg (by omega)]; omega)))
theorem dX0_add_0 : decode cX0_add 0 = .ok (.aload_n 0, 1) := by decide +kernel
theorem dX0_add_1 : decode cX0_add 1 = .ok (.getfield 26, 3) := by decide +kernel
theorem dX0_add_4 : decode cX0_add 4 = .ok (.bipush 40, 2) := by decide +kernel
theorem dX0_add_6 : decode cX0_add 6 = .ok (.if_icmp .lt 34, 3) := by decide +kernel
theorem dX0_add_9 : decode cX0_add 9 = .ok (.aload_n 0, 1) := by decide +kernel
theorem dX0_add_10 : decode cX0_add 10 = .ok (.aload_n 0, 1) := by decide +kernel
theorem dX0_add_11 : decode cX0_add 11 = .ok (.getfield 22, 3) := by decide +kernel
theorem dX0_add_14 : decode cX0_add 14 = .ok (.iconst 1, 1) := by decide +kernel
theorem dX0_add_15 : decode cX0_add 15 = .ok (.iadd, 1) := by decide +kernel
theorem dX0_add_16 : decode cX0_add 16 = .ok (.bipush 40, 2) := by decide +kernel
theorem dX0_add_18 : decode cX0_add 18 = .ok (.if_icmp .ge 12, 3) := by decide +kernel
theorem dX0_add_21 : decode cX0_add 21 = .ok (.aload_n 0, 1) := by decide +kernel
theorem dX0_add_22 : decode cX0_add 22 = .ok (.getfield 22, 3) := by decide +kernel
theorem dX0_add_25 : decode cX0_add 25 = .ok (.iconst 1, 1) := by decide +kernel
theorem dX0_add_26 : decode cX0_add 26 = .ok (.iadd, 1) := by decide +kernel
theorem dX0_add_27 : decode cX0_add 27 = .ok (.goto 4, 3) := by decide +kernel
theorem dX0_add_30 : decode cX0_add 30 = .ok (.iconst 0, 1) := by decide +kernel
theorem dX0_add_31 : decode cX0_add 31 = .ok (.putfield 22, 3) := by decide +kernel
theorem dX0_add_34 : decode cX0_add 34 = .ok (.aload_n 0, 1) := by decide +kernel
theorem dX0_add_35 : decode cX0_add 35 = .ok (.bipush 39, 2) := by decide +kernel
theorem dX0_add_37 : decode cX0_add 37 = .ok (.putfield 26, 3) := by decide +kernel
theorem dX0_add_40 : decode cX0_add 40 = .ok (.aload_n 0, 1) := by decide +kernel
theorem dX0_add_41 : decode cX0_add 41 = .ok (.aload_n 0, 1) := by decide +kernel
theorem dX0_add_42 : decode cX0_add 42 = .ok (.getfield 26, 3) := by decide +kernel
theorem dX0_add_45 : decode cX0_add 45 = .ok (.invokevirtual 35, 3) := by decide +kernel
theorem dX0_add_48 : decode cX0_add 48 = .ok (.istore 7, 2) := by decide +kernel
theorem dX0_add_50 : decode cX0_add 50 = .ok (.aload_n 0, 1) := by decide +kernel
theorem dX0_add_51 : decode cX0_add 51 = .ok (.getfield 9, 3) := by decide +kernel
theorem dX0_add_54 : decode cX0_add 54 = .ok (.iconst 2, 1) := by decide +kernel
theorem dX0_add_55 : decode cX0_add 55 = .ok (.iload 7, 2) := by decide +kernel
theorem dX0_add_57 : decode cX0_add 57 = .ok (.imul, 1) := by decide +kernel
theorem dX0_add_58 : decode cX0_add 58 = .ok (.iload_n 1, 1) := by decide +kernel
theorem dX0_add_59 : decode cX0_add 59 = .ok (.iastore, 1) := by decide +kernel
theorem dX0_add_60 : decode cX0_add 60 = .ok (.aload_n 0, 1) := by decide +kernel
theorem dX0_add_61 : decode cX0_add 61 = .ok (.getfield 15, 3) := by decide +kernel
theorem dX0_add_64 : decode cX0_add 64 = .ok (.iconst 2, 1) := by decide +kernel
theorem dX0_add_65 : decode cX0_add 65 = .ok (.iload 7, 2) := by decide +kernel
theorem dX0_add_67 : decode cX0_add 67 = .ok (.imul, 1) := by decide +kernel
theorem dX0_add_68 : decode cX0_add 68 = .ok (.iload_n 2, 1) := by decide +kernel
theorem dX0_add_69 : decode cX0_add 69 = .ok (.iastore, 1) := by decide +kernel
theorem dX0_add_70 : decode cX0_add 70 = .ok (.aload_n 0, 1) := by decide +kernel
theorem dX0_add_71 : decode cX0_add 71 = .ok (.getfield 9, 3) := by decide +kernel
theorem dX0_add_74 : decode cX0_add 74 = .ok (.iconst 2, 1) := by decide +kernel
theorem dX0_add_75 : decode cX0_add 75 = .ok (.iload 7, 2) := by decide +kernel
theorem dX0_add_77 : decode cX0_add 77 = .ok (.imul, 1) := by decide +kernel
theorem dX0_add_78 : decode cX0_add 78 = .ok (.iconst 1, 1) := by decide +kernel
theorem dX0_add_79 : decode cX0_add 79 = .ok (.iadd, 1) := by decide +kernel
theorem dX0_add_80 : decode cX0_add 80 = .ok (.iload_n 3, 1) := by decide +kernel
theorem dX0_add_81 : decode cX0_add 81 = .ok (.iastore, 1) := by decide +kernel
theorem dX0_add_82 : decode cX0_add 82 = .ok (.aload_n 0, 1) := by decide +kernel
theorem dX0_add_83 : decode cX0_add 83 = .ok (.getfield 15, 3) := by decide +kernel
theorem dX0_add_86 : decode cX0_add 86 = .ok (.iconst 2, 1) := by decide +kernel
theorem dX0_add_87 : decode cX0_add 87 = .ok (.iload 7, 2) := by decide +kernel
theorem dX0_add_89 : decode cX0_add 89 = .ok (.imul, 1) := by decide +kernel
theorem dX0_add_90 : decode cX0_add 90 = .ok (.iconst 1, 1) := by decide +kernel
theorem dX0_add_91 : decode cX0_add 91 = .ok (.iadd, 1) := by decide +kernel
theorem dX0_add_92 : decode cX0_add 92 = .ok (.iload 4, 2) := by decide +kernel
theorem dX0_add_94 : decode cX0_add 94 = .ok (.iastore, 1) := by decide +kernel
theorem dX0_add_95 : decode cX0_add 95 = .ok (.aload_n 0, 1) := by decide +kernel
theorem dX0_add_96 : decode cX0_add 96 = .ok (.getfield 18, 3) := by decide +kernel
theorem dX0_add_99 : decode cX0_add 99 = .ok (.iload 7, 2) := by decide +kernel
theorem dX0_add_101 : decode cX0_add 101 = .ok (.lload 5, 2) := by decide +kernel
theorem dX0_add_103 : decode cX0_add 103 = .ok (.lastore, 1) := by decide +kernel
theorem dX0_add_104 : decode cX0_add 104 = .ok (.aload_n 0, 1) := by decide +kernel
theorem dX0_add_105 : decode cX0_add 105 = .ok (.dup, 1) := by decide +kernel
theorem dX0_add_106 : decode cX0_add 106 = .ok (.getfield 26, 3) := by decide +kernel
theorem dX0_add_109 : decode cX0_add 109 = .ok (.iconst 1, 1) := by decide +kernel
theorem dX0_add_110 : decode cX0_add 110 = .ok (.iadd, 1) := by decide +kernel
theorem dX0_add_111 : decode cX0_add 111 = .ok (.putfield 26, 3) := by decide +kernel
theorem dX0_add_114 : decode cX0_add 114 = .ok (.return_, 1) := by decide +kernel
set_option maxHeartbeats 1000000 in
theorem c0_add {G : Gl} {l : Launch}  {M : Mem} {f n p1 b1 p2 b2 v : Int} (hG : GR M) (hf : M 5 3 = f) (hf0 : 0 ≤ f) (hf1 : f < 40) (hn : M 5 4 = n) (hn0 : 0 ≤ n) (hn1 : n ≤ 40) : Ct G LY 57 l 1 m0_add [vR 5, vI p1, vI b1, vI p2, vI b2, vL v] M (RV (fun M' => Fr [6, 7, 8] [(5, 3), (5, 4)] M M' ∧ M' 5 3 = nfF f n ∧ M' 5 4 = nnF n + 1 ∧ M' 6 = upd1 (upd1 (M 6) (2 * slt (nfF f n) (nnF n)) p1) (2 * slt (nfF f n) (nnF n) + 1) p2 ∧ M' 7 = upd1 (upd1 (M 7) (2 * slt (nfF f n) (nnF n)) b1) (2 * slt (nfF f n) (nnF n) + 1) b2 ∧ M' 8 = upd1 (M 8) (slt (nfF f n) (nnF n)) v)) := by
  refine R_start (by decide +kernel) (Nat.le_of_ble_eq_true rfl) (fun C hC hRm hlau => ?_)
  show RZ G LY C (Zn G LY 57 C (RV (fun M' => Fr [6, 7, 8] [(5, 3), (5, 4)] M M' ∧ M' 5 3 = nfF f n ∧ M' 5 4 = nnF n + 1 ∧ M' 6 = upd1 (upd1 (M 6) (2 * slt (nfF f n) (nnF n)) p1) (2 * slt (nfF f n) (nnF n) + 1) p2 ∧ M' 7 = upd1 (upd1 (M 7) (2 * slt (nfF f n) (nnF n)) b1) (2 * slt (nfF f n) (nnF n) + 1) b2 ∧ M' 8 = upd1 (M 8) (slt (nfF f n) (nnF n)) v))) 0 0 57 0 [some (vR 5), some (vI p1), some (vI b1), some (vI p2), some (vI b2), some (vL v), none, none] [] M
  refine R_aload_0 hC dX0_add_0 ?_
  refine R_getI hC dX0_add_1 fl_0_26 (by decide) rfl (by decide) (by decide) (fi := 4) rfl ?_
  refine R_bipush hC dX0_add_4 (by decide +kernel) ⟨by decide, by decide⟩ ?_
  have L40 : ∀  (M1 : Mem), (GR M1) → (Fr [] [(5, 3), (5, 4)] M M1) → (M1 5 3 = nfF f n) → (M1 5 4 = nnF n) → RZ G LY C (Zn G LY 57 C (RV (fun M' => Fr [6, 7, 8] [(5, 3), (5, 4)] M M' ∧ M' 5 3 = nfF f n ∧ M' 5 4 = nnF n + 1 ∧ M' 6 = upd1 (upd1 (M 6) (2 * slt (nfF f n) (nnF n)) p1) (2 * slt (nfF f n) (nnF n) + 1) p2 ∧ M' 7 = upd1 (upd1 (M 7) (2 * slt (nfF f n) (nnF n)) b1) (2 * slt (nfF f n) (nnF n) + 1) b2 ∧ M' 8 = upd1 (M 8) (slt (nfF f n) (nnF n)) v))) 0 0 57 40 [some (vR 5), some (vI p1), some (vI b1), some (vI p2), some (vI b2), some (vL v), none, none] [] M1 := by
    intro M1 hg hF h3 h4
    refine R_aload_0 hC dX0_add_40 ?_
    refine R_aload_0 hC dX0_add_41 ?_
    refine R_getI hC dX0_add_42 fl_0_26 (by decide) rfl (by decide) (by decide) (fi := 4) rfl ?_
    have b3 : 0 ≤ nfF f n ∧ nfF f n < 40 := by unfold nfF; split; split <;> omega; omega
    have b4 : 0 ≤ nnF n ∧ nnF n < 40 := by unfold nnF; split <;> omega
    have bs := slt_bd b3.1 b3.2 b4.1 b4.2
    rw [h4]
    refine R_callVq (as := [vI _]) hC dX0_add_45 mo_0_slot ml_0_35 (by decide) rfl rfl (c0_slot (f := (nfF f n)) hg h3 (by omega) (by omega) (by omega) (by omega)) rfl rfl hRm (by decide) (by decide) (Nat.le_of_ble_eq_true rfl) ?_
    refine R_istore_7 hC dX0_add_48 rfl ?_
    refine R_aload_0 hC dX0_add_50 ?_
    refine R_getR hC dX0_add_51 fl_0_9 (by decide) rfl (by decide) (by decide) (fi := 0) rfl (r := 6) (gr_5_0 hg) ?_
    refine R_iconst hC dX0_add_54 ⟨by decide, by decide⟩ ?_
    refine R_iload_7 hC dX0_add_55 ?_
    refine R_imul hC dX0_add_57 ⟨by omega, by omega⟩ ?_
    refine R_iload_1 hC dX0_add_58 ?_
    refine R_iastore hC dX0_add_59 (by decide) rfl (by omega) (by omega) ?_
    refine R_aload_0 hC dX0_add_60 ?_
    have hG1 : GR (uM M1 6 (2 * (slt (nfF f n) (nnF n))) p1) := (GR.uA hg (by decide +kernel) (.inl (by decide)))
    refine R_getR hC dX0_add_61 fl_0_15 (by decide) rfl (by decide) (by decide) (fi := 1) rfl (r := 7) (gr_5_1 hG1) ?_
    refine R_iconst hC dX0_add_64 ⟨by decide, by decide⟩ ?_
    refine R_iload_7 hC dX0_add_65 ?_
    refine R_imul hC dX0_add_67 ⟨by omega, by omega⟩ ?_
    refine R_iload_2 hC dX0_add_68 ?_
    refine R_iastore hC dX0_add_69 (by decide) rfl (by omega) (by omega) ?_
    refine R_aload_0 hC dX0_add_70 ?_
    have hG2 : GR (uM (uM M1 6 (2 * (slt (nfF f n) (nnF n))) p1) 7 (2 * (slt (nfF f n) (nnF n))) b1) := (GR.uA hG1 (by decide +kernel) (.inl (by decide)))
    refine R_getR hC dX0_add_71 fl_0_9 (by decide) rfl (by decide) (by decide) (fi := 0) rfl (r := 6) (gr_5_0 hG2) ?_
    refine R_iconst hC dX0_add_74 ⟨by decide, by decide⟩ ?_
    refine R_iload_7 hC dX0_add_75 ?_
    refine R_imul hC dX0_add_77 ⟨by omega, by omega⟩ ?_
    refine R_iconst hC dX0_add_78 ⟨by decide, by decide⟩ ?_
    refine R_iadd hC dX0_add_79 ⟨by omega, by omega⟩ ?_
    refine R_iload_3 hC dX0_add_80 ?_
    refine R_iastore hC dX0_add_81 (by decide) rfl (by omega) (by omega) ?_
    refine R_aload_0 hC dX0_add_82 ?_
    have hG3 : GR (uM (uM (uM M1 6 (2 * (slt (nfF f n) (nnF n))) p1) 7 (2 * (slt (nfF f n) (nnF n))) b1) 6 ((2 * (slt (nfF f n) (nnF n))) + 1) p2) := (GR.uA hG2 (by decide +kernel) (.inl (by decide)))
    refine R_getR hC dX0_add_83 fl_0_15 (by decide) rfl (by decide) (by decide) (fi := 1) rfl (r := 7) (gr_5_1 hG3) ?_
    refine R_iconst hC dX0_add_86 ⟨by decide, by decide⟩ ?_
    refine R_iload_7 hC dX0_add_87 ?_
    refine R_imul hC dX0_add_89 ⟨by omega, by omega⟩ ?_
    refine R_iconst hC dX0_add_90 ⟨by decide, by decide⟩ ?_
    refine R_iadd hC dX0_add_91 ⟨by omega, by omega⟩ ?_
    refine R_iload_4 hC dX0_add_92 ?_
    refine R_iastore hC dX0_add_94 (by decide) rfl (by omega) (by omega) ?_
    refine R_aload_0 hC dX0_add_95 ?_
    have hG4 : GR (uM (uM (uM (uM M1 6 (2 * (slt (nfF f n) (nnF n))) p1) 7 (2 * (slt (nfF f n) (nnF n))) b1) 6 ((2 * (slt (nfF f n) (nnF n))) + 1) p2) 7 ((2 * (slt (nfF f n) (nnF n))) + 1) b2) := (GR.uA hG3 (by decide +kernel) (.inl (by decide)))
    refine R_getR hC dX0_add_96 fl_0_18 (by decide) rfl (by decide) (by decide) (fi := 2) rfl (r := 8) (gr_5_2 hG4) ?_
    refine R_iload_7 hC dX0_add_99 ?_
    refine R_lload_5 hC dX0_add_101 ?_
    refine R_lastore hC dX0_add_103 (by decide) rfl (by omega) (by omega) ?_
    refine R_aload_0 hC dX0_add_104 ?_
    refine R_dup hC dX0_add_105 rfl ?_
    refine R_getIE hC dX0_add_106 fl_0_26 (by decide) rfl (by decide) (by decide) (fi := 4) rfl ((uM_h (by decide)).trans ((uM_h (by decide)).trans ((uM_h (by decide)).trans ((uM_h (by decide)).trans (uM_h (by decide)))))) ?_
    refine R_iconst hC dX0_add_109 ⟨by decide, by decide⟩ ?_
    refine R_iadd hC dX0_add_110 ⟨by omega, by omega⟩ ?_
    refine R_putI hC dX0_add_111 fl_0_26 (by decide) rfl (by decide) (by decide) (fi := 4) rfl ?_
    exact R_return hC dX0_add_114 rfl (ret_V ⟨Fr.uB (Fr.uA (Fr.uA (Fr.uA (Fr.uA (Fr.uA (hF.mo (by decide) (by decide)) (by decide)) (by decide)) (by decide)) (by decide)) (by decide)) (by decide), ((uM_k (by decide)).trans ((uM_h (by decide)).trans ((uM_h (by decide)).trans ((uM_h (by decide)).trans ((uM_h (by decide)).trans (uM_h (by decide))))))).trans h3, by (rw [uM_same, h4]), by (rw [uM_ne (by decide), uM_ne (by decide), uM_ne (by decide), uM_row, uM_ne (by decide), uM_row, hF.row (by decide) (by decide)]; rfl), by (rw [uM_ne (by decide), uM_ne (by decide), uM_row, uM_ne (by decide), uM_row, uM_ne (by decide), hF.row (by decide) (by decide)]; rfl), by (rw [uM_ne (by decide), uM_row, uM_ne (by decide), uM_ne (by decide), uM_ne (by decide), uM_ne (by decide), hF.row (by decide) (by decide)]; rfl)⟩)
  refine R_icmp_lt hC dX0_add_6 (tgt := 40) (by decide) (fun hb6 => ?_) (fun hb6 => ?_)
  · skip
    exact L40 _ hG (by first | exact Fr.rf | exact Fr.uB (Fr.uB Fr.rf (by decide)) (by decide)) (by unfold nfF; first | (rw [if_neg (by omega)]; exact hf) | (rw [if_pos (by omega), ← he]; exact (uM_k (by decide)).trans uM_same)) (by unfold nnF; first | (rw [if_neg (by omega)]; exact hn) | (rw [if_pos (by omega)]; exact uM_same))
  · skip
    refine R_aload_0 hC dX0_add_9 ?_
    refine R_aload_0 hC dX0_add_10 ?_
    refine R_getI hC dX0_add_11 fl_0_22 (by decide) rfl (by decide) (by decide) (fi := 3) rfl ?_
    refine R_iconst hC dX0_add_14 ⟨by decide, by decide⟩ ?_
    refine R_iadd hC dX0_add_15 ⟨by omega, by omega⟩ ?_
    refine R_bipush hC dX0_add_16 (by decide +kernel) ⟨by decide, by decide⟩ ?_
    have L31 : ∀ (e : Int), (e = if f + 1 < 40 then f + 1 else 0) → RZ G LY C (Zn G LY 57 C (RV (fun M' => Fr [6, 7, 8] [(5, 3), (5, 4)] M M' ∧ M' 5 3 = nfF f n ∧ M' 5 4 = nnF n + 1 ∧ M' 6 = upd1 (upd1 (M 6) (2 * slt (nfF f n) (nnF n)) p1) (2 * slt (nfF f n) (nnF n) + 1) p2 ∧ M' 7 = upd1 (upd1 (M 7) (2 * slt (nfF f n) (nnF n)) b1) (2 * slt (nfF f n) (nnF n) + 1) b2 ∧ M' 8 = upd1 (M 8) (slt (nfF f n) (nnF n)) v))) 0 0 57 31 [some (vR 5), some (vI p1), some (vI b1), some (vI p2), some (vI b2), some (vL v), none, none] [vI e, vR 5] M := by
      intro e he
      refine R_putI hC dX0_add_31 fl_0_22 (by decide) rfl (by decide) (by decide) (fi := 3) rfl ?_
      refine R_aload_0 hC dX0_add_34 ?_
      refine R_bipush hC dX0_add_35 (by decide +kernel) ⟨by decide, by decide⟩ ?_
      refine R_putI hC dX0_add_37 fl_0_26 (by decide) rfl (by decide) (by decide) (fi := 4) rfl ?_
      have hG5 : GR (uM (uM M 5 3 e) 5 4 39) := (GR.uF (GR.uF hG (by decide +kernel) (by decide)) (by decide +kernel) (by decide))
      exact L40 _ hG5 (by first | exact Fr.rf | exact Fr.uB (Fr.uB Fr.rf (by decide)) (by decide)) (by unfold nfF; first | (rw [if_neg (by omega)]; exact hf) | (rw [if_pos (by omega), ← he]; exact (uM_k (by decide)).trans uM_same)) (by unfold nnF; first | (rw [if_neg (by omega)]; exact hn) | (rw [if_pos (by omega)]; exact uM_same))
    refine R_icmp_ge hC dX0_add_18 (tgt := 30) (by decide) (fun hb18 => ?_) (fun hb18 => ?_)
    · skip
      refine R_iconst hC dX0_add_30 ⟨by decide, by decide⟩ ?_
      exact L31 _ (by first | (rw [if_pos (by omega)]; omega) | (rw [if_neg (by omega)]))
    · skip
      refine R_aload_0 hC dX0_add_21 ?_
      refine R_getI hC dX0_add_22 fl_0_22 (by decide) rfl (by decide) (by decide) (fi := 3) rfl ?_
      refine R_iconst hC dX0_add_25 ⟨by decide, by decide⟩ ?_
      refine R_iadd hC dX0_add_26 ⟨by omega, by omega⟩ ?_
      refine R_goto hC dX0_add_27 (tgt := 31) (by decide) ?_
      exact L31 _ (by first | (rw [if_pos (by omega)]; omega) | (rw [if_neg (by omega)]))
theorem dX0_putBack_0 : decode cX0_putBack 0 = .ok (.aload_n 0, 1) := by decide +kernel
theorem dX0_putBack_1 : decode cX0_putBack 1 = .ok (.getfield 9, 3) := by decide +kernel
theorem dX0_putBack_4 : decode cX0_putBack 4 = .ok (.iload_n 2, 1) := by decide +kernel
theorem dX0_putBack_5 : decode cX0_putBack 5 = .ok (.iaload, 1) := by decide +kernel
theorem dX0_putBack_6 : decode cX0_putBack 6 = .ok (.istore_n 3, 1) := by decide +kernel
theorem dX0_putBack_7 : decode cX0_putBack 7 = .ok (.iload_n 3, 1) := by decide +kernel
theorem dX0_putBack_8 : decode cX0_putBack 8 = .ok (.ifCond .lt 21, 3) := by decide +kernel
theorem dX0_putBack_11 : decode cX0_putBack 11 = .ok (.iload_n 3, 1) := by decide +kernel
theorem dX0_putBack_12 : decode cX0_putBack 12 = .ok (.bipush 123, 2) := by decide +kernel
theorem dX0_putBack_14 : decode cX0_putBack 14 = .ok (.if_icmp .ge 15, 3) := by decide +kernel
theorem dX0_putBack_17 : decode cX0_putBack 17 = .ok (.aload_n 1, 1) := by decide +kernel
theorem dX0_putBack_18 : decode cX0_putBack 18 = .ok (.getfield 48, 3) := by decide +kernel
theorem dX0_putBack_21 : decode cX0_putBack 21 = .ok (.iload_n 3, 1) := by decide +kernel
theorem dX0_putBack_22 : decode cX0_putBack 22 = .ok (.aload_n 0, 1) := by decide +kernel
theorem dX0_putBack_23 : decode cX0_putBack 23 = .ok (.getfield 15, 3) := by decide +kernel
theorem dX0_putBack_26 : decode cX0_putBack 26 = .ok (.iload_n 2, 1) := by decide +kernel
theorem dX0_putBack_27 : decode cX0_putBack 27 = .ok (.iaload, 1) := by decide +kernel
theorem dX0_putBack_28 : decode cX0_putBack 28 = .ok (.iastore, 1) := by decide +kernel
theorem dX0_putBack_29 : decode cX0_putBack 29 = .ok (.return_, 1) := by decide +kernel
set_option maxHeartbeats 400000 in
theorem c0_putBack {G : Gl} {l : Launch}  {M : Mem} {e : Int} {d : Int → Int} (hG : GR M) (hD : M 4 = d) (he0 : 0 ≤ e) (he1 : e < 80) : Ct G LY 57 l 0 m0_putBack [vR 5, vR 3, vI e] M (RV (fun M' => Fr [4] [] M M' ∧ GR M' ∧ M' 4 = pbR (M 6) (M 7) d e)) := by
  refine R_start (by decide +kernel) (Nat.le_of_ble_eq_true rfl) (fun C hC hRm hlau => ?_)
  show RZ G LY C (Zn G LY 57 C (RV (fun M' => Fr [4] [] M M' ∧ GR M' ∧ M' 4 = pbR (M 6) (M 7) d e))) 0 0 57 0 [some (vR 5), some (vR 3), some (vI e), none] [] M
  refine R_aload_0 hC dX0_putBack_0 ?_
  refine R_getR hC dX0_putBack_1 fl_0_9 (by decide) rfl (by decide) (by decide) (fi := 0) rfl (r := 6) (gr_5_0 hG) ?_
  refine R_iload_2 hC dX0_putBack_4 ?_
  refine R_iaload hC dX0_putBack_5 (by decide) rfl (by omega) (by omega) ?_
  refine R_istore_3 hC dX0_putBack_6 rfl ?_
  refine R_iload_3 hC dX0_putBack_7 ?_
  refine R_if_lt hC dX0_putBack_8 (tgt := 29) (by decide) (fun hb8 => ?_) (fun hb8 => ?_)
  · skip
    exact R_return hC dX0_putBack_29 rfl (ret_V ⟨by first | exact Fr.rf | exact Fr.uA Fr.rf (by decide), hG, by unfold pbR; first | (rw [if_neg (by omega)]; exact hD) | (rw [if_pos (by omega), uM_row, hD]; rfl)⟩)
  · skip
    refine R_iload_3 hC dX0_putBack_11 ?_
    refine R_bipush hC dX0_putBack_12 (by decide +kernel) ⟨by decide, by decide⟩ ?_
    refine R_icmp_ge hC dX0_putBack_14 (tgt := 29) (by decide) (fun hb14 => ?_) (fun hb14 => ?_)
    · skip
      exact R_return hC dX0_putBack_29 rfl (ret_V ⟨by first | exact Fr.rf | exact Fr.uA Fr.rf (by decide), hG, by unfold pbR; first | (rw [if_neg (by omega)]; exact hD) | (rw [if_pos (by omega), uM_row, hD]; rfl)⟩)
    · skip
      refine R_aload_1 hC dX0_putBack_17 ?_
      refine R_getR hC dX0_putBack_18 fl_0_48 (by decide) rfl (by decide) (by decide) (fi := 0) rfl (r := 4) (gr_3_0 hG) ?_
      refine R_iload_3 hC dX0_putBack_21 ?_
      refine R_aload_0 hC dX0_putBack_22 ?_
      refine R_getR hC dX0_putBack_23 fl_0_15 (by decide) rfl (by decide) (by decide) (fi := 1) rfl (r := 7) (gr_5_1 hG) ?_
      refine R_iload_2 hC dX0_putBack_26 ?_
      refine R_iaload hC dX0_putBack_27 (by decide) rfl (by omega) (by omega) ?_
      refine R_iastore hC dX0_putBack_28 (by decide) rfl (by omega) (by omega) ?_
      have hG1 : GR (uM M 4 (M 6 e) (M 7 e)) := (GR.uA hG (by decide +kernel) (.inr ⟨by omega, by omega⟩))
      exact R_return hC dX0_putBack_29 rfl (ret_V ⟨by first | exact Fr.rf | exact Fr.uA Fr.rf (by decide), hG1, by unfold pbR; first | (rw [if_neg (by omega)]; exact hD) | (rw [if_pos (by omega), uM_row, hD]; rfl)⟩)
theorem dX0_undoLast_0 : decode cX0_undoLast 0 = .ok (.aload_n 0, 1) := by decide +kernel
theorem dX0_undoLast_1 : decode cX0_undoLast 1 = .ok (.getfield 26, 3) := by decide +kernel
theorem dX0_undoLast_4 : decode cX0_undoLast 4 = .ok (.ifCond .gt 4, 3) := by decide +kernel
theorem dX0_undoLast_8 : decode cX0_undoLast 8 = .ok (.aload_n 0, 1) := by decide +kernel
theorem dX0_undoLast_9 : decode cX0_undoLast 9 = .ok (.dup, 1) := by decide +kernel
theorem dX0_undoLast_10 : decode cX0_undoLast 10 = .ok (.getfield 26, 3) := by decide +kernel
theorem dX0_undoLast_13 : decode cX0_undoLast 13 = .ok (.iconst 1, 1) := by decide +kernel
theorem dX0_undoLast_14 : decode cX0_undoLast 14 = .ok (.isub, 1) := by decide +kernel
theorem dX0_undoLast_15 : decode cX0_undoLast 15 = .ok (.putfield 26, 3) := by decide +kernel
theorem dX0_undoLast_18 : decode cX0_undoLast 18 = .ok (.aload_n 0, 1) := by decide +kernel
theorem dX0_undoLast_19 : decode cX0_undoLast 19 = .ok (.aload_n 0, 1) := by decide +kernel
theorem dX0_undoLast_20 : decode cX0_undoLast 20 = .ok (.getfield 26, 3) := by decide +kernel
theorem dX0_undoLast_23 : decode cX0_undoLast 23 = .ok (.invokevirtual 35, 3) := by decide +kernel
theorem dX0_undoLast_26 : decode cX0_undoLast 26 = .ok (.istore_n 2, 1) := by decide +kernel
theorem dX0_undoLast_27 : decode cX0_undoLast 27 = .ok (.aload_n 0, 1) := by decide +kernel
theorem dX0_undoLast_28 : decode cX0_undoLast 28 = .ok (.aload_n 1, 1) := by decide +kernel
theorem dX0_undoLast_29 : decode cX0_undoLast 29 = .ok (.iconst 2, 1) := by decide +kernel
theorem dX0_undoLast_30 : decode cX0_undoLast 30 = .ok (.iload_n 2, 1) := by decide +kernel
theorem dX0_undoLast_31 : decode cX0_undoLast 31 = .ok (.imul, 1) := by decide +kernel
theorem dX0_undoLast_32 : decode cX0_undoLast 32 = .ok (.invokevirtual 39, 3) := by decide +kernel
theorem dX0_undoLast_35 : decode cX0_undoLast 35 = .ok (.aload_n 0, 1) := by decide +kernel
theorem dX0_undoLast_36 : decode cX0_undoLast 36 = .ok (.aload_n 1, 1) := by decide +kernel
theorem dX0_undoLast_37 : decode cX0_undoLast 37 = .ok (.iconst 2, 1) := by decide +kernel
theorem dX0_undoLast_38 : decode cX0_undoLast 38 = .ok (.iload_n 2, 1) := by decide +kernel
theorem dX0_undoLast_39 : decode cX0_undoLast 39 = .ok (.imul, 1) := by decide +kernel
theorem dX0_undoLast_40 : decode cX0_undoLast 40 = .ok (.iconst 1, 1) := by decide +kernel
theorem dX0_undoLast_41 : decode cX0_undoLast 41 = .ok (.iadd, 1) := by decide +kernel
theorem dX0_undoLast_42 : decode cX0_undoLast 42 = .ok (.invokevirtual 39, 3) := by decide +kernel
theorem dX0_undoLast_45 : decode cX0_undoLast 45 = .ok (.aload_n 1, 1) := by decide +kernel
theorem dX0_undoLast_46 : decode cX0_undoLast 46 = .ok (.aload_n 0, 1) := by decide +kernel
theorem dX0_undoLast_47 : decode cX0_undoLast 47 = .ok (.getfield 18, 3) := by decide +kernel
theorem dX0_undoLast_50 : decode cX0_undoLast 50 = .ok (.iload_n 2, 1) := by decide +kernel
theorem dX0_undoLast_51 : decode cX0_undoLast 51 = .ok (.laload, 1) := by decide +kernel
theorem dX0_undoLast_52 : decode cX0_undoLast 52 = .ok (.invokevirtual 43, 3) := by decide +kernel
theorem dX0_undoLast_55 : decode cX0_undoLast 55 = .ok (.return_, 1) := by decide +kernel
set_option maxHeartbeats 400000 in
theorem c0_undoLast {G : Gl} {l : Launch}  {M : Mem} {f n : Int} {d : Int → Int} (hG : GR M) (hD : M 4 = d) (hf : M 5 3 = f) (hf0 : 0 ≤ f) (hf1 : f < 40) (hn : M 5 4 = n) (hn0 : 0 < n) (hn1 : n ≤ 40) (hB2 : SB (pbR (M 6) (M 7) (pbR (M 6) (M 7) d (2 * slt f (n - 1))) (2 * slt f (n - 1) + 1))) : Ct G LY 57 l 1 m0_undoLast [vR 5, vR 3] M (RV (fun M' => Fr [4] [(5, 4)] M M' ∧ GR M' ∧ M' 5 4 = n - 1 ∧ M' 4 = unR (M 6) (M 7) (M 8) (slt f (n - 1)) d)) := by
  refine R_start (by decide +kernel) (Nat.le_of_ble_eq_true rfl) (fun C hC hRm hlau => ?_)
  show RZ G LY C (Zn G LY 57 C (RV (fun M' => Fr [4] [(5, 4)] M M' ∧ GR M' ∧ M' 5 4 = n - 1 ∧ M' 4 = unR (M 6) (M 7) (M 8) (slt f (n - 1)) d))) 0 0 57 0 [some (vR 5), some (vR 3), none] [] M
  have bs := slt_bd hf0 hf1 (show 0 ≤ n - 1 by omega) (show n - 1 < 40 by omega)
  refine R_aload_0 hC dX0_undoLast_0 ?_
  refine R_getI hC dX0_undoLast_1 fl_0_26 (by decide) rfl (by decide) (by decide) (fi := 4) rfl ?_
  refine R_if_gt hC dX0_undoLast_4 (tgt := 8) (by decide) (fun hb4 => ?_) (fun hb4 => ?_)
  · skip
    refine R_aload_0 hC dX0_undoLast_8 ?_
    refine R_dup hC dX0_undoLast_9 rfl ?_
    refine R_getI hC dX0_undoLast_10 fl_0_26 (by decide) rfl (by decide) (by decide) (fi := 4) rfl ?_
    rw [hn]
    refine R_iconst hC dX0_undoLast_13 ⟨by decide, by decide⟩ ?_
    refine R_isub hC dX0_undoLast_14 ⟨by omega, by omega⟩ ?_
    refine R_putI hC dX0_undoLast_15 fl_0_26 (by decide) rfl (by decide) (by decide) (fi := 4) rfl ?_
    refine R_aload_0 hC dX0_undoLast_18 ?_
    refine R_aload_0 hC dX0_undoLast_19 ?_
    refine R_getIE hC dX0_undoLast_20 fl_0_26 (by decide) rfl (by decide) (by decide) (fi := 4) rfl uM_same ?_
    have hG1 : GR (uM M 5 4 (n - 1)) := (GR.uF hG (by decide +kernel) (by decide))
    refine R_callVq (as := [vI _]) hC dX0_undoLast_23 mo_0_slot ml_0_35 (by decide) rfl rfl (c0_slot (f := f) hG1 ((uM_k (by decide)).trans hf) (by omega) (by omega) (by omega) (by omega)) rfl rfl hRm (by decide) (by decide) (Nat.le_of_ble_eq_true rfl) ?_
    refine R_istore_2 hC dX0_undoLast_26 rfl ?_
    refine R_aload_0 hC dX0_undoLast_27 ?_
    refine R_aload_1 hC dX0_undoLast_28 ?_
    refine R_iconst hC dX0_undoLast_29 ⟨by decide, by decide⟩ ?_
    refine R_iload_2 hC dX0_undoLast_30 ?_
    refine R_imul hC dX0_undoLast_31 ⟨by omega, by omega⟩ ?_
    have hr2 : (uM M 5 4 (n - 1)) 4 = d := ((uM_ne (by decide)).trans hD)
    refine R_callVv (as := [vR _, vI _]) hC dX0_undoLast_32 mo_0_putBack ml_0_39 (by decide) rfl rfl (c0_putBack  hG1 hr2 (by omega) (by omega)) rfl rfl hRm (by decide) (by decide) (Nat.le_of_ble_eq_true rfl) (fun Mc3 hq4 => ?_)
    have hG5 := hq4.2.1
    have hr6 : Mc3 4 = (pbR (M 6) (M 7) d (2 * slt f (n - 1))) := hq4.2.2.trans (by rw [uM_ne (by decide), uM_ne (by decide)])
    refine R_aload_0 hC dX0_undoLast_35 ?_
    refine R_aload_1 hC dX0_undoLast_36 ?_
    refine R_iconst hC dX0_undoLast_37 ⟨by decide, by decide⟩ ?_
    refine R_iload_2 hC dX0_undoLast_38 ?_
    refine R_imul hC dX0_undoLast_39 ⟨by omega, by omega⟩ ?_
    refine R_iconst hC dX0_undoLast_40 ⟨by decide, by decide⟩ ?_
    refine R_iadd hC dX0_undoLast_41 ⟨by omega, by omega⟩ ?_
    refine R_callVv (as := [vR _, vI _]) hC dX0_undoLast_42 mo_0_putBack ml_0_39 (by decide) rfl rfl (c0_putBack  hG5 hr6 (by omega) (by omega)) rfl rfl hRm (by decide) (by decide) (Nat.le_of_ble_eq_true rfl) (fun Mc7 hq8 => ?_)
    have hG9 := hq8.2.1
    have hr10 : Mc7 4 = (pbR (M 6) (M 7) (pbR (M 6) (M 7) d (2 * slt f (n - 1))) (2 * slt f (n - 1) + 1)) := hq8.2.2.trans (by rw [hq4.1.row (by decide) (by decide), hq4.1.row (by decide) (by decide), uM_ne (by decide), uM_ne (by decide)])
    refine R_aload_1 hC dX0_undoLast_45 ?_
    refine R_aload_0 hC dX0_undoLast_46 ?_
    refine R_getR hC dX0_undoLast_47 fl_0_18 (by decide) rfl (by decide) (by decide) (fi := 2) rfl (r := 8) (gr_5_2 hG9) ?_
    refine R_iload_2 hC dX0_undoLast_50 ?_
    refine R_laload hC dX0_undoLast_51 (by decide) rfl (by omega) (by omega) ?_
    refine R_callVv (as := [vL _]) hC dX0_undoLast_52 mo_8_putBack ml_0_43 (by decide) rfl rfl (c8_putBack  hG9 sh_3 hr10 hB2) rfl rfl hRm (by decide) (by decide) (Nat.le_of_ble_eq_true rfl) (fun Mc11 hq12 => ?_)
    have hG13 := hq12.2.1
    have hr14 := hq12.2.2
    exact R_return hC dX0_undoLast_55 rfl (ret_V ⟨Fr.tt (Fr.tt (Fr.tt (Fr.uB Fr.rf (by decide)) (hq4.1.mo (by decide) (by decide))) (hq8.1.mo (by decide) (by decide))) (hq12.1.mo (by decide) (by decide)), hG13, (hq12.1.at (by decide)).trans ((hq8.1.at (by decide)).trans ((hq4.1.at (by decide)).trans uM_same)), by (rw [hq12.2.2]; unfold unR; rw [hq8.1.at (by decide), hq4.1.at (by decide), uM_h (by decide)])⟩)
  · skip
    omega
theorem dX0_copyFrom_0 : decode cX0_copyFrom 0 = .ok (.aload_n 1, 1) := by decide +kernel
theorem dX0_copyFrom_1 : decode cX0_copyFrom 1 = .ok (.getfield 9, 3) := by decide +kernel
theorem dX0_copyFrom_4 : decode cX0_copyFrom 4 = .ok (.iconst 0, 1) := by decide +kernel
theorem dX0_copyFrom_5 : decode cX0_copyFrom 5 = .ok (.aload_n 0, 1) := by decide +kernel
theorem dX0_copyFrom_6 : decode cX0_copyFrom 6 = .ok (.getfield 9, 3) := by decide +kernel
theorem dX0_copyFrom_9 : decode cX0_copyFrom 9 = .ok (.iconst 0, 1) := by decide +kernel
theorem dX0_copyFrom_10 : decode cX0_copyFrom 10 = .ok (.bipush 80, 2) := by decide +kernel
theorem dX0_copyFrom_12 : decode cX0_copyFrom 12 = .ok (.invokestatic 29, 3) := by decide +kernel
theorem dX0_copyFrom_15 : decode cX0_copyFrom 15 = .ok (.aload_n 1, 1) := by decide +kernel
theorem dX0_copyFrom_16 : decode cX0_copyFrom 16 = .ok (.getfield 15, 3) := by decide +kernel
theorem dX0_copyFrom_19 : decode cX0_copyFrom 19 = .ok (.iconst 0, 1) := by decide +kernel
theorem dX0_copyFrom_20 : decode cX0_copyFrom 20 = .ok (.aload_n 0, 1) := by decide +kernel
theorem dX0_copyFrom_21 : decode cX0_copyFrom 21 = .ok (.getfield 15, 3) := by decide +kernel
theorem dX0_copyFrom_24 : decode cX0_copyFrom 24 = .ok (.iconst 0, 1) := by decide +kernel
theorem dX0_copyFrom_25 : decode cX0_copyFrom 25 = .ok (.bipush 80, 2) := by decide +kernel
theorem dX0_copyFrom_27 : decode cX0_copyFrom 27 = .ok (.invokestatic 29, 3) := by decide +kernel
theorem dX0_copyFrom_30 : decode cX0_copyFrom 30 = .ok (.aload_n 1, 1) := by decide +kernel
theorem dX0_copyFrom_31 : decode cX0_copyFrom 31 = .ok (.getfield 18, 3) := by decide +kernel
theorem dX0_copyFrom_34 : decode cX0_copyFrom 34 = .ok (.iconst 0, 1) := by decide +kernel
theorem dX0_copyFrom_35 : decode cX0_copyFrom 35 = .ok (.aload_n 0, 1) := by decide +kernel
theorem dX0_copyFrom_36 : decode cX0_copyFrom 36 = .ok (.getfield 18, 3) := by decide +kernel
theorem dX0_copyFrom_39 : decode cX0_copyFrom 39 = .ok (.iconst 0, 1) := by decide +kernel
theorem dX0_copyFrom_40 : decode cX0_copyFrom 40 = .ok (.bipush 40, 2) := by decide +kernel
theorem dX0_copyFrom_42 : decode cX0_copyFrom 42 = .ok (.invokestatic 29, 3) := by decide +kernel
theorem dX0_copyFrom_45 : decode cX0_copyFrom 45 = .ok (.aload_n 0, 1) := by decide +kernel
theorem dX0_copyFrom_46 : decode cX0_copyFrom 46 = .ok (.aload_n 1, 1) := by decide +kernel
theorem dX0_copyFrom_47 : decode cX0_copyFrom 47 = .ok (.getfield 22, 3) := by decide +kernel
theorem dX0_copyFrom_50 : decode cX0_copyFrom 50 = .ok (.putfield 22, 3) := by decide +kernel
theorem dX0_copyFrom_53 : decode cX0_copyFrom 53 = .ok (.aload_n 0, 1) := by decide +kernel
theorem dX0_copyFrom_54 : decode cX0_copyFrom 54 = .ok (.aload_n 1, 1) := by decide +kernel
theorem dX0_copyFrom_55 : decode cX0_copyFrom 55 = .ok (.getfield 26, 3) := by decide +kernel
theorem dX0_copyFrom_58 : decode cX0_copyFrom 58 = .ok (.putfield 26, 3) := by decide +kernel
theorem dX0_copyFrom_61 : decode cX0_copyFrom 61 = .ok (.return_, 1) := by decide +kernel
set_option maxHeartbeats 400000 in
theorem c0_copyFrom_11_2 {G : Gl} {l : Launch}  {M : Mem}  (hG : GR M) : Ct G LY 57 l 1 m0_copyFrom [vR 14, vR 5] M (RV (fun M' => Fr [15, 16, 17] [(14, 3), (14, 4)] M M' ∧ (∀ k, 0 ≤ k → k < 80 → M' 15 k = M 6 k) ∧ (∀ k, 0 ≤ k → k < 80 → M' 16 k = M 7 k) ∧ (∀ k, 0 ≤ k → k < 40 → M' 17 k = M 8 k) ∧ M' 14 3 = M 5 3 ∧ M' 14 4 = M 5 4)) := by
  refine R_start (by decide +kernel) (Nat.le_of_ble_eq_true rfl) (fun C hC hRm hlau => ?_)
  show RZ G LY C (Zn G LY 57 C (RV (fun M' => Fr [15, 16, 17] [(14, 3), (14, 4)] M M' ∧ (∀ k, 0 ≤ k → k < 80 → M' 15 k = M 6 k) ∧ (∀ k, 0 ≤ k → k < 80 → M' 16 k = M 7 k) ∧ (∀ k, 0 ≤ k → k < 40 → M' 17 k = M 8 k) ∧ M' 14 3 = M 5 3 ∧ M' 14 4 = M 5 4))) 0 0 57 0 [some (vR 14), some (vR 5)] [] M
  refine R_aload_1 hC dX0_copyFrom_0 ?_
  refine R_getR hC dX0_copyFrom_1 fl_0_9 (by decide) rfl (by decide) (by decide) (fi := 0) rfl (r := 6) (gr_5_0 hG) ?_
  refine R_iconst hC dX0_copyFrom_4 ⟨by decide, by decide⟩ ?_
  refine R_aload_0 hC dX0_copyFrom_5 ?_
  refine R_getR hC dX0_copyFrom_6 fl_0_9 (by decide) rfl (by decide) (by decide) (fi := 0) rfl (r := 15) (gr_14_0 hG) ?_
  refine R_iconst hC dX0_copyFrom_9 ⟨by decide, by decide⟩ ?_
  refine R_bipush hC dX0_copyFrom_10 (by decide +kernel) ⟨by decide, by decide⟩ ?_
  refine R_copyI hC dX0_copyFrom_12 jl_0_29 (by decide) rfl (by decide) rfl (by omega) (by omega) (by omega) (by omega) (by omega) hRm (by decide) (Nat.le_of_ble_eq_true rfl) ?_
  refine R_aload_1 hC dX0_copyFrom_15 ?_
  have hG1 : GR (cpM M 15 0 6 0 80) := (GR.cp hG (by decide +kernel) (.inl (by decide)))
  refine R_getR hC dX0_copyFrom_16 fl_0_15 (by decide) rfl (by decide) (by decide) (fi := 1) rfl (r := 7) (gr_5_1 hG1) ?_
  refine R_iconst hC dX0_copyFrom_19 ⟨by decide, by decide⟩ ?_
  refine R_aload_0 hC dX0_copyFrom_20 ?_
  refine R_getR hC dX0_copyFrom_21 fl_0_15 (by decide) rfl (by decide) (by decide) (fi := 1) rfl (r := 16) (gr_14_1 hG1) ?_
  refine R_iconst hC dX0_copyFrom_24 ⟨by decide, by decide⟩ ?_
  refine R_bipush hC dX0_copyFrom_25 (by decide +kernel) ⟨by decide, by decide⟩ ?_
  refine R_copyI hC dX0_copyFrom_27 jl_0_29 (by decide) rfl (by decide) rfl (by omega) (by omega) (by omega) (by omega) (by omega) hRm (by decide) (Nat.le_of_ble_eq_true rfl) ?_
  refine R_aload_1 hC dX0_copyFrom_30 ?_
  have hG2 : GR (cpM (cpM M 15 0 6 0 80) 16 0 7 0 80) := (GR.cp hG1 (by decide +kernel) (.inl (by decide)))
  refine R_getR hC dX0_copyFrom_31 fl_0_18 (by decide) rfl (by decide) (by decide) (fi := 2) rfl (r := 8) (gr_5_2 hG2) ?_
  refine R_iconst hC dX0_copyFrom_34 ⟨by decide, by decide⟩ ?_
  refine R_aload_0 hC dX0_copyFrom_35 ?_
  refine R_getR hC dX0_copyFrom_36 fl_0_18 (by decide) rfl (by decide) (by decide) (fi := 2) rfl (r := 17) (gr_14_2 hG2) ?_
  refine R_iconst hC dX0_copyFrom_39 ⟨by decide, by decide⟩ ?_
  refine R_bipush hC dX0_copyFrom_40 (by decide +kernel) ⟨by decide, by decide⟩ ?_
  refine R_copyL hC dX0_copyFrom_42 jl_0_29 (by decide) rfl (by decide) rfl (by omega) (by omega) (by omega) (by omega) (by omega) hRm (by decide) (Nat.le_of_ble_eq_true rfl) ?_
  refine R_aload_0 hC dX0_copyFrom_45 ?_
  refine R_aload_1 hC dX0_copyFrom_46 ?_
  refine R_getIE hC dX0_copyFrom_47 fl_0_22 (by decide) rfl (by decide) (by decide) (fi := 3) rfl ((cpM_h (by decide)).trans ((cpM_h (by decide)).trans (cpM_h (by decide)))) ?_
  refine R_putI hC dX0_copyFrom_50 fl_0_22 (by decide) rfl (by decide) (by decide) (fi := 3) rfl ?_
  refine R_aload_0 hC dX0_copyFrom_53 ?_
  refine R_aload_1 hC dX0_copyFrom_54 ?_
  refine R_getIE hC dX0_copyFrom_55 fl_0_26 (by decide) rfl (by decide) (by decide) (fi := 4) rfl ((uM_h (by decide)).trans ((cpM_h (by decide)).trans ((cpM_h (by decide)).trans (cpM_h (by decide))))) ?_
  refine R_putI hC dX0_copyFrom_58 fl_0_26 (by decide) rfl (by decide) (by decide) (fi := 4) rfl ?_
  exact R_return hC dX0_copyFrom_61 rfl (ret_V ⟨Fr.uB (Fr.uB (Fr.tt (Fr.tt (cpM_fr (by decide)) (cpM_fr (by decide))) (cpM_fr (by decide))) (by decide)) (by decide), fun k k0 k1 => (uM_h (by decide)).trans ((uM_h (by decide)).trans ((cpM_h (by decide)).trans ((cpM_h (by decide)).trans (cp_at k0 k1)))), fun k k0 k1 => (uM_h (by decide)).trans ((uM_h (by decide)).trans ((cpM_h (by decide)).trans ((cp_at k0 k1).trans (cpM_h (by decide))))), fun k k0 k1 => (uM_h (by decide)).trans ((uM_h (by decide)).trans ((cp_at k0 k1).trans ((cpM_h (by decide)).trans (cpM_h (by decide))))), (uM_k (by decide)).trans uM_same, uM_same⟩)
set_option maxHeartbeats 400000 in
theorem c0_copyFrom_2_11 {G : Gl} {l : Launch}  {M : Mem}  (hG : GR M) : Ct G LY 57 l 1 m0_copyFrom [vR 5, vR 14] M (RV (fun M' => Fr [6, 7, 8] [(5, 3), (5, 4)] M M' ∧ (∀ k, 0 ≤ k → k < 80 → M' 6 k = M 15 k) ∧ (∀ k, 0 ≤ k → k < 80 → M' 7 k = M 16 k) ∧ (∀ k, 0 ≤ k → k < 40 → M' 8 k = M 17 k) ∧ M' 5 3 = M 14 3 ∧ M' 5 4 = M 14 4)) := by
  refine R_start (by decide +kernel) (Nat.le_of_ble_eq_true rfl) (fun C hC hRm hlau => ?_)
  show RZ G LY C (Zn G LY 57 C (RV (fun M' => Fr [6, 7, 8] [(5, 3), (5, 4)] M M' ∧ (∀ k, 0 ≤ k → k < 80 → M' 6 k = M 15 k) ∧ (∀ k, 0 ≤ k → k < 80 → M' 7 k = M 16 k) ∧ (∀ k, 0 ≤ k → k < 40 → M' 8 k = M 17 k) ∧ M' 5 3 = M 14 3 ∧ M' 5 4 = M 14 4))) 0 0 57 0 [some (vR 5), some (vR 14)] [] M
  refine R_aload_1 hC dX0_copyFrom_0 ?_
  refine R_getR hC dX0_copyFrom_1 fl_0_9 (by decide) rfl (by decide) (by decide) (fi := 0) rfl (r := 15) (gr_14_0 hG) ?_
  refine R_iconst hC dX0_copyFrom_4 ⟨by decide, by decide⟩ ?_
  refine R_aload_0 hC dX0_copyFrom_5 ?_
  refine R_getR hC dX0_copyFrom_6 fl_0_9 (by decide) rfl (by decide) (by decide) (fi := 0) rfl (r := 6) (gr_5_0 hG) ?_
  refine R_iconst hC dX0_copyFrom_9 ⟨by decide, by decide⟩ ?_
  refine R_bipush hC dX0_copyFrom_10 (by decide +kernel) ⟨by decide, by decide⟩ ?_
  refine R_copyI hC dX0_copyFrom_12 jl_0_29 (by decide) rfl (by decide) rfl (by omega) (by omega) (by omega) (by omega) (by omega) hRm (by decide) (Nat.le_of_ble_eq_true rfl) ?_
  refine R_aload_1 hC dX0_copyFrom_15 ?_
  have hG1 : GR (cpM M 6 0 15 0 80) := (GR.cp hG (by decide +kernel) (.inl (by decide)))
  refine R_getR hC dX0_copyFrom_16 fl_0_15 (by decide) rfl (by decide) (by decide) (fi := 1) rfl (r := 16) (gr_14_1 hG1) ?_
  refine R_iconst hC dX0_copyFrom_19 ⟨by decide, by decide⟩ ?_
  refine R_aload_0 hC dX0_copyFrom_20 ?_
  refine R_getR hC dX0_copyFrom_21 fl_0_15 (by decide) rfl (by decide) (by decide) (fi := 1) rfl (r := 7) (gr_5_1 hG1) ?_
  refine R_iconst hC dX0_copyFrom_24 ⟨by decide, by decide⟩ ?_
  refine R_bipush hC dX0_copyFrom_25 (by decide +kernel) ⟨by decide, by decide⟩ ?_
  refine R_copyI hC dX0_copyFrom_27 jl_0_29 (by decide) rfl (by decide) rfl (by omega) (by omega) (by omega) (by omega) (by omega) hRm (by decide) (Nat.le_of_ble_eq_true rfl) ?_
  refine R_aload_1 hC dX0_copyFrom_30 ?_
  have hG2 : GR (cpM (cpM M 6 0 15 0 80) 7 0 16 0 80) := (GR.cp hG1 (by decide +kernel) (.inl (by decide)))
  refine R_getR hC dX0_copyFrom_31 fl_0_18 (by decide) rfl (by decide) (by decide) (fi := 2) rfl (r := 17) (gr_14_2 hG2) ?_
  refine R_iconst hC dX0_copyFrom_34 ⟨by decide, by decide⟩ ?_
  refine R_aload_0 hC dX0_copyFrom_35 ?_
  refine R_getR hC dX0_copyFrom_36 fl_0_18 (by decide) rfl (by decide) (by decide) (fi := 2) rfl (r := 8) (gr_5_2 hG2) ?_
  refine R_iconst hC dX0_copyFrom_39 ⟨by decide, by decide⟩ ?_
  refine R_bipush hC dX0_copyFrom_40 (by decide +kernel) ⟨by decide, by decide⟩ ?_
  refine R_copyL hC dX0_copyFrom_42 jl_0_29 (by decide) rfl (by decide) rfl (by omega) (by omega) (by omega) (by omega) (by omega) hRm (by decide) (Nat.le_of_ble_eq_true rfl) ?_
  refine R_aload_0 hC dX0_copyFrom_45 ?_
  refine R_aload_1 hC dX0_copyFrom_46 ?_
  refine R_getIE hC dX0_copyFrom_47 fl_0_22 (by decide) rfl (by decide) (by decide) (fi := 3) rfl ((cpM_h (by decide)).trans ((cpM_h (by decide)).trans (cpM_h (by decide)))) ?_
  refine R_putI hC dX0_copyFrom_50 fl_0_22 (by decide) rfl (by decide) (by decide) (fi := 3) rfl ?_
  refine R_aload_0 hC dX0_copyFrom_53 ?_
  refine R_aload_1 hC dX0_copyFrom_54 ?_
  refine R_getIE hC dX0_copyFrom_55 fl_0_26 (by decide) rfl (by decide) (by decide) (fi := 4) rfl ((uM_h (by decide)).trans ((cpM_h (by decide)).trans ((cpM_h (by decide)).trans (cpM_h (by decide))))) ?_
  refine R_putI hC dX0_copyFrom_58 fl_0_26 (by decide) rfl (by decide) (by decide) (fi := 4) rfl ?_
  exact R_return hC dX0_copyFrom_61 rfl (ret_V ⟨Fr.uB (Fr.uB (Fr.tt (Fr.tt (cpM_fr (by decide)) (cpM_fr (by decide))) (cpM_fr (by decide))) (by decide)) (by decide), fun k k0 k1 => (uM_h (by decide)).trans ((uM_h (by decide)).trans ((cpM_h (by decide)).trans ((cpM_h (by decide)).trans (cp_at k0 k1)))), fun k k0 k1 => (uM_h (by decide)).trans ((uM_h (by decide)).trans ((cpM_h (by decide)).trans ((cp_at k0 k1).trans (cpM_h (by decide))))), fun k k0 k1 => (uM_h (by decide)).trans ((uM_h (by decide)).trans ((cp_at k0 k1).trans ((cpM_h (by decide)).trans (cpM_h (by decide))))), (uM_k (by decide)).trans uM_same, uM_same⟩)
theorem dX7_copyFrom_0 : decode cX7_copyFrom 0 = .ok (.aload_n 0, 1) := by decide +kernel
theorem dX7_copyFrom_1 : decode cX7_copyFrom 1 = .ok (.getfield 12, 3) := by decide +kernel
theorem dX7_copyFrom_4 : decode cX7_copyFrom 4 = .ok (.aload_n 1, 1) := by decide +kernel
theorem dX7_copyFrom_5 : decode cX7_copyFrom 5 = .ok (.getfield 12, 3) := by decide +kernel
theorem dX7_copyFrom_8 : decode cX7_copyFrom 8 = .ok (.invokevirtual 36, 3) := by decide +kernel
theorem dX7_copyFrom_11 : decode cX7_copyFrom 11 = .ok (.aload_n 0, 1) := by decide +kernel
theorem dX7_copyFrom_12 : decode cX7_copyFrom 12 = .ok (.getfield 21, 3) := by decide +kernel
theorem dX7_copyFrom_15 : decode cX7_copyFrom 15 = .ok (.aload_n 1, 1) := by decide +kernel
theorem dX7_copyFrom_16 : decode cX7_copyFrom 16 = .ok (.getfield 21, 3) := by decide +kernel
theorem dX7_copyFrom_19 : decode cX7_copyFrom 19 = .ok (.invokevirtual 40, 3) := by decide +kernel
theorem dX7_copyFrom_22 : decode cX7_copyFrom 22 = .ok (.aload_n 1, 1) := by decide +kernel
theorem dX7_copyFrom_23 : decode cX7_copyFrom 23 = .ok (.getfield 25, 3) := by decide +kernel
theorem dX7_copyFrom_26 : decode cX7_copyFrom 26 = .ok (.iconst 0, 1) := by decide +kernel
theorem dX7_copyFrom_27 : decode cX7_copyFrom 27 = .ok (.aload_n 0, 1) := by decide +kernel
theorem dX7_copyFrom_28 : decode cX7_copyFrom 28 = .ok (.getfield 25, 3) := by decide +kernel
theorem dX7_copyFrom_31 : decode cX7_copyFrom 31 = .ok (.iconst 0, 1) := by decide +kernel
theorem dX7_copyFrom_32 : decode cX7_copyFrom 32 = .ok (.bipush 6, 2) := by decide +kernel
theorem dX7_copyFrom_34 : decode cX7_copyFrom 34 = .ok (.invokestatic 43, 3) := by decide +kernel
theorem dX7_copyFrom_37 : decode cX7_copyFrom 37 = .ok (.aload_n 0, 1) := by decide +kernel
theorem dX7_copyFrom_38 : decode cX7_copyFrom 38 = .ok (.aload_n 1, 1) := by decide +kernel
theorem dX7_copyFrom_39 : decode cX7_copyFrom 39 = .ok (.getfield 29, 3) := by decide +kernel
theorem dX7_copyFrom_42 : decode cX7_copyFrom 42 = .ok (.putfield 29, 3) := by decide +kernel
theorem dX7_copyFrom_45 : decode cX7_copyFrom 45 = .ok (.aload_n 1, 1) := by decide +kernel
theorem dX7_copyFrom_46 : decode cX7_copyFrom 46 = .ok (.getfield 33, 3) := by decide +kernel
theorem dX7_copyFrom_49 : decode cX7_copyFrom 49 = .ok (.iconst 0, 1) := by decide +kernel
theorem dX7_copyFrom_50 : decode cX7_copyFrom 50 = .ok (.aload_n 0, 1) := by decide +kernel
theorem dX7_copyFrom_51 : decode cX7_copyFrom 51 = .ok (.getfield 33, 3) := by decide +kernel
theorem dX7_copyFrom_54 : decode cX7_copyFrom 54 = .ok (.iconst 0, 1) := by decide +kernel
theorem dX7_copyFrom_55 : decode cX7_copyFrom 55 = .ok (.aload_n 0, 1) := by decide +kernel
theorem dX7_copyFrom_56 : decode cX7_copyFrom 56 = .ok (.getfield 33, 3) := by decide +kernel
theorem dX7_copyFrom_59 : decode cX7_copyFrom 59 = .ok (.arraylength, 1) := by decide +kernel
theorem dX7_copyFrom_60 : decode cX7_copyFrom 60 = .ok (.invokestatic 43, 3) := by decide +kernel
theorem dX7_copyFrom_63 : decode cX7_copyFrom 63 = .ok (.return_, 1) := by decide +kernel
set_option maxHeartbeats 400000 in
theorem c7_copyFrom_11_2 {G : Gl} {l : Launch}  {M : Mem} {d : Int → Int} (hG : GR M) (hD : M 4 = d) : Ct G LY 57 l 2 m7_copyFrom [vR 11, vR 2] M (RV (fun M' => Fr [13, 15, 16, 17, 18, 19] [(14, 3), (14, 4), (11, 3)] M M' ∧ GR M' ∧ M' 13 = d ∧ (∀ k, 0 ≤ k → k < 80 → M' 15 k = M 6 k) ∧ (∀ k, 0 ≤ k → k < 80 → M' 16 k = M 7 k) ∧ (∀ k, 0 ≤ k → k < 40 → M' 17 k = M 8 k) ∧ M' 14 3 = M 5 3 ∧ M' 14 4 = M 5 4 ∧ (∀ k, 0 ≤ k → k < 6 → M' 18 k = M 9 k) ∧ M' 11 3 = M 2 3 ∧ ∀ k, 0 ≤ k → k < 3 → M' 19 k = M 10 k)) := by
  refine R_start (by decide +kernel) (Nat.le_of_ble_eq_true rfl) (fun C hC hRm hlau => ?_)
  show RZ G LY C (Zn G LY 57 C (RV (fun M' => Fr [13, 15, 16, 17, 18, 19] [(14, 3), (14, 4), (11, 3)] M M' ∧ GR M' ∧ M' 13 = d ∧ (∀ k, 0 ≤ k → k < 80 → M' 15 k = M 6 k) ∧ (∀ k, 0 ≤ k → k < 80 → M' 16 k = M 7 k) ∧ (∀ k, 0 ≤ k → k < 40 → M' 17 k = M 8 k) ∧ M' 14 3 = M 5 3 ∧ M' 14 4 = M 5 4 ∧ (∀ k, 0 ≤ k → k < 6 → M' 18 k = M 9 k) ∧ M' 11 3 = M 2 3 ∧ ∀ k, 0 ≤ k → k < 3 → M' 19 k = M 10 k))) 0 0 57 0 [some (vR 11), some (vR 2)] [] M
  refine R_aload_0 hC dX7_copyFrom_0 ?_
  refine R_getR hC dX7_copyFrom_1 fl_7_12 (by decide) rfl (by decide) (by decide) (fi := 0) rfl (r := 12) (gr_11_0 hG) ?_
  refine R_aload_1 hC dX7_copyFrom_4 ?_
  refine R_getR hC dX7_copyFrom_5 fl_7_12 (by decide) rfl (by decide) (by decide) (fi := 0) rfl (r := 3) (gr_2_0 hG) ?_
  refine R_callVv (as := [vR _]) hC dX7_copyFrom_8 mo_8_copyFrom ml_7_36 (by decide) rfl rfl (c8_copyFrom  hG sh_12 sh_3 hD) rfl rfl hRm (by decide) (by decide) (Nat.le_of_ble_eq_true rfl) (fun Mc1 hq2 => ?_)
  have hG3 := hq2.2.1
  have hr4 := hq2.2.2
  refine R_aload_0 hC dX7_copyFrom_11 ?_
  refine R_getR hC dX7_copyFrom_12 fl_7_21 (by decide) rfl (by decide) (by decide) (fi := 1) rfl (r := 14) (gr_11_1 hG3) ?_
  refine R_aload_1 hC dX7_copyFrom_15 ?_
  refine R_getR hC dX7_copyFrom_16 fl_7_21 (by decide) rfl (by decide) (by decide) (fi := 1) rfl (r := 5) (gr_2_1 hG3) ?_
  refine R_callVv (as := [vR _]) hC dX7_copyFrom_19 mo_0_copyFrom ml_7_40 (by decide) rfl rfl (c0_copyFrom_11_2  hG3) rfl rfl hRm (by decide) (by decide) (Nat.le_of_ble_eq_true rfl) (fun Mc5 hq6 => ?_)
  refine R_aload_1 hC dX7_copyFrom_22 ?_
  have hG7 : GR Mc5 := (GR.fr hG3 hq6.1 (by decide +kernel))
  refine R_getR hC dX7_copyFrom_23 fl_7_25 (by decide) rfl (by decide) (by decide) (fi := 2) rfl (r := 9) (gr_2_2 hG7) ?_
  refine R_iconst hC dX7_copyFrom_26 ⟨by decide, by decide⟩ ?_
  refine R_aload_0 hC dX7_copyFrom_27 ?_
  refine R_getR hC dX7_copyFrom_28 fl_7_25 (by decide) rfl (by decide) (by decide) (fi := 2) rfl (r := 18) (gr_11_2 hG7) ?_
  refine R_iconst hC dX7_copyFrom_31 ⟨by decide, by decide⟩ ?_
  refine R_bipush hC dX7_copyFrom_32 (by decide +kernel) ⟨by decide, by decide⟩ ?_
  refine R_copyI hC dX7_copyFrom_34 jl_7_43 (by decide) rfl (by decide) rfl (by omega) (by omega) (by omega) (by omega) (by omega) hRm (by decide) (Nat.le_of_ble_eq_true rfl) ?_
  refine R_aload_0 hC dX7_copyFrom_37 ?_
  refine R_aload_1 hC dX7_copyFrom_38 ?_
  refine R_getIE hC dX7_copyFrom_39 fl_7_29 (by decide) rfl (by decide) (by decide) (fi := 3) rfl (cpM_h (by decide)) ?_
  refine R_putI hC dX7_copyFrom_42 fl_7_29 (by decide) rfl (by decide) (by decide) (fi := 3) rfl ?_
  refine R_aload_1 hC dX7_copyFrom_45 ?_
  have hG8 : GR (uM (cpM Mc5 18 0 9 0 6) 11 3 (Mc5 2 3)) := (GR.uF (GR.cp hG7 (by decide +kernel) (.inl (by decide))) (by decide +kernel) (by decide))
  refine R_getR hC dX7_copyFrom_46 fl_7_33 (by decide) rfl (by decide) (by decide) (fi := 4) rfl (r := 10) (gr_2_4 hG8) ?_
  refine R_iconst hC dX7_copyFrom_49 ⟨by decide, by decide⟩ ?_
  refine R_aload_0 hC dX7_copyFrom_50 ?_
  refine R_getR hC dX7_copyFrom_51 fl_7_33 (by decide) rfl (by decide) (by decide) (fi := 4) rfl (r := 19) (gr_11_4 hG8) ?_
  refine R_iconst hC dX7_copyFrom_54 ⟨by decide, by decide⟩ ?_
  refine R_aload_0 hC dX7_copyFrom_55 ?_
  refine R_getR hC dX7_copyFrom_56 fl_7_33 (by decide) rfl (by decide) (by decide) (fi := 4) rfl (r := 19) (gr_11_4 hG8) ?_
  refine R_alen hC dX7_copyFrom_59 (by decide) rfl (by decide) (by decide) (by decide) ?_
  refine R_copyI hC dX7_copyFrom_60 jl_7_43 (by decide) rfl (by decide) rfl (by omega) (by omega) (by omega) (by omega) (by omega) hRm (by decide) (Nat.le_of_ble_eq_true rfl) ?_
  have hG9 : GR (cpM (uM (cpM Mc5 18 0 9 0 6) 11 3 (Mc5 2 3)) 19 0 10 0 3) := (GR.cp hG8 (by decide +kernel) (.inl (by decide)))
  have hr10 : (cpM (uM (cpM Mc5 18 0 9 0 6) 11 3 (Mc5 2 3)) 19 0 10 0 3) 13 = d := ((cpM_ne (by decide)).trans ((uM_ne (by decide)).trans ((cpM_ne (by decide)).trans ((hq6.1.row (by decide) (by decide)).trans hr4))))
  exact R_return hC dX7_copyFrom_63 rfl (ret_V ⟨Fr.tt (Fr.uB (Fr.tt (Fr.tt (hq2.1.mo (by decide) (by decide)) (hq6.1.mo (by decide) (by decide))) (cpM_fr (by decide))) (by decide)) (cpM_fr (by decide)), hG9, hr10, fun k k0 k1 => (cpM_h (by decide)).trans ((uM_h (by decide)).trans ((cpM_h (by decide)).trans ((hq6.2.1 k k0 k1).trans (hq2.1.at (by decide))))), fun k k0 k1 => (cpM_h (by decide)).trans ((uM_h (by decide)).trans ((cpM_h (by decide)).trans ((hq6.2.2.1 k k0 k1).trans (hq2.1.at (by decide))))), fun k k0 k1 => (cpM_h (by decide)).trans ((uM_h (by decide)).trans ((cpM_h (by decide)).trans ((hq6.2.2.2.1 k k0 k1).trans (hq2.1.at (by decide))))), (cpM_h (by decide)).trans ((uM_h (by decide)).trans ((cpM_h (by decide)).trans ((hq6.2.2.2.2.1).trans (hq2.1.at (by decide))))), (cpM_h (by decide)).trans ((uM_h (by decide)).trans ((cpM_h (by decide)).trans ((hq6.2.2.2.2.2).trans (hq2.1.at (by decide))))), fun k k0 k1 => (cpM_h (by decide)).trans ((uM_h (by decide)).trans ((cp_at k0 k1).trans ((hq6.1.at2 (by decide) (by decide)).trans (hq2.1.at (by decide))))), (cpM_h (by decide)).trans (uM_same.trans ((hq6.1 _ _ (by decide) (by decide)).trans (hq2.1.at (by decide)))), fun k k0 k1 => (cp_at k0 k1).trans ((uM_h (by decide)).trans ((cpM_h (by decide)).trans ((hq6.1.at2 (by decide) (by decide)).trans (hq2.1.at (by decide)))))⟩)
set_option maxHeartbeats 400000 in
theorem c7_copyFrom_2_11 {G : Gl} {l : Launch}  {M : Mem} {d : Int → Int} (hG : GR M) (hD : M 13 = d) : Ct G LY 57 l 2 m7_copyFrom [vR 2, vR 11] M (RV (fun M' => Fr [4, 6, 7, 8, 9, 10] [(5, 3), (5, 4), (2, 3)] M M' ∧ GR M' ∧ M' 4 = d ∧ (∀ k, 0 ≤ k → k < 80 → M' 6 k = M 15 k) ∧ (∀ k, 0 ≤ k → k < 80 → M' 7 k = M 16 k) ∧ (∀ k, 0 ≤ k → k < 40 → M' 8 k = M 17 k) ∧ M' 5 3 = M 14 3 ∧ M' 5 4 = M 14 4 ∧ (∀ k, 0 ≤ k → k < 6 → M' 9 k = M 18 k) ∧ M' 2 3 = M 11 3 ∧ ∀ k, 0 ≤ k → k < 3 → M' 10 k = M 19 k)) := by
  refine R_start (by decide +kernel) (Nat.le_of_ble_eq_true rfl) (fun C hC hRm hlau => ?_)
  show RZ G LY C (Zn G LY 57 C (RV (fun M' => Fr [4, 6, 7, 8, 9, 10] [(5, 3), (5, 4), (2, 3)] M M' ∧ GR M' ∧ M' 4 = d ∧ (∀ k, 0 ≤ k → k < 80 → M' 6 k = M 15 k) ∧ (∀ k, 0 ≤ k → k < 80 → M' 7 k = M 16 k) ∧ (∀ k, 0 ≤ k → k < 40 → M' 8 k = M 17 k) ∧ M' 5 3 = M 14 3 ∧ M' 5 4 = M 14 4 ∧ (∀ k, 0 ≤ k → k < 6 → M' 9 k = M 18 k) ∧ M' 2 3 = M 11 3 ∧ ∀ k, 0 ≤ k → k < 3 → M' 10 k = M 19 k))) 0 0 57 0 [some (vR 2), some (vR 11)] [] M
  refine R_aload_0 hC dX7_copyFrom_0 ?_
  refine R_getR hC dX7_copyFrom_1 fl_7_12 (by decide) rfl (by decide) (by decide) (fi := 0) rfl (r := 3) (gr_2_0 hG) ?_
  refine R_aload_1 hC dX7_copyFrom_4 ?_
  refine R_getR hC dX7_copyFrom_5 fl_7_12 (by decide) rfl (by decide) (by decide) (fi := 0) rfl (r := 12) (gr_11_0 hG) ?_
  refine R_callVv (as := [vR _]) hC dX7_copyFrom_8 mo_8_copyFrom ml_7_36 (by decide) rfl rfl (c8_copyFrom  hG sh_3 sh_12 hD) rfl rfl hRm (by decide) (by decide) (Nat.le_of_ble_eq_true rfl) (fun Mc1 hq2 => ?_)
  have hG3 := hq2.2.1
  have hr4 := hq2.2.2
  refine R_aload_0 hC dX7_copyFrom_11 ?_
  refine R_getR hC dX7_copyFrom_12 fl_7_21 (by decide) rfl (by decide) (by decide) (fi := 1) rfl (r := 5) (gr_2_1 hG3) ?_
  refine R_aload_1 hC dX7_copyFrom_15 ?_
  refine R_getR hC dX7_copyFrom_16 fl_7_21 (by decide) rfl (by decide) (by decide) (fi := 1) rfl (r := 14) (gr_11_1 hG3) ?_
  refine R_callVv (as := [vR _]) hC dX7_copyFrom_19 mo_0_copyFrom ml_7_40 (by decide) rfl rfl (c0_copyFrom_2_11  hG3) rfl rfl hRm (by decide) (by decide) (Nat.le_of_ble_eq_true rfl) (fun Mc5 hq6 => ?_)
  refine R_aload_1 hC dX7_copyFrom_22 ?_
  have hG7 : GR Mc5 := (GR.fr hG3 hq6.1 (by decide +kernel))
  refine R_getR hC dX7_copyFrom_23 fl_7_25 (by decide) rfl (by decide) (by decide) (fi := 2) rfl (r := 18) (gr_11_2 hG7) ?_
  refine R_iconst hC dX7_copyFrom_26 ⟨by decide, by decide⟩ ?_
  refine R_aload_0 hC dX7_copyFrom_27 ?_
  refine R_getR hC dX7_copyFrom_28 fl_7_25 (by decide) rfl (by decide) (by decide) (fi := 2) rfl (r := 9) (gr_2_2 hG7) ?_
  refine R_iconst hC dX7_copyFrom_31 ⟨by decide, by decide⟩ ?_
  refine R_bipush hC dX7_copyFrom_32 (by decide +kernel) ⟨by decide, by decide⟩ ?_
  refine R_copyI hC dX7_copyFrom_34 jl_7_43 (by decide) rfl (by decide) rfl (by omega) (by omega) (by omega) (by omega) (by omega) hRm (by decide) (Nat.le_of_ble_eq_true rfl) ?_
  refine R_aload_0 hC dX7_copyFrom_37 ?_
  refine R_aload_1 hC dX7_copyFrom_38 ?_
  refine R_getIE hC dX7_copyFrom_39 fl_7_29 (by decide) rfl (by decide) (by decide) (fi := 3) rfl (cpM_h (by decide)) ?_
  refine R_putI hC dX7_copyFrom_42 fl_7_29 (by decide) rfl (by decide) (by decide) (fi := 3) rfl ?_
  refine R_aload_1 hC dX7_copyFrom_45 ?_
  have hG8 : GR (uM (cpM Mc5 9 0 18 0 6) 2 3 (Mc5 11 3)) := (GR.uF (GR.cp hG7 (by decide +kernel) (.inl (by decide))) (by decide +kernel) (by decide))
  refine R_getR hC dX7_copyFrom_46 fl_7_33 (by decide) rfl (by decide) (by decide) (fi := 4) rfl (r := 19) (gr_11_4 hG8) ?_
  refine R_iconst hC dX7_copyFrom_49 ⟨by decide, by decide⟩ ?_
  refine R_aload_0 hC dX7_copyFrom_50 ?_
  refine R_getR hC dX7_copyFrom_51 fl_7_33 (by decide) rfl (by decide) (by decide) (fi := 4) rfl (r := 10) (gr_2_4 hG8) ?_
  refine R_iconst hC dX7_copyFrom_54 ⟨by decide, by decide⟩ ?_
  refine R_aload_0 hC dX7_copyFrom_55 ?_
  refine R_getR hC dX7_copyFrom_56 fl_7_33 (by decide) rfl (by decide) (by decide) (fi := 4) rfl (r := 10) (gr_2_4 hG8) ?_
  refine R_alen hC dX7_copyFrom_59 (by decide) rfl (by decide) (by decide) (by decide) ?_
  refine R_copyI hC dX7_copyFrom_60 jl_7_43 (by decide) rfl (by decide) rfl (by omega) (by omega) (by omega) (by omega) (by omega) hRm (by decide) (Nat.le_of_ble_eq_true rfl) ?_
  have hG9 : GR (cpM (uM (cpM Mc5 9 0 18 0 6) 2 3 (Mc5 11 3)) 10 0 19 0 3) := (GR.cp hG8 (by decide +kernel) (.inl (by decide)))
  have hr10 : (cpM (uM (cpM Mc5 9 0 18 0 6) 2 3 (Mc5 11 3)) 10 0 19 0 3) 4 = d := ((cpM_ne (by decide)).trans ((uM_ne (by decide)).trans ((cpM_ne (by decide)).trans ((hq6.1.row (by decide) (by decide)).trans hr4))))
  exact R_return hC dX7_copyFrom_63 rfl (ret_V ⟨Fr.tt (Fr.uB (Fr.tt (Fr.tt (hq2.1.mo (by decide) (by decide)) (hq6.1.mo (by decide) (by decide))) (cpM_fr (by decide))) (by decide)) (cpM_fr (by decide)), hG9, hr10, fun k k0 k1 => (cpM_h (by decide)).trans ((uM_h (by decide)).trans ((cpM_h (by decide)).trans ((hq6.2.1 k k0 k1).trans (hq2.1.at (by decide))))), fun k k0 k1 => (cpM_h (by decide)).trans ((uM_h (by decide)).trans ((cpM_h (by decide)).trans ((hq6.2.2.1 k k0 k1).trans (hq2.1.at (by decide))))), fun k k0 k1 => (cpM_h (by decide)).trans ((uM_h (by decide)).trans ((cpM_h (by decide)).trans ((hq6.2.2.2.1 k k0 k1).trans (hq2.1.at (by decide))))), (cpM_h (by decide)).trans ((uM_h (by decide)).trans ((cpM_h (by decide)).trans ((hq6.2.2.2.2.1).trans (hq2.1.at (by decide))))), (cpM_h (by decide)).trans ((uM_h (by decide)).trans ((cpM_h (by decide)).trans ((hq6.2.2.2.2.2).trans (hq2.1.at (by decide))))), fun k k0 k1 => (cpM_h (by decide)).trans ((uM_h (by decide)).trans ((cp_at k0 k1).trans ((hq6.1.at2 (by decide) (by decide)).trans (hq2.1.at (by decide))))), (cpM_h (by decide)).trans (uM_same.trans ((hq6.1 _ _ (by decide) (by decide)).trans (hq2.1.at (by decide)))), fun k k0 k1 => (cp_at k0 k1).trans ((uM_h (by decide)).trans ((cpM_h (by decide)).trans ((hq6.1.at2 (by decide) (by decide)).trans (hq2.1.at (by decide)))))⟩)
