/-! the model: a row to try with; questions one by one -/
def TRo (M M' : Mem) : Prop := ∀ j : Int, (j < 114 ∨ 228 ≤ j) → M' 58 j = M 58 j
theorem TRo.rf {M : Mem} : TRo M M := fun _ _ => rfl
theorem TRo.tr {M M1 M2 : Mem} (h : TRo M M1) (g : TRo M1 M2) : TRo M M2 := fun j q => (g j q).trans (h j q)
theorem TRo.of {A : List Nat} {B : List (Nat × Int)} {M M' : Mem} (h : Fr A B M M') (hA : 58 ∉ A) (hB : ∀ q ∈ B, q.1 ≠ 58) : TRo M M' := fun j _ => congrFun (h.row hA hB) j
theorem TRo.u {M M1 : Mem} (h : TRo M M1) {i v : Int} (h0 : 114 ≤ i) (h1 : i < 228) : TRo M (uM M1 58 i v) := fun j q => (uM_k (by omega)).trans (h j q)
theorem TRo.h {M M1 : Mem} (h : TRo M M1) {a : Nat} {i v : Int} (e : a ≠ 58) : TRo M (uM M1 a i v) := fun j q => (uM_h (Ne.symm e)).trans (h j q)
def troOK (A : List Nat) (B : List (Nat × Int)) : Bool := !A.contains 57 && !A.contains 59 && B.all (fun q => !(q.1 == 59) && !(q.1 == 57 && (q.2 == 5 || q.2 == 6 || q.2 == 14)))
theorem RW.tro {M M' : Mem} {c : Int → Int} {A : List Nat} {B : List (Nat × Int)} (h : RW M 0 c) (hF : Fr A B M M') (ht : TRo M M') (e : troOK A B = true) : RW M' 0 c := by
  unfold troOK at e
  simp only [Bool.and_eq_true, Bool.not_eq_true'] at e
  obtain ⟨⟨e7, e9⟩, eB⟩ := e
  have nA : ∀ k : Nat, A.contains k = false → k ∉ A := fun k q z => by rw [List.contains_iff_mem.mpr z] at q; cases q
  have nB : ∀ (a : Nat) (j : Int), (!(a == 59) && !(a == 57 && (j == 5 || j == 6 || j == 14))) = false → (a, j) ∉ B := fun a j q z => by
    have := List.all_eq_true.mp eB _ z
    rw [q] at this
    cases this
  exact ms_fr (fun j _ j1 => ht j (by omega)) (fun j => hF 59 j (nA _ e9) (nB _ _ rfl)) (hF 57 14 (nA _ e7) (nB _ _ rfl)) (hF 57 5 (nA _ e7) (nB _ _ rfl)) (hF 57 6 (nA _ e7) (nB _ _ rfl)) h
theorem upd1_2 {f : Int → Int} {k a v : Int} : upd1 (upd1 f k a) k v = upd1 f k v := funext fun j => by unfold upd1; split <;> rfl
theorem upd1_sf {f : Int → Int} {k : Int} : upd1 f k (f k) = f := funext fun j => by
  unfold upd1
  split
  · rename_i e; rw [e]
  · rfl
theorem RW.u2 {M : Mem} {b k a v : Int} {c : Int → Int} (h : RW M b (upd1 (upd1 c k a) k v)) : RW M b (upd1 c k v) := by rw [upd1_2] at h; exact h
theorem SM.up {d : Int → Int} {k v : Int} (h : SM d) (hk : (0 ≤ k ∧ k < 10 ∧ 0 ≤ v ∧ v ≤ 20) ∨ (16 ≤ k ∧ k < 22 ∧ 0 ≤ v ∧ v ≤ 45) ∨ (58 ≤ k ∧ k < 88 ∧ 0 ≤ v ∧ v ≤ 3) ∨ (k = 118 ∧ 0 ≤ v ∧ v ≤ 61)) : SM (upd1 d k v) := by
  have u : ∀ j, (j = k ∧ upd1 d k v j = v) ∨ (j ≠ k ∧ upd1 d k v j = d j) := fun j => by
    by_cases e : j = k
    · exact .inl ⟨e, if_pos e⟩
    · exact .inr ⟨e, if_neg e⟩
  obtain ⟨a, b, c, e, f, g⟩ := h
  refine ⟨?_, fun x x0 x1 => ?_, fun w w0 w1 => ?_, fun p p0 p1 => ?_, ?_, fun w w0 w1 => ?_⟩
  · have := u 121; have := u 122; omega
  · have := u x; have := u (5 + x); have := b x x0 x1; omega
  · have := u (10 + w); have := u (16 + w); have := u (22 + w); have := c w w0 w1; omega
  · have := u (28 + p); have := u (58 + p); have := u (88 + p); have := e p p0 p1; omega
  · have := u 118; have := u 119; have := u 120; omega
  · have := u 122; have := u (10 + w)
    have a2 := a.2
    have := g w w0 (by omega)
    omega
/-- a PROMISE that counts is in the way, as the model tells it -/
def itwM (d : Int → Int) (x w : Int) : Prop := (0 < d (58 + x * 6 + w) ∧ d 118 ≤ d (88 + x * 6 + w)) ∧ SPC (insOf d) < SPC (insOf (upd1 d (58 + x * 6 + w) 0))

theorem dX12_tries_0 : decode cX12_tries 0 = .ok (.aload_n 0, 1) := by decide +kernel
theorem dX12_tries_1 : decode cX12_tries 1 = .ok (.iconst 0, 1) := by decide +kernel
theorem dX12_tries_2 : decode cX12_tries 2 = .ok (.bipush 114, 2) := by decide +kernel
theorem dX12_tries_4 : decode cX12_tries 4 = .ok (.bipush 114, 2) := by decide +kernel
theorem dX12_tries_6 : decode cX12_tries 6 = .ok (.invokevirtual 290, 3) := by decide +kernel
theorem dX12_tries_9 : decode cX12_tries 9 = .ok (.return_, 1) := by decide +kernel
set_option maxHeartbeats 400000 in
theorem c12_tries {G : Gl} {l : Launch}  {M : Mem} {c : Int → Int} (hG : GR M) (hK : RW M 0 c) : Ct G LY 82 l 1 m12_tries [vR 57] M (RV (fun M' => Fr [58] [] M M' ∧ TRo M M' ∧ RW M' 0 c ∧ RW M' 114 c)) := by
  refine R_start (by decide +kernel) (Nat.le_of_ble_eq_true rfl) (fun C hC hRm hlau => ?_)
  show RZ G LY C (Zn G LY 82 C (RV (fun M' => Fr [58] [] M M' ∧ TRo M M' ∧ RW M' 0 c ∧ RW M' 114 c))) 0 0 82 0 [some (vR 57)] [] M
  refine R_aload_0 hC dX12_tries_0 ?_
  refine R_iconst hC dX12_tries_1 ⟨by decide, by decide⟩ ?_
  refine R_bipush hC dX12_tries_2 (by decide +kernel) ⟨by decide, by decide⟩ ?_
  refine R_bipush hC dX12_tries_4 (by decide +kernel) ⟨by decide, by decide⟩ ?_
  refine R_callVv (as := [vI _, vI _, vI _]) hC dX12_tries_6 mo_12_copies ml_12_290 (by decide) rfl rfl (c12_copies  hG (by omega) (by omega) (by omega) (by omega) (by omega) (by omega)) rfl rfl hRm (by decide) (by decide) (Nat.le_of_ble_eq_true rfl) (fun Mc1 hq2 => ?_)
  exact R_return hC dX12_tries_9 rfl (ret_V (by rw [hq2]; exact ⟨fun a j p _ => if_neg (fun e => p (by rw [e.1]; exact List.mem_cons_self)), fun j q => if_neg (fun e => by omega), RW.cpo hK (by omega), RW.cp hK 114⟩))
theorem dX12_late_0 : decode cX12_late 0 = .ok (.aload_n 0, 1) := by decide +kernel
theorem dX12_late_1 : decode cX12_late 1 = .ok (.invokevirtual 293, 3) := by decide +kernel
theorem dX12_late_4 : decode cX12_late 4 = .ok (.aload_n 0, 1) := by decide +kernel
theorem dX12_late_5 : decode cX12_late 5 = .ok (.getfield 9, 3) := by decide +kernel
theorem dX12_late_8 : decode cX12_late 8 = .ok (.bipush 106, 2) := by decide +kernel
theorem dX12_late_10 : decode cX12_late 10 = .ok (.iaload, 1) := by decide +kernel
theorem dX12_late_11 : decode cX12_late 11 = .ok (.istore_n 1, 1) := by decide +kernel
theorem dX12_late_12 : decode cX12_late 12 = .ok (.iload_n 1, 1) := by decide +kernel
theorem dX12_late_13 : decode cX12_late 13 = .ok (.bipush 61, 2) := by decide +kernel
theorem dX12_late_15 : decode cX12_late 15 = .ok (.if_icmp .gt 29, 3) := by decide +kernel
theorem dX12_late_18 : decode cX12_late 18 = .ok (.aload_n 0, 1) := by decide +kernel
theorem dX12_late_19 : decode cX12_late 19 = .ok (.getfield 9, 3) := by decide +kernel
theorem dX12_late_22 : decode cX12_late 22 = .ok (.sipush 220, 3) := by decide +kernel
theorem dX12_late_25 : decode cX12_late 25 = .ok (.iload_n 1, 1) := by decide +kernel
theorem dX12_late_26 : decode cX12_late 26 = .ok (.iastore, 1) := by decide +kernel
theorem dX12_late_27 : decode cX12_late 27 = .ok (.aload_n 0, 1) := by decide +kernel
theorem dX12_late_28 : decode cX12_late 28 = .ok (.bipush 114, 2) := by decide +kernel
theorem dX12_late_30 : decode cX12_late 30 = .ok (.invokevirtual 296, 3) := by decide +kernel
theorem dX12_late_33 : decode cX12_late 33 = .ok (.ifCond .eq 5, 3) := by decide +kernel
theorem dX12_late_36 : decode cX12_late 36 = .ok (.iload_n 1, 1) := by decide +kernel
theorem dX12_late_37 : decode cX12_late 37 = .ok (.ireturn, 1) := by decide +kernel
theorem dX12_late_38 : decode cX12_late 38 = .ok (.iinc 1 1, 3) := by decide +kernel
theorem dX12_late_41 : decode cX12_late 41 = .ok (.goto (-29), 3) := by decide +kernel
theorem dX12_late_44 : decode cX12_late 44 = .ok (.iconst (-1), 1) := by decide +kernel
theorem dX12_late_45 : decode cX12_late 45 = .ok (.ireturn, 1) := by decide +kernel
set_option maxHeartbeats 400000 in
theorem c12_late {G : Gl} {l : Launch}  {M : Mem} {c : Int → Int} (hG : GR M) (hK : RW M 0 c) (hS : SP c) : Ct G LY 82 l 6 m12_late [vR 57] M (RP (fun v M' => Fr [58, 63, 64, 65, 66, 67, 68, 69, 70, 71, 72] [(57, 22), (57, 23)] M M' ∧ TRo M M' ∧ LateV c v)) := by
  refine R_start (by decide +kernel) (Nat.le_of_ble_eq_true rfl) (fun C hC hRm hlau => ?_)
  show RZ G LY C (Zn G LY 82 C (RP (fun v M' => Fr [58, 63, 64, 65, 66, 67, 68, 69, 70, 71, 72] [(57, 22), (57, 23)] M M' ∧ TRo M M' ∧ LateV c v))) 0 0 82 0 [some (vR 57), none] [] M
  have hM := hS.m
  have hI := hM.I
  have hL := hM.1.1
  have hW := hM.1.2
  have h118 := hS.2.2.2.2.1.1
  refine R_aload_0 hC dX12_late_0 ?_
  refine R_callVv (as := []) hC dX12_late_1 mo_12_tries ml_12_293 (by decide) rfl rfl (c12_tries  hG hK) rfl rfl hRm (by decide) (by decide) (Nat.le_of_ble_eq_true rfl) (fun Mc1 hq2 => ?_)
  have hF0 : Fr [58, 63, 64, 65, 66, 67, 68, 69, 70, 71, 72] [(57, 22), (57, 23)] M Mc1 := hq2.1.mo (by simp) (by simp)
  have hT0 : TRo M Mc1 := hq2.2.1
  refine R_aload_0 hC dX12_late_4 ?_
  have hG3 : GR Mc1 := (GR.fr hG hq2.1 (by decide +kernel))
  refine R_getR hC dX12_late_5 fl_12_9 (by decide) rfl (by decide) (by decide) (fi := 0) rfl (r := 58) (gr_57_0 hG3) ?_
  refine R_bipush hC dX12_late_8 (by decide +kernel) ⟨by decide, by decide⟩ ?_
  have hk4 : RW Mc1 0 c := (RW.tro hK hq2.1 hq2.2.1 (by decide +kernel))
  refine R_ialoadE hC dX12_late_10 (by decide) rfl (by omega) (by omega) (hk4.r5 (k := 118) (by omega) (by omega) (by omega)) ?_
  refine R_istore_1 hC dX12_late_11 rfl ?_
  have L12 : ∀ (mq : Nat) (y : Int) (e : Int) (M2 : Mem), (c 118 ≤ y) → (y ≤ 62) → (GR M2) → (RW M2 0 c) → (RW M2 114 (upd1 c 118 e)) → (Fr [58, 63, 64, 65, 66, 67, 68, 69, 70, 71, 72] [(57, 22), (57, 23)] M M2) → (TRo M M2) → (∀ z, c 118 ≤ z → z < y → ¬ planY c z) → (62 - y).toNat < mq → RZ G LY C (Zn G LY 82 C (RP (fun v M' => Fr [58, 63, 64, 65, 66, 67, 68, 69, 70, 71, 72] [(57, 22), (57, 23)] M M' ∧ TRo M M' ∧ LateV c v))) 0 0 82 12 [some (vR 57), some (vI y)] [] M2 := by
    intro mq
    induction mq with
    | zero =>
      intro y e M2 hy0 hy1 hg hk2 hk3 hF2 hT2 hno hm
      exact absurd hm (Nat.not_lt_zero _)
    | succ mq ih12 =>
      intro y e M2 hy0 hy1 hg hk2 hk3 hF2 hT2 hno hm12
      refine R_iload_1 hC dX12_late_12 ?_
      refine R_bipush hC dX12_late_13 (by decide +kernel) ⟨by decide, by decide⟩ ?_
      refine R_icmp_gt hC dX12_late_15 (tgt := 44) (by decide) (fun hb15 => ?_) (fun hb15 => ?_)
      · skip
        refine R_iconst hC dX12_late_44 ⟨by decide, by decide⟩ ?_
        exact R_ireturn hC dX12_late_45 rfl (ret_P ⟨hF2, hT2, .inl ⟨rfl, fun z a b => hno z a (by omega)⟩⟩)
      · skip
        refine R_aload_0 hC dX12_late_18 ?_
        refine R_getR hC dX12_late_19 fl_12_9 (by decide) rfl (by decide) (by decide) (fi := 0) rfl (r := 58) (gr_57_0 hg) ?_
        refine R_sipush hC dX12_late_22 (by decide +kernel) ⟨by decide, by decide⟩ ?_
        refine R_iload_1 hC dX12_late_25 ?_
        refine R_iastore hC dX12_late_26 (by decide) rfl (by omega) (by omega) ?_
        have hk5 : RW (uM M2 58 220 y) 114 (upd1 (upd1 c 118 e) 118 y) := (hk3.w5 (k := 118) (by omega) (by omega) (by omega))
        have hF3a : Fr [58, 63, 64, 65, 66, 67, 68, 69, 70, 71, 72] [(57, 22), (57, 23)] M (uM M2 58 220 y) := Fr.uA hF2 (by decide)
        have hT3a : TRo M (uM M2 58 220 y) := hT2.u (by decide) (by decide)
        have hMy : SM (upd1 c 118 y) := hM.up (.inr (.inr (.inr ⟨rfl, by omega, by omega⟩)))
        refine R_aload_0 hC dX12_late_27 ?_
        refine R_bipush hC dX12_late_28 (by decide +kernel) ⟨by decide, by decide⟩ ?_
        have hG6 : GR (uM M2 58 220 y) := (GR.uA hg (by decide +kernel) (.inl (by decide)))
        have hk7 : RW (uM M2 58 220 y) 114 (upd1 c 118 y) := (hk5.u2)
        refine R_callVp (as := [vI _]) hC dX12_late_30 mo_12_isPlanOf ml_12_296 (by decide) rfl rfl (c12_isPlanOf  hG6 hk7 (by omega) (by omega) hMy) rfl rfl hRm (by decide) (by decide) (Nat.le_of_ble_eq_true rfl) (fun v10 Mc8 hq9 => ?_)
        have hF3 : Fr [58, 63, 64, 65, 66, 67, 68, 69, 70, 71, 72] [(57, 22), (57, 23)] M Mc8 := Fr.tt hF3a (hq9.1.mo (by simp) (by simp))
        have hT3 : TRo M Mc8 := TRo.tr hT3a (TRo.of hq9.1 (by decide) (by decide))
        refine R_if_eq hC dX12_late_33 (tgt := 38) (by decide) (fun hb33 => ?_) (fun hb33 => ?_)
        · skip
          refine R_iinc_1 hC dX12_late_38 rfl ⟨by omega, by omega⟩ ?_
          refine R_goto hC dX12_late_41 (tgt := 12) (by decide) ?_
          have hG11 : GR Mc8 := (GR.fr hG6 hq9.1 (by decide +kernel))
          have hk12 : RW Mc8 0 c := (RW.fr (hk2.ot (by omega)) hq9.1 (by decide +kernel))
          have hk13 : RW Mc8 114 (upd1 c 118 y) := (RW.fr hk7 hq9.1 (by decide +kernel))
          exact ih12 _ y _ (by omega) (by omega) hG11 hk12 hk13 hF3 hT3 (fun z a b => by
            by_cases q : z = y
            · rw [q]; exact bP_z (hq9.2.2.symm.trans hb33)
            · exact hno z a (by omega)) (by omega)
        · skip
          refine R_iload_1 hC dX12_late_36 ?_
          exact R_ireturn hC dX12_late_37 rfl (ret_P ⟨hF3, hT3, .inr ⟨hy0, by omega, bP_nz (fun z => hb33 (hq9.2.2.trans z)), hno⟩⟩)
  have hk14 : RW Mc1 114 c := (hq2.2.2.2)
  exact L12 _ _ (c 118) _ (by omega) (by omega) hG3 hk4 (by (rw [upd1_sf]; exact hk14)) hF0 hT0 (fun z a b => by omega) (Nat.lt_succ_self _)
theorem dX12_stricter_0 : decode cX12_stricter 0 = .ok (.aload_n 0, 1) := by decide +kernel
theorem dX12_stricter_1 : decode cX12_stricter 1 = .ok (.iconst 0, 1) := by decide +kernel
theorem dX12_stricter_2 : decode cX12_stricter 2 = .ok (.invokevirtual 296, 3) := by decide +kernel
theorem dX12_stricter_5 : decode cX12_stricter 5 = .ok (.ifCond .ne 5, 3) := by decide +kernel
theorem dX12_stricter_8 : decode cX12_stricter 8 = .ok (.iconst (-1), 1) := by decide +kernel
theorem dX12_stricter_9 : decode cX12_stricter 9 = .ok (.ireturn, 1) := by decide +kernel
theorem dX12_stricter_10 : decode cX12_stricter 10 = .ok (.aload_n 0, 1) := by decide +kernel
theorem dX12_stricter_11 : decode cX12_stricter 11 = .ok (.invokevirtual 293, 3) := by decide +kernel
theorem dX12_stricter_14 : decode cX12_stricter 14 = .ok (.iconst 0, 1) := by decide +kernel
theorem dX12_stricter_15 : decode cX12_stricter 15 = .ok (.istore_n 2, 1) := by decide +kernel
theorem dX12_stricter_16 : decode cX12_stricter 16 = .ok (.iload_n 2, 1) := by decide +kernel
theorem dX12_stricter_17 : decode cX12_stricter 17 = .ok (.bipush 15, 2) := by decide +kernel
theorem dX12_stricter_19 : decode cX12_stricter 19 = .ok (.if_icmp .ge 34, 3) := by decide +kernel
theorem dX12_stricter_22 : decode cX12_stricter 22 = .ok (.aload_n 0, 1) := by decide +kernel
theorem dX12_stricter_23 : decode cX12_stricter 23 = .ok (.getfield 9, 3) := by decide +kernel
theorem dX12_stricter_26 : decode cX12_stricter 26 = .ok (.sipush 214, 3) := by decide +kernel
theorem dX12_stricter_29 : decode cX12_stricter 29 = .ok (.iload_n 1, 1) := by decide +kernel
theorem dX12_stricter_30 : decode cX12_stricter 30 = .ok (.iadd, 1) := by decide +kernel
theorem dX12_stricter_31 : decode cX12_stricter 31 = .ok (.dup2, 1) := by decide +kernel
theorem dX12_stricter_32 : decode cX12_stricter 32 = .ok (.iaload, 1) := by decide +kernel
theorem dX12_stricter_33 : decode cX12_stricter 33 = .ok (.iconst 1, 1) := by decide +kernel
theorem dX12_stricter_34 : decode cX12_stricter 34 = .ok (.iadd, 1) := by decide +kernel
theorem dX12_stricter_35 : decode cX12_stricter 35 = .ok (.iastore, 1) := by decide +kernel
theorem dX12_stricter_36 : decode cX12_stricter 36 = .ok (.aload_n 0, 1) := by decide +kernel
theorem dX12_stricter_37 : decode cX12_stricter 37 = .ok (.bipush 114, 2) := by decide +kernel
theorem dX12_stricter_39 : decode cX12_stricter 39 = .ok (.invokevirtual 296, 3) := by decide +kernel
theorem dX12_stricter_42 : decode cX12_stricter 42 = .ok (.ifCond .ne 5, 3) := by decide +kernel
theorem dX12_stricter_45 : decode cX12_stricter 45 = .ok (.iload_n 2, 1) := by decide +kernel
theorem dX12_stricter_46 : decode cX12_stricter 46 = .ok (.ireturn, 1) := by decide +kernel
theorem dX12_stricter_47 : decode cX12_stricter 47 = .ok (.iinc 2 1, 3) := by decide +kernel
theorem dX12_stricter_50 : decode cX12_stricter 50 = .ok (.goto (-34), 3) := by decide +kernel
theorem dX12_stricter_53 : decode cX12_stricter 53 = .ok (.iload_n 2, 1) := by decide +kernel
theorem dX12_stricter_54 : decode cX12_stricter 54 = .ok (.ireturn, 1) := by decide +kernel
set_option maxHeartbeats 1000000 in
theorem c12_stricter {G : Gl} {l : Launch}  {M : Mem} {c : Int → Int} {w : Int} (hG : GR M) (hK : RW M 0 c) (hS : SP c) (hw0 : 0 ≤ w) (hw1 : w < c 122) : Ct G LY 82 l 6 m12_stricter [vR 57, vI w] M (RP (fun v M' => Fr [58, 63, 64, 65, 66, 67, 68, 69, 70, 71, 72] [(57, 22), (57, 23)] M M' ∧ TRo M M' ∧ ((¬ planI (insOf c) ∧ v = -1) ∨ (planI (insOf c) ∧ FF (fun m => planI (insOf (upd1 c (16 + w) (c (16 + w) + m)))) (15) v)))) := by
  refine R_start (by decide +kernel) (Nat.le_of_ble_eq_true rfl) (fun C hC hRm hlau => ?_)
  show RZ G LY C (Zn G LY 82 C (RP (fun v M' => Fr [58, 63, 64, 65, 66, 67, 68, 69, 70, 71, 72] [(57, 22), (57, 23)] M M' ∧ TRo M M' ∧ ((¬ planI (insOf c) ∧ v = -1) ∨ (planI (insOf c) ∧ FF (fun m => planI (insOf (upd1 c (16 + w) (c (16 + w) + m)))) (15) v))))) 0 0 82 0 [some (vR 57), some (vI w), none] [] M
  have hM := hS.m
  have hI := hM.I
  have hL := hM.1.1
  have hW := hM.1.2
  have hkw := (hS.2.2.1 w hw0 (by omega)).2.1
  refine R_aload_0 hC dX12_stricter_0 ?_
  refine R_iconst hC dX12_stricter_1 ⟨by decide, by decide⟩ ?_
  refine R_callVp (as := [vI _]) hC dX12_stricter_2 mo_12_isPlanOf ml_12_296 (by decide) rfl rfl (c12_isPlanOf  hG hK (by omega) (by omega) hM) rfl rfl hRm (by decide) (by decide) (Nat.le_of_ble_eq_true rfl) (fun v3 Mc1 hq2 => ?_)
  have hF0 : Fr [58, 63, 64, 65, 66, 67, 68, 69, 70, 71, 72] [(57, 22), (57, 23)] M Mc1 := hq2.1.mo (by simp) (by simp)
  have hT0 : TRo M Mc1 := TRo.of hq2.1 (by decide) (by decide)
  refine R_if_ne hC dX12_stricter_5 (tgt := 10) (by decide) (fun hb5 => ?_) (fun hb5 => ?_)
  · skip
    have hpl := bP_nz (fun z => hb5 (hq2.2.2.trans z))
    refine R_aload_0 hC dX12_stricter_10 ?_
    have hG4 : GR Mc1 := (GR.fr hG hq2.1 (by decide +kernel))
    have hk5 : RW Mc1 0 c := (RW.fr hK hq2.1 (by decide +kernel))
    refine R_callVv (as := []) hC dX12_stricter_11 mo_12_tries ml_12_293 (by decide) rfl rfl (c12_tries  hG4 hk5) rfl rfl hRm (by decide) (by decide) (Nat.le_of_ble_eq_true rfl) (fun Mc6 hq7 => ?_)
    have hF1 : Fr [58, 63, 64, 65, 66, 67, 68, 69, 70, 71, 72] [(57, 22), (57, 23)] M Mc6 := Fr.tt hF0 (hq7.1.mo (by simp) (by simp))
    have hT1 : TRo M Mc6 := TRo.tr hT0 (hq7.2.1)
    refine R_iconst hC dX12_stricter_14 ⟨by decide, by decide⟩ ?_
    refine R_istore_2 hC dX12_stricter_15 rfl ?_
    have L16 : ∀ (mq : Nat) (n : Int) (M2 : Mem), (0 ≤ n) → (n ≤ 15) → (GR M2) → (RW M2 0 c) → (RW M2 114 (upd1 c (16 + w) (c (16 + w) + n))) → (Fr [58, 63, 64, 65, 66, 67, 68, 69, 70, 71, 72] [(57, 22), (57, 23)] M M2) → (TRo M M2) → (∀ m, 1 ≤ m → m ≤ n → planI (insOf (upd1 c (16 + w) (c (16 + w) + m)))) → (15 - n).toNat < mq → RZ G LY C (Zn G LY 82 C (RP (fun v M' => Fr [58, 63, 64, 65, 66, 67, 68, 69, 70, 71, 72] [(57, 22), (57, 23)] M M' ∧ TRo M M' ∧ ((¬ planI (insOf c) ∧ v = -1) ∨ (planI (insOf c) ∧ FF (fun m => planI (insOf (upd1 c (16 + w) (c (16 + w) + m)))) (15) v))))) 0 0 82 16 [some (vR 57), some (vI w), some (vI n)] [] M2 := by
      intro mq
      induction mq with
      | zero =>
        intro n M2 hn0 hn1 hg hk2 hk3 hF2 hT2 hyes hm
        exact absurd hm (Nat.not_lt_zero _)
      | succ mq ih16 =>
        intro n M2 hn0 hn1 hg hk2 hk3 hF2 hT2 hyes hm16
        refine R_iload_2 hC dX12_stricter_16 ?_
        refine R_bipush hC dX12_stricter_17 (by decide +kernel) ⟨by decide, by decide⟩ ?_
        refine R_icmp_ge hC dX12_stricter_19 (tgt := 53) (by decide) (fun hb19 => ?_) (fun hb19 => ?_)
        · skip
          refine R_iload_2 hC dX12_stricter_53 ?_
          exact R_ireturn hC dX12_stricter_54 rfl (ret_P ⟨hF2, hT2, .inr ⟨hpl, hn0, hn1, hyes, fun z => by omega⟩⟩)
        · skip
          refine R_aload_0 hC dX12_stricter_22 ?_
          refine R_getR hC dX12_stricter_23 fl_12_9 (by decide) rfl (by decide) (by decide) (fi := 0) rfl (r := 58) (gr_57_0 hg) ?_
          refine R_sipush hC dX12_stricter_26 (by decide +kernel) ⟨by decide, by decide⟩ ?_
          refine R_iload_1 hC dX12_stricter_29 ?_
          refine R_iadd hC dX12_stricter_30 ⟨by omega, by omega⟩ ?_
          refine R_dup2 hC dX12_stricter_31 rfl rfl ?_
          refine R_ialoadE hC dX12_stricter_32 (by decide) rfl (by omega) (by omega) ((hk3.r2 (k := 16 + w) (by omega) (by omega) (by omega)).trans upd1_e) ?_
          refine R_iconst hC dX12_stricter_33 ⟨by decide, by decide⟩ ?_
          refine R_iadd hC dX12_stricter_34 ⟨by omega, by omega⟩ ?_
          refine R_iastore hC dX12_stricter_35 (by decide) rfl (by omega) (by omega) ?_
          have hk8 : RW (uM M2 58 (214 + w) ((c (16 + w) + n) + 1)) 114 (upd1 (upd1 c (16 + w) (c (16 + w) + n)) (16 + w) ((c (16 + w) + n) + 1)) := (hk3.w2 (k := 16 + w) (by omega) (by omega) (by omega))
          have hF3a : Fr [58, 63, 64, 65, 66, 67, 68, 69, 70, 71, 72] [(57, 22), (57, 23)] M (uM M2 58 (214 + w) ((c (16 + w) + n) + 1)) := Fr.uA hF2 (by decide)
          have hT3a : TRo M (uM M2 58 (214 + w) ((c (16 + w) + n) + 1)) := hT2.u (by omega) (by omega)
          have hMy : SM (upd1 c (16 + w) (c (16 + w) + (n + 1))) := hM.up (.inr (.inl ⟨by omega, by omega, by omega, by omega⟩))
          refine R_aload_0 hC dX12_stricter_36 ?_
          refine R_bipush hC dX12_stricter_37 (by decide +kernel) ⟨by decide, by decide⟩ ?_
          have hG9 : GR (uM M2 58 (214 + w) ((c (16 + w) + n) + 1)) := (GR.uA hg (by decide +kernel) (.inl (by decide)))
          have hk10 : RW (uM M2 58 (214 + w) ((c (16 + w) + n) + 1)) 114 (upd1 c (16 + w) (c (16 + w) + (n + 1))) := ((by rw [show c (16 + w) + (n + 1) = c (16 + w) + n + 1 by omega]; exact hk8.u2 : RW (uM M2 58 (214 + w) ((c (16 + w) + n) + 1)) 114 (upd1 c (16 + w) (c (16 + w) + (n + 1)))))
          refine R_callVp (as := [vI _]) hC dX12_stricter_39 mo_12_isPlanOf ml_12_296 (by decide) rfl rfl (c12_isPlanOf  hG9 hk10 (by omega) (by omega) hMy) rfl rfl hRm (by decide) (by decide) (Nat.le_of_ble_eq_true rfl) (fun v13 Mc11 hq12 => ?_)
          have hF3 : Fr [58, 63, 64, 65, 66, 67, 68, 69, 70, 71, 72] [(57, 22), (57, 23)] M Mc11 := Fr.tt hF3a (hq12.1.mo (by simp) (by simp))
          have hT3 : TRo M Mc11 := TRo.tr hT3a (TRo.of hq12.1 (by decide) (by decide))
          refine R_if_ne hC dX12_stricter_42 (tgt := 47) (by decide) (fun hb42 => ?_) (fun hb42 => ?_)
          · skip
            refine R_iinc_2 hC dX12_stricter_47 rfl ⟨by omega, by omega⟩ ?_
            refine R_goto hC dX12_stricter_50 (tgt := 16) (by decide) ?_
            have hG14 : GR Mc11 := (GR.fr hG9 hq12.1 (by decide +kernel))
            have hk15 : RW Mc11 0 c := (RW.fr (hk2.ot (by omega)) hq12.1 (by decide +kernel))
            have hk16 : RW Mc11 114 (upd1 c (16 + w) (c (16 + w) + (n + 1))) := (RW.fr hk10 hq12.1 (by decide +kernel))
            exact ih16 _ _ (by omega) (by omega) hG14 hk15 hk16 hF3 hT3 (fun m a b => by
              by_cases q : m = n + 1
              · rw [q]; exact bP_nz (fun z => hb42 (hq12.2.2.trans z))
              · exact hyes m a (by omega)) (by omega)
          · skip
            refine R_iload_2 hC dX12_stricter_45 ?_
            exact R_ireturn hC dX12_stricter_46 rfl (ret_P ⟨hF3, hT3, .inr ⟨hpl, hn0, hn1, hyes, fun _ => bP_z (hq12.2.2.symm.trans hb42)⟩⟩)
    have hG17 : GR Mc6 := (GR.fr hG4 hq7.1 (by decide +kernel))
    have hk18 : RW Mc6 0 c := (RW.tro hk5 hq7.1 hq7.2.1 (by decide +kernel))
    have hk19 : RW Mc6 114 c := (hq7.2.2.2)
    exact L16 _ _ _ (by omega) (by omega) hG17 hk18 (by (rw [show c (16 + w) + 0 = c (16 + w) by omega, upd1_sf]; exact hk19)) hF1 hT1 (fun m a b => by omega) (Nat.lt_succ_self _)
  · skip
    have hnp := bP_z (hq2.2.2.symm.trans hb5)
    refine R_iconst hC dX12_stricter_8 ⟨by decide, by decide⟩ ?_
    exact R_ireturn hC dX12_stricter_9 rfl (ret_P ⟨hF0, hT0, .inl ⟨hnp, rfl⟩⟩)
theorem dX12_tighter_0 : decode cX12_tighter 0 = .ok (.aload_n 0, 1) := by decide +kernel
theorem dX12_tighter_1 : decode cX12_tighter 1 = .ok (.iconst 0, 1) := by decide +kernel
theorem dX12_tighter_2 : decode cX12_tighter 2 = .ok (.invokevirtual 296, 3) := by decide +kernel
theorem dX12_tighter_5 : decode cX12_tighter 5 = .ok (.ifCond .ne 5, 3) := by decide +kernel
theorem dX12_tighter_8 : decode cX12_tighter 8 = .ok (.iconst (-1), 1) := by decide +kernel
theorem dX12_tighter_9 : decode cX12_tighter 9 = .ok (.ireturn, 1) := by decide +kernel
theorem dX12_tighter_10 : decode cX12_tighter 10 = .ok (.aload_n 0, 1) := by decide +kernel
theorem dX12_tighter_11 : decode cX12_tighter 11 = .ok (.invokevirtual 293, 3) := by decide +kernel
theorem dX12_tighter_14 : decode cX12_tighter 14 = .ok (.iconst 0, 1) := by decide +kernel
theorem dX12_tighter_15 : decode cX12_tighter 15 = .ok (.istore_n 2, 1) := by decide +kernel
theorem dX12_tighter_16 : decode cX12_tighter 16 = .ok (.iload_n 2, 1) := by decide +kernel
theorem dX12_tighter_17 : decode cX12_tighter 17 = .ok (.aload_n 0, 1) := by decide +kernel
theorem dX12_tighter_18 : decode cX12_tighter 18 = .ok (.getfield 9, 3) := by decide +kernel
theorem dX12_tighter_21 : decode cX12_tighter 21 = .ok (.iconst 0, 1) := by decide +kernel
theorem dX12_tighter_22 : decode cX12_tighter 22 = .ok (.iload_n 1, 1) := by decide +kernel
theorem dX12_tighter_23 : decode cX12_tighter 23 = .ok (.iadd, 1) := by decide +kernel
theorem dX12_tighter_24 : decode cX12_tighter 24 = .ok (.iaload, 1) := by decide +kernel
theorem dX12_tighter_25 : decode cX12_tighter 25 = .ok (.if_icmp .ge 33, 3) := by decide +kernel
theorem dX12_tighter_28 : decode cX12_tighter 28 = .ok (.aload_n 0, 1) := by decide +kernel
theorem dX12_tighter_29 : decode cX12_tighter 29 = .ok (.getfield 9, 3) := by decide +kernel
theorem dX12_tighter_32 : decode cX12_tighter 32 = .ok (.bipush 114, 2) := by decide +kernel
theorem dX12_tighter_34 : decode cX12_tighter 34 = .ok (.iload_n 1, 1) := by decide +kernel
theorem dX12_tighter_35 : decode cX12_tighter 35 = .ok (.iadd, 1) := by decide +kernel
theorem dX12_tighter_36 : decode cX12_tighter 36 = .ok (.dup2, 1) := by decide +kernel
theorem dX12_tighter_37 : decode cX12_tighter 37 = .ok (.iaload, 1) := by decide +kernel
theorem dX12_tighter_38 : decode cX12_tighter 38 = .ok (.iconst 1, 1) := by decide +kernel
theorem dX12_tighter_39 : decode cX12_tighter 39 = .ok (.isub, 1) := by decide +kernel
theorem dX12_tighter_40 : decode cX12_tighter 40 = .ok (.iastore, 1) := by decide +kernel
theorem dX12_tighter_41 : decode cX12_tighter 41 = .ok (.aload_n 0, 1) := by decide +kernel
theorem dX12_tighter_42 : decode cX12_tighter 42 = .ok (.bipush 114, 2) := by decide +kernel
theorem dX12_tighter_44 : decode cX12_tighter 44 = .ok (.invokevirtual 296, 3) := by decide +kernel
theorem dX12_tighter_47 : decode cX12_tighter 47 = .ok (.ifCond .ne 5, 3) := by decide +kernel
theorem dX12_tighter_50 : decode cX12_tighter 50 = .ok (.iload_n 2, 1) := by decide +kernel
theorem dX12_tighter_51 : decode cX12_tighter 51 = .ok (.ireturn, 1) := by decide +kernel
theorem dX12_tighter_52 : decode cX12_tighter 52 = .ok (.iinc 2 1, 3) := by decide +kernel
theorem dX12_tighter_55 : decode cX12_tighter 55 = .ok (.goto (-39), 3) := by decide +kernel
theorem dX12_tighter_58 : decode cX12_tighter 58 = .ok (.iload_n 2, 1) := by decide +kernel
theorem dX12_tighter_59 : decode cX12_tighter 59 = .ok (.ireturn, 1) := by decide +kernel
set_option maxHeartbeats 1000000 in
theorem c12_tighter {G : Gl} {l : Launch}  {M : Mem} {c : Int → Int} {x : Int} (hG : GR M) (hK : RW M 0 c) (hS : SP c) (hx0 : 0 ≤ x) (hx1 : x < c 121) : Ct G LY 82 l 6 m12_tighter [vR 57, vI x] M (RP (fun v M' => Fr [58, 63, 64, 65, 66, 67, 68, 69, 70, 71, 72] [(57, 22), (57, 23)] M M' ∧ TRo M M' ∧ ((¬ planI (insOf c) ∧ v = -1) ∨ (planI (insOf c) ∧ FF (fun m => planI (insOf (upd1 c x (c x - m)))) (c x) v)))) := by
  refine R_start (by decide +kernel) (Nat.le_of_ble_eq_true rfl) (fun C hC hRm hlau => ?_)
  show RZ G LY C (Zn G LY 82 C (RP (fun v M' => Fr [58, 63, 64, 65, 66, 67, 68, 69, 70, 71, 72] [(57, 22), (57, 23)] M M' ∧ TRo M M' ∧ ((¬ planI (insOf c) ∧ v = -1) ∨ (planI (insOf c) ∧ FF (fun m => planI (insOf (upd1 c x (c x - m)))) (c x) v))))) 0 0 82 0 [some (vR 57), some (vI x), none] [] M
  have hM := hS.m
  have hI := hM.I
  have hL := hM.1.1
  have hW := hM.1.2
  have hkx := (hS.2.1 x hx0 (by omega)).1
  refine R_aload_0 hC dX12_tighter_0 ?_
  refine R_iconst hC dX12_tighter_1 ⟨by decide, by decide⟩ ?_
  refine R_callVp (as := [vI _]) hC dX12_tighter_2 mo_12_isPlanOf ml_12_296 (by decide) rfl rfl (c12_isPlanOf  hG hK (by omega) (by omega) hM) rfl rfl hRm (by decide) (by decide) (Nat.le_of_ble_eq_true rfl) (fun v3 Mc1 hq2 => ?_)
  have hF0 : Fr [58, 63, 64, 65, 66, 67, 68, 69, 70, 71, 72] [(57, 22), (57, 23)] M Mc1 := hq2.1.mo (by simp) (by simp)
  have hT0 : TRo M Mc1 := TRo.of hq2.1 (by decide) (by decide)
  refine R_if_ne hC dX12_tighter_5 (tgt := 10) (by decide) (fun hb5 => ?_) (fun hb5 => ?_)
  · skip
    have hpl := bP_nz (fun z => hb5 (hq2.2.2.trans z))
    refine R_aload_0 hC dX12_tighter_10 ?_
    have hG4 : GR Mc1 := (GR.fr hG hq2.1 (by decide +kernel))
    have hk5 : RW Mc1 0 c := (RW.fr hK hq2.1 (by decide +kernel))
    refine R_callVv (as := []) hC dX12_tighter_11 mo_12_tries ml_12_293 (by decide) rfl rfl (c12_tries  hG4 hk5) rfl rfl hRm (by decide) (by decide) (Nat.le_of_ble_eq_true rfl) (fun Mc6 hq7 => ?_)
    have hF1 : Fr [58, 63, 64, 65, 66, 67, 68, 69, 70, 71, 72] [(57, 22), (57, 23)] M Mc6 := Fr.tt hF0 (hq7.1.mo (by simp) (by simp))
    have hT1 : TRo M Mc6 := TRo.tr hT0 (hq7.2.1)
    refine R_iconst hC dX12_tighter_14 ⟨by decide, by decide⟩ ?_
    refine R_istore_2 hC dX12_tighter_15 rfl ?_
    have L16 : ∀ (mq : Nat) (n : Int) (M2 : Mem), (0 ≤ n) → (n ≤ c x) → (GR M2) → (RW M2 0 c) → (RW M2 114 (upd1 c x (c x - n))) → (Fr [58, 63, 64, 65, 66, 67, 68, 69, 70, 71, 72] [(57, 22), (57, 23)] M M2) → (TRo M M2) → (∀ m, 1 ≤ m → m ≤ n → planI (insOf (upd1 c x (c x - m)))) → (c x - n).toNat < mq → RZ G LY C (Zn G LY 82 C (RP (fun v M' => Fr [58, 63, 64, 65, 66, 67, 68, 69, 70, 71, 72] [(57, 22), (57, 23)] M M' ∧ TRo M M' ∧ ((¬ planI (insOf c) ∧ v = -1) ∨ (planI (insOf c) ∧ FF (fun m => planI (insOf (upd1 c x (c x - m)))) (c x) v))))) 0 0 82 16 [some (vR 57), some (vI x), some (vI n)] [] M2 := by
      intro mq
      induction mq with
      | zero =>
        intro n M2 hn0 hn1 hg hk2 hk3 hF2 hT2 hyes hm
        exact absurd hm (Nat.not_lt_zero _)
      | succ mq ih16 =>
        intro n M2 hn0 hn1 hg hk2 hk3 hF2 hT2 hyes hm16
        refine R_iload_2 hC dX12_tighter_16 ?_
        refine R_aload_0 hC dX12_tighter_17 ?_
        refine R_getR hC dX12_tighter_18 fl_12_9 (by decide) rfl (by decide) (by decide) (fi := 0) rfl (r := 58) (gr_57_0 hg) ?_
        refine R_iconst hC dX12_tighter_21 ⟨by decide, by decide⟩ ?_
        refine R_iload_1 hC dX12_tighter_22 ?_
        refine R_iadd hC dX12_tighter_23 ⟨by omega, by omega⟩ ?_
        refine R_ialoadE hC dX12_tighter_24 (by decide) rfl (by omega) (by omega) (hk2.r1 (k := x) (by omega) (by omega) (by omega)) ?_
        refine R_icmp_ge hC dX12_tighter_25 (tgt := 58) (by decide) (fun hb25 => ?_) (fun hb25 => ?_)
        · skip
          refine R_iload_2 hC dX12_tighter_58 ?_
          exact R_ireturn hC dX12_tighter_59 rfl (ret_P ⟨hF2, hT2, .inr ⟨hpl, hn0, hn1, hyes, fun z => by omega⟩⟩)
        · skip
          refine R_aload_0 hC dX12_tighter_28 ?_
          refine R_getR hC dX12_tighter_29 fl_12_9 (by decide) rfl (by decide) (by decide) (fi := 0) rfl (r := 58) (gr_57_0 hg) ?_
          refine R_bipush hC dX12_tighter_32 (by decide +kernel) ⟨by decide, by decide⟩ ?_
          refine R_iload_1 hC dX12_tighter_34 ?_
          refine R_iadd hC dX12_tighter_35 ⟨by omega, by omega⟩ ?_
          refine R_dup2 hC dX12_tighter_36 rfl rfl ?_
          refine R_ialoadE hC dX12_tighter_37 (by decide) rfl (by omega) (by omega) ((hk3.r1 (k := x) (by omega) (by omega) (by omega)).trans upd1_e) ?_
          refine R_iconst hC dX12_tighter_38 ⟨by decide, by decide⟩ ?_
          refine R_isub hC dX12_tighter_39 ⟨by omega, by omega⟩ ?_
          refine R_iastore hC dX12_tighter_40 (by decide) rfl (by omega) (by omega) ?_
          have hk8 : RW (uM M2 58 (114 + x) ((c x - n) - 1)) 114 (upd1 (upd1 c x (c x - n)) x ((c x - n) - 1)) := (hk3.w1 (k := x) (by omega) (by omega) (by omega))
          have hF3a : Fr [58, 63, 64, 65, 66, 67, 68, 69, 70, 71, 72] [(57, 22), (57, 23)] M (uM M2 58 (114 + x) ((c x - n) - 1)) := Fr.uA hF2 (by decide)
          have hT3a : TRo M (uM M2 58 (114 + x) ((c x - n) - 1)) := hT2.u (by omega) (by omega)
          have hMy : SM (upd1 c x (c x - (n + 1))) := hM.up (.inl ⟨by omega, by omega, by omega, by omega⟩)
          refine R_aload_0 hC dX12_tighter_41 ?_
          refine R_bipush hC dX12_tighter_42 (by decide +kernel) ⟨by decide, by decide⟩ ?_
          have hG9 : GR (uM M2 58 (114 + x) ((c x - n) - 1)) := (GR.uA hg (by decide +kernel) (.inl (by decide)))
          have hk10 : RW (uM M2 58 (114 + x) ((c x - n) - 1)) 114 (upd1 c x (c x - (n + 1))) := ((by rw [show c x - (n + 1) = c x - n - 1 by omega]; exact hk8.u2 : RW (uM M2 58 (114 + x) ((c x - n) - 1)) 114 (upd1 c x (c x - (n + 1)))))
          refine R_callVp (as := [vI _]) hC dX12_tighter_44 mo_12_isPlanOf ml_12_296 (by decide) rfl rfl (c12_isPlanOf  hG9 hk10 (by omega) (by omega) hMy) rfl rfl hRm (by decide) (by decide) (Nat.le_of_ble_eq_true rfl) (fun v13 Mc11 hq12 => ?_)
          have hF3 : Fr [58, 63, 64, 65, 66, 67, 68, 69, 70, 71, 72] [(57, 22), (57, 23)] M Mc11 := Fr.tt hF3a (hq12.1.mo (by simp) (by simp))
          have hT3 : TRo M Mc11 := TRo.tr hT3a (TRo.of hq12.1 (by decide) (by decide))
          refine R_if_ne hC dX12_tighter_47 (tgt := 52) (by decide) (fun hb47 => ?_) (fun hb47 => ?_)
          · skip
            refine R_iinc_2 hC dX12_tighter_52 rfl ⟨by omega, by omega⟩ ?_
            refine R_goto hC dX12_tighter_55 (tgt := 16) (by decide) ?_
            have hG14 : GR Mc11 := (GR.fr hG9 hq12.1 (by decide +kernel))
            have hk15 : RW Mc11 0 c := (RW.fr (hk2.ot (by omega)) hq12.1 (by decide +kernel))
            have hk16 : RW Mc11 114 (upd1 c x (c x - (n + 1))) := (RW.fr hk10 hq12.1 (by decide +kernel))
            exact ih16 _ _ (by omega) (by omega) hG14 hk15 hk16 hF3 hT3 (fun m a b => by
              by_cases q : m = n + 1
              · rw [q]; exact bP_nz (fun z => hb47 (hq12.2.2.trans z))
              · exact hyes m a (by omega)) (by omega)
          · skip
            refine R_iload_2 hC dX12_tighter_50 ?_
            exact R_ireturn hC dX12_tighter_51 rfl (ret_P ⟨hF3, hT3, .inr ⟨hpl, hn0, hn1, hyes, fun _ => bP_z (hq12.2.2.symm.trans hb47)⟩⟩)
    have hG17 : GR Mc6 := (GR.fr hG4 hq7.1 (by decide +kernel))
    have hk18 : RW Mc6 0 c := (RW.tro hk5 hq7.1 hq7.2.1 (by decide +kernel))
    have hk19 : RW Mc6 114 c := (hq7.2.2.2)
    exact L16 _ _ _ (by omega) (by omega) hG17 hk18 (by (rw [show c x - 0 = c x by omega, upd1_sf]; exact hk19)) hF1 hT1 (fun m a b => by omega) (Nat.lt_succ_self _)
  · skip
    have hnp := bP_z (hq2.2.2.symm.trans hb5)
    refine R_iconst hC dX12_tighter_8 ⟨by decide, by decide⟩ ?_
    exact R_ireturn hC dX12_tighter_9 rfl (ret_P ⟨hF0, hT0, .inl ⟨hnp, rfl⟩⟩)
theorem dX12_inTheWay_0 : decode cX12_inTheWay 0 = .ok (.aload_n 0, 1) := by decide +kernel
theorem dX12_inTheWay_1 : decode cX12_inTheWay 1 = .ok (.iconst 0, 1) := by decide +kernel
theorem dX12_inTheWay_2 : decode cX12_inTheWay 2 = .ok (.invokevirtual 172, 3) := by decide +kernel
theorem dX12_inTheWay_5 : decode cX12_inTheWay 5 = .ok (.istore_n 2, 1) := by decide +kernel
theorem dX12_inTheWay_6 : decode cX12_inTheWay 6 = .ok (.iconst 0, 1) := by decide +kernel
theorem dX12_inTheWay_7 : decode cX12_inTheWay 7 = .ok (.istore_n 3, 1) := by decide +kernel
theorem dX12_inTheWay_8 : decode cX12_inTheWay 8 = .ok (.iconst (-1), 1) := by decide +kernel
theorem dX12_inTheWay_9 : decode cX12_inTheWay 9 = .ok (.istore 4, 2) := by decide +kernel
theorem dX12_inTheWay_11 : decode cX12_inTheWay 11 = .ok (.iconst 0, 1) := by decide +kernel
theorem dX12_inTheWay_12 : decode cX12_inTheWay 12 = .ok (.istore 5, 2) := by decide +kernel
theorem dX12_inTheWay_14 : decode cX12_inTheWay 14 = .ok (.iload 5, 2) := by decide +kernel
theorem dX12_inTheWay_16 : decode cX12_inTheWay 16 = .ok (.aload_n 0, 1) := by decide +kernel
theorem dX12_inTheWay_17 : decode cX12_inTheWay 17 = .ok (.getfield 105, 3) := by decide +kernel
theorem dX12_inTheWay_20 : decode cX12_inTheWay 20 = .ok (.if_icmp .ge 93, 3) := by decide +kernel
theorem dX12_inTheWay_23 : decode cX12_inTheWay 23 = .ok (.iconst 0, 1) := by decide +kernel
theorem dX12_inTheWay_24 : decode cX12_inTheWay 24 = .ok (.istore 6, 2) := by decide +kernel
theorem dX12_inTheWay_26 : decode cX12_inTheWay 26 = .ok (.iload 6, 2) := by decide +kernel
theorem dX12_inTheWay_28 : decode cX12_inTheWay 28 = .ok (.aload_n 0, 1) := by decide +kernel
theorem dX12_inTheWay_29 : decode cX12_inTheWay 29 = .ok (.getfield 102, 3) := by decide +kernel
theorem dX12_inTheWay_32 : decode cX12_inTheWay 32 = .ok (.if_icmp .ge 75, 3) := by decide +kernel
theorem dX12_inTheWay_35 : decode cX12_inTheWay 35 = .ok (.aload_n 0, 1) := by decide +kernel
theorem dX12_inTheWay_36 : decode cX12_inTheWay 36 = .ok (.iconst 0, 1) := by decide +kernel
theorem dX12_inTheWay_37 : decode cX12_inTheWay 37 = .ok (.iload 5, 2) := by decide +kernel
theorem dX12_inTheWay_39 : decode cX12_inTheWay 39 = .ok (.iload 6, 2) := by decide +kernel
theorem dX12_inTheWay_41 : decode cX12_inTheWay 41 = .ok (.invokevirtual 91, 3) := by decide +kernel
theorem dX12_inTheWay_44 : decode cX12_inTheWay 44 = .ok (.ifCond .ne 6, 3) := by decide +kernel
theorem dX12_inTheWay_47 : decode cX12_inTheWay 47 = .ok (.goto 54, 3) := by decide +kernel
theorem dX12_inTheWay_50 : decode cX12_inTheWay 50 = .ok (.aload_n 0, 1) := by decide +kernel
theorem dX12_inTheWay_51 : decode cX12_inTheWay 51 = .ok (.invokevirtual 293, 3) := by decide +kernel
theorem dX12_inTheWay_54 : decode cX12_inTheWay 54 = .ok (.aload_n 0, 1) := by decide +kernel
theorem dX12_inTheWay_55 : decode cX12_inTheWay 55 = .ok (.getfield 9, 3) := by decide +kernel
theorem dX12_inTheWay_58 : decode cX12_inTheWay 58 = .ok (.sipush 154, 3) := by decide +kernel
theorem dX12_inTheWay_61 : decode cX12_inTheWay 61 = .ok (.iload 5, 2) := by decide +kernel
theorem dX12_inTheWay_63 : decode cX12_inTheWay 63 = .ok (.iload 6, 2) := by decide +kernel
theorem dX12_inTheWay_65 : decode cX12_inTheWay 65 = .ok (.invokestatic 87, 3) := by decide +kernel
theorem dX12_inTheWay_68 : decode cX12_inTheWay 68 = .ok (.iadd, 1) := by decide +kernel
theorem dX12_inTheWay_69 : decode cX12_inTheWay 69 = .ok (.iconst 0, 1) := by decide +kernel
theorem dX12_inTheWay_70 : decode cX12_inTheWay 70 = .ok (.iastore, 1) := by decide +kernel
theorem dX12_inTheWay_71 : decode cX12_inTheWay 71 = .ok (.aload_n 0, 1) := by decide +kernel
theorem dX12_inTheWay_72 : decode cX12_inTheWay 72 = .ok (.bipush 114, 2) := by decide +kernel
theorem dX12_inTheWay_74 : decode cX12_inTheWay 74 = .ok (.invokevirtual 172, 3) := by decide +kernel
theorem dX12_inTheWay_77 : decode cX12_inTheWay 77 = .ok (.iload_n 2, 1) := by decide +kernel
theorem dX12_inTheWay_78 : decode cX12_inTheWay 78 = .ok (.if_icmp .gt 6, 3) := by decide +kernel
theorem dX12_inTheWay_81 : decode cX12_inTheWay 81 = .ok (.goto 20, 3) := by decide +kernel
theorem dX12_inTheWay_84 : decode cX12_inTheWay 84 = .ok (.iload_n 3, 1) := by decide +kernel
theorem dX12_inTheWay_85 : decode cX12_inTheWay 85 = .ok (.ifCond .ne 13, 3) := by decide +kernel
theorem dX12_inTheWay_88 : decode cX12_inTheWay 88 = .ok (.bipush 10, 2) := by decide +kernel
theorem dX12_inTheWay_90 : decode cX12_inTheWay 90 = .ok (.iload 5, 2) := by decide +kernel
theorem dX12_inTheWay_92 : decode cX12_inTheWay 92 = .ok (.imul, 1) := by decide +kernel
theorem dX12_inTheWay_93 : decode cX12_inTheWay 93 = .ok (.iload 6, 2) := by decide +kernel
theorem dX12_inTheWay_95 : decode cX12_inTheWay 95 = .ok (.iadd, 1) := by decide +kernel
theorem dX12_inTheWay_96 : decode cX12_inTheWay 96 = .ok (.istore 4, 2) := by decide +kernel
theorem dX12_inTheWay_98 : decode cX12_inTheWay 98 = .ok (.iinc 3 1, 3) := by decide +kernel
theorem dX12_inTheWay_101 : decode cX12_inTheWay 101 = .ok (.iinc 6 1, 3) := by decide +kernel
theorem dX12_inTheWay_104 : decode cX12_inTheWay 104 = .ok (.goto (-78), 3) := by decide +kernel
theorem dX12_inTheWay_107 : decode cX12_inTheWay 107 = .ok (.iinc 5 1, 3) := by decide +kernel
theorem dX12_inTheWay_110 : decode cX12_inTheWay 110 = .ok (.goto (-96), 3) := by decide +kernel
theorem dX12_inTheWay_113 : decode cX12_inTheWay 113 = .ok (.iload_n 1, 1) := by decide +kernel
theorem dX12_inTheWay_114 : decode cX12_inTheWay 114 = .ok (.ifCond .eq 8, 3) := by decide +kernel
theorem dX12_inTheWay_117 : decode cX12_inTheWay 117 = .ok (.iload 4, 2) := by decide +kernel
theorem dX12_inTheWay_119 : decode cX12_inTheWay 119 = .ok (.goto 4, 3) := by decide +kernel
theorem dX12_inTheWay_122 : decode cX12_inTheWay 122 = .ok (.iload_n 3, 1) := by decide +kernel
theorem dX12_inTheWay_123 : decode cX12_inTheWay 123 = .ok (.ireturn, 1) := by decide +kernel
set_option maxHeartbeats 1000000 in
theorem c12_inTheWay {G : Gl} {l : Launch}  {M : Mem} {c : Int → Int} {f : Int} (hG : GR M) (hK : RW M 0 c) (hS : SP c) : Ct G LY 82 l 7 m12_inTheWay [vR 57, vI f] M (RP (fun v M' => Fr [58, 63, 64, 65, 66, 67, 68, 69, 70, 71, 72] [(57, 22), (57, 23)] M M' ∧ TRo M M' ∧ v = if f = 0 then (ca (itwM c) (c 122) (c 121).toNat).1 else (ca (itwM c) (c 122) (c 121).toNat).2)) := by
  refine R_start (by decide +kernel) (Nat.le_of_ble_eq_true rfl) (fun C hC hRm hlau => ?_)
  show RZ G LY C (Zn G LY 82 C (RP (fun v M' => Fr [58, 63, 64, 65, 66, 67, 68, 69, 70, 71, 72] [(57, 22), (57, 23)] M M' ∧ TRo M M' ∧ v = if f = 0 then (ca (itwM c) (c 122) (c 121).toNat).1 else (ca (itwM c) (c 122) (c 121).toNat).2))) 0 0 82 0 [some (vR 57), some (vI f), none, none, none, none, none] [] M
  have hM := hS.m
  have hI := hM.I
  have hL := hM.1.1
  have hW := hM.1.2
  refine R_aload_0 hC dX12_inTheWay_0 ?_
  refine R_iconst hC dX12_inTheWay_1 ⟨by decide, by decide⟩ ?_
  refine R_callVp (as := [vI _]) hC dX12_inTheWay_2 mo_12_spaceOf ml_12_172 (by decide) rfl rfl (c12_spaceOf  hG hK (by omega) (by omega) hM) rfl rfl hRm (by decide) (by decide) (Nat.le_of_ble_eq_true rfl) (fun v3 Mc1 hq2 => ?_)
  have hF0 : Fr [58, 63, 64, 65, 66, 67, 68, 69, 70, 71, 72] [(57, 22), (57, 23)] M Mc1 := hq2.1.mo (by simp) (by simp)
  have hT0 : TRo M Mc1 := TRo.of hq2.1 (by decide) (by decide)
  refine R_istore_2 hC dX12_inTheWay_5 rfl ?_
  have hva := hq2.2
  refine R_iconst hC dX12_inTheWay_6 ⟨by decide, by decide⟩ ?_
  refine R_istore_3 hC dX12_inTheWay_7 rfl ?_
  refine R_iconst hC dX12_inTheWay_8 ⟨by decide, by decide⟩ ?_
  refine R_istore_4 hC dX12_inTheWay_9 rfl ?_
  refine R_iconst hC dX12_inTheWay_11 ⟨by decide, by decide⟩ ?_
  refine R_istore_5 hC dX12_inTheWay_12 rfl ?_
  have L14 : ∀ (mq : Nat) (n : Int) (e : Int) (x : Int) (M2 : Mem), (0 ≤ x) → (x ≤ c 121) → (GR M2) → (RW M2 0 c) → (Fr [58, 63, 64, 65, 66, 67, 68, 69, 70, 71, 72] [(57, 22), (57, 23)] M M2) → (TRo M M2) → ((n, e) = ca (itwM c) (c 122) x.toNat) → (0 ≤ n) → (n ≤ x * 6) → (-1 ≤ e) → (e ≤ 100) → (c 121 - x).toNat < mq → RZ G LY C (Zn G LY 82 C (RP (fun v M' => Fr [58, 63, 64, 65, 66, 67, 68, 69, 70, 71, 72] [(57, 22), (57, 23)] M M' ∧ TRo M M' ∧ v = if f = 0 then (ca (itwM c) (c 122) (c 121).toNat).1 else (ca (itwM c) (c 122) (c 121).toNat).2))) 0 0 82 14 [some (vR 57), some (vI f), some (vI v3), some (vI n), some (vI e), some (vI x), none] [] M2 := by
    intro mq
    induction mq with
    | zero =>
      intro n e x M2 hx0 hx1 hg hk2 hF2 hT2 hn hn0 hn1 he0 he1 hm
      exact absurd hm (Nat.not_lt_zero _)
    | succ mq ih14 =>
      intro n e x M2 hx0 hx1 hg hk2 hF2 hT2 hn hn0 hn1 he0 he1 hm14
      refine R_iload_5 hC dX12_inTheWay_14 ?_
      refine R_aload_0 hC dX12_inTheWay_16 ?_
      refine R_getIE hC dX12_inTheWay_17 fl_12_105 (by decide) rfl (by decide) (by decide) (fi := 5) rfl hk2.l ?_
      refine R_icmp_ge hC dX12_inTheWay_20 (tgt := 113) (by decide) (fun hb20 => ?_) (fun hb20 => ?_)
      · skip
        refine R_iload_1 hC dX12_inTheWay_113 ?_
        refine R_if_eq hC dX12_inTheWay_114 (tgt := 122) (by decide) (fun hb114 => ?_) (fun hb114 => ?_)
        · skip
          refine R_iload_3 hC dX12_inTheWay_122 ?_
          exact R_ireturn hC dX12_inTheWay_123 rfl (ret_P ⟨hF2, hT2, by (rw [show x = c 121 by omega] at hn; first | (rw [if_pos hb114, ← hn]) | (rw [if_neg hb114, ← hn]))⟩)
        · skip
          refine R_iload_4 hC dX12_inTheWay_117 ?_
          refine R_goto hC dX12_inTheWay_119 (tgt := 123) (by decide) ?_
          exact R_ireturn hC dX12_inTheWay_123 rfl (ret_P ⟨hF2, hT2, by (rw [show x = c 121 by omega] at hn; first | (rw [if_pos hb114, ← hn]) | (rw [if_neg hb114, ← hn]))⟩)
      · skip
        refine R_iconst hC dX12_inTheWay_23 ⟨by decide, by decide⟩ ?_
        refine R_istore_6 hC dX12_inTheWay_24 rfl ?_
        have L26 : ∀ (mq : Nat) (m : Int) (g : Int) (w : Int) (M3 : Mem), (0 ≤ w) → (w ≤ c 122) → (GR M3) → (RW M3 0 c) → (Fr [58, 63, 64, 65, 66, 67, 68, 69, 70, 71, 72] [(57, 22), (57, 23)] M M3) → (TRo M M3) → ((m, g) = (cr (itwM c) x w.toNat (ca (itwM c) (c 122) x.toNat))) → (0 ≤ m) → (m ≤ x * 6 + w) → (-1 ≤ g) → (g ≤ 100) → (c 122 - w).toNat < mq → RZ G LY C (Zn G LY 82 C (RP (fun v M' => Fr [58, 63, 64, 65, 66, 67, 68, 69, 70, 71, 72] [(57, 22), (57, 23)] M M' ∧ TRo M M' ∧ v = if f = 0 then (ca (itwM c) (c 122) (c 121).toNat).1 else (ca (itwM c) (c 122) (c 121).toNat).2))) 0 0 82 26 [some (vR 57), some (vI f), some (vI v3), some (vI m), some (vI g), some (vI x), some (vI w)] [] M3 := by
          intro mq
          induction mq with
          | zero =>
            intro m g w M3 hw0 hw1 hg3 hk3 hF3 hT3 hm hm0 hm1 hg0 hg1 hm
            exact absurd hm (Nat.not_lt_zero _)
          | succ mq ih26 =>
            intro m g w M3 hw0 hw1 hg3 hk3 hF3 hT3 hm hm0 hm1 hg0 hg1 hm26
            refine R_iload_6 hC dX12_inTheWay_26 ?_
            refine R_aload_0 hC dX12_inTheWay_28 ?_
            refine R_getIE hC dX12_inTheWay_29 fl_12_102 (by decide) rfl (by decide) (by decide) (fi := 6) rfl hk3.w ?_
            refine R_icmp_ge hC dX12_inTheWay_32 (tgt := 107) (by decide) (fun hb32 => ?_) (fun hb32 => ?_)
            · skip
              refine R_iinc_5 hC dX12_inTheWay_107 rfl ⟨by omega, by omega⟩ ?_
              refine R_goto hC dX12_inTheWay_110 (tgt := 14) (by decide) ?_
              refine R_weak (subL_c (subL_c (subL_c (subL_c (subL_c (subL_c (subL_d subL_n))))))) ?_
              exact ih14 _ _ _ _ (by omega) (by omega) hg3 hk3 hF3 hT3 (by (rw [ca_s hx0 rfl, hm, show w = c 122 by omega])) (by omega) (by omega) (by omega) (by omega) (by omega)
            · skip
              refine R_aload_0 hC dX12_inTheWay_35 ?_
              refine R_iconst hC dX12_inTheWay_36 ⟨by decide, by decide⟩ ?_
              refine R_iload_5 hC dX12_inTheWay_37 ?_
              refine R_iload_6 hC dX12_inTheWay_39 ?_
              refine R_callVq (as := [vI _, vI _, vI _]) hC dX12_inTheWay_41 mo_12_counts ml_12_91 (by decide) rfl rfl (c12_counts  hg3 hk3 (by omega) (by omega) (by omega) (by omega) (by omega) (by omega)) rfl rfl hRm (by decide) (by decide) (Nat.le_of_ble_eq_true rfl) ?_
              refine R_if_ne hC dX12_inTheWay_44 (tgt := 50) (by decide) (fun hb44 => ?_) (fun hb44 => ?_)
              · skip
                replace hb44 := bP_nz hb44
                refine R_aload_0 hC dX12_inTheWay_50 ?_
                refine R_callVv (as := []) hC dX12_inTheWay_51 mo_12_tries ml_12_293 (by decide) rfl rfl (c12_tries  hg3 hk3) rfl rfl hRm (by decide) (by decide) (Nat.le_of_ble_eq_true rfl) (fun Mc4 hq5 => ?_)
                have hF4 : Fr [58, 63, 64, 65, 66, 67, 68, 69, 70, 71, 72] [(57, 22), (57, 23)] M Mc4 := Fr.tt hF3 (hq5.1.mo (by simp) (by simp))
                have hT4 : TRo M Mc4 := TRo.tr hT3 (hq5.2.1)
                refine R_aload_0 hC dX12_inTheWay_54 ?_
                have hG6 : GR Mc4 := (GR.fr hg3 hq5.1 (by decide +kernel))
                refine R_getR hC dX12_inTheWay_55 fl_12_9 (by decide) rfl (by decide) (by decide) (fi := 0) rfl (r := 58) (gr_57_0 hG6) ?_
                refine R_sipush hC dX12_inTheWay_58 (by decide +kernel) ⟨by decide, by decide⟩ ?_
                refine R_iload_5 hC dX12_inTheWay_61 ?_
                refine R_iload_6 hC dX12_inTheWay_63 ?_
                refine R_callSq (as := [vI _, vI _]) hC dX12_inTheWay_65 mo_12_cell ml_12_87 (c12_cell  (by omega) (by omega) (by omega) (by omega)) rfl rfl hRm (by decide) (by decide) (Nat.le_of_ble_eq_true rfl) ?_
                refine R_iadd hC dX12_inTheWay_68 ⟨by omega, by omega⟩ ?_
                refine R_iconst hC dX12_inTheWay_69 ⟨by decide, by decide⟩ ?_
                refine R_iastore hC dX12_inTheWay_70 (by decide) rfl (by omega) (by omega) ?_
                have hF4a : Fr [58, 63, 64, 65, 66, 67, 68, 69, 70, 71, 72] [(57, 22), (57, 23)] M (uM Mc4 58 (154 + (6 * x + w)) 0) := Fr.uA hF4 (by decide)
                have hT4a : TRo M (uM Mc4 58 (154 + (6 * x + w)) 0) := hT4.u (by omega) (by omega)
                have hMy : SM (upd1 c (58 + x * 6 + w) 0) := hM.up (.inr (.inr (.inl ⟨by omega, by omega, by decide, by decide⟩)))
                refine R_aload_0 hC dX12_inTheWay_71 ?_
                refine R_bipush hC dX12_inTheWay_72 (by decide +kernel) ⟨by decide, by decide⟩ ?_
                have hG7 : GR (uM Mc4 58 (154 + (6 * x + w)) 0) := (GR.uA hG6 (by decide +kernel) (.inl (by decide)))
                have hk8 : RW (uM Mc4 58 (154 + (6 * x + w)) 0) 114 (upd1 c (58 + x * 6 + w) 0) := ((hq5.2.2.2).w4 (k := 58 + x * 6 + w) (by omega) (by omega) (by omega))
                refine R_callVp (as := [vI _]) hC dX12_inTheWay_74 mo_12_spaceOf ml_12_172 (by decide) rfl rfl (c12_spaceOf  hG7 hk8 (by omega) (by omega) hMy) rfl rfl hRm (by decide) (by decide) (Nat.le_of_ble_eq_true rfl) (fun v11 Mc9 hq10 => ?_)
                have hF5 : Fr [58, 63, 64, 65, 66, 67, 68, 69, 70, 71, 72] [(57, 22), (57, 23)] M Mc9 := Fr.tt hF4a (hq10.1.mo (by simp) (by simp))
                have hT5 : TRo M Mc9 := TRo.tr hT4a (TRo.of hq10.1 (by decide) (by decide))
                have hvb := hq10.2
                refine R_iload_2 hC dX12_inTheWay_77 ?_
                refine R_icmp_gt hC dX12_inTheWay_78 (tgt := 84) (by decide) (fun hb78 => ?_) (fun hb78 => ?_)
                · skip
                  refine R_iload_3 hC dX12_inTheWay_84 ?_
                  refine R_if_ne hC dX12_inTheWay_85 (tgt := 98) (by decide) (fun hb85 => ?_) (fun hb85 => ?_)
                  · skip
                    refine R_iinc_3 hC dX12_inTheWay_98 rfl ⟨by omega, by omega⟩ ?_
                    refine R_iinc_6 hC dX12_inTheWay_101 rfl ⟨by omega, by omega⟩ ?_
                    refine R_goto hC dX12_inTheWay_104 (tgt := 26) (by decide) ?_
                    have hG12 : GR Mc9 := (GR.fr hG7 hq10.1 (by decide +kernel))
                    have hk13 : RW Mc9 0 c := (RW.fr ((RW.tro hk3 hq5.1 hq5.2.1 (by decide +kernel)).ot (by omega)) hq10.1 (by decide +kernel))
                    exact ih26 _ _ _ _ (by omega) (by omega) hG12 hk13 (by first | exact hF3 | exact hF5) (by first | exact hT3 | exact hT5) (by (first | (rw [cr_f hw0 rfl (fun z => hb44 z.1)]; exact hm) | (rw [cr_f hw0 rfl (fun z => by have y := z.2; omega)]; exact hm) | (rw [cr_t hw0 rfl ⟨hb44, by omega⟩, ← hm, if_neg hb85]) | (rw [cr_t hw0 rfl ⟨hb44, by omega⟩, ← hm, if_pos hb85]))) (by omega) (by omega) (by omega) (by omega) (by omega)
                  · skip
                    refine R_bipush hC dX12_inTheWay_88 (by decide +kernel) ⟨by decide, by decide⟩ ?_
                    refine R_iload_5 hC dX12_inTheWay_90 ?_
                    refine R_imul hC dX12_inTheWay_92 ⟨by omega, by omega⟩ ?_
                    refine R_iload_6 hC dX12_inTheWay_93 ?_
                    refine R_iadd hC dX12_inTheWay_95 ⟨by omega, by omega⟩ ?_
                    refine R_istore_4 hC dX12_inTheWay_96 rfl ?_
                    refine R_iinc_3 hC dX12_inTheWay_98 rfl ⟨by omega, by omega⟩ ?_
                    refine R_iinc_6 hC dX12_inTheWay_101 rfl ⟨by omega, by omega⟩ ?_
                    refine R_goto hC dX12_inTheWay_104 (tgt := 26) (by decide) ?_
                    have hG14 : GR Mc9 := (GR.fr hG7 hq10.1 (by decide +kernel))
                    have hk15 : RW Mc9 0 c := (RW.fr ((RW.tro hk3 hq5.1 hq5.2.1 (by decide +kernel)).ot (by omega)) hq10.1 (by decide +kernel))
                    exact ih26 _ _ _ _ (by omega) (by omega) hG14 hk15 (by first | exact hF3 | exact hF5) (by first | exact hT3 | exact hT5) (by (first | (rw [cr_f hw0 rfl (fun z => hb44 z.1)]; exact hm) | (rw [cr_f hw0 rfl (fun z => by have y := z.2; omega)]; exact hm) | (rw [cr_t hw0 rfl ⟨hb44, by omega⟩, ← hm, if_neg hb85]) | (rw [cr_t hw0 rfl ⟨hb44, by omega⟩, ← hm, if_pos hb85]))) (by omega) (by omega) (by omega) (by omega) (by omega)
                · skip
                  refine R_goto hC dX12_inTheWay_81 (tgt := 101) (by decide) ?_
                  refine R_iinc_6 hC dX12_inTheWay_101 rfl ⟨by omega, by omega⟩ ?_
                  refine R_goto hC dX12_inTheWay_104 (tgt := 26) (by decide) ?_
                  have hG16 : GR Mc9 := (GR.fr hG7 hq10.1 (by decide +kernel))
                  have hk17 : RW Mc9 0 c := (RW.fr ((RW.tro hk3 hq5.1 hq5.2.1 (by decide +kernel)).ot (by omega)) hq10.1 (by decide +kernel))
                  exact ih26 _ _ _ _ (by omega) (by omega) hG16 hk17 (by first | exact hF3 | exact hF5) (by first | exact hT3 | exact hT5) (by (first | (rw [cr_f hw0 rfl (fun z => hb44 z.1)]; exact hm) | (rw [cr_f hw0 rfl (fun z => by have y := z.2; omega)]; exact hm) | (rw [cr_t hw0 rfl ⟨hb44, by omega⟩, ← hm, if_neg hb85]) | (rw [cr_t hw0 rfl ⟨hb44, by omega⟩, ← hm, if_pos hb85]))) (by omega) (by omega) (by omega) (by omega) (by omega)
              · skip
                replace hb44 := bP_z hb44
                refine R_goto hC dX12_inTheWay_47 (tgt := 101) (by decide) ?_
                refine R_iinc_6 hC dX12_inTheWay_101 rfl ⟨by omega, by omega⟩ ?_
                refine R_goto hC dX12_inTheWay_104 (tgt := 26) (by decide) ?_
                exact ih26 _ _ _ _ (by omega) (by omega) hg3 hk3 (by first | exact hF3 | exact hF5) (by first | exact hT3 | exact hT5) (by (first | (rw [cr_f hw0 rfl (fun z => hb44 z.1)]; exact hm) | (rw [cr_f hw0 rfl (fun z => by have y := z.2; omega)]; exact hm) | (rw [cr_t hw0 rfl ⟨hb44, by omega⟩, ← hm, if_neg hb85]) | (rw [cr_t hw0 rfl ⟨hb44, by omega⟩, ← hm, if_pos hb85]))) (by omega) (by omega) (by omega) (by omega) (by omega)
        exact L26 _ _ _ _ _ (by omega) (by omega) hg hk2 hF2 hT2 hn (by omega) (by omega) (by omega) (by omega) (Nat.lt_succ_self _)
  have hG18 : GR Mc1 := (GR.fr hG hq2.1 (by decide +kernel))
  have hk19 : RW Mc1 0 c := (RW.fr hK hq2.1 (by decide +kernel))
  exact L14 _ _ _ _ _ (by omega) (by omega) hG18 hk19 hF0 hT0 rfl (by omega) (by omega) (by omega) (by omega) (Nat.lt_succ_self _)
theorem dX12_lastOnes_0 : decode cX12_lastOnes 0 = .ok (.iconst 0, 1) := by decide +kernel
theorem dX12_lastOnes_1 : decode cX12_lastOnes 1 = .ok (.istore_n 1, 1) := by decide +kernel
theorem dX12_lastOnes_2 : decode cX12_lastOnes 2 = .ok (.iconst 0, 1) := by decide +kernel
theorem dX12_lastOnes_3 : decode cX12_lastOnes 3 = .ok (.istore_n 2, 1) := by decide +kernel
theorem dX12_lastOnes_4 : decode cX12_lastOnes 4 = .ok (.iload_n 2, 1) := by decide +kernel
theorem dX12_lastOnes_5 : decode cX12_lastOnes 5 = .ok (.aload_n 0, 1) := by decide +kernel
theorem dX12_lastOnes_6 : decode cX12_lastOnes 6 = .ok (.getfield 102, 3) := by decide +kernel
theorem dX12_lastOnes_9 : decode cX12_lastOnes 9 = .ok (.if_icmp .ge 25, 3) := by decide +kernel
theorem dX12_lastOnes_12 : decode cX12_lastOnes 12 = .ok (.aload_n 0, 1) := by decide +kernel
theorem dX12_lastOnes_13 : decode cX12_lastOnes 13 = .ok (.iconst 0, 1) := by decide +kernel
theorem dX12_lastOnes_14 : decode cX12_lastOnes 14 = .ok (.iload_n 2, 1) := by decide +kernel
theorem dX12_lastOnes_15 : decode cX12_lastOnes 15 = .ok (.invokevirtual 108, 3) := by decide +kernel
theorem dX12_lastOnes_18 : decode cX12_lastOnes 18 = .ok (.iconst 1, 1) := by decide +kernel
theorem dX12_lastOnes_19 : decode cX12_lastOnes 19 = .ok (.if_icmp .ne 9, 3) := by decide +kernel
theorem dX12_lastOnes_22 : decode cX12_lastOnes 22 = .ok (.iload_n 1, 1) := by decide +kernel
theorem dX12_lastOnes_23 : decode cX12_lastOnes 23 = .ok (.iconst 1, 1) := by decide +kernel
theorem dX12_lastOnes_24 : decode cX12_lastOnes 24 = .ok (.iload_n 2, 1) := by decide +kernel
theorem dX12_lastOnes_25 : decode cX12_lastOnes 25 = .ok (.ishl, 1) := by decide +kernel
theorem dX12_lastOnes_26 : decode cX12_lastOnes 26 = .ok (.ior, 1) := by decide +kernel
theorem dX12_lastOnes_27 : decode cX12_lastOnes 27 = .ok (.istore_n 1, 1) := by decide +kernel
theorem dX12_lastOnes_28 : decode cX12_lastOnes 28 = .ok (.iinc 2 1, 3) := by decide +kernel
theorem dX12_lastOnes_31 : decode cX12_lastOnes 31 = .ok (.goto (-27), 3) := by decide +kernel
theorem dX12_lastOnes_34 : decode cX12_lastOnes 34 = .ok (.iload_n 1, 1) := by decide +kernel
theorem dX12_lastOnes_35 : decode cX12_lastOnes 35 = .ok (.ireturn, 1) := by decide +kernel
set_option maxHeartbeats 400000 in
theorem c12_lastOnes {G : Gl} {l : Launch}  {M : Mem} {c : Int → Int} (hG : GR M) (hK : RW M 0 c) (hS : SP c) : Ct G LY 82 l 3 m12_lastOnes [vR 57] M (Ret (vI (bits (c 122).toNat (fun k => allOf c k = 1))) M) := by
  refine R_start (by decide +kernel) (Nat.le_of_ble_eq_true rfl) (fun C hC hRm hlau => ?_)
  show RZ G LY C (Zn G LY 82 C (Ret (vI (bits (c 122).toNat (fun k => allOf c k = 1))) M)) 0 0 82 0 [some (vR 57), none, none] [] M
  have hM := hS.m
  have hI := hM.I
  have hL := hM.1.1
  have hW := hM.1.2
  refine R_iconst hC dX12_lastOnes_0 ⟨by decide, by decide⟩ ?_
  refine R_istore_1 hC dX12_lastOnes_1 rfl ?_
  refine R_iconst hC dX12_lastOnes_2 ⟨by decide, by decide⟩ ?_
  refine R_istore_2 hC dX12_lastOnes_3 rfl ?_
  have L4 : ∀ (mq : Nat) (acc : Int) (i : Int), (0 ≤ i) → (i ≤ c 122) → (acc = bits i.toNat (fun k => allOf c k = 1)) → (c 122 - i).toNat < mq → RZ G LY C (Zn G LY 82 C (Ret (vI (bits (c 122).toNat (fun k => allOf c k = 1))) M)) 0 0 82 4 [some (vR 57), some (vI acc), some (vI i)] [] M := by
    intro mq
    induction mq with
    | zero =>
      intro acc i hi0 hi1 ha hm
      exact absurd hm (Nat.not_lt_zero _)
    | succ mq ih4 =>
      intro acc i hi0 hi1 ha hm4
      have hp := pw_bd hi0 (by omega)
      have hq := bits_b10 (fun k => allOf c k = 1) hi0 (by omega)
      refine R_iload_2 hC dX12_lastOnes_4 ?_
      refine R_aload_0 hC dX12_lastOnes_5 ?_
      refine R_getIE hC dX12_lastOnes_6 fl_12_102 (by decide) rfl (by decide) (by decide) (fi := 6) rfl hK.w ?_
      refine R_icmp_ge hC dX12_lastOnes_9 (tgt := 34) (by decide) (fun hb9 => ?_) (fun hb9 => ?_)
      · skip
        refine R_iload_1 hC dX12_lastOnes_34 ?_
        exact R_ireturn hC dX12_lastOnes_35 rfl (ret_I (by rw [ha, show i = c 122 by omega]))
      · skip
        refine R_aload_0 hC dX12_lastOnes_12 ?_
        refine R_iconst hC dX12_lastOnes_13 ⟨by decide, by decide⟩ ?_
        refine R_iload_2 hC dX12_lastOnes_14 ?_
        refine R_callVq (as := [vI _, vI _]) hC dX12_lastOnes_15 mo_12_allOf ml_12_108 (by decide) rfl rfl (c12_allOf  hG hK (by omega) (by omega) (by omega) (by omega) hM) rfl rfl hRm (by decide) (by decide) (Nat.le_of_ble_eq_true rfl) ?_
        refine R_iconst hC dX12_lastOnes_18 ⟨by decide, by decide⟩ ?_
        refine R_icmp_ne hC dX12_lastOnes_19 (tgt := 28) (by decide) (fun hb19 => ?_) (fun hb19 => ?_)
        · skip
          refine R_iinc_2 hC dX12_lastOnes_28 rfl ⟨by omega, by omega⟩ ?_
          refine R_goto hC dX12_lastOnes_31 (tgt := 4) (by decide) ?_
          exact ih4 _ _ (by omega) (by omega) (by first | (rw [ha]; exact bits_t hi0 rfl (show allOf c i = 1 by omega)) | (rw [ha]; exact bits_f hi0 rfl (show ¬ (allOf c i = 1) by omega))) (by omega)
        · skip
          refine R_iload_1 hC dX12_lastOnes_22 ?_
          refine R_iconst hC dX12_lastOnes_23 ⟨by decide, by decide⟩ ?_
          refine R_iload_2 hC dX12_lastOnes_24 ?_
          refine R_shl1 hC dX12_lastOnes_25 (by omega) (by omega) ?_
          refine R_ior hC dX12_lastOnes_26 (by omega) (by omega) ?_
          refine R_istore_1 hC dX12_lastOnes_27 rfl ?_
          refine R_iinc_2 hC dX12_lastOnes_28 rfl ⟨by omega, by omega⟩ ?_
          refine R_goto hC dX12_lastOnes_31 (tgt := 4) (by decide) ?_
          exact ih4 _ _ (by omega) (by omega) (by first | (rw [ha]; exact bits_t hi0 rfl (show allOf c i = 1 by omega)) | (rw [ha]; exact bits_f hi0 rfl (show ¬ (allOf c i = 1) by omega))) (by omega)
  exact L4 _ _ _ (by omega) (by omega) rfl (Nat.lt_succ_self _)
theorem dX12_shortOnes_0 : decode cX12_shortOnes 0 = .ok (.iconst 0, 1) := by decide +kernel
theorem dX12_shortOnes_1 : decode cX12_shortOnes 1 = .ok (.istore_n 1, 1) := by decide +kernel
theorem dX12_shortOnes_2 : decode cX12_shortOnes 2 = .ok (.iconst 0, 1) := by decide +kernel
theorem dX12_shortOnes_3 : decode cX12_shortOnes 3 = .ok (.istore_n 2, 1) := by decide +kernel
theorem dX12_shortOnes_4 : decode cX12_shortOnes 4 = .ok (.iload_n 2, 1) := by decide +kernel
theorem dX12_shortOnes_5 : decode cX12_shortOnes 5 = .ok (.aload_n 0, 1) := by decide +kernel
theorem dX12_shortOnes_6 : decode cX12_shortOnes 6 = .ok (.getfield 102, 3) := by decide +kernel
theorem dX12_shortOnes_9 : decode cX12_shortOnes 9 = .ok (.if_icmp .ge 33, 3) := by decide +kernel
theorem dX12_shortOnes_12 : decode cX12_shortOnes 12 = .ok (.aload_n 0, 1) := by decide +kernel
theorem dX12_shortOnes_13 : decode cX12_shortOnes 13 = .ok (.iconst 0, 1) := by decide +kernel
theorem dX12_shortOnes_14 : decode cX12_shortOnes 14 = .ok (.iload_n 2, 1) := by decide +kernel
theorem dX12_shortOnes_15 : decode cX12_shortOnes 15 = .ok (.invokevirtual 108, 3) := by decide +kernel
theorem dX12_shortOnes_18 : decode cX12_shortOnes 18 = .ok (.aload_n 0, 1) := by decide +kernel
theorem dX12_shortOnes_19 : decode cX12_shortOnes 19 = .ok (.getfield 9, 3) := by decide +kernel
theorem dX12_shortOnes_22 : decode cX12_shortOnes 22 = .ok (.bipush 100, 2) := by decide +kernel
theorem dX12_shortOnes_24 : decode cX12_shortOnes 24 = .ok (.iload_n 2, 1) := by decide +kernel
theorem dX12_shortOnes_25 : decode cX12_shortOnes 25 = .ok (.iadd, 1) := by decide +kernel
theorem dX12_shortOnes_26 : decode cX12_shortOnes 26 = .ok (.iaload, 1) := by decide +kernel
theorem dX12_shortOnes_27 : decode cX12_shortOnes 27 = .ok (.if_icmp .ge 9, 3) := by decide +kernel
theorem dX12_shortOnes_30 : decode cX12_shortOnes 30 = .ok (.iload_n 1, 1) := by decide +kernel
theorem dX12_shortOnes_31 : decode cX12_shortOnes 31 = .ok (.iconst 1, 1) := by decide +kernel
theorem dX12_shortOnes_32 : decode cX12_shortOnes 32 = .ok (.iload_n 2, 1) := by decide +kernel
theorem dX12_shortOnes_33 : decode cX12_shortOnes 33 = .ok (.ishl, 1) := by decide +kernel
theorem dX12_shortOnes_34 : decode cX12_shortOnes 34 = .ok (.ior, 1) := by decide +kernel
theorem dX12_shortOnes_35 : decode cX12_shortOnes 35 = .ok (.istore_n 1, 1) := by decide +kernel
theorem dX12_shortOnes_36 : decode cX12_shortOnes 36 = .ok (.iinc 2 1, 3) := by decide +kernel
theorem dX12_shortOnes_39 : decode cX12_shortOnes 39 = .ok (.goto (-35), 3) := by decide +kernel
theorem dX12_shortOnes_42 : decode cX12_shortOnes 42 = .ok (.iload_n 1, 1) := by decide +kernel
theorem dX12_shortOnes_43 : decode cX12_shortOnes 43 = .ok (.ireturn, 1) := by decide +kernel
set_option maxHeartbeats 400000 in
theorem c12_shortOnes {G : Gl} {l : Launch}  {M : Mem} {c : Int → Int} (hG : GR M) (hK : RW M 0 c) (hS : SP c) : Ct G LY 82 l 3 m12_shortOnes [vR 57] M (Ret (vI (bits (c 122).toNat (fun k => allOf c k < c (16 + k)))) M) := by
  refine R_start (by decide +kernel) (Nat.le_of_ble_eq_true rfl) (fun C hC hRm hlau => ?_)
  show RZ G LY C (Zn G LY 82 C (Ret (vI (bits (c 122).toNat (fun k => allOf c k < c (16 + k)))) M)) 0 0 82 0 [some (vR 57), none, none] [] M
  have hM := hS.m
  have hI := hM.I
  have hL := hM.1.1
  have hW := hM.1.2
  refine R_iconst hC dX12_shortOnes_0 ⟨by decide, by decide⟩ ?_
  refine R_istore_1 hC dX12_shortOnes_1 rfl ?_
  refine R_iconst hC dX12_shortOnes_2 ⟨by decide, by decide⟩ ?_
  refine R_istore_2 hC dX12_shortOnes_3 rfl ?_
  have L4 : ∀ (mq : Nat) (acc : Int) (i : Int), (0 ≤ i) → (i ≤ c 122) → (acc = bits i.toNat (fun k => allOf c k < c (16 + k))) → (c 122 - i).toNat < mq → RZ G LY C (Zn G LY 82 C (Ret (vI (bits (c 122).toNat (fun k => allOf c k < c (16 + k)))) M)) 0 0 82 4 [some (vR 57), some (vI acc), some (vI i)] [] M := by
    intro mq
    induction mq with
    | zero =>
      intro acc i hi0 hi1 ha hm
      exact absurd hm (Nat.not_lt_zero _)
    | succ mq ih4 =>
      intro acc i hi0 hi1 ha hm4
      have hp := pw_bd hi0 (by omega)
      have hq := bits_b10 (fun k => allOf c k < c (16 + k)) hi0 (by omega)
      refine R_iload_2 hC dX12_shortOnes_4 ?_
      refine R_aload_0 hC dX12_shortOnes_5 ?_
      refine R_getIE hC dX12_shortOnes_6 fl_12_102 (by decide) rfl (by decide) (by decide) (fi := 6) rfl hK.w ?_
      refine R_icmp_ge hC dX12_shortOnes_9 (tgt := 42) (by decide) (fun hb9 => ?_) (fun hb9 => ?_)
      · skip
        refine R_iload_1 hC dX12_shortOnes_42 ?_
        exact R_ireturn hC dX12_shortOnes_43 rfl (ret_I (by rw [ha, show i = c 122 by omega]))
      · skip
        refine R_aload_0 hC dX12_shortOnes_12 ?_
        refine R_iconst hC dX12_shortOnes_13 ⟨by decide, by decide⟩ ?_
        refine R_iload_2 hC dX12_shortOnes_14 ?_
        refine R_callVq (as := [vI _, vI _]) hC dX12_shortOnes_15 mo_12_allOf ml_12_108 (by decide) rfl rfl (c12_allOf  hG hK (by omega) (by omega) (by omega) (by omega) hM) rfl rfl hRm (by decide) (by decide) (Nat.le_of_ble_eq_true rfl) ?_
        refine R_aload_0 hC dX12_shortOnes_18 ?_
        refine R_getR hC dX12_shortOnes_19 fl_12_9 (by decide) rfl (by decide) (by decide) (fi := 0) rfl (r := 58) (gr_57_0 hG) ?_
        refine R_bipush hC dX12_shortOnes_22 (by decide +kernel) ⟨by decide, by decide⟩ ?_
        refine R_iload_2 hC dX12_shortOnes_24 ?_
        refine R_iadd hC dX12_shortOnes_25 ⟨by omega, by omega⟩ ?_
        refine R_ialoadE hC dX12_shortOnes_26 (by decide) rfl (by omega) (by omega) (hK.r2 (k := 16 + i) (by omega) (by omega) (by omega)) ?_
        refine R_icmp_ge hC dX12_shortOnes_27 (tgt := 36) (by decide) (fun hb27 => ?_) (fun hb27 => ?_)
        · skip
          refine R_iinc_2 hC dX12_shortOnes_36 rfl ⟨by omega, by omega⟩ ?_
          refine R_goto hC dX12_shortOnes_39 (tgt := 4) (by decide) ?_
          exact ih4 _ _ (by omega) (by omega) (by first | (rw [ha]; exact bits_t hi0 rfl (show allOf c i < c (16 + i) by omega)) | (rw [ha]; exact bits_f hi0 rfl (show ¬ (allOf c i < c (16 + i)) by omega))) (by omega)
        · skip
          refine R_iload_1 hC dX12_shortOnes_30 ?_
          refine R_iconst hC dX12_shortOnes_31 ⟨by decide, by decide⟩ ?_
          refine R_iload_2 hC dX12_shortOnes_32 ?_
          refine R_shl1 hC dX12_shortOnes_33 (by omega) (by omega) ?_
          refine R_ior hC dX12_shortOnes_34 (by omega) (by omega) ?_
          refine R_istore_1 hC dX12_shortOnes_35 rfl ?_
          refine R_iinc_2 hC dX12_shortOnes_36 rfl ⟨by omega, by omega⟩ ?_
          refine R_goto hC dX12_shortOnes_39 (tgt := 4) (by decide) ?_
          exact ih4 _ _ (by omega) (by omega) (by first | (rw [ha]; exact bits_t hi0 rfl (show allOf c i < c (16 + i) by omega)) | (rw [ha]; exact bits_f hi0 rfl (show ¬ (allOf c i < c (16 + i)) by omega))) (by omega)
  exact L4 _ _ _ (by omega) (by omega) rfl (Nat.lt_succ_self _)
theorem dX12_lostWith_0 : decode cX12_lostWith 0 = .ok (.iconst 0, 1) := by decide +kernel
theorem dX12_lostWith_1 : decode cX12_lostWith 1 = .ok (.istore_n 3, 1) := by decide +kernel
theorem dX12_lostWith_2 : decode cX12_lostWith 2 = .ok (.iconst 0, 1) := by decide +kernel
theorem dX12_lostWith_3 : decode cX12_lostWith 3 = .ok (.istore 4, 2) := by decide +kernel
theorem dX12_lostWith_5 : decode cX12_lostWith 5 = .ok (.iload 4, 2) := by decide +kernel
theorem dX12_lostWith_7 : decode cX12_lostWith 7 = .ok (.aload_n 0, 1) := by decide +kernel
theorem dX12_lostWith_8 : decode cX12_lostWith 8 = .ok (.getfield 102, 3) := by decide +kernel
theorem dX12_lostWith_11 : decode cX12_lostWith 11 = .ok (.if_icmp .ge 71, 3) := by decide +kernel
theorem dX12_lostWith_14 : decode cX12_lostWith 14 = .ok (.aload_n 0, 1) := by decide +kernel
theorem dX12_lostWith_15 : decode cX12_lostWith 15 = .ok (.iconst 0, 1) := by decide +kernel
theorem dX12_lostWith_16 : decode cX12_lostWith 16 = .ok (.iload 4, 2) := by decide +kernel
theorem dX12_lostWith_18 : decode cX12_lostWith 18 = .ok (.invokevirtual 108, 3) := by decide +kernel
theorem dX12_lostWith_21 : decode cX12_lostWith 21 = .ok (.aload_n 0, 1) := by decide +kernel
theorem dX12_lostWith_22 : decode cX12_lostWith 22 = .ok (.iconst 0, 1) := by decide +kernel
theorem dX12_lostWith_23 : decode cX12_lostWith 23 = .ok (.iload_n 1, 1) := by decide +kernel
theorem dX12_lostWith_24 : decode cX12_lostWith 24 = .ok (.iload 4, 2) := by decide +kernel
theorem dX12_lostWith_26 : decode cX12_lostWith 26 = .ok (.invokevirtual 95, 3) := by decide +kernel
theorem dX12_lostWith_29 : decode cX12_lostWith 29 = .ok (.isub, 1) := by decide +kernel
theorem dX12_lostWith_30 : decode cX12_lostWith 30 = .ok (.istore 5, 2) := by decide +kernel
theorem dX12_lostWith_32 : decode cX12_lostWith 32 = .ok (.iload_n 2, 1) := by decide +kernel
theorem dX12_lostWith_33 : decode cX12_lostWith 33 = .ok (.ifCond .eq 21, 3) := by decide +kernel
theorem dX12_lostWith_36 : decode cX12_lostWith 36 = .ok (.iload 5, 2) := by decide +kernel
theorem dX12_lostWith_38 : decode cX12_lostWith 38 = .ok (.ifCond .ne 38, 3) := by decide +kernel
theorem dX12_lostWith_41 : decode cX12_lostWith 41 = .ok (.aload_n 0, 1) := by decide +kernel
theorem dX12_lostWith_42 : decode cX12_lostWith 42 = .ok (.iconst 0, 1) := by decide +kernel
theorem dX12_lostWith_43 : decode cX12_lostWith 43 = .ok (.iload 4, 2) := by decide +kernel
theorem dX12_lostWith_45 : decode cX12_lostWith 45 = .ok (.invokevirtual 108, 3) := by decide +kernel
theorem dX12_lostWith_48 : decode cX12_lostWith 48 = .ok (.ifCond .le 28, 3) := by decide +kernel
theorem dX12_lostWith_51 : decode cX12_lostWith 51 = .ok (.goto 18, 3) := by decide +kernel
theorem dX12_lostWith_54 : decode cX12_lostWith 54 = .ok (.iload 5, 2) := by decide +kernel
theorem dX12_lostWith_56 : decode cX12_lostWith 56 = .ok (.aload_n 0, 1) := by decide +kernel
theorem dX12_lostWith_57 : decode cX12_lostWith 57 = .ok (.getfield 9, 3) := by decide +kernel
theorem dX12_lostWith_60 : decode cX12_lostWith 60 = .ok (.bipush 100, 2) := by decide +kernel
theorem dX12_lostWith_62 : decode cX12_lostWith 62 = .ok (.iload 4, 2) := by decide +kernel
theorem dX12_lostWith_64 : decode cX12_lostWith 64 = .ok (.iadd, 1) := by decide +kernel
theorem dX12_lostWith_65 : decode cX12_lostWith 65 = .ok (.iaload, 1) := by decide +kernel
theorem dX12_lostWith_66 : decode cX12_lostWith 66 = .ok (.if_icmp .ge 10, 3) := by decide +kernel
theorem dX12_lostWith_69 : decode cX12_lostWith 69 = .ok (.iload_n 3, 1) := by decide +kernel
theorem dX12_lostWith_70 : decode cX12_lostWith 70 = .ok (.iconst 1, 1) := by decide +kernel
theorem dX12_lostWith_71 : decode cX12_lostWith 71 = .ok (.iload 4, 2) := by decide +kernel
theorem dX12_lostWith_73 : decode cX12_lostWith 73 = .ok (.ishl, 1) := by decide +kernel
theorem dX12_lostWith_74 : decode cX12_lostWith 74 = .ok (.ior, 1) := by decide +kernel
theorem dX12_lostWith_75 : decode cX12_lostWith 75 = .ok (.istore_n 3, 1) := by decide +kernel
theorem dX12_lostWith_76 : decode cX12_lostWith 76 = .ok (.iinc 4 1, 3) := by decide +kernel
theorem dX12_lostWith_79 : decode cX12_lostWith 79 = .ok (.goto (-74), 3) := by decide +kernel
theorem dX12_lostWith_82 : decode cX12_lostWith 82 = .ok (.iload_n 3, 1) := by decide +kernel
theorem dX12_lostWith_83 : decode cX12_lostWith 83 = .ok (.ireturn, 1) := by decide +kernel
set_option maxHeartbeats 400000 in
theorem c12_lostWith {G : Gl} {l : Launch}  {M : Mem} {c : Int → Int} {x f : Int} (hG : GR M) (hK : RW M 0 c) (hS : SP c) (hx0 : 0 ≤ x) (hx1 : x < 5) : Ct G LY 82 l 3 m12_lostWith [vR 57, vI x, vI f] M (Ret (vI (bits (c 122).toNat (fun k => (f ≠ 0 ∧ 0 < allOf c k ∧ allOf c k = c (28 + x * 6 + k)) ∨ (f = 0 ∧ allOf c k - c (28 + x * 6 + k) < c (16 + k))))) M) := by
  refine R_start (by decide +kernel) (Nat.le_of_ble_eq_true rfl) (fun C hC hRm hlau => ?_)
  show RZ G LY C (Zn G LY 82 C (Ret (vI (bits (c 122).toNat (fun k => (f ≠ 0 ∧ 0 < allOf c k ∧ allOf c k = c (28 + x * 6 + k)) ∨ (f = 0 ∧ allOf c k - c (28 + x * 6 + k) < c (16 + k))))) M)) 0 0 82 0 [some (vR 57), some (vI x), some (vI f), none, none, none] [] M
  have hM := hS.m
  have hI := hM.I
  have hL := hM.1.1
  have hW := hM.1.2
  refine R_iconst hC dX12_lostWith_0 ⟨by decide, by decide⟩ ?_
  refine R_istore_3 hC dX12_lostWith_1 rfl ?_
  refine R_iconst hC dX12_lostWith_2 ⟨by decide, by decide⟩ ?_
  refine R_istore_4 hC dX12_lostWith_3 rfl ?_
  have L5 : ∀ (mq : Nat) (acc : Int) (i : Int), (0 ≤ i) → (i ≤ c 122) → (acc = bits i.toNat (fun k => (f ≠ 0 ∧ 0 < allOf c k ∧ allOf c k = c (28 + x * 6 + k)) ∨ (f = 0 ∧ allOf c k - c (28 + x * 6 + k) < c (16 + k)))) → (c 122 - i).toNat < mq → RZ G LY C (Zn G LY 82 C (Ret (vI (bits (c 122).toNat (fun k => (f ≠ 0 ∧ 0 < allOf c k ∧ allOf c k = c (28 + x * 6 + k)) ∨ (f = 0 ∧ allOf c k - c (28 + x * 6 + k) < c (16 + k))))) M)) 0 0 82 5 [some (vR 57), some (vI x), some (vI f), some (vI acc), some (vI i), none] [] M := by
    intro mq
    induction mq with
    | zero =>
      intro acc i hi0 hi1 ha hm
      exact absurd hm (Nat.not_lt_zero _)
    | succ mq ih5 =>
      intro acc i hi0 hi1 ha hm5
      have hp := pw_bd hi0 (by omega)
      have hq := bits_b10 (fun k => (f ≠ 0 ∧ 0 < allOf c k ∧ allOf c k = c (28 + x * 6 + k)) ∨ (f = 0 ∧ allOf c k - c (28 + x * 6 + k) < c (16 + k))) hi0 (by omega)
      refine R_iload_4 hC dX12_lostWith_5 ?_
      refine R_aload_0 hC dX12_lostWith_7 ?_
      refine R_getIE hC dX12_lostWith_8 fl_12_102 (by decide) rfl (by decide) (by decide) (fi := 6) rfl hK.w ?_
      refine R_icmp_ge hC dX12_lostWith_11 (tgt := 82) (by decide) (fun hb11 => ?_) (fun hb11 => ?_)
      · skip
        refine R_iload_3 hC dX12_lostWith_82 ?_
        exact R_ireturn hC dX12_lostWith_83 rfl (ret_I (by rw [ha, show i = c 122 by omega]))
      · skip
        refine R_aload_0 hC dX12_lostWith_14 ?_
        refine R_iconst hC dX12_lostWith_15 ⟨by decide, by decide⟩ ?_
        refine R_iload_4 hC dX12_lostWith_16 ?_
        refine R_callVq (as := [vI _, vI _]) hC dX12_lostWith_18 mo_12_allOf ml_12_108 (by decide) rfl rfl (c12_allOf  hG hK (by omega) (by omega) (by omega) (by omega) hM) rfl rfl hRm (by decide) (by decide) (Nat.le_of_ble_eq_true rfl) ?_
        refine R_aload_0 hC dX12_lostWith_21 ?_
        refine R_iconst hC dX12_lostWith_22 ⟨by decide, by decide⟩ ?_
        refine R_iload_1 hC dX12_lostWith_23 ?_
        refine R_iload_4 hC dX12_lostWith_24 ?_
        refine R_callVq (as := [vI _, vI _, vI _]) hC dX12_lostWith_26 mo_12_holds ml_12_95 (by decide) rfl rfl (c12_holds  hG hK (by omega) (by omega) (by omega) (by omega) (by omega) (by omega)) rfl rfl hRm (by decide) (by decide) (Nat.le_of_ble_eq_true rfl) ?_
        have bA := hM.all hi0 (show i < 6 by omega)
        have bH := (hM.h hx0 hx1 hi0 (show i < 6 by omega)).1
        refine R_isub hC dX12_lostWith_29 ⟨by omega, by omega⟩ ?_
        refine R_istore_5 hC dX12_lostWith_30 rfl ?_
        refine R_iload_2 hC dX12_lostWith_32 ?_
        refine R_if_eq hC dX12_lostWith_33 (tgt := 54) (by decide) (fun hb33 => ?_) (fun hb33 => ?_)
        · skip
          refine R_iload_5 hC dX12_lostWith_54 ?_
          refine R_aload_0 hC dX12_lostWith_56 ?_
          refine R_getR hC dX12_lostWith_57 fl_12_9 (by decide) rfl (by decide) (by decide) (fi := 0) rfl (r := 58) (gr_57_0 hG) ?_
          refine R_bipush hC dX12_lostWith_60 (by decide +kernel) ⟨by decide, by decide⟩ ?_
          refine R_iload_4 hC dX12_lostWith_62 ?_
          refine R_iadd hC dX12_lostWith_64 ⟨by omega, by omega⟩ ?_
          refine R_ialoadE hC dX12_lostWith_65 (by decide) rfl (by omega) (by omega) (hK.r2 (k := 16 + i) (by omega) (by omega) (by omega)) ?_
          refine R_icmp_ge hC dX12_lostWith_66 (tgt := 76) (by decide) (fun hb66 => ?_) (fun hb66 => ?_)
          · skip
            refine R_iinc_4 hC dX12_lostWith_76 rfl ⟨by omega, by omega⟩ ?_
            refine R_goto hC dX12_lostWith_79 (tgt := 5) (by decide) ?_
            refine R_weak (subL_c (subL_c (subL_c (subL_c (subL_c (subL_d subL_n)))))) ?_
            exact ih5 _ _ (by omega) (by omega) (by first | (rw [ha]; exact bits_t hi0 rfl (show (f ≠ 0 ∧ 0 < allOf c i ∧ allOf c i = c (28 + x * 6 + i)) ∨ (f = 0 ∧ allOf c i - c (28 + x * 6 + i) < c (16 + i)) by omega)) | (rw [ha]; exact bits_f hi0 rfl (show ¬ ((f ≠ 0 ∧ 0 < allOf c i ∧ allOf c i = c (28 + x * 6 + i)) ∨ (f = 0 ∧ allOf c i - c (28 + x * 6 + i) < c (16 + i))) by omega))) (by omega)
          · skip
            refine R_iload_3 hC dX12_lostWith_69 ?_
            refine R_iconst hC dX12_lostWith_70 ⟨by decide, by decide⟩ ?_
            refine R_iload_4 hC dX12_lostWith_71 ?_
            refine R_shl1 hC dX12_lostWith_73 (by omega) (by omega) ?_
            refine R_ior hC dX12_lostWith_74 (by omega) (by omega) ?_
            refine R_istore_3 hC dX12_lostWith_75 rfl ?_
            refine R_iinc_4 hC dX12_lostWith_76 rfl ⟨by omega, by omega⟩ ?_
            refine R_goto hC dX12_lostWith_79 (tgt := 5) (by decide) ?_
            refine R_weak (subL_c (subL_c (subL_c (subL_c (subL_c (subL_d subL_n)))))) ?_
            exact ih5 _ _ (by omega) (by omega) (by first | (rw [ha]; exact bits_t hi0 rfl (show (f ≠ 0 ∧ 0 < allOf c i ∧ allOf c i = c (28 + x * 6 + i)) ∨ (f = 0 ∧ allOf c i - c (28 + x * 6 + i) < c (16 + i)) by omega)) | (rw [ha]; exact bits_f hi0 rfl (show ¬ ((f ≠ 0 ∧ 0 < allOf c i ∧ allOf c i = c (28 + x * 6 + i)) ∨ (f = 0 ∧ allOf c i - c (28 + x * 6 + i) < c (16 + i))) by omega))) (by omega)
        · skip
          refine R_iload_5 hC dX12_lostWith_36 ?_
          refine R_if_ne hC dX12_lostWith_38 (tgt := 76) (by decide) (fun hb38 => ?_) (fun hb38 => ?_)
          · skip
            refine R_iinc_4 hC dX12_lostWith_76 rfl ⟨by omega, by omega⟩ ?_
            refine R_goto hC dX12_lostWith_79 (tgt := 5) (by decide) ?_
            refine R_weak (subL_c (subL_c (subL_c (subL_c (subL_c (subL_d subL_n)))))) ?_
            exact ih5 _ _ (by omega) (by omega) (by first | (rw [ha]; exact bits_t hi0 rfl (show (f ≠ 0 ∧ 0 < allOf c i ∧ allOf c i = c (28 + x * 6 + i)) ∨ (f = 0 ∧ allOf c i - c (28 + x * 6 + i) < c (16 + i)) by omega)) | (rw [ha]; exact bits_f hi0 rfl (show ¬ ((f ≠ 0 ∧ 0 < allOf c i ∧ allOf c i = c (28 + x * 6 + i)) ∨ (f = 0 ∧ allOf c i - c (28 + x * 6 + i) < c (16 + i))) by omega))) (by omega)
          · skip
            refine R_aload_0 hC dX12_lostWith_41 ?_
            refine R_iconst hC dX12_lostWith_42 ⟨by decide, by decide⟩ ?_
            refine R_iload_4 hC dX12_lostWith_43 ?_
            refine R_callVq (as := [vI _, vI _]) hC dX12_lostWith_45 mo_12_allOf ml_12_108 (by decide) rfl rfl (c12_allOf  hG hK (by omega) (by omega) (by omega) (by omega) hM) rfl rfl hRm (by decide) (by decide) (Nat.le_of_ble_eq_true rfl) ?_
            refine R_if_le hC dX12_lostWith_48 (tgt := 76) (by decide) (fun hb48 => ?_) (fun hb48 => ?_)
            · skip
              refine R_iinc_4 hC dX12_lostWith_76 rfl ⟨by omega, by omega⟩ ?_
              refine R_goto hC dX12_lostWith_79 (tgt := 5) (by decide) ?_
              refine R_weak (subL_c (subL_c (subL_c (subL_c (subL_c (subL_d subL_n)))))) ?_
              exact ih5 _ _ (by omega) (by omega) (by first | (rw [ha]; exact bits_t hi0 rfl (show (f ≠ 0 ∧ 0 < allOf c i ∧ allOf c i = c (28 + x * 6 + i)) ∨ (f = 0 ∧ allOf c i - c (28 + x * 6 + i) < c (16 + i)) by omega)) | (rw [ha]; exact bits_f hi0 rfl (show ¬ ((f ≠ 0 ∧ 0 < allOf c i ∧ allOf c i = c (28 + x * 6 + i)) ∨ (f = 0 ∧ allOf c i - c (28 + x * 6 + i) < c (16 + i))) by omega))) (by omega)
            · skip
              refine R_goto hC dX12_lostWith_51 (tgt := 69) (by decide) ?_
              refine R_iload_3 hC dX12_lostWith_69 ?_
              refine R_iconst hC dX12_lostWith_70 ⟨by decide, by decide⟩ ?_
              refine R_iload_4 hC dX12_lostWith_71 ?_
              refine R_shl1 hC dX12_lostWith_73 (by omega) (by omega) ?_
              refine R_ior hC dX12_lostWith_74 (by omega) (by omega) ?_
              refine R_istore_3 hC dX12_lostWith_75 rfl ?_
              refine R_iinc_4 hC dX12_lostWith_76 rfl ⟨by omega, by omega⟩ ?_
              refine R_goto hC dX12_lostWith_79 (tgt := 5) (by decide) ?_
              refine R_weak (subL_c (subL_c (subL_c (subL_c (subL_c (subL_d subL_n)))))) ?_
              exact ih5 _ _ (by omega) (by omega) (by first | (rw [ha]; exact bits_t hi0 rfl (show (f ≠ 0 ∧ 0 < allOf c i ∧ allOf c i = c (28 + x * 6 + i)) ∨ (f = 0 ∧ allOf c i - c (28 + x * 6 + i) < c (16 + i)) by omega)) | (rw [ha]; exact bits_f hi0 rfl (show ¬ ((f ≠ 0 ∧ 0 < allOf c i ∧ allOf c i = c (28 + x * 6 + i)) ∨ (f = 0 ∧ allOf c i - c (28 + x * 6 + i) < c (16 + i))) by omega))) (by omega)
  exact L5 _ _ _ (by omega) (by omega) rfl (Nat.lt_succ_self _)
theorem dX12_holders_0 : decode cX12_holders 0 = .ok (.iconst 0, 1) := by decide +kernel
theorem dX12_holders_1 : decode cX12_holders 1 = .ok (.istore_n 2, 1) := by decide +kernel
theorem dX12_holders_2 : decode cX12_holders 2 = .ok (.iconst 0, 1) := by decide +kernel
theorem dX12_holders_3 : decode cX12_holders 3 = .ok (.istore_n 3, 1) := by decide +kernel
theorem dX12_holders_4 : decode cX12_holders 4 = .ok (.iload_n 3, 1) := by decide +kernel
theorem dX12_holders_5 : decode cX12_holders 5 = .ok (.aload_n 0, 1) := by decide +kernel
theorem dX12_holders_6 : decode cX12_holders 6 = .ok (.getfield 105, 3) := by decide +kernel
theorem dX12_holders_9 : decode cX12_holders 9 = .ok (.if_icmp .ge 25, 3) := by decide +kernel
theorem dX12_holders_12 : decode cX12_holders 12 = .ok (.aload_n 0, 1) := by decide +kernel
theorem dX12_holders_13 : decode cX12_holders 13 = .ok (.iconst 0, 1) := by decide +kernel
theorem dX12_holders_14 : decode cX12_holders 14 = .ok (.iload_n 3, 1) := by decide +kernel
theorem dX12_holders_15 : decode cX12_holders 15 = .ok (.iload_n 1, 1) := by decide +kernel
theorem dX12_holders_16 : decode cX12_holders 16 = .ok (.invokevirtual 95, 3) := by decide +kernel
theorem dX12_holders_19 : decode cX12_holders 19 = .ok (.ifCond .le 9, 3) := by decide +kernel
theorem dX12_holders_22 : decode cX12_holders 22 = .ok (.iload_n 2, 1) := by decide +kernel
theorem dX12_holders_23 : decode cX12_holders 23 = .ok (.iconst 1, 1) := by decide +kernel
theorem dX12_holders_24 : decode cX12_holders 24 = .ok (.iload_n 3, 1) := by decide +kernel
theorem dX12_holders_25 : decode cX12_holders 25 = .ok (.ishl, 1) := by decide +kernel
theorem dX12_holders_26 : decode cX12_holders 26 = .ok (.ior, 1) := by decide +kernel
theorem dX12_holders_27 : decode cX12_holders 27 = .ok (.istore_n 2, 1) := by decide +kernel
theorem dX12_holders_28 : decode cX12_holders 28 = .ok (.iinc 3 1, 3) := by decide +kernel
theorem dX12_holders_31 : decode cX12_holders 31 = .ok (.goto (-27), 3) := by decide +kernel
theorem dX12_holders_34 : decode cX12_holders 34 = .ok (.iload_n 2, 1) := by decide +kernel
theorem dX12_holders_35 : decode cX12_holders 35 = .ok (.ireturn, 1) := by decide +kernel
set_option maxHeartbeats 400000 in
theorem c12_holders {G : Gl} {l : Launch}  {M : Mem} {c : Int → Int} {w : Int} (hG : GR M) (hK : RW M 0 c) (hS : SP c) (hw0 : 0 ≤ w) (hw1 : w < 6) : Ct G LY 82 l 2 m12_holders [vR 57, vI w] M (Ret (vI (bits (c 121).toNat (fun k => 0 < c (28 + k * 6 + w)))) M) := by
  refine R_start (by decide +kernel) (Nat.le_of_ble_eq_true rfl) (fun C hC hRm hlau => ?_)
  show RZ G LY C (Zn G LY 82 C (Ret (vI (bits (c 121).toNat (fun k => 0 < c (28 + k * 6 + w)))) M)) 0 0 82 0 [some (vR 57), some (vI w), none, none] [] M
  have hM := hS.m
  have hI := hM.I
  have hL := hM.1.1
  have hW := hM.1.2
  refine R_iconst hC dX12_holders_0 ⟨by decide, by decide⟩ ?_
  refine R_istore_2 hC dX12_holders_1 rfl ?_
  refine R_iconst hC dX12_holders_2 ⟨by decide, by decide⟩ ?_
  refine R_istore_3 hC dX12_holders_3 rfl ?_
  have L4 : ∀ (mq : Nat) (acc : Int) (i : Int), (0 ≤ i) → (i ≤ c 121) → (acc = bits i.toNat (fun k => 0 < c (28 + k * 6 + w))) → (c 121 - i).toNat < mq → RZ G LY C (Zn G LY 82 C (Ret (vI (bits (c 121).toNat (fun k => 0 < c (28 + k * 6 + w)))) M)) 0 0 82 4 [some (vR 57), some (vI w), some (vI acc), some (vI i)] [] M := by
    intro mq
    induction mq with
    | zero =>
      intro acc i hi0 hi1 ha hm
      exact absurd hm (Nat.not_lt_zero _)
    | succ mq ih4 =>
      intro acc i hi0 hi1 ha hm4
      have hp := pw_bd hi0 (by omega)
      have hq := bits_b10 (fun k => 0 < c (28 + k * 6 + w)) hi0 (by omega)
      refine R_iload_3 hC dX12_holders_4 ?_
      refine R_aload_0 hC dX12_holders_5 ?_
      refine R_getIE hC dX12_holders_6 fl_12_105 (by decide) rfl (by decide) (by decide) (fi := 5) rfl hK.l ?_
      refine R_icmp_ge hC dX12_holders_9 (tgt := 34) (by decide) (fun hb9 => ?_) (fun hb9 => ?_)
      · skip
        refine R_iload_2 hC dX12_holders_34 ?_
        exact R_ireturn hC dX12_holders_35 rfl (ret_I (by rw [ha, show i = c 121 by omega]))
      · skip
        refine R_aload_0 hC dX12_holders_12 ?_
        refine R_iconst hC dX12_holders_13 ⟨by decide, by decide⟩ ?_
        refine R_iload_3 hC dX12_holders_14 ?_
        refine R_iload_1 hC dX12_holders_15 ?_
        refine R_callVq (as := [vI _, vI _, vI _]) hC dX12_holders_16 mo_12_holds ml_12_95 (by decide) rfl rfl (c12_holds  hG hK (by omega) (by omega) (by omega) (by omega) (by omega) (by omega)) rfl rfl hRm (by decide) (by decide) (Nat.le_of_ble_eq_true rfl) ?_
        refine R_if_le hC dX12_holders_19 (tgt := 28) (by decide) (fun hb19 => ?_) (fun hb19 => ?_)
        · skip
          refine R_iinc_3 hC dX12_holders_28 rfl ⟨by omega, by omega⟩ ?_
          refine R_goto hC dX12_holders_31 (tgt := 4) (by decide) ?_
          exact ih4 _ _ (by omega) (by omega) (by first | (rw [ha]; exact bits_t hi0 rfl (show 0 < c (28 + i * 6 + w) by omega)) | (rw [ha]; exact bits_f hi0 rfl (show ¬ (0 < c (28 + i * 6 + w)) by omega))) (by omega)
        · skip
          refine R_iload_2 hC dX12_holders_22 ?_
          refine R_iconst hC dX12_holders_23 ⟨by decide, by decide⟩ ?_
          refine R_iload_3 hC dX12_holders_24 ?_
          refine R_shl1 hC dX12_holders_25 (by omega) (by omega) ?_
          refine R_ior hC dX12_holders_26 (by omega) (by omega) ?_
          refine R_istore_2 hC dX12_holders_27 rfl ?_
          refine R_iinc_3 hC dX12_holders_28 rfl ⟨by omega, by omega⟩ ?_
          refine R_goto hC dX12_holders_31 (tgt := 4) (by decide) ?_
          exact ih4 _ _ (by omega) (by omega) (by first | (rw [ha]; exact bits_t hi0 rfl (show 0 < c (28 + i * 6 + w) by omega)) | (rw [ha]; exact bits_f hi0 rfl (show ¬ (0 < c (28 + i * 6 + w)) by omega))) (by omega)
  exact L4 _ _ _ (by omega) (by omega) rfl (Nat.lt_succ_self _)
theorem dX12_why_0 : decode cX12_why 0 = .ok (.aload_n 0, 1) := by decide +kernel
theorem dX12_why_1 : decode cX12_why 1 = .ok (.iload_n 1, 1) := by decide +kernel
theorem dX12_why_2 : decode cX12_why 2 = .ok (.iload_n 2, 1) := by decide +kernel
theorem dX12_why_3 : decode cX12_why 3 = .ok (.iload_n 3, 1) := by decide +kernel
theorem dX12_why_4 : decode cX12_why 4 = .ok (.invokevirtual 95, 3) := by decide +kernel
theorem dX12_why_7 : decode cX12_why 7 = .ok (.ifCond .ne 5, 3) := by decide +kernel
theorem dX12_why_10 : decode cX12_why 10 = .ok (.iconst 1, 1) := by decide +kernel
theorem dX12_why_11 : decode cX12_why 11 = .ok (.ireturn, 1) := by decide +kernel
theorem dX12_why_12 : decode cX12_why 12 = .ok (.aload_n 0, 1) := by decide +kernel
theorem dX12_why_13 : decode cX12_why 13 = .ok (.iload_n 1, 1) := by decide +kernel
theorem dX12_why_14 : decode cX12_why 14 = .ok (.iload_n 2, 1) := by decide +kernel
theorem dX12_why_15 : decode cX12_why 15 = .ok (.iload_n 3, 1) := by decide +kernel
theorem dX12_why_16 : decode cX12_why 16 = .ok (.invokevirtual 117, 3) := by decide +kernel
theorem dX12_why_19 : decode cX12_why 19 = .ok (.ifCond .ne 7, 3) := by decide +kernel
theorem dX12_why_22 : decode cX12_why 22 = .ok (.iconst 2, 1) := by decide +kernel
theorem dX12_why_23 : decode cX12_why 23 = .ok (.goto 17, 3) := by decide +kernel
theorem dX12_why_26 : decode cX12_why 26 = .ok (.aload_n 0, 1) := by decide +kernel
theorem dX12_why_27 : decode cX12_why 27 = .ok (.iload_n 1, 1) := by decide +kernel
theorem dX12_why_28 : decode cX12_why 28 = .ok (.iload_n 3, 1) := by decide +kernel
theorem dX12_why_29 : decode cX12_why 29 = .ok (.invokevirtual 120, 3) := by decide +kernel
theorem dX12_why_32 : decode cX12_why 32 = .ok (.ifCond .ne 7, 3) := by decide +kernel
theorem dX12_why_35 : decode cX12_why 35 = .ok (.iconst 3, 1) := by decide +kernel
theorem dX12_why_36 : decode cX12_why 36 = .ok (.goto 4, 3) := by decide +kernel
theorem dX12_why_39 : decode cX12_why 39 = .ok (.iconst 0, 1) := by decide +kernel
theorem dX12_why_40 : decode cX12_why 40 = .ok (.ireturn, 1) := by decide +kernel
set_option maxHeartbeats 400000 in
theorem c12_why {G : Gl} {l : Launch}  {M : Mem} {b : Int} {c : Int → Int} {x w : Int} (hG : GR M) (hK : RW M b c) (hb0 : 0 ≤ b) (hb1 : b ≤ 9686) (hM : SM c) (hx0 : 0 ≤ x) (hx1 : x < 5) (hw0 : 0 ≤ w) (hw1 : w < 6) : Ct G LY 82 l 4 m12_why [vR 57, vI b, vI x, vI w] M (Ret (vI (whyN c x w)) M) := by
  refine R_start (by decide +kernel) (Nat.le_of_ble_eq_true rfl) (fun C hC hRm hlau => ?_)
  show RZ G LY C (Zn G LY 82 C (Ret (vI (whyN c x w)) M)) 0 0 82 0 [some (vR 57), some (vI b), some (vI x), some (vI w)] [] M
  have bo := hM.off hx0 hx1 hw0 hw1
  have bs := hM.sr hw0 hw1
  refine R_aload_0 hC dX12_why_0 ?_
  refine R_iload_1 hC dX12_why_1 ?_
  refine R_iload_2 hC dX12_why_2 ?_
  refine R_iload_3 hC dX12_why_3 ?_
  refine R_callVq (as := [vI _, vI _, vI _]) hC dX12_why_4 mo_12_holds ml_12_95 (by decide) rfl rfl (c12_holds  hG hK (by omega) (by omega) (by omega) (by omega) (by omega) (by omega)) rfl rfl hRm (by decide) (by decide) (Nat.le_of_ble_eq_true rfl) ?_
  refine R_if_ne hC dX12_why_7 (tgt := 12) (by decide) (fun hb7 => ?_) (fun hb7 => ?_)
  · skip
    refine R_aload_0 hC dX12_why_12 ?_
    refine R_iload_1 hC dX12_why_13 ?_
    refine R_iload_2 hC dX12_why_14 ?_
    refine R_iload_3 hC dX12_why_15 ?_
    refine R_callVq (as := [vI _, vI _, vI _]) hC dX12_why_16 mo_12_offerOf ml_12_117 (by decide) rfl rfl (c12_offerOf  hG hK (by omega) (by omega) (by omega) (by omega) (by omega) (by omega) hM) rfl rfl hRm (by decide) (by decide) (Nat.le_of_ble_eq_true rfl) ?_
    have e16_1 := (hM).off (x := x) (w := w) (by omega) (by omega) (by omega) (by omega)
    refine R_if_ne hC dX12_why_19 (tgt := 26) (by decide) (fun hb19 => ?_) (fun hb19 => ?_)
    · skip
      refine R_aload_0 hC dX12_why_26 ?_
      refine R_iload_1 hC dX12_why_27 ?_
      refine R_iload_3 hC dX12_why_28 ?_
      refine R_callVq (as := [vI _, vI _]) hC dX12_why_29 mo_12_spareOf ml_12_120 (by decide) rfl rfl (c12_spareOf  hG hK (by omega) (by omega) (by omega) (by omega) hM) rfl rfl hRm (by decide) (by decide) (Nat.le_of_ble_eq_true rfl) ?_
      refine R_if_ne hC dX12_why_32 (tgt := 39) (by decide) (fun hb32 => ?_) (fun hb32 => ?_)
      · skip
        refine R_iconst hC dX12_why_39 ⟨by decide, by decide⟩ ?_
        exact R_ireturn hC dX12_why_40 rfl (ret_I (by unfold whyN; simp [*]))
      · skip
        refine R_iconst hC dX12_why_35 ⟨by decide, by decide⟩ ?_
        refine R_goto hC dX12_why_36 (tgt := 40) (by decide) ?_
        exact R_ireturn hC dX12_why_40 rfl (ret_I (by unfold whyN; simp [*]))
    · skip
      refine R_iconst hC dX12_why_22 ⟨by decide, by decide⟩ ?_
      refine R_goto hC dX12_why_23 (tgt := 40) (by decide) ?_
      exact R_ireturn hC dX12_why_40 rfl (ret_I (by unfold whyN; simp [*]))
  · skip
    refine R_iconst hC dX12_why_10 ⟨by decide, by decide⟩ ?_
    exact R_ireturn hC dX12_why_11 rfl (ret_I (by unfold whyN; simp [*]))
theorem dX12_isLibrary_0 : decode cX12_isLibrary 0 = .ok (.aload_n 0, 1) := by decide +kernel
theorem dX12_isLibrary_1 : decode cX12_isLibrary 1 = .ok (.iload_n 1, 1) := by decide +kernel
theorem dX12_isLibrary_2 : decode cX12_isLibrary 2 = .ok (.iconst 0, 1) := by decide +kernel
theorem dX12_isLibrary_3 : decode cX12_isLibrary 3 = .ok (.aload_n 0, 1) := by decide +kernel
theorem dX12_isLibrary_4 : decode cX12_isLibrary 4 = .ok (.getfield 105, 3) := by decide +kernel
theorem dX12_isLibrary_7 : decode cX12_isLibrary 7 = .ok (.iconst 1, 1) := by decide +kernel
theorem dX12_isLibrary_8 : decode cX12_isLibrary 8 = .ok (.isub, 1) := by decide +kernel
theorem dX12_isLibrary_9 : decode cX12_isLibrary 9 = .ok (.invokestatic 235, 3) := by decide +kernel
theorem dX12_isLibrary_12 : decode cX12_isLibrary 12 = .ok (.iconst 1, 1) := by decide +kernel
theorem dX12_isLibrary_13 : decode cX12_isLibrary 13 = .ok (.invokevirtual 269, 3) := by decide +kernel
theorem dX12_isLibrary_16 : decode cX12_isLibrary 16 = .ok (.ireturn, 1) := by decide +kernel
set_option maxHeartbeats 400000 in
theorem c12_isLibrary {G : Gl} {l : Launch}  {M : Mem} {c : Int → Int} {x : Int} (hG : GR M) (hK : RW M 0 c) (hS : SP c) : Ct G LY 82 l 1 m12_isLibrary [vR 57, vI x] M (RP (fun v M' => Fr [] [(57, 4)] M M' ∧ M' 57 4 = (if M 57 4 = 0 ∧ ¬ (0 ≤ x ∧ x < c 121) then 1 else M 57 4) ∧ v = bP (M' 57 4 = 0))) := by
  refine R_start (by decide +kernel) (Nat.le_of_ble_eq_true rfl) (fun C hC hRm hlau => ?_)
  show RZ G LY C (Zn G LY 82 C (RP (fun v M' => Fr [] [(57, 4)] M M' ∧ M' 57 4 = (if M 57 4 = 0 ∧ ¬ (0 ≤ x ∧ x < c 121) then 1 else M 57 4) ∧ v = bP (M' 57 4 = 0)))) 0 0 82 0 [some (vR 57), some (vI x)] [] M
  have hM := hS.m
  have hI := hM.I
  have hL := hM.1.1
  have hW := hM.1.2
  refine R_aload_0 hC dX12_isLibrary_0 ?_
  refine R_iload_1 hC dX12_isLibrary_1 ?_
  refine R_iconst hC dX12_isLibrary_2 ⟨by decide, by decide⟩ ?_
  refine R_aload_0 hC dX12_isLibrary_3 ?_
  refine R_getIE hC dX12_isLibrary_4 fl_12_105 (by decide) rfl (by decide) (by decide) (fi := 5) rfl hK.l ?_
  refine R_iconst hC dX12_isLibrary_7 ⟨by decide, by decide⟩ ?_
  refine R_isub hC dX12_isLibrary_8 ⟨by omega, by omega⟩ ?_
  refine R_callSq (as := [vI _, vI _, vI _]) hC dX12_isLibrary_9 mo_12_within ml_12_235 (c12_within  ) rfl rfl hRm (by decide) (by decide) (Nat.le_of_ble_eq_true rfl) ?_
  refine R_iconst hC dX12_isLibrary_12 ⟨by decide, by decide⟩ ?_
  refine R_callVp (as := [vI _, vI _]) hC dX12_isLibrary_13 mo_12_right ml_12_269 (by decide) rfl rfl (c12_right  ) rfl rfl hRm (by decide) (by decide) (Nat.le_of_ble_eq_true rfl) (fun v3 Mc1 hq2 => ?_)
  exact R_zreturn hC dX12_isLibrary_16 rfl (by (rw [hq2.2.2]; exact bP_01 _)) (ret_P ⟨hq2.1, hq2.2.1.trans (by
      by_cases e : 0 ≤ x ∧ x < c 121
      · rw [bP_pos (show 0 ≤ x ∧ x ≤ c 121 - 1 by omega), if_neg (fun z => absurd z.2 (by decide)), if_neg (fun z => z.2 e)]
      · rw [bP_neg (show ¬ (0 ≤ x ∧ x ≤ c 121 - 1) by omega)]
        by_cases q : M 57 4 = 0
        · rw [if_pos ⟨q, rfl⟩, if_pos ⟨q, e⟩]
        · rw [if_neg (fun z => q z.1), if_neg (fun z => q z.1)]), hq2.2.2⟩)
theorem dX12_isWork_0 : decode cX12_isWork 0 = .ok (.aload_n 0, 1) := by decide +kernel
theorem dX12_isWork_1 : decode cX12_isWork 1 = .ok (.iload_n 1, 1) := by decide +kernel
theorem dX12_isWork_2 : decode cX12_isWork 2 = .ok (.iconst 0, 1) := by decide +kernel
theorem dX12_isWork_3 : decode cX12_isWork 3 = .ok (.aload_n 0, 1) := by decide +kernel
theorem dX12_isWork_4 : decode cX12_isWork 4 = .ok (.getfield 102, 3) := by decide +kernel
theorem dX12_isWork_7 : decode cX12_isWork 7 = .ok (.iconst 1, 1) := by decide +kernel
theorem dX12_isWork_8 : decode cX12_isWork 8 = .ok (.isub, 1) := by decide +kernel
theorem dX12_isWork_9 : decode cX12_isWork 9 = .ok (.invokestatic 235, 3) := by decide +kernel
theorem dX12_isWork_12 : decode cX12_isWork 12 = .ok (.iconst 1, 1) := by decide +kernel
theorem dX12_isWork_13 : decode cX12_isWork 13 = .ok (.invokevirtual 269, 3) := by decide +kernel
theorem dX12_isWork_16 : decode cX12_isWork 16 = .ok (.ireturn, 1) := by decide +kernel
set_option maxHeartbeats 400000 in
theorem c12_isWork {G : Gl} {l : Launch}  {M : Mem} {c : Int → Int} {w : Int} (hG : GR M) (hK : RW M 0 c) (hS : SP c) : Ct G LY 82 l 1 m12_isWork [vR 57, vI w] M (RP (fun v M' => Fr [] [(57, 4)] M M' ∧ M' 57 4 = (if M 57 4 = 0 ∧ ¬ (0 ≤ w ∧ w < c 122) then 1 else M 57 4) ∧ v = bP (M' 57 4 = 0))) := by
  refine R_start (by decide +kernel) (Nat.le_of_ble_eq_true rfl) (fun C hC hRm hlau => ?_)
  show RZ G LY C (Zn G LY 82 C (RP (fun v M' => Fr [] [(57, 4)] M M' ∧ M' 57 4 = (if M 57 4 = 0 ∧ ¬ (0 ≤ w ∧ w < c 122) then 1 else M 57 4) ∧ v = bP (M' 57 4 = 0)))) 0 0 82 0 [some (vR 57), some (vI w)] [] M
  have hM := hS.m
  have hI := hM.I
  have hL := hM.1.1
  have hW := hM.1.2
  refine R_aload_0 hC dX12_isWork_0 ?_
  refine R_iload_1 hC dX12_isWork_1 ?_
  refine R_iconst hC dX12_isWork_2 ⟨by decide, by decide⟩ ?_
  refine R_aload_0 hC dX12_isWork_3 ?_
  refine R_getIE hC dX12_isWork_4 fl_12_102 (by decide) rfl (by decide) (by decide) (fi := 6) rfl hK.w ?_
  refine R_iconst hC dX12_isWork_7 ⟨by decide, by decide⟩ ?_
  refine R_isub hC dX12_isWork_8 ⟨by omega, by omega⟩ ?_
  refine R_callSq (as := [vI _, vI _, vI _]) hC dX12_isWork_9 mo_12_within ml_12_235 (c12_within  ) rfl rfl hRm (by decide) (by decide) (Nat.le_of_ble_eq_true rfl) ?_
  refine R_iconst hC dX12_isWork_12 ⟨by decide, by decide⟩ ?_
  refine R_callVp (as := [vI _, vI _]) hC dX12_isWork_13 mo_12_right ml_12_269 (by decide) rfl rfl (c12_right  ) rfl rfl hRm (by decide) (by decide) (Nat.le_of_ble_eq_true rfl) (fun v3 Mc1 hq2 => ?_)
  exact R_zreturn hC dX12_isWork_16 rfl (by (rw [hq2.2.2]; exact bP_01 _)) (ret_P ⟨hq2.1, hq2.2.1.trans (by
      by_cases e : 0 ≤ w ∧ w < c 122
      · rw [bP_pos (show 0 ≤ w ∧ w ≤ c 122 - 1 by omega), if_neg (fun z => absurd z.2 (by decide)), if_neg (fun z => z.2 e)]
      · rw [bP_neg (show ¬ (0 ≤ w ∧ w ≤ c 122 - 1) by omega)]
        by_cases q : M 57 4 = 0
        · rw [if_pos ⟨q, rfl⟩, if_pos ⟨q, e⟩]
        · rw [if_neg (fun z => q z.1), if_neg (fun z => q z.1)]), hq2.2.2⟩)
theorem dX12_shortageTold_0 : decode cX12_shortageTold 0 = .ok (.aload_n 0, 1) := by decide +kernel
theorem dX12_shortageTold_1 : decode cX12_shortageTold 1 = .ok (.iconst 0, 1) := by decide +kernel
theorem dX12_shortageTold_2 : decode cX12_shortageTold 2 = .ok (.iconst (-1), 1) := by decide +kernel
theorem dX12_shortageTold_3 : decode cX12_shortageTold 3 = .ok (.invokevirtual 145, 3) := by decide +kernel
theorem dX12_shortageTold_6 : decode cX12_shortageTold 6 = .ok (.aload_n 0, 1) := by decide +kernel
theorem dX12_shortageTold_7 : decode cX12_shortageTold 7 = .ok (.invokevirtual 142, 3) := by decide +kernel
theorem dX12_shortageTold_10 : decode cX12_shortageTold 10 = .ok (.iload_n 1, 1) := by decide +kernel
theorem dX12_shortageTold_11 : decode cX12_shortageTold 11 = .ok (.bipush 9, 2) := by decide +kernel
theorem dX12_shortageTold_13 : decode cX12_shortageTold 13 = .ok (.if_icmp .ne 10, 3) := by decide +kernel
theorem dX12_shortageTold_16 : decode cX12_shortageTold 16 = .ok (.aload_n 0, 1) := by decide +kernel
theorem dX12_shortageTold_17 : decode cX12_shortageTold 17 = .ok (.getfield 129, 3) := by decide +kernel
theorem dX12_shortageTold_20 : decode cX12_shortageTold 20 = .ok (.goto 20, 3) := by decide +kernel
theorem dX12_shortageTold_23 : decode cX12_shortageTold 23 = .ok (.iload_n 1, 1) := by decide +kernel
theorem dX12_shortageTold_24 : decode cX12_shortageTold 24 = .ok (.bipush 10, 2) := by decide +kernel
theorem dX12_shortageTold_26 : decode cX12_shortageTold 26 = .ok (.if_icmp .ne 10, 3) := by decide +kernel
theorem dX12_shortageTold_29 : decode cX12_shortageTold 29 = .ok (.aload_n 0, 1) := by decide +kernel
theorem dX12_shortageTold_30 : decode cX12_shortageTold 30 = .ok (.getfield 132, 3) := by decide +kernel
theorem dX12_shortageTold_33 : decode cX12_shortageTold 33 = .ok (.goto 7, 3) := by decide +kernel
theorem dX12_shortageTold_36 : decode cX12_shortageTold 36 = .ok (.aload_n 0, 1) := by decide +kernel
theorem dX12_shortageTold_37 : decode cX12_shortageTold 37 = .ok (.invokevirtual 335, 3) := by decide +kernel
theorem dX12_shortageTold_40 : decode cX12_shortageTold 40 = .ok (.ireturn, 1) := by decide +kernel
set_option maxHeartbeats 400000 in
theorem c12_shortageTold {G : Gl} {l : Launch}  {M : Mem} {c : Int → Int} {q : Int} (hG : GR M) (hK : RW M 0 c) (hS : SP c) : Ct G LY 82 l 5 m12_shortageTold [vR 57, vI q] M (RP (fun v M' => Fr [63, 64, 65, 66] [(57, 22), (57, 23)] M M' ∧ v = if q = 9 then lackI (insOf c) (worst (insOf c)) else if q = 10 then worst (insOf c) else bits (c 122).toNat (fun w => spr c w < ss (fun x => offr c x w) (worst (insOf c))))) := by
  refine R_start (by decide +kernel) (Nat.le_of_ble_eq_true rfl) (fun C hC hRm hlau => ?_)
  show RZ G LY C (Zn G LY 82 C (RP (fun v M' => Fr [63, 64, 65, 66] [(57, 22), (57, 23)] M M' ∧ v = if q = 9 then lackI (insOf c) (worst (insOf c)) else if q = 10 then worst (insOf c) else bits (c 122).toNat (fun w => spr c w < ss (fun x => offr c x w) (worst (insOf c)))))) 0 0 82 0 [some (vR 57), some (vI q)] [] M
  have hM := hS.m
  have hI := hM.I
  have hL := hM.1.1
  have hW := hM.1.2
  refine R_aload_0 hC dX12_shortageTold_0 ?_
  refine R_iconst hC dX12_shortageTold_1 ⟨by decide, by decide⟩ ?_
  refine R_iconst hC dX12_shortageTold_2 ⟨by decide, by decide⟩ ?_
  refine R_callVv (as := [vI _, vI _]) hC dX12_shortageTold_3 mo_12_asks ml_12_145 (by decide) rfl rfl (c12_asks  hG hK (by omega) (by omega) hM) rfl rfl hRm (by decide) (by decide) (Nat.le_of_ble_eq_true rfl) (fun Mc1 hq2 => ?_)
  refine R_aload_0 hC dX12_shortageTold_6 ?_
  have hG3 : GR Mc1 := (GR.fr hG hq2.1 (by decide +kernel))
  have hk4 : MA Mc1 (insOf c) := (hq2.2.q (apI_n (by decide)))
  refine R_callVv (as := []) hC dX12_shortageTold_7 mo_12_laysShortage ml_12_142 (by decide) rfl rfl (c12_laysShortage  hG3 hk4 hI) rfl rfl hRm (by decide) (by decide) (Nat.le_of_ble_eq_true rfl) (fun Mc5 hq6 => ?_)
  have hF0 : Fr [63, 64, 65, 66] [(57, 22), (57, 23)] M Mc5 := Fr.tt (hq2.1.mo (by simp) (by simp)) (hq6.1.mo (by simp) (by simp))
  have hwb := hI.wb
  refine R_iload_1 hC dX12_shortageTold_10 ?_
  refine R_bipush hC dX12_shortageTold_11 (by decide +kernel) ⟨by decide, by decide⟩ ?_
  refine R_icmp_ne hC dX12_shortageTold_13 (tgt := 23) (by decide) (fun hb13 => ?_) (fun hb13 => ?_)
  · skip
    refine R_iload_1 hC dX12_shortageTold_23 ?_
    refine R_bipush hC dX12_shortageTold_24 (by decide +kernel) ⟨by decide, by decide⟩ ?_
    refine R_icmp_ne hC dX12_shortageTold_26 (tgt := 36) (by decide) (fun hb26 => ?_) (fun hb26 => ?_)
    · skip
      refine R_aload_0 hC dX12_shortageTold_36 ?_
      have hG7 : GR Mc5 := (GR.fr hG3 hq6.1 (by decide +kernel))
      have hk8 : MA Mc5 (insOf c) := (MA.fr hk4 hq6.1 (by decide +kernel))
      refine R_callVq (as := []) hC dX12_shortageTold_37 mo_12_shortWorks ml_12_335 (by decide) rfl rfl (c12_shortWorks  hG7 hk8 hI (by (rw [hq6.2.2]; exact hwb.1)) (by (rw [hq6.2.2]; exact hwb.2))) rfl rfl hRm (by decide) (by decide) (Nat.le_of_ble_eq_true rfl) ?_
      exact R_ireturn hC dX12_shortageTold_40 rfl (ret_P ⟨hF0, by
            first
              | (rw [if_pos hb13]; exact hq6.2.1)
              | (rw [if_neg hb13, if_pos hb26]; exact hq6.2.2)
              | (rw [if_neg hb13, if_neg hb26, hq6.2.2]; rfl)⟩)
    · skip
      refine R_aload_0 hC dX12_shortageTold_29 ?_
      refine R_getI hC dX12_shortageTold_30 fl_12_132 (by decide) rfl (by decide) (by decide) (fi := 23) rfl ?_
      refine R_goto hC dX12_shortageTold_33 (tgt := 40) (by decide) ?_
      exact R_ireturn hC dX12_shortageTold_40 rfl (ret_P ⟨hF0, by
            first
              | (rw [if_pos hb13]; exact hq6.2.1)
              | (rw [if_neg hb13, if_pos hb26]; exact hq6.2.2)
              | (rw [if_neg hb13, if_neg hb26, hq6.2.2]; rfl)⟩)
  · skip
    refine R_aload_0 hC dX12_shortageTold_16 ?_
    refine R_getI hC dX12_shortageTold_17 fl_12_129 (by decide) rfl (by decide) (by decide) (fi := 22) rfl ?_
    refine R_goto hC dX12_shortageTold_20 (tgt := 40) (by decide) ?_
    exact R_ireturn hC dX12_shortageTold_40 rfl (ret_P ⟨hF0, by
          first
            | (rw [if_pos hb13]; exact hq6.2.1)
            | (rw [if_neg hb13, if_pos hb26]; exact hq6.2.2)
            | (rw [if_neg hb13, if_neg hb26, hq6.2.2]; rfl)⟩)
theorem dX12_priceBy_0 : decode cX12_priceBy 0 = .ok (.aload_n 0, 1) := by decide +kernel
theorem dX12_priceBy_1 : decode cX12_priceBy 1 = .ok (.iconst 0, 1) := by decide +kernel
theorem dX12_priceBy_2 : decode cX12_priceBy 2 = .ok (.invokevirtual 172, 3) := by decide +kernel
theorem dX12_priceBy_5 : decode cX12_priceBy 5 = .ok (.istore_n 3, 1) := by decide +kernel
theorem dX12_priceBy_6 : decode cX12_priceBy 6 = .ok (.iload_n 3, 1) := by decide +kernel
theorem dX12_priceBy_7 : decode cX12_priceBy 7 = .ok (.iconst (-1), 1) := by decide +kernel
theorem dX12_priceBy_8 : decode cX12_priceBy 8 = .ok (.if_icmp .ne 5, 3) := by decide +kernel
theorem dX12_priceBy_11 : decode cX12_priceBy 11 = .ok (.iconst (-1), 1) := by decide +kernel
theorem dX12_priceBy_12 : decode cX12_priceBy 12 = .ok (.ireturn, 1) := by decide +kernel
theorem dX12_priceBy_13 : decode cX12_priceBy 13 = .ok (.aload_n 0, 1) := by decide +kernel
theorem dX12_priceBy_14 : decode cX12_priceBy 14 = .ok (.invokevirtual 293, 3) := by decide +kernel
theorem dX12_priceBy_17 : decode cX12_priceBy 17 = .ok (.aload_n 0, 1) := by decide +kernel
theorem dX12_priceBy_18 : decode cX12_priceBy 18 = .ok (.getfield 9, 3) := by decide +kernel
theorem dX12_priceBy_21 : decode cX12_priceBy 21 = .ok (.bipush 114, 2) := by decide +kernel
theorem dX12_priceBy_23 : decode cX12_priceBy 23 = .ok (.iload_n 1, 1) := by decide +kernel
theorem dX12_priceBy_24 : decode cX12_priceBy 24 = .ok (.iadd, 1) := by decide +kernel
theorem dX12_priceBy_25 : decode cX12_priceBy 25 = .ok (.iload_n 2, 1) := by decide +kernel
theorem dX12_priceBy_26 : decode cX12_priceBy 26 = .ok (.iastore, 1) := by decide +kernel
theorem dX12_priceBy_27 : decode cX12_priceBy 27 = .ok (.aload_n 0, 1) := by decide +kernel
theorem dX12_priceBy_28 : decode cX12_priceBy 28 = .ok (.bipush 114, 2) := by decide +kernel
theorem dX12_priceBy_30 : decode cX12_priceBy 30 = .ok (.invokevirtual 172, 3) := by decide +kernel
theorem dX12_priceBy_33 : decode cX12_priceBy 33 = .ok (.iload_n 3, 1) := by decide +kernel
theorem dX12_priceBy_34 : decode cX12_priceBy 34 = .ok (.isub, 1) := by decide +kernel
theorem dX12_priceBy_35 : decode cX12_priceBy 35 = .ok (.ireturn, 1) := by decide +kernel
set_option maxHeartbeats 400000 in
theorem c12_priceBy {G : Gl} {l : Launch}  {M : Mem} {c : Int → Int} {a k u : Int} (hG : GR M) (hK : RW M 0 c) (hS : SP c) (hk : (0 ≤ k ∧ k < 10) ∨ (16 ≤ k ∧ k < 22)) (ha : a = mj k) (hu : SM (upd1 c k u)) : Ct G LY 82 l 7 m12_priceBy [vR 57, vI a, vI u] M (RP (fun v M' => Fr [58, 63, 64, 65, 66, 67, 68, 69, 70, 71, 72] [(57, 22), (57, 23)] M M' ∧ TRo M M' ∧ v = if SPC (insOf c) = -1 then -1 else SPC (insOf (upd1 c k u)) - SPC (insOf c))) := by
  refine R_start (by decide +kernel) (Nat.le_of_ble_eq_true rfl) (fun C hC hRm hlau => ?_)
  show RZ G LY C (Zn G LY 82 C (RP (fun v M' => Fr [58, 63, 64, 65, 66, 67, 68, 69, 70, 71, 72] [(57, 22), (57, 23)] M M' ∧ TRo M M' ∧ v = if SPC (insOf c) = -1 then -1 else SPC (insOf (upd1 c k u)) - SPC (insOf c)))) 0 0 82 0 [some (vR 57), some (vI a), some (vI u), none] [] M
  have hM := hS.m
  have hI := hM.I
  have hL := hM.1.1
  have hW := hM.1.2
  have ba : 0 ≤ a ∧ a < 106 := by
    rw [ha]
    unfold mj
    split
    · omega
    split
    · omega
    · omega
  refine R_aload_0 hC dX12_priceBy_0 ?_
  refine R_iconst hC dX12_priceBy_1 ⟨by decide, by decide⟩ ?_
  refine R_callVp (as := [vI _]) hC dX12_priceBy_2 mo_12_spaceOf ml_12_172 (by decide) rfl rfl (c12_spaceOf  hG hK (by omega) (by omega) hM) rfl rfl hRm (by decide) (by decide) (Nat.le_of_ble_eq_true rfl) (fun v3 Mc1 hq2 => ?_)
  have hF0 : Fr [58, 63, 64, 65, 66, 67, 68, 69, 70, 71, 72] [(57, 22), (57, 23)] M Mc1 := hq2.1.mo (by simp) (by simp)
  have hT0 : TRo M Mc1 := TRo.of hq2.1 (by decide) (by decide)
  refine R_istore_3 hC dX12_priceBy_5 rfl ?_
  refine R_iload_3 hC dX12_priceBy_6 ?_
  refine R_iconst hC dX12_priceBy_7 ⟨by decide, by decide⟩ ?_
  refine R_icmp_ne hC dX12_priceBy_8 (tgt := 13) (by decide) (fun hb8 => ?_) (fun hb8 => ?_)
  · skip
    refine R_aload_0 hC dX12_priceBy_13 ?_
    have hG4 : GR Mc1 := (GR.fr hG hq2.1 (by decide +kernel))
    have hk5 : RW Mc1 0 c := (RW.fr hK hq2.1 (by decide +kernel))
    refine R_callVv (as := []) hC dX12_priceBy_14 mo_12_tries ml_12_293 (by decide) rfl rfl (c12_tries  hG4 hk5) rfl rfl hRm (by decide) (by decide) (Nat.le_of_ble_eq_true rfl) (fun Mc6 hq7 => ?_)
    have hF1 : Fr [58, 63, 64, 65, 66, 67, 68, 69, 70, 71, 72] [(57, 22), (57, 23)] M Mc6 := Fr.tt hF0 (hq7.1.mo (by simp) (by simp))
    have hT1 : TRo M Mc6 := TRo.tr hT0 (hq7.2.1)
    have hk8 : RW Mc6 114 c := (hq7.2.2.2)
    have hkt : RW Mc6 114 c := hk8
    refine R_aload_0 hC dX12_priceBy_17 ?_
    have hG9 : GR Mc6 := (GR.fr hG4 hq7.1 (by decide +kernel))
    refine R_getR hC dX12_priceBy_18 fl_12_9 (by decide) rfl (by decide) (by decide) (fi := 0) rfl (r := 58) (gr_57_0 hG9) ?_
    refine R_bipush hC dX12_priceBy_21 (by decide +kernel) ⟨by decide, by decide⟩ ?_
    refine R_iload_1 hC dX12_priceBy_23 ?_
    refine R_iadd hC dX12_priceBy_24 ⟨by omega, by omega⟩ ?_
    refine R_iload_2 hC dX12_priceBy_25 ?_
    refine R_iastore hC dX12_priceBy_26 (by decide) rfl (by omega) (by omega) ?_
    have hF3a : Fr [58, 63, 64, 65, 66, 67, 68, 69, 70, 71, 72] [(57, 22), (57, 23)] M (uM Mc6 58 (114 + a) u) := Fr.uA hF1 (by decide)
    have hT3a : TRo M (uM Mc6 58 (114 + a) u) := hT1.u (by omega) (by omega)
    refine R_aload_0 hC dX12_priceBy_27 ?_
    refine R_bipush hC dX12_priceBy_28 (by decide +kernel) ⟨by decide, by decide⟩ ?_
    have hG10 : GR (uM Mc6 58 (114 + a) u) := (GR.uA hG9 (by decide +kernel) (.inl (by decide)))
    have hk11 : RW (uM Mc6 58 (114 + a) u) 114 (upd1 c k u) := (hkt.wr (hk.elim .inl (fun z => .inr ⟨z.1, by omega⟩)) (by rw [ha]))
    refine R_callVp (as := [vI _]) hC dX12_priceBy_30 mo_12_spaceOf ml_12_172 (by decide) rfl rfl (c12_spaceOf  hG10 hk11 (by omega) (by omega) hu) rfl rfl hRm (by decide) (by decide) (Nat.le_of_ble_eq_true rfl) (fun v14 Mc12 hq13 => ?_)
    have hF3 : Fr [58, 63, 64, 65, 66, 67, 68, 69, 70, 71, 72] [(57, 22), (57, 23)] M Mc12 := Fr.tt hF3a (hq13.1.mo (by simp) (by simp))
    have hT3 : TRo M Mc12 := TRo.tr hT3a (TRo.of hq13.1 (by decide) (by decide))
    refine R_iload_3 hC dX12_priceBy_33 ?_
    have h1 := SPC_bd hI
    have h2 := SPC_bd hu.I
    have e1 := hq13.2
    have e2 := hq2.2
    refine R_isub hC dX12_priceBy_34 ⟨by omega, by omega⟩ ?_
    exact R_ireturn hC dX12_priceBy_35 rfl (ret_P ⟨hF3, hT3, by (rw [if_neg (fun z => hb8 (hq2.2.trans z)), hq13.2, hq2.2])⟩)
  · skip
    refine R_iconst hC dX12_priceBy_11 ⟨by decide, by decide⟩ ?_
    exact R_ireturn hC dX12_priceBy_12 rfl (ret_P ⟨hF0, hT0, by (rw [if_pos (hq2.2.symm.trans hb8)])⟩)
