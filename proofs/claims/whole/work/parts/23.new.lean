/-! Fits: what is new -/
def bitM (m : Int) : Int64 := Int64.ofInt ((Int64.ofInt 1 <<< ((Int32.ofInt m).toInt64 &&& 63)).toInt)
/-- a is in the set that the sixteen longs keep -/
def seenB (r : Int → Int) (a : Int) : Prop := (Int64.ofInt (r (a / 2 ^ 6)) &&& bitM (a % 2 ^ 6)).toInt ≠ 0
theorem bitM_tab : ∀ m n : Fin 64, bitM ((m : Nat) : Int) ≠ 0 ∧ (m ≠ n → bitM ((m : Nat) : Int) &&& bitM ((n : Nat) : Int) = 0) := by decide +kernel
theorem bitM_ne {m : Int} (h0 : 0 ≤ m) (h1 : m < 64) : bitM m ≠ 0 := by
  have := (bitM_tab ⟨m.toNat, by omega⟩ 0).1
  rw [show (((⟨m.toNat, by omega⟩ : Fin 64) : Nat) : Int) = m from Int.toNat_of_nonneg h0] at this
  exact this
theorem bitM_and {m n : Int} (h0 : 0 ≤ m) (h1 : m < 64) (g0 : 0 ≤ n) (g1 : n < 64) (e : m ≠ n) : bitM m &&& bitM n = 0 := by
  have := (bitM_tab ⟨m.toNat, by omega⟩ ⟨n.toNat, by omega⟩).2 (fun z => e (by have := congrArg Fin.val z; simp only at this; omega))
  rw [show (((⟨m.toNat, by omega⟩ : Fin 64) : Nat) : Int) = m from Int.toNat_of_nonneg h0, show (((⟨n.toNat, by omega⟩ : Fin 64) : Nat) : Int) = n from Int.toNat_of_nonneg g0] at this
  exact this
theorem l_or_and (x y z : Int64) : (x ||| y) &&& z = (x &&& z) ||| (y &&& z) := by
  apply Int64.toBitVec_inj.1
  simp only [Int64.toBitVec_and, Int64.toBitVec_or]
  ext i
  simp [Bool.and_or_distrib_right]
theorem l_ne {x : Int64} : x.toInt ≠ 0 ↔ x ≠ 0 :=
  ⟨fun h q => h (by rw [q]; rfl), fun h q => h (Int64.toInt_inj.mp (q.trans (by decide)))⟩
theorem seen_set {r : Int → Int} {a b : Int} : seenB (fun j => if j = a / 2 ^ 6 then (Int64.ofInt (r (a / 2 ^ 6)) ||| bitM (a % 2 ^ 6)).toInt else r j) b ↔ seenB r b ∨ b = a := by
  unfold seenB
  by_cases q : b / 2 ^ 6 = a / 2 ^ 6
  · rw [q]
    simp only [if_pos]
    rw [Int64.ofInt_toInt, l_ne, l_ne, l_or_and]
    by_cases e : b = a
    · subst e
      have hz : bitM (b % 2 ^ 6) ≠ 0 := bitM_ne (by omega) (by omega)
      have : bitM (b % 2 ^ 6) &&& bitM (b % 2 ^ 6) = bitM (b % 2 ^ 6) := Int64.and_self
      rw [this]
      exact ⟨fun _ => .inr rfl, fun _ z => hz (Int64.or_eq_zero_iff.mp z).2⟩
    · rw [bitM_and (m := a % 2 ^ 6) (n := b % 2 ^ 6) (by omega) (by omega) (by omega) (by omega) (by omega), Int64.or_zero]
      exact ⟨fun z => .inl z, fun z => z.resolve_right e⟩
  · simp only [if_neg q]
    exact ⟨fun z => .inl z, fun z => z.resolve_right (fun e => q (by rw [e]))⟩
theorem seen_none {r : Int → Int} {a : Int} (h : r (a / 2 ^ 6) = 0) : ¬ seenB r a := fun z => by
  unfold seenB at z
  rw [h, l_ne] at z
  refine z ?_
  have : Int64.ofInt 0 = 0 := rfl
  rw [this, Int64.zero_and]
section LST
variable {G : Gl} {S : Sh} {C : Cx} {Z : State → Prop} {k w n : Nat} {pc : Nat} {ls : List (Option V)} {st : List V} {M : Mem} {y : Mt}
theorem R_lstore_4z (hC : CxOK G y C) {l0 l1 l2 l3 : Option V} {l l' : Option V} {v : Int} (hd : decode y.2.1 pc = .ok (.lstore 4, 2)) (hn : noL l3 = true) (kk : RZ G S C Z k w n (pc + 2) (l0 :: l1 :: l2 :: l3 :: some (vL v) :: none :: ls) st M) : RZ G S C Z k w n pc (l0 :: l1 :: l2 :: l3 :: l :: l' :: ls) (vL v :: st) M := by
  intro H locs ar hp hs hm hl hv ha
  obtain ⟨e1, e2⟩ := lsR_put2 (i := 4) (v := vL v) ha (by simp) (fun j e => by cases e; exact ⟨_, rfl, hn⟩) rfl
  exact lv_lstore hC.1 hC.2.1 hd e1 (lsR_lt2 ha 4 rfl) rfl (fun a2 h2 => kk H locs a2 hp hs hm (okLs_set2 4 hl rfl hv.1) hv.2 (e2 a2 h2))
end LST
theorem cmp0 {x : Int} : (if x < 0 then -1 else if x = 0 then 0 else 1 : Int) = 0 ↔ x = 0 := by
  constructor
  · intro h
    split at h
    · cases h
    · split at h
      · assumption
      · cases h
  · intro h
    rw [if_neg (by omega), if_pos h]

theorem dX2_markNew_0 : decode cX2_markNew 0 = .ok (.iload_n 1, 1) := by decide +kernel
theorem dX2_markNew_1 : decode cX2_markNew 1 = .ok (.iconst 1, 1) := by decide +kernel
theorem dX2_markNew_2 : decode cX2_markNew 2 = .ok (.iadd, 1) := by decide +kernel
theorem dX2_markNew_3 : decode cX2_markNew 3 = .ok (.istore_n 2, 1) := by decide +kernel
theorem dX2_markNew_4 : decode cX2_markNew 4 = .ok (.iload_n 2, 1) := by decide +kernel
theorem dX2_markNew_5 : decode cX2_markNew 5 = .ok (.bipush 6, 2) := by decide +kernel
theorem dX2_markNew_7 : decode cX2_markNew 7 = .ok (.ishr, 1) := by decide +kernel
theorem dX2_markNew_8 : decode cX2_markNew 8 = .ok (.istore_n 3, 1) := by decide +kernel
theorem dX2_markNew_9 : decode cX2_markNew 9 = .ok (.iload_n 3, 1) := by decide +kernel
theorem dX2_markNew_10 : decode cX2_markNew 10 = .ok (.ifCond .lt 12, 3) := by decide +kernel
theorem dX2_markNew_13 : decode cX2_markNew 13 = .ok (.iload_n 3, 1) := by decide +kernel
theorem dX2_markNew_14 : decode cX2_markNew 14 = .ok (.aload_n 0, 1) := by decide +kernel
theorem dX2_markNew_15 : decode cX2_markNew 15 = .ok (.getfield 19, 3) := by decide +kernel
theorem dX2_markNew_18 : decode cX2_markNew 18 = .ok (.arraylength, 1) := by decide +kernel
theorem dX2_markNew_19 : decode cX2_markNew 19 = .ok (.if_icmp .lt 5, 3) := by decide +kernel
theorem dX2_markNew_24 : decode cX2_markNew 24 = .ok (.lconst 1, 1) := by decide +kernel
theorem dX2_markNew_25 : decode cX2_markNew 25 = .ok (.iload_n 2, 1) := by decide +kernel
theorem dX2_markNew_26 : decode cX2_markNew 26 = .ok (.bipush 63, 2) := by decide +kernel
theorem dX2_markNew_28 : decode cX2_markNew 28 = .ok (.iand, 1) := by decide +kernel
theorem dX2_markNew_29 : decode cX2_markNew 29 = .ok (.lshl, 1) := by decide +kernel
theorem dX2_markNew_30 : decode cX2_markNew 30 = .ok (.lstore 4, 2) := by decide +kernel
theorem dX2_markNew_32 : decode cX2_markNew 32 = .ok (.aload_n 0, 1) := by decide +kernel
theorem dX2_markNew_33 : decode cX2_markNew 33 = .ok (.getfield 19, 3) := by decide +kernel
theorem dX2_markNew_36 : decode cX2_markNew 36 = .ok (.iload_n 3, 1) := by decide +kernel
theorem dX2_markNew_37 : decode cX2_markNew 37 = .ok (.laload, 1) := by decide +kernel
theorem dX2_markNew_38 : decode cX2_markNew 38 = .ok (.lload 4, 2) := by decide +kernel
theorem dX2_markNew_40 : decode cX2_markNew 40 = .ok (.land, 1) := by decide +kernel
theorem dX2_markNew_41 : decode cX2_markNew 41 = .ok (.lconst 0, 1) := by decide +kernel
theorem dX2_markNew_42 : decode cX2_markNew 42 = .ok (.lcmp, 1) := by decide +kernel
theorem dX2_markNew_43 : decode cX2_markNew 43 = .ok (.ifCond .eq 5, 3) := by decide +kernel
theorem dX2_markNew_46 : decode cX2_markNew 46 = .ok (.iconst 0, 1) := by decide +kernel
theorem dX2_markNew_47 : decode cX2_markNew 47 = .ok (.ireturn, 1) := by decide +kernel
theorem dX2_markNew_48 : decode cX2_markNew 48 = .ok (.aload_n 0, 1) := by decide +kernel
theorem dX2_markNew_49 : decode cX2_markNew 49 = .ok (.getfield 19, 3) := by decide +kernel
theorem dX2_markNew_52 : decode cX2_markNew 52 = .ok (.iload_n 3, 1) := by decide +kernel
theorem dX2_markNew_53 : decode cX2_markNew 53 = .ok (.dup2, 1) := by decide +kernel
theorem dX2_markNew_54 : decode cX2_markNew 54 = .ok (.laload, 1) := by decide +kernel
theorem dX2_markNew_55 : decode cX2_markNew 55 = .ok (.lload 4, 2) := by decide +kernel
theorem dX2_markNew_57 : decode cX2_markNew 57 = .ok (.lor, 1) := by decide +kernel
theorem dX2_markNew_58 : decode cX2_markNew 58 = .ok (.lastore, 1) := by decide +kernel
theorem dX2_markNew_59 : decode cX2_markNew 59 = .ok (.iconst 1, 1) := by decide +kernel
theorem dX2_markNew_60 : decode cX2_markNew 60 = .ok (.ireturn, 1) := by decide +kernel
set_option maxHeartbeats 400000 in
theorem c2_markNew {G : Gl} {l : Launch}  {M : Mem} {v : Int} (hG : GR M) (hv0 : -1 ≤ v) (hv1 : v ≤ 1022) : Ct G LY 82 l 0 m2_markNew [vR 49, vI v] M (RP (fun f M' => Fr [51] [] M M' ∧ f = bP (¬ seenB (M 51) (v + 1)) ∧ ∀ a, seenB (M' 51) a ↔ seenB (M 51) a ∨ a = v + 1)) := by
  refine R_start (by decide +kernel) (Nat.le_of_ble_eq_true rfl) (fun C hC hRm hlau => ?_)
  show RZ G LY C (Zn G LY 82 C (RP (fun f M' => Fr [51] [] M M' ∧ f = bP (¬ seenB (M 51) (v + 1)) ∧ ∀ a, seenB (M' 51) a ↔ seenB (M 51) a ∨ a = v + 1))) 0 0 82 0 [some (vR 49), some (vI v), none, none, none, none] [] M
  have h64 : (v + 1) / 2 ^ Int.toNat 6 = (v + 1) / 64 := rfl
  refine R_iload_1 hC dX2_markNew_0 ?_
  refine R_iconst hC dX2_markNew_1 ⟨by decide, by decide⟩ ?_
  refine R_iadd hC dX2_markNew_2 ⟨by omega, by omega⟩ ?_
  refine R_istore_2 hC dX2_markNew_3 rfl ?_
  refine R_iload_2 hC dX2_markNew_4 ?_
  refine R_bipush hC dX2_markNew_5 (by decide +kernel) ⟨by decide, by decide⟩ ?_
  refine R_ishr hC dX2_markNew_7 (by omega) (by omega) ?_
  refine R_istore_3 hC dX2_markNew_8 rfl ?_
  refine R_iload_3 hC dX2_markNew_9 ?_
  refine R_if_lt hC dX2_markNew_10 (tgt := 22) (by decide) (fun hb10 => ?_) (fun hb10 => ?_)
  · skip
    omega
  · skip
    refine R_iload_3 hC dX2_markNew_13 ?_
    refine R_aload_0 hC dX2_markNew_14 ?_
    refine R_getR hC dX2_markNew_15 fl_2_19 (by decide) rfl (by decide) (by decide) (fi := 2) rfl (r := 51) (gr_49_2 hG) ?_
    refine R_alen hC dX2_markNew_18 (by decide) rfl (by decide) (by decide) (by decide) ?_
    refine R_icmp_lt hC dX2_markNew_19 (tgt := 24) (by decide) (fun hb19 => ?_) (fun hb19 => ?_)
    · skip
      refine R_lconst hC dX2_markNew_24 ?_
      refine R_iload_2 hC dX2_markNew_25 ?_
      refine R_bipush hC dX2_markNew_26 (by decide +kernel) ⟨by decide, by decide⟩ ?_
      refine R_iandm hC dX2_markNew_28 (m := 6) (by decide) (by decide) ?_
      refine R_lshl hC dX2_markNew_29 ?_
      refine R_lstore_4z hC dX2_markNew_30 rfl ?_
      refine R_aload_0 hC dX2_markNew_32 ?_
      refine R_getR hC dX2_markNew_33 fl_2_19 (by decide) rfl (by decide) (by decide) (fi := 2) rfl (r := 51) (gr_49_2 hG) ?_
      refine R_iload_3 hC dX2_markNew_36 ?_
      refine R_laload hC dX2_markNew_37 (by decide) rfl (by omega) (by omega) ?_
      refine R_lload_4 hC dX2_markNew_38 ?_
      refine R_land hC dX2_markNew_40 ?_
      refine R_lconst hC dX2_markNew_41 ?_
      refine R_lcmp hC dX2_markNew_42 ?_
      refine R_if_eq hC dX2_markNew_43 (tgt := 48) (by decide) (fun hb43 => ?_) (fun hb43 => ?_)
      · skip
        have hs : ¬ seenB (M 51) (v + 1) := fun z => z (cmp0.mp hb43)
        refine R_aload_0 hC dX2_markNew_48 ?_
        refine R_getR hC dX2_markNew_49 fl_2_19 (by decide) rfl (by decide) (by decide) (fi := 2) rfl (r := 51) (gr_49_2 hG) ?_
        refine R_iload_3 hC dX2_markNew_52 ?_
        refine R_dup2 hC dX2_markNew_53 rfl rfl ?_
        refine R_laload hC dX2_markNew_54 (by decide) rfl (by omega) (by omega) ?_
        refine R_lload_4 hC dX2_markNew_55 ?_
        refine R_lor hC dX2_markNew_57 ?_
        refine R_lastore hC dX2_markNew_58 (by decide) rfl (by omega) (by omega) ?_
        refine R_iconst hC dX2_markNew_59 ⟨by decide, by decide⟩ ?_
        exact R_ireturn hC dX2_markNew_60 rfl (ret_P ⟨Fr.uA Fr.rf (by decide), (bP_pos hs).symm, fun a => by (rw [uM_row]; exact seen_set)⟩)
      · skip
        have hs : seenB (M 51) (v + 1) := fun z => hb43 (cmp0.mpr z)
        refine R_iconst hC dX2_markNew_46 ⟨by decide, by decide⟩ ?_
        exact R_ireturn hC dX2_markNew_47 rfl (ret_P ⟨Fr.rf, (bP_neg (fun q => q hs)).symm, fun a => ⟨fun z => .inl z, fun z => z.elim id (fun e => by rw [e]; exact hs)⟩⟩)
    · skip
      omega
